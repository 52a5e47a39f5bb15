section XMe
def sup (S : Int → Int) (x v : Int) : Int → Int := fun y => if y = x then v else S y
def sm (S : Int → Int) (a : Int) : Nat → Int
  | 0 => 0
  | n + 1 => sm S a n + S (a + n)
theorem sm_sup (S : Int → Int) (x v a : Int) : ∀ n : Nat, sm (sup S x v) a n = sm S a n + if a ≤ x ∧ x < a + n then v - S x else 0
  | 0 => by
    rw [if_neg (by omega)]
    rfl
  | n + 1 => by
    have ih := sm_sup S x v a n
    simp only [sm, ih, sup]
    by_cases h : a + (n : Int) = x
    · subst h
      rw [if_neg (by omega), if_pos rfl, if_pos (by omega)]
      omega
    · rw [if_neg h]
      by_cases h2 : a ≤ x ∧ x < a + n
      · rw [if_pos h2, if_pos (by omega)]
        omega
      · rw [if_neg h2, if_neg (by omega)]
        omega
theorem sm_congr {S T : Int → Int} {a : Int} : ∀ {n : Nat}, (∀ x : Int, a ≤ x → x < a + n → S x = T x) → sm S a n = sm T a n
  | 0, _ => rfl
  | n + 1, h => by
    simp only [sm]
    rw [sm_congr (n := n) (fun x h0 h1 => h x h0 (by omega)), h (a + n) (by omega) (by omega)]
theorem sm_bd {S : Int → Int} {a b : Int} : ∀ {n : Nat}, (∀ x : Int, a ≤ x → x < a + n → 0 ≤ S x ∧ S x ≤ b) → 0 ≤ sm S a n ∧ sm S a n ≤ n * b
  | 0, _ => by simp [sm]
  | n + 1, h => by
    have h1 := sm_bd (n := n) (fun x h0 h1 => h x h0 (by omega))
    have h2 := h (a + n) (by omega) (by omega)
    have e : ((n + 1 : Nat) : Int) * b = n * b + b := by rw [Int.natCast_add, Int.add_mul]; simp
    simp only [sm]
    rw [e]
    omega
theorem sm_at {S : Int → Int} {a : Int} : ∀ {n : Nat}, (∀ x : Int, a ≤ x → x < a + n → 0 ≤ S x) → ∀ x : Int, a ≤ x → x < a + n → S x ≤ sm S a n
  | 0, _, x, h0, h1 => by omega
  | n + 1, h, x, h0, h1 => by
    have hb : 0 ≤ sm S a n := by
      have : ∀ {m : Nat}, m ≤ n → 0 ≤ sm S a m := by
        intro m
        induction m with
        | zero => intro _; simp [sm]
        | succ m ih =>
          intro hm
          have g1 := ih (by omega)
          have g2 := h (a + m) (by omega) (by omega)
          simp only [sm]
          omega
      exact this (Nat.le_refl n)
    simp only [sm]
    have h3 := h (a + n) (by omega) (by omega)
    by_cases e : x = a + n
    · subst e
      omega
    · have := sm_at (n := n) (fun x h0 h1 => h x h0 (by omega)) x h0 (by omega)
      omega
/-- a store's meals by slots; how many of a dish are the sums of them -/
def mset (M : XM) (i j : Int) (S : Int → Int) : XM := fun t' i' k' s => if t' = 11 ∧ i' = i ∧ k' = j then S s else if t' = 12 ∧ i' = i ∧ k' = j ∧ 0 ≤ s ∧ s < 3 then sm S (64 * s) 64 else M t' i' k' s
def mI (M : XM) (i j : Int) : Prop := ∀ d : Int, 0 ≤ d → d < 3 → M 12 i j d = sm (M 11 i j) (64 * d) 64
theorem mset_app (M : XM) (i j : Int) (S : Int → Int) (t' : Nat) (i' k' s : Int) : mset M i j S t' i' k' s = if t' = 11 ∧ i' = i ∧ k' = j then S s else if t' = 12 ∧ i' = i ∧ k' = j ∧ 0 ≤ s ∧ s < 3 then sm S (64 * s) 64 else M t' i' k' s := (rfl)
theorem mset_11 (M : XM) (i j : Int) (S : Int → Int) : mset M i j S 11 i j = S := by
  funext s
  simp [mset]
theorem mI_mset (M : XM) (i j : Int) (S : Int → Int) : mI (mset M i j S) i j := by
  intro d h0 h1
  rw [mset_11]
  simp [mset, h0, h1]
theorem mset_mset (M : XM) (i j : Int) (S T : Int → Int) : mset (mset M i j S) i j T = mset M i j T := by
  funext t' i' k' s
  simp only [mset]
  split
  · rfl
  · split <;> rfl
theorem mset_self {M : XM} {i j : Int} (h : mI M i j) : mset M i j (M 11 i j) = M := by
  funext t' i' k' s
  simp only [mset]
  split
  next g => rw [g.1, g.2.1, g.2.2]
  next => split
          next g =>
            obtain ⟨rfl, rfl, rfl, g1, g2⟩ := g
            exact (h s g1 g2).symm
          next => rfl
theorem mset_ne {M : XM} {i j : Int} {S : Int → Int} {t : Nat} {i' k' : Int} (h : ¬ (i' = i ∧ k' = j)) : mset M i j S t i' k' = M t i' k' := by
  funext s
  simp only [mset]
  rw [if_neg (fun z => h z.2), if_neg (fun z => h ⟨z.2.1, z.2.2.1⟩)]
theorem mI_ne {M : XM} {i j : Int} {S : Int → Int} {i' k' : Int} (h : ¬ (i' = i ∧ k' = j)) (hm : mI M i' k') : mI (mset M i j S) i' k' := by
  intro d h0 h1
  rw [mset_ne h, mset_ne h]
  exact hm d h0 h1
theorem mset_comm {M : XM} {i j i2 j2 : Int} {S T : Int → Int} (h : ¬ (i2 = i ∧ j2 = j)) : mset (mset M i j S) i2 j2 T = mset (mset M i2 j2 T) i j S := by
  funext t' i' k' s
  simp only [mset]
  by_cases g : i' = i ∧ k' = j
  · obtain ⟨rfl, rfl⟩ := g
    have e : (i' = i2 ∧ k' = j2) = False := by simp only [eq_iff_iff, iff_false]; exact fun z => h ⟨z.1.symm, z.2.symm⟩
    have e2 : ∀ p : Prop, (i' = i2 ∧ k' = j2 ∧ p) = False := fun p => by simp only [eq_iff_iff, iff_false]; exact fun z => h ⟨z.1.symm, z.2.1.symm⟩
    simp only [e, e2, and_false, if_false]
  · have e : (i' = i ∧ k' = j) = False := by simp only [eq_iff_iff, iff_false]; exact g
    have e2 : ∀ p : Prop, (i' = i ∧ k' = j ∧ p) = False := fun p => by simp only [eq_iff_iff, iff_false]; exact fun z => g ⟨z.1, z.2.1⟩
    simp only [e, e2, and_false, if_false]
theorem xrow_m {t : Nat} {i k : Int} (h : t < 30) (h0 : 0 < xlen t) (hv : xval t i k) : xrow t i k := Or.inr ⟨h, h0, hv⟩
def mS (d m : Int) : Int := d * 64 + m % 64
theorem mS_in {d m : Int} (h0 : 0 ≤ d) (h1 : d ≤ 2) : 0 ≤ mS d m ∧ mS d m < 192 := by unfold mS; omega
def mV (M : XM) (i j d m a : Int) : Int := min a (M 11 i j (mS d m))
def mTake (M : XM) (i j d m a : Int) : XM := mset M i j (sup (M 11 i j) (mS d m) (M 11 i j (mS d m) - mV M i j d m a))
def mPut (M : XM) (i j d m n : Int) : XM := mset M i j (sup (M 11 i j) (mS d m) (M 11 i j (mS d m) + n))
def mAll (M : XM) (i j : Int) : Int := M 12 i j 0 + M 12 i j 1 + M 12 i j 2
theorem m_add {M : XM} {i j d m v : Int} (hI : mI M i j) (h0 : 0 ≤ d) (h1 : d ≤ 2) : xup (xup M 11 i j (mS d m) (M 11 i j (mS d m) + v)) 12 i j d (M 12 i j d + v) = mset M i j (sup (M 11 i j) (mS d m) (M 11 i j (mS d m) + v)) := by
  funext t' i' k' s
  simp only [mset, xup]
  by_cases g : i' = i ∧ k' = j
  · obtain ⟨rfl, rfl⟩ := g
    simp only [true_and]
    by_cases g11 : t' = 11
    · subst g11
      simp only [Nat.reduceEqDiff, false_and, if_false, true_and, if_true, sup]
    · simp only [g11, false_and, if_false]
      by_cases g12 : t' = 12
      · subst g12
        simp only [true_and]
        by_cases gs : 0 ≤ s ∧ s < 3
        · rw [if_pos gs, sm_sup, ← hI s gs.1 gs.2]
          unfold mS
          by_cases e : s = d
          · subst e
            rw [if_pos rfl, if_pos (by omega)]
            omega
          · rw [if_neg e, if_neg (by omega)]
            omega
        · rw [if_neg gs, if_neg (by omega)]
      · simp only [g12, false_and, if_false]
  · have e : (i' = i ∧ k' = j) = False := by simp only [eq_iff_iff, iff_false]; exact g
    have e2 : ∀ p : Prop, (i' = i ∧ k' = j ∧ p) = False := fun p => by simp only [eq_iff_iff, iff_false]; exact fun z => g ⟨z.1, z.2.1⟩
    simp only [e, e2, and_false, if_false]
/-- UnitKitchens$Meals.slot(II)I -/
abbrev wX3_slot : List Cond := Cond.code yX3_slot cX3_slot 2 (some .int) :: xT
abbrev rX3_slot : Room := { frames := 0, cells := 0, slots := 0, locals := 0 }
def pX3_slot (Post : XPo) : List (Nat × XStp) := [(0, j_ild 0 1), (1, j_c 64 2), (3, j_mul), (4, j_ild 1 1), (5, j_c 63 2), (7, j_and 64), (8, j_add), (9, j_iret Post)]
set_option maxRecDepth 100000 in
theorem aX3_slot (Post : XPo) : XAll rX3_slot cX3_slot 2 RX3 wX3_slot (some .int) Post (pX3_slot Post) := XAll.cons (xs_iload_n dX3_slot_0 rfl) (XAll.cons (xs_bipush dX3_slot_1 rfl) (XAll.cons (xs_imul dX3_slot_3) (XAll.cons (xs_iload_n dX3_slot_4 rfl) (XAll.cons (xs_bipush dX3_slot_5 rfl) (XAll.cons (xs_iand 6 (by decide) (by decide) dX3_slot_7) (XAll.cons (xs_iadd dX3_slot_8) (XAll.cons (xs_iret rfl dX3_slot_9) (XAll.nil))))))))
theorem fX3_slot_0 (Post : XPo) (cut : List Nat) (WW : XK) (n : Nat) (L : XLs) (st : List XV) (M : XM) : xru (xlk (pX3_slot Post)) cut WW (n + 1) 0 L st M = j_ild 0 1 0 L st M (xkk (xlk (pX3_slot Post)) cut WW n) := (rfl)
theorem fX3_slot_1 (Post : XPo) (cut : List Nat) (WW : XK) (n : Nat) (L : XLs) (st : List XV) (M : XM) : xru (xlk (pX3_slot Post)) cut WW (n + 1) 1 L st M = j_c 64 2 1 L st M (xkk (xlk (pX3_slot Post)) cut WW n) := (rfl)
theorem fX3_slot_3 (Post : XPo) (cut : List Nat) (WW : XK) (n : Nat) (L : XLs) (st : List XV) (M : XM) : xru (xlk (pX3_slot Post)) cut WW (n + 1) 3 L st M = j_mul 3 L st M (xkk (xlk (pX3_slot Post)) cut WW n) := (rfl)
theorem fX3_slot_4 (Post : XPo) (cut : List Nat) (WW : XK) (n : Nat) (L : XLs) (st : List XV) (M : XM) : xru (xlk (pX3_slot Post)) cut WW (n + 1) 4 L st M = j_ild 1 1 4 L st M (xkk (xlk (pX3_slot Post)) cut WW n) := (rfl)
theorem fX3_slot_5 (Post : XPo) (cut : List Nat) (WW : XK) (n : Nat) (L : XLs) (st : List XV) (M : XM) : xru (xlk (pX3_slot Post)) cut WW (n + 1) 5 L st M = j_c 63 2 5 L st M (xkk (xlk (pX3_slot Post)) cut WW n) := (rfl)
theorem fX3_slot_7 (Post : XPo) (cut : List Nat) (WW : XK) (n : Nat) (L : XLs) (st : List XV) (M : XM) : xru (xlk (pX3_slot Post)) cut WW (n + 1) 7 L st M = j_and 64 7 L st M (xkk (xlk (pX3_slot Post)) cut WW n) := (rfl)
theorem fX3_slot_8 (Post : XPo) (cut : List Nat) (WW : XK) (n : Nat) (L : XLs) (st : List XV) (M : XM) : xru (xlk (pX3_slot Post)) cut WW (n + 1) 8 L st M = j_add 8 L st M (xkk (xlk (pX3_slot Post)) cut WW n) := (rfl)
theorem fX3_slot_9 (Post : XPo) (cut : List Nat) (WW : XK) (n : Nat) (L : XLs) (st : List XV) (M : XM) : xru (xlk (pX3_slot Post)) cut WW (n + 1) 9 L st M = j_iret Post 9 L st M (xkk (xlk (pX3_slot Post)) cut WW n) := (rfl)
def sX3_slot : XSp := xt2 (fun d m M Q => Q [xI (mS d m)] M)
set_option maxRecDepth 100000 in
theorem kX3_slot : XCn yX3_slot wX3_slot rX3_slot sX3_slot := XT2 pX3_slot rfl rfl aX3_slot (by decide) (fun d m M Post h WW hC => by
  show WW 0 [some (xI d), some (xI m)] [] M
  refine xru_ok hC [] 20 _ _ _ _ ?_
  simp only [xkk_ap, Int.reduceEq, Int.reduceLT, Int.reduceLE, Int.reduceNeg, Int.reduceAdd, Int.reduceSub, Int.reduceMul, and_self, false_and, and_false, not_true_eq_false, not_false_eq_true, true_implies, false_implies, xq0, xq1, xq2, xq3, xq4, xq5, xqR, xq1R, xq3R, xt1, xt2, xt3, List.mem_cons, List.not_mem_nil, or_false, false_or, or_self, if_false, if_true, reduceIte, reduceCtorEq, xent, xen, List.length_cons, List.length_nil, List.replicate, j_c, j_cJ, j_ild, j_ald, j_lld, j_ist, j_ast, j_lst, j_inc, j_add, j_sub, j_mul, j_neg, j_div, j_rem, j_and, j_shr, j_shl1, j_or, j_ladd, j_lsub, j_lmul, j_i2l, j_lcmp, j_i2c, j_dup, j_dup2, j_pop, j_goto, j_ieq, j_ine, j_ilt, j_ige, j_igt, j_ile, j_eq, j_ne, j_lt, j_ge, j_gt, j_le, xsw, j_tsw, j_gI, j_gJ, j_gR, j_pI, j_pJ, j_gs, j_iald, j_iast, j_cald, j_cast, j_aald, j_cpy, j_min, j_max, j_abs, j_iret, j_zret, j_lret, j_dret, j_ret0, j_V0, j_V1, j_V2, j_V3, j_V4, j_V5, j_S1, j_S2, j_S3, xget, xset, xset2, xclr, xc1, xcat, Nat.reduceAdd, Nat.reduceEqDiff, Nat.reduceLT, Nat.reduceLeDiff, Nat.reduceMul, List.cons_append, List.nil_append, true_and, and_true, List.singleton_append, fX3_slot_0, fX3_slot_1, fX3_slot_3, fX3_slot_4, fX3_slot_5, fX3_slot_7, fX3_slot_8, fX3_slot_9]
  exact h)
/-- UnitKitchens$Meals.inAll()I -/
abbrev wX3_inAll : List Cond := Cond.code yX3_inAll cX3_inAll 1 (some .int) :: xT
abbrev rX3_inAll : Room := { frames := 0, cells := 0, slots := 0, locals := 0 }
def pX3_inAll (Post : XPo) : List (Nat × XStp) := [(0, j_ald 0 1), (1, j_gR 10 (fun i k => (12, i, k))), (4, j_c 0 1), (5, j_iald), (6, j_ald 0 1), (7, j_gR 10 (fun i k => (12, i, k))), (10, j_c 1 1), (11, j_iald), (12, j_add), (13, j_ald 0 1), (14, j_gR 10 (fun i k => (12, i, k))), (17, j_c 2 1), (18, j_iald), (19, j_add), (20, j_iret Post)]
set_option maxRecDepth 100000 in
theorem aX3_inAll (Post : XPo) : XAll rX3_inAll cX3_inAll 1 RX3 wX3_inAll (some .int) Post (pX3_inAll Post) := XAll.cons (xs_aload_n dX3_inAll_0 rfl) (XAll.cons (fgX3_1 tw_58 dX3_inAll_1) (XAll.cons (xs_iconst dX3_inAll_4) (XAll.cons (xs_iald dX3_inAll_5) (XAll.cons (xs_aload_n dX3_inAll_6 rfl) (XAll.cons (fgX3_1 tw_58 dX3_inAll_7) (XAll.cons (xs_iconst dX3_inAll_10) (XAll.cons (xs_iald dX3_inAll_11) (XAll.cons (xs_iadd dX3_inAll_12) (XAll.cons (xs_aload_n dX3_inAll_13 rfl) (XAll.cons (fgX3_1 tw_58 dX3_inAll_14) (XAll.cons (xs_iconst dX3_inAll_17) (XAll.cons (xs_iald dX3_inAll_18) (XAll.cons (xs_iadd dX3_inAll_19) (XAll.cons (xs_iret rfl dX3_inAll_20) (XAll.nil)))))))))))))))
theorem fX3_inAll_0 (Post : XPo) (cut : List Nat) (WW : XK) (n : Nat) (L : XLs) (st : List XV) (M : XM) : xru (xlk (pX3_inAll Post)) cut WW (n + 1) 0 L st M = j_ald 0 1 0 L st M (xkk (xlk (pX3_inAll Post)) cut WW n) := (rfl)
theorem fX3_inAll_1 (Post : XPo) (cut : List Nat) (WW : XK) (n : Nat) (L : XLs) (st : List XV) (M : XM) : xru (xlk (pX3_inAll Post)) cut WW (n + 1) 1 L st M = j_gR 10 (fun i k => (12, i, k)) 1 L st M (xkk (xlk (pX3_inAll Post)) cut WW n) := (rfl)
theorem fX3_inAll_4 (Post : XPo) (cut : List Nat) (WW : XK) (n : Nat) (L : XLs) (st : List XV) (M : XM) : xru (xlk (pX3_inAll Post)) cut WW (n + 1) 4 L st M = j_c 0 1 4 L st M (xkk (xlk (pX3_inAll Post)) cut WW n) := (rfl)
theorem fX3_inAll_5 (Post : XPo) (cut : List Nat) (WW : XK) (n : Nat) (L : XLs) (st : List XV) (M : XM) : xru (xlk (pX3_inAll Post)) cut WW (n + 1) 5 L st M = j_iald 5 L st M (xkk (xlk (pX3_inAll Post)) cut WW n) := (rfl)
theorem fX3_inAll_6 (Post : XPo) (cut : List Nat) (WW : XK) (n : Nat) (L : XLs) (st : List XV) (M : XM) : xru (xlk (pX3_inAll Post)) cut WW (n + 1) 6 L st M = j_ald 0 1 6 L st M (xkk (xlk (pX3_inAll Post)) cut WW n) := (rfl)
theorem fX3_inAll_7 (Post : XPo) (cut : List Nat) (WW : XK) (n : Nat) (L : XLs) (st : List XV) (M : XM) : xru (xlk (pX3_inAll Post)) cut WW (n + 1) 7 L st M = j_gR 10 (fun i k => (12, i, k)) 7 L st M (xkk (xlk (pX3_inAll Post)) cut WW n) := (rfl)
theorem fX3_inAll_10 (Post : XPo) (cut : List Nat) (WW : XK) (n : Nat) (L : XLs) (st : List XV) (M : XM) : xru (xlk (pX3_inAll Post)) cut WW (n + 1) 10 L st M = j_c 1 1 10 L st M (xkk (xlk (pX3_inAll Post)) cut WW n) := (rfl)
theorem fX3_inAll_11 (Post : XPo) (cut : List Nat) (WW : XK) (n : Nat) (L : XLs) (st : List XV) (M : XM) : xru (xlk (pX3_inAll Post)) cut WW (n + 1) 11 L st M = j_iald 11 L st M (xkk (xlk (pX3_inAll Post)) cut WW n) := (rfl)
theorem fX3_inAll_12 (Post : XPo) (cut : List Nat) (WW : XK) (n : Nat) (L : XLs) (st : List XV) (M : XM) : xru (xlk (pX3_inAll Post)) cut WW (n + 1) 12 L st M = j_add 12 L st M (xkk (xlk (pX3_inAll Post)) cut WW n) := (rfl)
theorem fX3_inAll_13 (Post : XPo) (cut : List Nat) (WW : XK) (n : Nat) (L : XLs) (st : List XV) (M : XM) : xru (xlk (pX3_inAll Post)) cut WW (n + 1) 13 L st M = j_ald 0 1 13 L st M (xkk (xlk (pX3_inAll Post)) cut WW n) := (rfl)
theorem fX3_inAll_14 (Post : XPo) (cut : List Nat) (WW : XK) (n : Nat) (L : XLs) (st : List XV) (M : XM) : xru (xlk (pX3_inAll Post)) cut WW (n + 1) 14 L st M = j_gR 10 (fun i k => (12, i, k)) 14 L st M (xkk (xlk (pX3_inAll Post)) cut WW n) := (rfl)
theorem fX3_inAll_17 (Post : XPo) (cut : List Nat) (WW : XK) (n : Nat) (L : XLs) (st : List XV) (M : XM) : xru (xlk (pX3_inAll Post)) cut WW (n + 1) 17 L st M = j_c 2 1 17 L st M (xkk (xlk (pX3_inAll Post)) cut WW n) := (rfl)
theorem fX3_inAll_18 (Post : XPo) (cut : List Nat) (WW : XK) (n : Nat) (L : XLs) (st : List XV) (M : XM) : xru (xlk (pX3_inAll Post)) cut WW (n + 1) 18 L st M = j_iald 18 L st M (xkk (xlk (pX3_inAll Post)) cut WW n) := (rfl)
theorem fX3_inAll_19 (Post : XPo) (cut : List Nat) (WW : XK) (n : Nat) (L : XLs) (st : List XV) (M : XM) : xru (xlk (pX3_inAll Post)) cut WW (n + 1) 19 L st M = j_add 19 L st M (xkk (xlk (pX3_inAll Post)) cut WW n) := (rfl)
theorem fX3_inAll_20 (Post : XPo) (cut : List Nat) (WW : XK) (n : Nat) (L : XLs) (st : List XV) (M : XM) : xru (xlk (pX3_inAll Post)) cut WW (n + 1) 20 L st M = j_iret Post 20 L st M (xkk (xlk (pX3_inAll Post)) cut WW n) := (rfl)
def sX3_inAll : XSp := xq0 10 (fun i j M Q => Q [xI (mAll M i j)] M)
set_option maxRecDepth 100000 in
theorem kX3_inAll : XCn yX3_inAll wX3_inAll rX3_inAll sX3_inAll := XC0 pX3_inAll rfl rfl aX3_inAll (by decide) (fun i j M Post hv h WW hC => by
  have hv2 : xrow 12 i j := xrow_m (by decide) (by decide) hv
  show WW 0 [some (xR 10 i j)] [] M
  refine xru_ok hC [] 40 _ _ _ _ ?_
  simp only [xkk_ap, Int.reduceEq, Int.reduceLT, Int.reduceLE, Int.reduceNeg, Int.reduceAdd, Int.reduceSub, Int.reduceMul, and_self, false_and, and_false, not_true_eq_false, not_false_eq_true, true_implies, false_implies, xq0, xq1, xq2, xq3, xq4, xq5, xqR, xq1R, xq3R, xt1, xt2, xt3, List.mem_cons, List.not_mem_nil, or_false, false_or, or_self, if_false, if_true, reduceIte, reduceCtorEq, xent, xen, List.length_cons, List.length_nil, List.replicate, j_c, j_cJ, j_ild, j_ald, j_lld, j_ist, j_ast, j_lst, j_inc, j_add, j_sub, j_mul, j_neg, j_div, j_rem, j_and, j_shr, j_shl1, j_or, j_ladd, j_lsub, j_lmul, j_i2l, j_lcmp, j_i2c, j_dup, j_dup2, j_pop, j_goto, j_ieq, j_ine, j_ilt, j_ige, j_igt, j_ile, j_eq, j_ne, j_lt, j_ge, j_gt, j_le, xsw, j_tsw, j_gI, j_gJ, j_gR, j_pI, j_pJ, j_gs, j_iald, j_iast, j_cald, j_cast, j_aald, j_cpy, j_min, j_max, j_abs, j_iret, j_zret, j_lret, j_dret, j_ret0, j_V0, j_V1, j_V2, j_V3, j_V4, j_V5, j_S1, j_S2, j_S3, xget, xset, xset2, xclr, xc1, xcat, Nat.reduceAdd, Nat.reduceEqDiff, Nat.reduceLT, Nat.reduceLeDiff, Nat.reduceMul, List.cons_append, List.nil_append, true_and, and_true, List.singleton_append, fX3_inAll_0, fX3_inAll_1, fX3_inAll_4, fX3_inAll_5, fX3_inAll_6, fX3_inAll_7, fX3_inAll_10, fX3_inAll_11, fX3_inAll_12, fX3_inAll_13, fX3_inAll_14, fX3_inAll_17, fX3_inAll_18, fX3_inAll_19, fX3_inAll_20, hv, hv2, xlen, xrd]
  exact h)
/-- UnitKitchens$Meals.ofKind(Z)I -/
abbrev wX3_ofKind : List Cond := Cond.code yX3_ofKind cX3_ofKind 2 (some .int) :: xT
abbrev rX3_ofKind : Room := { frames := 1, cells := 0, slots := 0, locals := 20 }
def pX3_ofKind (Post : XPo) : List (Nat × XStp) := [(0, j_ild 1 1), (1, j_eq 13), (4, j_ald 0 1), (5, j_gR 10 (fun i k => (12, i, k))), (8, j_c 1 1), (9, j_iald), (10, j_goto 24), (13, j_ald 0 1), (14, j_V0 10 sX3_inAll), (17, j_ald 0 1), (18, j_gR 10 (fun i k => (12, i, k))), (21, j_c 1 1), (22, j_iald), (23, j_sub), (24, j_iret Post)]
set_option maxRecDepth 100000 in
theorem aX3_ofKind (Post : XPo) : XAll rX3_ofKind cX3_ofKind 2 RX3 wX3_ofKind (some .int) Post (pX3_ofKind Post) := XAll.cons (xs_iload_n dX3_ofKind_0 rfl) (XAll.cons (xs_if_eq dX3_ofKind_1 (by decide)) (XAll.cons (xs_aload_n dX3_ofKind_4 rfl) (XAll.cons (fgX3_1 tw_58 dX3_ofKind_5) (XAll.cons (xs_iconst dX3_ofKind_8) (XAll.cons (xs_iald dX3_ofKind_9) (XAll.cons (xs_goto dX3_ofKind_10 (by decide)) (XAll.cons (xs_aload_n dX3_ofKind_13 rfl) (XAll.cons (xs_V0 kX3_inAll ⟨⟨rfl, rfl, by decide, by decide⟩, ⟨by decide, by decide, by decide +kernel⟩, ⟨tw_503, tw_504, tw_505, tw_4, tw_506⟩, 3, TX3, _, rfl, fun G ρ f i k => ⟨_, rfl⟩⟩ dX3_ofKind_14) (XAll.cons (xs_aload_n dX3_ofKind_17 rfl) (XAll.cons (fgX3_1 tw_58 dX3_ofKind_18) (XAll.cons (xs_iconst dX3_ofKind_21) (XAll.cons (xs_iald dX3_ofKind_22) (XAll.cons (xs_isub dX3_ofKind_23) (XAll.cons (xs_iret rfl dX3_ofKind_24) (XAll.nil)))))))))))))))
theorem fX3_ofKind_0 (Post : XPo) (cut : List Nat) (WW : XK) (n : Nat) (L : XLs) (st : List XV) (M : XM) : xru (xlk (pX3_ofKind Post)) cut WW (n + 1) 0 L st M = j_ild 1 1 0 L st M (xkk (xlk (pX3_ofKind Post)) cut WW n) := (rfl)
theorem fX3_ofKind_1 (Post : XPo) (cut : List Nat) (WW : XK) (n : Nat) (L : XLs) (st : List XV) (M : XM) : xru (xlk (pX3_ofKind Post)) cut WW (n + 1) 1 L st M = j_eq 13 1 L st M (xkk (xlk (pX3_ofKind Post)) cut WW n) := (rfl)
theorem fX3_ofKind_4 (Post : XPo) (cut : List Nat) (WW : XK) (n : Nat) (L : XLs) (st : List XV) (M : XM) : xru (xlk (pX3_ofKind Post)) cut WW (n + 1) 4 L st M = j_ald 0 1 4 L st M (xkk (xlk (pX3_ofKind Post)) cut WW n) := (rfl)
theorem fX3_ofKind_5 (Post : XPo) (cut : List Nat) (WW : XK) (n : Nat) (L : XLs) (st : List XV) (M : XM) : xru (xlk (pX3_ofKind Post)) cut WW (n + 1) 5 L st M = j_gR 10 (fun i k => (12, i, k)) 5 L st M (xkk (xlk (pX3_ofKind Post)) cut WW n) := (rfl)
theorem fX3_ofKind_8 (Post : XPo) (cut : List Nat) (WW : XK) (n : Nat) (L : XLs) (st : List XV) (M : XM) : xru (xlk (pX3_ofKind Post)) cut WW (n + 1) 8 L st M = j_c 1 1 8 L st M (xkk (xlk (pX3_ofKind Post)) cut WW n) := (rfl)
theorem fX3_ofKind_9 (Post : XPo) (cut : List Nat) (WW : XK) (n : Nat) (L : XLs) (st : List XV) (M : XM) : xru (xlk (pX3_ofKind Post)) cut WW (n + 1) 9 L st M = j_iald 9 L st M (xkk (xlk (pX3_ofKind Post)) cut WW n) := (rfl)
theorem fX3_ofKind_10 (Post : XPo) (cut : List Nat) (WW : XK) (n : Nat) (L : XLs) (st : List XV) (M : XM) : xru (xlk (pX3_ofKind Post)) cut WW (n + 1) 10 L st M = j_goto 24 10 L st M (xkk (xlk (pX3_ofKind Post)) cut WW n) := (rfl)
theorem fX3_ofKind_13 (Post : XPo) (cut : List Nat) (WW : XK) (n : Nat) (L : XLs) (st : List XV) (M : XM) : xru (xlk (pX3_ofKind Post)) cut WW (n + 1) 13 L st M = j_ald 0 1 13 L st M (xkk (xlk (pX3_ofKind Post)) cut WW n) := (rfl)
theorem fX3_ofKind_14 (Post : XPo) (cut : List Nat) (WW : XK) (n : Nat) (L : XLs) (st : List XV) (M : XM) : xru (xlk (pX3_ofKind Post)) cut WW (n + 1) 14 L st M = j_V0 10 sX3_inAll 14 L st M (xkk (xlk (pX3_ofKind Post)) cut WW n) := (rfl)
theorem fX3_ofKind_17 (Post : XPo) (cut : List Nat) (WW : XK) (n : Nat) (L : XLs) (st : List XV) (M : XM) : xru (xlk (pX3_ofKind Post)) cut WW (n + 1) 17 L st M = j_ald 0 1 17 L st M (xkk (xlk (pX3_ofKind Post)) cut WW n) := (rfl)
theorem fX3_ofKind_18 (Post : XPo) (cut : List Nat) (WW : XK) (n : Nat) (L : XLs) (st : List XV) (M : XM) : xru (xlk (pX3_ofKind Post)) cut WW (n + 1) 18 L st M = j_gR 10 (fun i k => (12, i, k)) 18 L st M (xkk (xlk (pX3_ofKind Post)) cut WW n) := (rfl)
theorem fX3_ofKind_21 (Post : XPo) (cut : List Nat) (WW : XK) (n : Nat) (L : XLs) (st : List XV) (M : XM) : xru (xlk (pX3_ofKind Post)) cut WW (n + 1) 21 L st M = j_c 1 1 21 L st M (xkk (xlk (pX3_ofKind Post)) cut WW n) := (rfl)
theorem fX3_ofKind_22 (Post : XPo) (cut : List Nat) (WW : XK) (n : Nat) (L : XLs) (st : List XV) (M : XM) : xru (xlk (pX3_ofKind Post)) cut WW (n + 1) 22 L st M = j_iald 22 L st M (xkk (xlk (pX3_ofKind Post)) cut WW n) := (rfl)
theorem fX3_ofKind_23 (Post : XPo) (cut : List Nat) (WW : XK) (n : Nat) (L : XLs) (st : List XV) (M : XM) : xru (xlk (pX3_ofKind Post)) cut WW (n + 1) 23 L st M = j_sub 23 L st M (xkk (xlk (pX3_ofKind Post)) cut WW n) := (rfl)
theorem fX3_ofKind_24 (Post : XPo) (cut : List Nat) (WW : XK) (n : Nat) (L : XLs) (st : List XV) (M : XM) : xru (xlk (pX3_ofKind Post)) cut WW (n + 1) 24 L st M = j_iret Post 24 L st M (xkk (xlk (pX3_ofKind Post)) cut WW n) := (rfl)
def mKind (M : XM) (i j meat : Int) : Int := if meat = 0 then mAll M i j - M 12 i j 1 else M 12 i j 1
def sX3_ofKind : XSp := xq1 10 (fun i j meat M Q => (meat = 0 ∨ meat = 1) ∧ Q [xI (mKind M i j meat)] M)
set_option maxRecDepth 100000 in
theorem kX3_ofKind : XCn yX3_ofKind wX3_ofKind rX3_ofKind sX3_ofKind := XC1 pX3_ofKind rfl rfl aX3_ofKind (by decide) (fun i j meat M Post hv h WW hC => by
  have hv2 : xrow 12 i j := xrow_m (by decide) (by decide) hv
  obtain ⟨h1, h⟩ := h
  show WW 0 [some (xR 10 i j), some (xI meat)] [] M
  rcases h1 with rfl | rfl
  · refine xru_ok hC [] 40 _ _ _ _ ?_
    simp only [xkk_ap, Int.reduceEq, Int.reduceLT, Int.reduceLE, Int.reduceNeg, Int.reduceAdd, Int.reduceSub, Int.reduceMul, and_self, false_and, and_false, not_true_eq_false, not_false_eq_true, true_implies, false_implies, xq0, xq1, xq2, xq3, xq4, xq5, xqR, xq1R, xq3R, xt1, xt2, xt3, List.mem_cons, List.not_mem_nil, or_false, false_or, or_self, if_false, if_true, reduceIte, reduceCtorEq, xent, xen, List.length_cons, List.length_nil, List.replicate, j_c, j_cJ, j_ild, j_ald, j_lld, j_ist, j_ast, j_lst, j_inc, j_add, j_sub, j_mul, j_neg, j_div, j_rem, j_and, j_shr, j_shl1, j_or, j_ladd, j_lsub, j_lmul, j_i2l, j_lcmp, j_i2c, j_dup, j_dup2, j_pop, j_goto, j_ieq, j_ine, j_ilt, j_ige, j_igt, j_ile, j_eq, j_ne, j_lt, j_ge, j_gt, j_le, xsw, j_tsw, j_gI, j_gJ, j_gR, j_pI, j_pJ, j_gs, j_iald, j_iast, j_cald, j_cast, j_aald, j_cpy, j_min, j_max, j_abs, j_iret, j_zret, j_lret, j_dret, j_ret0, j_V0, j_V1, j_V2, j_V3, j_V4, j_V5, j_S1, j_S2, j_S3, xget, xset, xset2, xclr, xc1, xcat, Nat.reduceAdd, Nat.reduceEqDiff, Nat.reduceLT, Nat.reduceLeDiff, Nat.reduceMul, List.cons_append, List.nil_append, true_and, and_true, List.singleton_append, fX3_ofKind_0, fX3_ofKind_1, fX3_ofKind_4, fX3_ofKind_5, fX3_ofKind_8, fX3_ofKind_9, fX3_ofKind_10, fX3_ofKind_13, fX3_ofKind_14, fX3_ofKind_17, fX3_ofKind_18, fX3_ofKind_21, fX3_ofKind_22, fX3_ofKind_23, fX3_ofKind_24, sX3_inAll, hv, hv2, xlen, xrd]
    exact ⟨xr_c rfl, h⟩
  · refine xru_ok hC [] 40 _ _ _ _ ?_
    simp only [xkk_ap, Int.reduceEq, Int.reduceLT, Int.reduceLE, Int.reduceNeg, Int.reduceAdd, Int.reduceSub, Int.reduceMul, and_self, false_and, and_false, not_true_eq_false, not_false_eq_true, true_implies, false_implies, xq0, xq1, xq2, xq3, xq4, xq5, xqR, xq1R, xq3R, xt1, xt2, xt3, List.mem_cons, List.not_mem_nil, or_false, false_or, or_self, if_false, if_true, reduceIte, reduceCtorEq, xent, xen, List.length_cons, List.length_nil, List.replicate, j_c, j_cJ, j_ild, j_ald, j_lld, j_ist, j_ast, j_lst, j_inc, j_add, j_sub, j_mul, j_neg, j_div, j_rem, j_and, j_shr, j_shl1, j_or, j_ladd, j_lsub, j_lmul, j_i2l, j_lcmp, j_i2c, j_dup, j_dup2, j_pop, j_goto, j_ieq, j_ine, j_ilt, j_ige, j_igt, j_ile, j_eq, j_ne, j_lt, j_ge, j_gt, j_le, xsw, j_tsw, j_gI, j_gJ, j_gR, j_pI, j_pJ, j_gs, j_iald, j_iast, j_cald, j_cast, j_aald, j_cpy, j_min, j_max, j_abs, j_iret, j_zret, j_lret, j_dret, j_ret0, j_V0, j_V1, j_V2, j_V3, j_V4, j_V5, j_S1, j_S2, j_S3, xget, xset, xset2, xclr, xc1, xcat, Nat.reduceAdd, Nat.reduceEqDiff, Nat.reduceLT, Nat.reduceLeDiff, Nat.reduceMul, List.cons_append, List.nil_append, true_and, and_true, List.singleton_append, fX3_ofKind_0, fX3_ofKind_1, fX3_ofKind_4, fX3_ofKind_5, fX3_ofKind_8, fX3_ofKind_9, fX3_ofKind_10, fX3_ofKind_13, fX3_ofKind_14, fX3_ofKind_17, fX3_ofKind_18, fX3_ofKind_21, fX3_ofKind_22, fX3_ofKind_23, fX3_ofKind_24, sX3_inAll, hv, hv2, xlen, xrd]
    exact ⟨xr_c rfl, h⟩)
def mEaten (M : XM) (i j u : Int) : Int := if M 14 i u 3 < M 14 i u 2 then mAll M i j else mAll M i j - M 12 i j 1
/-- UnitKitchens$Meals.put(III)V -/
abbrev wX3_put : List Cond := Cond.code yX3_put cX3_put 4 none :: xT
abbrev rX3_put : Room := { frames := 1, cells := 0, slots := 0, locals := 21 }
def pX3_put (Post : XPo) : List (Nat × XStp) := [(0, j_ild 1 1), (1, j_lt 33), (4, j_ild 1 1), (5, j_c 3 1), (6, j_ige 33), (9, j_ald 0 1), (10, j_gR 10 (fun i k => (11, i, k))), (13, j_ild 1 1), (14, j_ild 2 1), (15, j_S2 sX3_slot), (18, j_dup2), (19, j_iald), (20, j_ild 3 1), (21, j_add), (22, j_iast), (23, j_ald 0 1), (24, j_gR 10 (fun i k => (12, i, k))), (27, j_ild 1 1), (28, j_dup2), (29, j_iald), (30, j_ild 3 1), (31, j_add), (32, j_iast), (33, j_ret0 Post)]
set_option maxRecDepth 100000 in
theorem aX3_put (Post : XPo) : XAll rX3_put cX3_put 4 RX3 wX3_put none Post (pX3_put Post) := XAll.cons (xs_iload_n dX3_put_0 rfl) (XAll.cons (xs_if_lt dX3_put_1 (by decide)) (XAll.cons (xs_iload_n dX3_put_4 rfl) (XAll.cons (xs_iconst dX3_put_5) (XAll.cons (xs_icmp_ge dX3_put_6 (by decide)) (XAll.cons (xs_aload_n dX3_put_9 rfl) (XAll.cons (fgX3_0 tw_57 dX3_put_10) (XAll.cons (xs_iload_n dX3_put_13 rfl) (XAll.cons (xs_iload_n dX3_put_14 rfl) (XAll.cons (xs_S2 kX3_slot ⟨⟨rfl, rfl, by decide, by decide⟩, ⟨by decide, by decide, by decide +kernel⟩, tw_492, tw_493, tw_4, tw_494⟩ dX3_put_15) (XAll.cons (xs_dup2 dX3_put_18) (XAll.cons (xs_iald dX3_put_19) (XAll.cons (xs_iload_n dX3_put_20 rfl) (XAll.cons (xs_iadd dX3_put_21) (XAll.cons (xs_iast dX3_put_22) (XAll.cons (xs_aload_n dX3_put_23 rfl) (XAll.cons (fgX3_1 tw_58 dX3_put_24) (XAll.cons (xs_iload_n dX3_put_27 rfl) (XAll.cons (xs_dup2 dX3_put_28) (XAll.cons (xs_iald dX3_put_29) (XAll.cons (xs_iload_n dX3_put_30 rfl) (XAll.cons (xs_iadd dX3_put_31) (XAll.cons (xs_iast dX3_put_32) (XAll.cons (xs_vret rfl dX3_put_33) (XAll.nil))))))))))))))))))))))))
theorem fX3_put_0 (Post : XPo) (cut : List Nat) (WW : XK) (n : Nat) (L : XLs) (st : List XV) (M : XM) : xru (xlk (pX3_put Post)) cut WW (n + 1) 0 L st M = j_ild 1 1 0 L st M (xkk (xlk (pX3_put Post)) cut WW n) := (rfl)
theorem fX3_put_1 (Post : XPo) (cut : List Nat) (WW : XK) (n : Nat) (L : XLs) (st : List XV) (M : XM) : xru (xlk (pX3_put Post)) cut WW (n + 1) 1 L st M = j_lt 33 1 L st M (xkk (xlk (pX3_put Post)) cut WW n) := (rfl)
theorem fX3_put_4 (Post : XPo) (cut : List Nat) (WW : XK) (n : Nat) (L : XLs) (st : List XV) (M : XM) : xru (xlk (pX3_put Post)) cut WW (n + 1) 4 L st M = j_ild 1 1 4 L st M (xkk (xlk (pX3_put Post)) cut WW n) := (rfl)
theorem fX3_put_5 (Post : XPo) (cut : List Nat) (WW : XK) (n : Nat) (L : XLs) (st : List XV) (M : XM) : xru (xlk (pX3_put Post)) cut WW (n + 1) 5 L st M = j_c 3 1 5 L st M (xkk (xlk (pX3_put Post)) cut WW n) := (rfl)
theorem fX3_put_6 (Post : XPo) (cut : List Nat) (WW : XK) (n : Nat) (L : XLs) (st : List XV) (M : XM) : xru (xlk (pX3_put Post)) cut WW (n + 1) 6 L st M = j_ige 33 6 L st M (xkk (xlk (pX3_put Post)) cut WW n) := (rfl)
theorem fX3_put_9 (Post : XPo) (cut : List Nat) (WW : XK) (n : Nat) (L : XLs) (st : List XV) (M : XM) : xru (xlk (pX3_put Post)) cut WW (n + 1) 9 L st M = j_ald 0 1 9 L st M (xkk (xlk (pX3_put Post)) cut WW n) := (rfl)
theorem fX3_put_10 (Post : XPo) (cut : List Nat) (WW : XK) (n : Nat) (L : XLs) (st : List XV) (M : XM) : xru (xlk (pX3_put Post)) cut WW (n + 1) 10 L st M = j_gR 10 (fun i k => (11, i, k)) 10 L st M (xkk (xlk (pX3_put Post)) cut WW n) := (rfl)
theorem fX3_put_13 (Post : XPo) (cut : List Nat) (WW : XK) (n : Nat) (L : XLs) (st : List XV) (M : XM) : xru (xlk (pX3_put Post)) cut WW (n + 1) 13 L st M = j_ild 1 1 13 L st M (xkk (xlk (pX3_put Post)) cut WW n) := (rfl)
theorem fX3_put_14 (Post : XPo) (cut : List Nat) (WW : XK) (n : Nat) (L : XLs) (st : List XV) (M : XM) : xru (xlk (pX3_put Post)) cut WW (n + 1) 14 L st M = j_ild 2 1 14 L st M (xkk (xlk (pX3_put Post)) cut WW n) := (rfl)
theorem fX3_put_15 (Post : XPo) (cut : List Nat) (WW : XK) (n : Nat) (L : XLs) (st : List XV) (M : XM) : xru (xlk (pX3_put Post)) cut WW (n + 1) 15 L st M = j_S2 sX3_slot 15 L st M (xkk (xlk (pX3_put Post)) cut WW n) := (rfl)
theorem fX3_put_18 (Post : XPo) (cut : List Nat) (WW : XK) (n : Nat) (L : XLs) (st : List XV) (M : XM) : xru (xlk (pX3_put Post)) cut WW (n + 1) 18 L st M = j_dup2 18 L st M (xkk (xlk (pX3_put Post)) cut WW n) := (rfl)
theorem fX3_put_19 (Post : XPo) (cut : List Nat) (WW : XK) (n : Nat) (L : XLs) (st : List XV) (M : XM) : xru (xlk (pX3_put Post)) cut WW (n + 1) 19 L st M = j_iald 19 L st M (xkk (xlk (pX3_put Post)) cut WW n) := (rfl)
theorem fX3_put_20 (Post : XPo) (cut : List Nat) (WW : XK) (n : Nat) (L : XLs) (st : List XV) (M : XM) : xru (xlk (pX3_put Post)) cut WW (n + 1) 20 L st M = j_ild 3 1 20 L st M (xkk (xlk (pX3_put Post)) cut WW n) := (rfl)
theorem fX3_put_21 (Post : XPo) (cut : List Nat) (WW : XK) (n : Nat) (L : XLs) (st : List XV) (M : XM) : xru (xlk (pX3_put Post)) cut WW (n + 1) 21 L st M = j_add 21 L st M (xkk (xlk (pX3_put Post)) cut WW n) := (rfl)
theorem fX3_put_22 (Post : XPo) (cut : List Nat) (WW : XK) (n : Nat) (L : XLs) (st : List XV) (M : XM) : xru (xlk (pX3_put Post)) cut WW (n + 1) 22 L st M = j_iast 22 L st M (xkk (xlk (pX3_put Post)) cut WW n) := (rfl)
theorem fX3_put_23 (Post : XPo) (cut : List Nat) (WW : XK) (n : Nat) (L : XLs) (st : List XV) (M : XM) : xru (xlk (pX3_put Post)) cut WW (n + 1) 23 L st M = j_ald 0 1 23 L st M (xkk (xlk (pX3_put Post)) cut WW n) := (rfl)
theorem fX3_put_24 (Post : XPo) (cut : List Nat) (WW : XK) (n : Nat) (L : XLs) (st : List XV) (M : XM) : xru (xlk (pX3_put Post)) cut WW (n + 1) 24 L st M = j_gR 10 (fun i k => (12, i, k)) 24 L st M (xkk (xlk (pX3_put Post)) cut WW n) := (rfl)
theorem fX3_put_27 (Post : XPo) (cut : List Nat) (WW : XK) (n : Nat) (L : XLs) (st : List XV) (M : XM) : xru (xlk (pX3_put Post)) cut WW (n + 1) 27 L st M = j_ild 1 1 27 L st M (xkk (xlk (pX3_put Post)) cut WW n) := (rfl)
theorem fX3_put_28 (Post : XPo) (cut : List Nat) (WW : XK) (n : Nat) (L : XLs) (st : List XV) (M : XM) : xru (xlk (pX3_put Post)) cut WW (n + 1) 28 L st M = j_dup2 28 L st M (xkk (xlk (pX3_put Post)) cut WW n) := (rfl)
theorem fX3_put_29 (Post : XPo) (cut : List Nat) (WW : XK) (n : Nat) (L : XLs) (st : List XV) (M : XM) : xru (xlk (pX3_put Post)) cut WW (n + 1) 29 L st M = j_iald 29 L st M (xkk (xlk (pX3_put Post)) cut WW n) := (rfl)
theorem fX3_put_30 (Post : XPo) (cut : List Nat) (WW : XK) (n : Nat) (L : XLs) (st : List XV) (M : XM) : xru (xlk (pX3_put Post)) cut WW (n + 1) 30 L st M = j_ild 3 1 30 L st M (xkk (xlk (pX3_put Post)) cut WW n) := (rfl)
theorem fX3_put_31 (Post : XPo) (cut : List Nat) (WW : XK) (n : Nat) (L : XLs) (st : List XV) (M : XM) : xru (xlk (pX3_put Post)) cut WW (n + 1) 31 L st M = j_add 31 L st M (xkk (xlk (pX3_put Post)) cut WW n) := (rfl)
theorem fX3_put_32 (Post : XPo) (cut : List Nat) (WW : XK) (n : Nat) (L : XLs) (st : List XV) (M : XM) : xru (xlk (pX3_put Post)) cut WW (n + 1) 32 L st M = j_iast 32 L st M (xkk (xlk (pX3_put Post)) cut WW n) := (rfl)
theorem fX3_put_33 (Post : XPo) (cut : List Nat) (WW : XK) (n : Nat) (L : XLs) (st : List XV) (M : XM) : xru (xlk (pX3_put Post)) cut WW (n + 1) 33 L st M = j_ret0 Post 33 L st M (xkk (xlk (pX3_put Post)) cut WW n) := (rfl)
def sX3_put : XSp := xq3 10 (fun i j d m n M Q => mI M i j ∧ 0 ≤ d ∧ d ≤ 2 ∧ Q [] (mPut M i j d m n))
set_option maxRecDepth 100000 in
theorem kX3_put : XCn yX3_put wX3_put rX3_put sX3_put := XC3 pX3_put rfl rfl aX3_put (by decide) (fun i j d m n M Post hv h WW hC => by
  have hv1 : xval 11 i j := hv
  have hv2 : xval 12 i j := hv
  have hr1 : xrow 11 i j := xrow_m (by decide) (by decide) hv
  have hr2 : xrow 12 i j := xrow_m (by decide) (by decide) hv
  obtain ⟨hI, h1, h2, h⟩ := h
  have g1 : d < 3 := by omega
  obtain ⟨g2, g3⟩ := mS_in (m := m) h1 h2
  show WW 0 [some (xR 10 i j), some (xI d), some (xI m), some (xI n)] [] M
  refine xru_ok hC [] 60 _ _ _ _ ?_
  simp only [xkk_ap, Int.reduceEq, Int.reduceLT, Int.reduceLE, Int.reduceNeg, Int.reduceAdd, Int.reduceSub, Int.reduceMul, and_self, false_and, and_false, not_true_eq_false, not_false_eq_true, true_implies, false_implies, xq0, xq1, xq2, xq3, xq4, xq5, xqR, xq1R, xq3R, xt1, xt2, xt3, List.mem_cons, List.not_mem_nil, or_false, false_or, or_self, if_false, if_true, reduceIte, reduceCtorEq, xent, xen, List.length_cons, List.length_nil, List.replicate, j_c, j_cJ, j_ild, j_ald, j_lld, j_ist, j_ast, j_lst, j_inc, j_add, j_sub, j_mul, j_neg, j_div, j_rem, j_and, j_shr, j_shl1, j_or, j_ladd, j_lsub, j_lmul, j_i2l, j_lcmp, j_i2c, j_dup, j_dup2, j_pop, j_goto, j_ieq, j_ine, j_ilt, j_ige, j_igt, j_ile, j_eq, j_ne, j_lt, j_ge, j_gt, j_le, xsw, j_tsw, j_gI, j_gJ, j_gR, j_pI, j_pJ, j_gs, j_iald, j_iast, j_cald, j_cast, j_aald, j_cpy, j_min, j_max, j_abs, j_iret, j_zret, j_lret, j_dret, j_ret0, j_V0, j_V1, j_V2, j_V3, j_V4, j_V5, j_S1, j_S2, j_S3, xget, xset, xset2, xclr, xc1, xcat, Nat.reduceAdd, Nat.reduceEqDiff, Nat.reduceLT, Nat.reduceLeDiff, Nat.reduceMul, List.cons_append, List.nil_append, true_and, and_true, List.singleton_append, fX3_put_0, fX3_put_1, fX3_put_4, fX3_put_5, fX3_put_6, fX3_put_9, fX3_put_10, fX3_put_13, fX3_put_14, fX3_put_15, fX3_put_18, fX3_put_19, fX3_put_20, fX3_put_21, fX3_put_22, fX3_put_23, fX3_put_24, fX3_put_27, fX3_put_28, fX3_put_29, fX3_put_30, fX3_put_31, fX3_put_32, fX3_put_33, sX3_slot, hv, hv1, hv2, hr1, hr2, h1, g1, g2, g3, xlen, xrd, xup_app]
  exact ⟨⟨by omega, by omega⟩, fun z => by omega, fun _ => ⟨⟨⟨by omega, by omega⟩, xr_c rfl⟩, fun z => by omega, fun _ => by rw [m_add hI h1 h2]; exact h⟩⟩)
/-- UnitKitchens$Meals.take(III)I -/
abbrev wX3_take : List Cond := Cond.code yX3_take cX3_take 6 (some .int) :: xT
abbrev rX3_take : Room := { frames := 1, cells := 0, slots := 0, locals := 21 }
def pX3_take (Post : XPo) : List (Nat × XStp) := [(0, j_ild 1 1), (1, j_lt 9), (4, j_ild 1 1), (5, j_c 3 1), (6, j_ilt 11), (9, j_c 0 1), (10, j_iret Post), (11, j_ild 1 1), (12, j_ild 2 1), (13, j_S2 sX3_slot), (16, j_ist 4 2), (18, j_ild 3 1), (19, j_ald 0 1), (20, j_gR 10 (fun i k => (11, i, k))), (23, j_ild 4 2), (25, j_iald), (26, j_min), (29, j_ist 5 2), (31, j_ald 0 1), (32, j_gR 10 (fun i k => (11, i, k))), (35, j_ild 4 2), (37, j_dup2), (38, j_iald), (39, j_ild 5 2), (41, j_sub), (42, j_iast), (43, j_ald 0 1), (44, j_gR 10 (fun i k => (12, i, k))), (47, j_ild 1 1), (48, j_dup2), (49, j_iald), (50, j_ild 5 2), (52, j_sub), (53, j_iast), (54, j_ild 5 2), (56, j_iret Post)]
set_option maxRecDepth 100000 in
theorem aX3_take (Post : XPo) : XAll rX3_take cX3_take 6 RX3 wX3_take (some .int) Post (pX3_take Post) := XAll.cons (xs_iload_n dX3_take_0 rfl) (XAll.cons (xs_if_lt dX3_take_1 (by decide)) (XAll.cons (xs_iload_n dX3_take_4 rfl) (XAll.cons (xs_iconst dX3_take_5) (XAll.cons (xs_icmp_lt dX3_take_6 (by decide)) (XAll.cons (xs_iconst dX3_take_9) (XAll.cons (xs_iret rfl dX3_take_10) (XAll.cons (xs_iload_n dX3_take_11 rfl) (XAll.cons (xs_iload_n dX3_take_12 rfl) (XAll.cons (xs_S2 kX3_slot ⟨⟨rfl, rfl, by decide, by decide⟩, ⟨by decide, by decide, by decide +kernel⟩, tw_492, tw_493, tw_4, tw_494⟩ dX3_take_13) (XAll.cons (xs_istore dX3_take_16 (by decide)) (XAll.cons (xs_iload_n dX3_take_18 rfl) (XAll.cons (xs_aload_n dX3_take_19 rfl) (XAll.cons (fgX3_0 tw_57 dX3_take_20) (XAll.cons (xs_iload dX3_take_23) (XAll.cons (xs_iald dX3_take_25) (XAll.cons (xs_min (by decide) (by decide) (xgood1 tw_511) (xgood1 tw_418) (xgood1 tw_15) (xgood1 tw_419) dX3_take_26) (XAll.cons (xs_istore dX3_take_29 (by decide)) (XAll.cons (xs_aload_n dX3_take_31 rfl) (XAll.cons (fgX3_0 tw_57 dX3_take_32) (XAll.cons (xs_iload dX3_take_35) (XAll.cons (xs_dup2 dX3_take_37) (XAll.cons (xs_iald dX3_take_38) (XAll.cons (xs_iload dX3_take_39) (XAll.cons (xs_isub dX3_take_41) (XAll.cons (xs_iast dX3_take_42) (XAll.cons (xs_aload_n dX3_take_43 rfl) (XAll.cons (fgX3_1 tw_58 dX3_take_44) (XAll.cons (xs_iload_n dX3_take_47 rfl) (XAll.cons (xs_dup2 dX3_take_48) (XAll.cons (xs_iald dX3_take_49) (XAll.cons (xs_iload dX3_take_50) (XAll.cons (xs_isub dX3_take_52) (XAll.cons (xs_iast dX3_take_53) (XAll.cons (xs_iload dX3_take_54) (XAll.cons (xs_iret rfl dX3_take_56) (XAll.nil))))))))))))))))))))))))))))))))))))
theorem fX3_take_0 (Post : XPo) (cut : List Nat) (WW : XK) (n : Nat) (L : XLs) (st : List XV) (M : XM) : xru (xlk (pX3_take Post)) cut WW (n + 1) 0 L st M = j_ild 1 1 0 L st M (xkk (xlk (pX3_take Post)) cut WW n) := (rfl)
theorem fX3_take_1 (Post : XPo) (cut : List Nat) (WW : XK) (n : Nat) (L : XLs) (st : List XV) (M : XM) : xru (xlk (pX3_take Post)) cut WW (n + 1) 1 L st M = j_lt 9 1 L st M (xkk (xlk (pX3_take Post)) cut WW n) := (rfl)
theorem fX3_take_4 (Post : XPo) (cut : List Nat) (WW : XK) (n : Nat) (L : XLs) (st : List XV) (M : XM) : xru (xlk (pX3_take Post)) cut WW (n + 1) 4 L st M = j_ild 1 1 4 L st M (xkk (xlk (pX3_take Post)) cut WW n) := (rfl)
theorem fX3_take_5 (Post : XPo) (cut : List Nat) (WW : XK) (n : Nat) (L : XLs) (st : List XV) (M : XM) : xru (xlk (pX3_take Post)) cut WW (n + 1) 5 L st M = j_c 3 1 5 L st M (xkk (xlk (pX3_take Post)) cut WW n) := (rfl)
theorem fX3_take_6 (Post : XPo) (cut : List Nat) (WW : XK) (n : Nat) (L : XLs) (st : List XV) (M : XM) : xru (xlk (pX3_take Post)) cut WW (n + 1) 6 L st M = j_ilt 11 6 L st M (xkk (xlk (pX3_take Post)) cut WW n) := (rfl)
theorem fX3_take_9 (Post : XPo) (cut : List Nat) (WW : XK) (n : Nat) (L : XLs) (st : List XV) (M : XM) : xru (xlk (pX3_take Post)) cut WW (n + 1) 9 L st M = j_c 0 1 9 L st M (xkk (xlk (pX3_take Post)) cut WW n) := (rfl)
theorem fX3_take_10 (Post : XPo) (cut : List Nat) (WW : XK) (n : Nat) (L : XLs) (st : List XV) (M : XM) : xru (xlk (pX3_take Post)) cut WW (n + 1) 10 L st M = j_iret Post 10 L st M (xkk (xlk (pX3_take Post)) cut WW n) := (rfl)
theorem fX3_take_11 (Post : XPo) (cut : List Nat) (WW : XK) (n : Nat) (L : XLs) (st : List XV) (M : XM) : xru (xlk (pX3_take Post)) cut WW (n + 1) 11 L st M = j_ild 1 1 11 L st M (xkk (xlk (pX3_take Post)) cut WW n) := (rfl)
theorem fX3_take_12 (Post : XPo) (cut : List Nat) (WW : XK) (n : Nat) (L : XLs) (st : List XV) (M : XM) : xru (xlk (pX3_take Post)) cut WW (n + 1) 12 L st M = j_ild 2 1 12 L st M (xkk (xlk (pX3_take Post)) cut WW n) := (rfl)
theorem fX3_take_13 (Post : XPo) (cut : List Nat) (WW : XK) (n : Nat) (L : XLs) (st : List XV) (M : XM) : xru (xlk (pX3_take Post)) cut WW (n + 1) 13 L st M = j_S2 sX3_slot 13 L st M (xkk (xlk (pX3_take Post)) cut WW n) := (rfl)
theorem fX3_take_16 (Post : XPo) (cut : List Nat) (WW : XK) (n : Nat) (L : XLs) (st : List XV) (M : XM) : xru (xlk (pX3_take Post)) cut WW (n + 1) 16 L st M = j_ist 4 2 16 L st M (xkk (xlk (pX3_take Post)) cut WW n) := (rfl)
theorem fX3_take_18 (Post : XPo) (cut : List Nat) (WW : XK) (n : Nat) (L : XLs) (st : List XV) (M : XM) : xru (xlk (pX3_take Post)) cut WW (n + 1) 18 L st M = j_ild 3 1 18 L st M (xkk (xlk (pX3_take Post)) cut WW n) := (rfl)
theorem fX3_take_19 (Post : XPo) (cut : List Nat) (WW : XK) (n : Nat) (L : XLs) (st : List XV) (M : XM) : xru (xlk (pX3_take Post)) cut WW (n + 1) 19 L st M = j_ald 0 1 19 L st M (xkk (xlk (pX3_take Post)) cut WW n) := (rfl)
theorem fX3_take_20 (Post : XPo) (cut : List Nat) (WW : XK) (n : Nat) (L : XLs) (st : List XV) (M : XM) : xru (xlk (pX3_take Post)) cut WW (n + 1) 20 L st M = j_gR 10 (fun i k => (11, i, k)) 20 L st M (xkk (xlk (pX3_take Post)) cut WW n) := (rfl)
theorem fX3_take_23 (Post : XPo) (cut : List Nat) (WW : XK) (n : Nat) (L : XLs) (st : List XV) (M : XM) : xru (xlk (pX3_take Post)) cut WW (n + 1) 23 L st M = j_ild 4 2 23 L st M (xkk (xlk (pX3_take Post)) cut WW n) := (rfl)
theorem fX3_take_25 (Post : XPo) (cut : List Nat) (WW : XK) (n : Nat) (L : XLs) (st : List XV) (M : XM) : xru (xlk (pX3_take Post)) cut WW (n + 1) 25 L st M = j_iald 25 L st M (xkk (xlk (pX3_take Post)) cut WW n) := (rfl)
theorem fX3_take_26 (Post : XPo) (cut : List Nat) (WW : XK) (n : Nat) (L : XLs) (st : List XV) (M : XM) : xru (xlk (pX3_take Post)) cut WW (n + 1) 26 L st M = j_min 26 L st M (xkk (xlk (pX3_take Post)) cut WW n) := (rfl)
theorem fX3_take_29 (Post : XPo) (cut : List Nat) (WW : XK) (n : Nat) (L : XLs) (st : List XV) (M : XM) : xru (xlk (pX3_take Post)) cut WW (n + 1) 29 L st M = j_ist 5 2 29 L st M (xkk (xlk (pX3_take Post)) cut WW n) := (rfl)
theorem fX3_take_31 (Post : XPo) (cut : List Nat) (WW : XK) (n : Nat) (L : XLs) (st : List XV) (M : XM) : xru (xlk (pX3_take Post)) cut WW (n + 1) 31 L st M = j_ald 0 1 31 L st M (xkk (xlk (pX3_take Post)) cut WW n) := (rfl)
theorem fX3_take_32 (Post : XPo) (cut : List Nat) (WW : XK) (n : Nat) (L : XLs) (st : List XV) (M : XM) : xru (xlk (pX3_take Post)) cut WW (n + 1) 32 L st M = j_gR 10 (fun i k => (11, i, k)) 32 L st M (xkk (xlk (pX3_take Post)) cut WW n) := (rfl)
theorem fX3_take_35 (Post : XPo) (cut : List Nat) (WW : XK) (n : Nat) (L : XLs) (st : List XV) (M : XM) : xru (xlk (pX3_take Post)) cut WW (n + 1) 35 L st M = j_ild 4 2 35 L st M (xkk (xlk (pX3_take Post)) cut WW n) := (rfl)
theorem fX3_take_37 (Post : XPo) (cut : List Nat) (WW : XK) (n : Nat) (L : XLs) (st : List XV) (M : XM) : xru (xlk (pX3_take Post)) cut WW (n + 1) 37 L st M = j_dup2 37 L st M (xkk (xlk (pX3_take Post)) cut WW n) := (rfl)
theorem fX3_take_38 (Post : XPo) (cut : List Nat) (WW : XK) (n : Nat) (L : XLs) (st : List XV) (M : XM) : xru (xlk (pX3_take Post)) cut WW (n + 1) 38 L st M = j_iald 38 L st M (xkk (xlk (pX3_take Post)) cut WW n) := (rfl)
theorem fX3_take_39 (Post : XPo) (cut : List Nat) (WW : XK) (n : Nat) (L : XLs) (st : List XV) (M : XM) : xru (xlk (pX3_take Post)) cut WW (n + 1) 39 L st M = j_ild 5 2 39 L st M (xkk (xlk (pX3_take Post)) cut WW n) := (rfl)
theorem fX3_take_41 (Post : XPo) (cut : List Nat) (WW : XK) (n : Nat) (L : XLs) (st : List XV) (M : XM) : xru (xlk (pX3_take Post)) cut WW (n + 1) 41 L st M = j_sub 41 L st M (xkk (xlk (pX3_take Post)) cut WW n) := (rfl)
theorem fX3_take_42 (Post : XPo) (cut : List Nat) (WW : XK) (n : Nat) (L : XLs) (st : List XV) (M : XM) : xru (xlk (pX3_take Post)) cut WW (n + 1) 42 L st M = j_iast 42 L st M (xkk (xlk (pX3_take Post)) cut WW n) := (rfl)
theorem fX3_take_43 (Post : XPo) (cut : List Nat) (WW : XK) (n : Nat) (L : XLs) (st : List XV) (M : XM) : xru (xlk (pX3_take Post)) cut WW (n + 1) 43 L st M = j_ald 0 1 43 L st M (xkk (xlk (pX3_take Post)) cut WW n) := (rfl)
theorem fX3_take_44 (Post : XPo) (cut : List Nat) (WW : XK) (n : Nat) (L : XLs) (st : List XV) (M : XM) : xru (xlk (pX3_take Post)) cut WW (n + 1) 44 L st M = j_gR 10 (fun i k => (12, i, k)) 44 L st M (xkk (xlk (pX3_take Post)) cut WW n) := (rfl)
theorem fX3_take_47 (Post : XPo) (cut : List Nat) (WW : XK) (n : Nat) (L : XLs) (st : List XV) (M : XM) : xru (xlk (pX3_take Post)) cut WW (n + 1) 47 L st M = j_ild 1 1 47 L st M (xkk (xlk (pX3_take Post)) cut WW n) := (rfl)
theorem fX3_take_48 (Post : XPo) (cut : List Nat) (WW : XK) (n : Nat) (L : XLs) (st : List XV) (M : XM) : xru (xlk (pX3_take Post)) cut WW (n + 1) 48 L st M = j_dup2 48 L st M (xkk (xlk (pX3_take Post)) cut WW n) := (rfl)
theorem fX3_take_49 (Post : XPo) (cut : List Nat) (WW : XK) (n : Nat) (L : XLs) (st : List XV) (M : XM) : xru (xlk (pX3_take Post)) cut WW (n + 1) 49 L st M = j_iald 49 L st M (xkk (xlk (pX3_take Post)) cut WW n) := (rfl)
theorem fX3_take_50 (Post : XPo) (cut : List Nat) (WW : XK) (n : Nat) (L : XLs) (st : List XV) (M : XM) : xru (xlk (pX3_take Post)) cut WW (n + 1) 50 L st M = j_ild 5 2 50 L st M (xkk (xlk (pX3_take Post)) cut WW n) := (rfl)
theorem fX3_take_52 (Post : XPo) (cut : List Nat) (WW : XK) (n : Nat) (L : XLs) (st : List XV) (M : XM) : xru (xlk (pX3_take Post)) cut WW (n + 1) 52 L st M = j_sub 52 L st M (xkk (xlk (pX3_take Post)) cut WW n) := (rfl)
theorem fX3_take_53 (Post : XPo) (cut : List Nat) (WW : XK) (n : Nat) (L : XLs) (st : List XV) (M : XM) : xru (xlk (pX3_take Post)) cut WW (n + 1) 53 L st M = j_iast 53 L st M (xkk (xlk (pX3_take Post)) cut WW n) := (rfl)
theorem fX3_take_54 (Post : XPo) (cut : List Nat) (WW : XK) (n : Nat) (L : XLs) (st : List XV) (M : XM) : xru (xlk (pX3_take Post)) cut WW (n + 1) 54 L st M = j_ild 5 2 54 L st M (xkk (xlk (pX3_take Post)) cut WW n) := (rfl)
theorem fX3_take_56 (Post : XPo) (cut : List Nat) (WW : XK) (n : Nat) (L : XLs) (st : List XV) (M : XM) : xru (xlk (pX3_take Post)) cut WW (n + 1) 56 L st M = j_iret Post 56 L st M (xkk (xlk (pX3_take Post)) cut WW n) := (rfl)
def sX3_take : XSp := xq3 10 (fun i j d m a M Q => mI M i j ∧ 0 ≤ d ∧ d ≤ 2 ∧ XInR a ∧ XInR (M 11 i j (mS d m)) ∧ Q [xI (mV M i j d m a)] (mTake M i j d m a))
set_option maxRecDepth 100000 in
theorem kX3_take : XCn yX3_take wX3_take rX3_take sX3_take := XC3 pX3_take rfl rfl aX3_take (by decide) (fun i j d m a M Post hv h WW hC => by
  have hv1 : xval 11 i j := hv
  have hv2 : xval 12 i j := hv
  have hr1 : xrow 11 i j := xrow_m (by decide) (by decide) hv
  have hr2 : xrow 12 i j := xrow_m (by decide) (by decide) hv
  obtain ⟨hI, h1, h2, ha, hb, h⟩ := h
  have g1 : d < 3 := by omega
  obtain ⟨g2, g3⟩ := mS_in (m := m) h1 h2
  show WW 0 [some (xR 10 i j), some (xI d), some (xI m), some (xI a), none, none] [] M
  refine xru_ok hC [] 80 _ _ _ _ ?_
  simp only [xkk_ap, Int.reduceEq, Int.reduceLT, Int.reduceLE, Int.reduceNeg, Int.reduceAdd, Int.reduceSub, Int.reduceMul, and_self, false_and, and_false, not_true_eq_false, not_false_eq_true, true_implies, false_implies, xq0, xq1, xq2, xq3, xq4, xq5, xqR, xq1R, xq3R, xt1, xt2, xt3, List.mem_cons, List.not_mem_nil, or_false, false_or, or_self, if_false, if_true, reduceIte, reduceCtorEq, xent, xen, List.length_cons, List.length_nil, List.replicate, j_c, j_cJ, j_ild, j_ald, j_lld, j_ist, j_ast, j_lst, j_inc, j_add, j_sub, j_mul, j_neg, j_div, j_rem, j_and, j_shr, j_shl1, j_or, j_ladd, j_lsub, j_lmul, j_i2l, j_lcmp, j_i2c, j_dup, j_dup2, j_pop, j_goto, j_ieq, j_ine, j_ilt, j_ige, j_igt, j_ile, j_eq, j_ne, j_lt, j_ge, j_gt, j_le, xsw, j_tsw, j_gI, j_gJ, j_gR, j_pI, j_pJ, j_gs, j_iald, j_iast, j_cald, j_cast, j_aald, j_cpy, j_min, j_max, j_abs, j_iret, j_zret, j_lret, j_dret, j_ret0, j_V0, j_V1, j_V2, j_V3, j_V4, j_V5, j_S1, j_S2, j_S3, xget, xset, xset2, xclr, xc1, xcat, Nat.reduceAdd, Nat.reduceEqDiff, Nat.reduceLT, Nat.reduceLeDiff, Nat.reduceMul, List.cons_append, List.nil_append, true_and, and_true, List.singleton_append, fX3_take_0, fX3_take_1, fX3_take_4, fX3_take_5, fX3_take_6, fX3_take_9, fX3_take_10, fX3_take_11, fX3_take_12, fX3_take_13, fX3_take_16, fX3_take_18, fX3_take_19, fX3_take_20, fX3_take_23, fX3_take_25, fX3_take_26, fX3_take_29, fX3_take_31, fX3_take_32, fX3_take_35, fX3_take_37, fX3_take_38, fX3_take_39, fX3_take_41, fX3_take_42, fX3_take_43, fX3_take_44, fX3_take_47, fX3_take_48, fX3_take_49, fX3_take_50, fX3_take_52, fX3_take_53, fX3_take_54, fX3_take_56, sX3_slot, hv, hv1, hv2, hr1, hr2, h1, g1, g2, g3, ha, hb, xlen, xrd, xup_app]
  refine ⟨⟨by omega, by omega⟩, fun z => by omega, fun _ => ⟨⟨⟨by omega, by omega⟩, xr_c rfl⟩, ?_⟩⟩
  simp only [mTake, mV] at h
  simp only [Int.sub_eq_add_neg] at h ⊢
  rw [m_add hI h1 h2]
  exact h)
theorem sup_self (S : Int → Int) (x : Int) : sup S x (S x) = S := by
  funext y
  simp only [sup]
  split
  next h => rw [h]
  next => rfl
def sOK (S : Int → Int) : Prop := ∀ x : Int, 0 ≤ x → x < 192 → 0 ≤ S x ∧ S x ≤ 2000000
theorem sOK_sup {S : Int → Int} {x v : Int} (h : sOK S) (h0 : 0 ≤ v) (h1 : v ≤ 2000000) : sOK (sup S x v) := by
  intro y g0 g1
  simp only [sup]
  split
  · exact ⟨h0, h1⟩
  · exact h y g0 g1
def tot3 (S : Int → Int) : Int := sm S 0 64 + sm S 64 64 + sm S 128 64
def totK (meat : Int) (S : Int → Int) : Int := if meat = 0 then sm S 0 64 + sm S 128 64 else sm S 64 64
theorem mAll_tot {M : XM} {i j : Int} (h : mI M i j) : mAll M i j = tot3 (M 11 i j) := by
  unfold mAll tot3
  rw [h 0 (by decide) (by decide), h 1 (by decide) (by decide), h 2 (by decide) (by decide)]
  rfl
theorem mKind_tot {M : XM} {i j meat : Int} (h : mI M i j) : mKind M i j meat = totK meat (M 11 i j) := by
  unfold mKind totK
  rw [mAll_tot h]
  unfold tot3
  rw [h 1 (by decide) (by decide)]
  split
  · simp only [Int.reduceMul]
    omega
  · rfl
theorem sm64_bd {S : Int → Int} (h : sOK S) {a : Int} (h0 : 0 ≤ a) (h1 : a ≤ 128) : 0 ≤ sm S a 64 ∧ sm S a 64 ≤ 128000000 := by
  have := sm_bd (S := S) (a := a) (b := 2000000) (n := 64) (fun x g0 g1 => h x (by omega) (by omega))
  omega
theorem tot3_bd {S : Int → Int} (h : sOK S) : 0 ≤ tot3 S ∧ tot3 S ≤ 384000000 := by
  have h0 := sm64_bd h (a := 0) (by decide) (by decide)
  have h1 := sm64_bd h (a := 64) (by decide) (by decide)
  have h2 := sm64_bd h (a := 128) (by decide) (by decide)
  unfold tot3
  omega
theorem totK_bd {S : Int → Int} (h : sOK S) (meat : Int) : 0 ≤ totK meat S ∧ totK meat S ≤ 384000000 := by
  have h0 := sm64_bd h (a := 0) (by decide) (by decide)
  have h1 := sm64_bd h (a := 64) (by decide) (by decide)
  have h2 := sm64_bd h (a := 128) (by decide) (by decide)
  unfold totK
  split <;> omega
theorem tot3_at {S : Int → Int} (h : sOK S) {x : Int} (h0 : 0 ≤ x) (h1 : x < 192) : S x ≤ tot3 S := by
  have g0 := sm64_bd h (a := 0) (by decide) (by decide)
  have g1 := sm64_bd h (a := 64) (by decide) (by decide)
  have g2 := sm64_bd h (a := 128) (by decide) (by decide)
  have q0 := sm_at (S := S) (a := 0) (n := 64) (fun y a b => (h y (by omega) (by omega)).1) x
  have q1 := sm_at (S := S) (a := 64) (n := 64) (fun y a b => (h y (by omega) (by omega)).1) x
  have q2 := sm_at (S := S) (a := 128) (n := 64) (fun y a b => (h y (by omega) (by omega)).1) x
  unfold tot3
  rcases (show x < 64 ∨ (64 ≤ x ∧ x < 128) ∨ 128 ≤ x by omega) with z | z | z
  · have := q0 (by omega) (by omega)
    omega
  · have := q1 (by omega) (by omega)
    omega
  · have := q2 (by omega) (by omega)
    omega
theorem tot3_0 {S : Int → Int} (h : sOK S) (h2 : tot3 S = 0) {x : Int} (h0 : 0 ≤ x) (h1 : x < 192) : S x = 0 := by
  have g := tot3_at h h0 h1
  have g2 := h x h0 h1
  omega
/-- the slots of a kind -/
def inK (meat x : Int) : Prop := if meat = 0 then (0 ≤ x ∧ x < 64) ∨ (128 ≤ x ∧ x < 192) else 64 ≤ x ∧ x < 128
theorem totK_at {S : Int → Int} (h : sOK S) {meat x : Int} (hx : inK meat x) : S x ≤ totK meat S := by
  have g0 := sm64_bd h (a := 0) (by decide) (by decide)
  have g2 := sm64_bd h (a := 128) (by decide) (by decide)
  have q0 := sm_at (S := S) (a := 0) (n := 64) (fun y a b => (h y (by omega) (by omega)).1) x
  have q1 := sm_at (S := S) (a := 64) (n := 64) (fun y a b => (h y (by omega) (by omega)).1) x
  have q2 := sm_at (S := S) (a := 128) (n := 64) (fun y a b => (h y (by omega) (by omega)).1) x
  unfold totK
  unfold inK at hx
  split
  next e =>
    rw [if_pos e] at hx
    rcases hx with z | z
    · have := q0 (by omega) (by omega)
      omega
    · have := q2 (by omega) (by omega)
      omega
  next e =>
    rw [if_neg e] at hx
    exact q1 (by omega) (by omega)
theorem totK_sup (S : Int → Int) {meat x v : Int} (hx : inK meat x) : totK meat (sup S x v) = totK meat S + (v - S x) := by
  unfold totK
  unfold inK at hx
  simp only [sm_sup]
  split
  next e =>
    rw [if_pos e] at hx
    rcases hx with z | z
    · rw [if_pos (by omega), if_neg (by omega)]
      omega
    · rw [if_neg (by omega), if_pos (by omega)]
      omega
  next e =>
    rw [if_neg e] at hx
    rw [if_pos (by omega)]
theorem inK_in {meat x : Int} (hx : inK meat x) : 0 ≤ x ∧ x < 192 := by
  unfold inK at hx
  split at hx <;> omega
/-- meals are taken out of slots, one behind another -/
def tkL : List Int → (Int → Int) → Int → (Int → Int) × Int
  | [], S, w => (S, w)
  | x :: L, S, w => tkL L (sup S x (S x - min w (S x))) (w - min w (S x))
theorem tkL_0 : ∀ (L : List Int) (S : Int → Int), (∀ x ∈ L, 0 ≤ S x) → tkL L S 0 = (S, 0)
  | [], _, _ => rfl
  | x :: L, S, h => by
    have e : min 0 (S x) = 0 := by have := h x List.mem_cons_self; omega
    simp only [tkL, e, Int.sub_zero, sup_self]
    exact tkL_0 L S (fun y hy => h y (List.mem_cons_of_mem _ hy))
theorem tkL_cap {meat : Int} : ∀ (L : List Int) (S : Int → Int) (w : Int), (∀ x ∈ L, inK meat x) → sOK S → 0 ≤ w → tkL L S (min w (totK meat S)) = ((tkL L S w).1, (tkL L S w).2 - (w - min w (totK meat S)))
  | [], S, w, _, _, _ => by
    simp only [tkL]
    congr 1
    omega
  | x :: L, S, w, hL, hS, hw => by
    have hx := hL x List.mem_cons_self
    have h1 := totK_at hS hx
    have h2 := hS x (inK_in hx).1 (inK_in hx).2
    have e1 : min (min w (totK meat S)) (S x) = min w (S x) := by omega
    have hS' : sOK (sup S x (S x - min w (S x))) := sOK_sup hS (by omega) (by omega)
    have ih := tkL_cap (meat := meat) L (sup S x (S x - min w (S x))) (w - min w (S x)) (fun y hy => hL y (List.mem_cons_of_mem _ hy)) hS' (by omega)
    rw [totK_sup S hx] at ih
    have e2 : min (w - min w (S x)) (totK meat S + (S x - min w (S x) - S x)) = min w (totK meat S) - min w (S x) := by omega
    rw [e2] at ih
    simp only [tkL, e1]
    rw [ih]
    congr 1
    omega
theorem tkL_ok : ∀ (L : List Int) (S : Int → Int) (w : Int), (∀ x ∈ L, 0 ≤ x ∧ x < 192) → sOK S → 0 ≤ w → sOK (tkL L S w).1 ∧ 0 ≤ (tkL L S w).2 ∧ (tkL L S w).2 ≤ w
  | [], S, w, _, h, hw => ⟨h, hw, Int.le_refl w⟩
  | x :: L, S, w, hL, hS, hw => by
    have hx := hL x List.mem_cons_self
    have h2 := hS x hx.1 hx.2
    have ih := tkL_ok L (sup S x (S x - min w (S x))) (w - min w (S x)) (fun y hy => hL y (List.mem_cons_of_mem _ hy)) (sOK_sup hS (by omega) (by omega)) (by omega)
    simp only [tkL]
    exact ⟨ih.1, ih.2.1, by omega⟩
/-- slots by ages, the greatest first -/
def agL (f : Int → List Int) (now : Int) : Nat → List Int
  | 0 => []
  | n + 1 => f (now - n) ++ agL f now n
theorem agL_mem {f : Int → List Int} {now : Int} {P : Int → Prop} (h : ∀ m, ∀ x ∈ f m, P x) : ∀ n : Nat, ∀ x ∈ agL f now n, P x
  | 0, x, hx => absurd hx List.not_mem_nil
  | n + 1, x, hx => (List.mem_append.mp hx).elim (h _ x) (agL_mem h n x)
def dkL (meat m : Int) : List Int := if meat = 0 then [mS 0 m, mS 2 m] else [mS 1 m]
theorem dkL_in {meat : Int} (m : Int) : ∀ x ∈ dkL meat m, inK meat x := by
  intro x hx
  unfold dkL at hx
  unfold inK
  split at hx
  next e =>
    rw [if_pos e]
    simp only [List.mem_cons, List.not_mem_nil, or_false] at hx
    unfold mS at hx
    omega
  next e =>
    rw [if_neg e]
    simp only [List.mem_cons, List.not_mem_nil, or_false] at hx
    unfold mS at hx
    omega
theorem sOK_in {S : Int → Int} (h : sOK S) {d m : Int} (h0 : 0 ≤ d) (h1 : d ≤ 2) : XInR (S (mS d m)) ∧ 0 ≤ S (mS d m) ∧ S (mS d m) ≤ 2000000 := by
  obtain ⟨g2, g3⟩ := mS_in (m := m) h0 h1
  have g := h _ g2 g3
  exact ⟨⟨by omega, by omega⟩, g.1, g.2⟩
/-- UnitKitchens$Meals.takeFirst(ZII)I -/
abbrev wX3_takeFirst : List Cond := Cond.code yX3_takeFirst cX3_takeFirst 8 (some .int) :: xT
abbrev rX3_takeFirst : Room := { frames := 2, cells := 0, slots := 0, locals := 46 }
def pX3_takeFirst (Post : XPo) : List (Nat × XStp) := [(0, j_ild 2 1), (1, j_ald 0 1), (2, j_ild 1 1), (3, j_V1 10 sX3_ofKind), (6, j_min), (9, j_ist 4 2), (11, j_c 0 1), (12, j_ist 5 2), (14, j_c 63 2), (16, j_ist 6 2), (18, j_ild 6 2), (20, j_lt 86), (23, j_ild 5 2), (25, j_ild 4 2), (27, j_ige 86), (30, j_c 0 1), (31, j_ist 7 2), (33, j_ild 7 2), (35, j_c 3 1), (36, j_ige 80), (39, j_ild 7 2), (41, j_c 1 1), (42, j_ine 49), (45, j_c 1 1), (46, j_goto 50), (49, j_c 0 1), (50, j_ild 1 1), (51, j_ine 74), (54, j_ild 5 2), (56, j_ald 0 1), (57, j_ild 7 2), (59, j_ild 3 1), (60, j_ild 6 2), (62, j_sub), (63, j_ild 4 2), (65, j_ild 5 2), (67, j_sub), (68, j_V3 10 sX3_take), (71, j_add), (72, j_ist 5 2), (74, j_inc 7 1), (77, j_goto 33), (80, j_inc 6 (-1)), (83, j_goto 18), (86, j_ild 5 2), (88, j_iret Post)]
set_option maxRecDepth 100000 in
theorem aX3_takeFirst (Post : XPo) : XAll rX3_takeFirst cX3_takeFirst 8 RX3 wX3_takeFirst (some .int) Post (pX3_takeFirst Post) := XAll.cons (xs_iload_n dX3_takeFirst_0 rfl) (XAll.cons (xs_aload_n dX3_takeFirst_1 rfl) (XAll.cons (xs_iload_n dX3_takeFirst_2 rfl) (XAll.cons (xs_V1 kX3_ofKind ⟨⟨rfl, rfl, by decide, by decide⟩, ⟨by decide, by decide, by decide +kernel⟩, ⟨tw_536, tw_537, tw_538, tw_4, tw_539⟩, 3, TX3, _, rfl, fun G ρ f i k => ⟨_, rfl⟩⟩ dX3_takeFirst_3) (XAll.cons (xs_min (by decide) (by decide) (xgood1 tw_511) (xgood1 tw_418) (xgood1 tw_15) (xgood1 tw_419) dX3_takeFirst_6) (XAll.cons (xs_istore dX3_takeFirst_9 (by decide)) (XAll.cons (xs_iconst dX3_takeFirst_11) (XAll.cons (xs_istore dX3_takeFirst_12 (by decide)) (XAll.cons (xs_bipush dX3_takeFirst_14 rfl) (XAll.cons (xs_istore dX3_takeFirst_16 (by decide)) (XAll.cons (xs_iload dX3_takeFirst_18) (XAll.cons (xs_if_lt dX3_takeFirst_20 (by decide)) (XAll.cons (xs_iload dX3_takeFirst_23) (XAll.cons (xs_iload dX3_takeFirst_25) (XAll.cons (xs_icmp_ge dX3_takeFirst_27 (by decide)) (XAll.cons (xs_iconst dX3_takeFirst_30) (XAll.cons (xs_istore dX3_takeFirst_31 (by decide)) (XAll.cons (xs_iload dX3_takeFirst_33) (XAll.cons (xs_iconst dX3_takeFirst_35) (XAll.cons (xs_icmp_ge dX3_takeFirst_36 (by decide)) (XAll.cons (xs_iload dX3_takeFirst_39) (XAll.cons (xs_iconst dX3_takeFirst_41) (XAll.cons (xs_icmp_ne dX3_takeFirst_42 (by decide)) (XAll.cons (xs_iconst dX3_takeFirst_45) (XAll.cons (xs_goto dX3_takeFirst_46 (by decide)) (XAll.cons (xs_iconst dX3_takeFirst_49) (XAll.cons (xs_iload_n dX3_takeFirst_50 rfl) (XAll.cons (xs_icmp_ne dX3_takeFirst_51 (by decide)) (XAll.cons (xs_iload dX3_takeFirst_54) (XAll.cons (xs_aload_n dX3_takeFirst_56 rfl) (XAll.cons (xs_iload dX3_takeFirst_57) (XAll.cons (xs_iload_n dX3_takeFirst_59 rfl) (XAll.cons (xs_iload dX3_takeFirst_60) (XAll.cons (xs_isub dX3_takeFirst_62) (XAll.cons (xs_iload dX3_takeFirst_63) (XAll.cons (xs_iload dX3_takeFirst_65) (XAll.cons (xs_isub dX3_takeFirst_67) (XAll.cons (xs_V3 kX3_take ⟨⟨rfl, rfl, by decide, by decide⟩, ⟨by decide, by decide, by decide +kernel⟩, ⟨tw_507, tw_508, tw_509, tw_4, tw_510⟩, 3, TX3, _, rfl, fun G ρ f i k => ⟨_, rfl⟩⟩ dX3_takeFirst_68) (XAll.cons (xs_iadd dX3_takeFirst_71) (XAll.cons (xs_istore dX3_takeFirst_72 (by decide)) (XAll.cons (xs_iinc dX3_takeFirst_74 (by decide)) (XAll.cons (xs_goto dX3_takeFirst_77 (by decide)) (XAll.cons (xs_iinc dX3_takeFirst_80 (by decide)) (XAll.cons (xs_goto dX3_takeFirst_83 (by decide)) (XAll.cons (xs_iload dX3_takeFirst_86) (XAll.cons (xs_iret rfl dX3_takeFirst_88) (XAll.nil))))))))))))))))))))))))))))))))))))))))))))))
theorem fX3_takeFirst_0 (Post : XPo) (cut : List Nat) (WW : XK) (n : Nat) (L : XLs) (st : List XV) (M : XM) : xru (xlk (pX3_takeFirst Post)) cut WW (n + 1) 0 L st M = j_ild 2 1 0 L st M (xkk (xlk (pX3_takeFirst Post)) cut WW n) := (rfl)
theorem fX3_takeFirst_1 (Post : XPo) (cut : List Nat) (WW : XK) (n : Nat) (L : XLs) (st : List XV) (M : XM) : xru (xlk (pX3_takeFirst Post)) cut WW (n + 1) 1 L st M = j_ald 0 1 1 L st M (xkk (xlk (pX3_takeFirst Post)) cut WW n) := (rfl)
theorem fX3_takeFirst_2 (Post : XPo) (cut : List Nat) (WW : XK) (n : Nat) (L : XLs) (st : List XV) (M : XM) : xru (xlk (pX3_takeFirst Post)) cut WW (n + 1) 2 L st M = j_ild 1 1 2 L st M (xkk (xlk (pX3_takeFirst Post)) cut WW n) := (rfl)
theorem fX3_takeFirst_3 (Post : XPo) (cut : List Nat) (WW : XK) (n : Nat) (L : XLs) (st : List XV) (M : XM) : xru (xlk (pX3_takeFirst Post)) cut WW (n + 1) 3 L st M = j_V1 10 sX3_ofKind 3 L st M (xkk (xlk (pX3_takeFirst Post)) cut WW n) := (rfl)
theorem fX3_takeFirst_6 (Post : XPo) (cut : List Nat) (WW : XK) (n : Nat) (L : XLs) (st : List XV) (M : XM) : xru (xlk (pX3_takeFirst Post)) cut WW (n + 1) 6 L st M = j_min 6 L st M (xkk (xlk (pX3_takeFirst Post)) cut WW n) := (rfl)
theorem fX3_takeFirst_9 (Post : XPo) (cut : List Nat) (WW : XK) (n : Nat) (L : XLs) (st : List XV) (M : XM) : xru (xlk (pX3_takeFirst Post)) cut WW (n + 1) 9 L st M = j_ist 4 2 9 L st M (xkk (xlk (pX3_takeFirst Post)) cut WW n) := (rfl)
theorem fX3_takeFirst_11 (Post : XPo) (cut : List Nat) (WW : XK) (n : Nat) (L : XLs) (st : List XV) (M : XM) : xru (xlk (pX3_takeFirst Post)) cut WW (n + 1) 11 L st M = j_c 0 1 11 L st M (xkk (xlk (pX3_takeFirst Post)) cut WW n) := (rfl)
theorem fX3_takeFirst_12 (Post : XPo) (cut : List Nat) (WW : XK) (n : Nat) (L : XLs) (st : List XV) (M : XM) : xru (xlk (pX3_takeFirst Post)) cut WW (n + 1) 12 L st M = j_ist 5 2 12 L st M (xkk (xlk (pX3_takeFirst Post)) cut WW n) := (rfl)
theorem fX3_takeFirst_14 (Post : XPo) (cut : List Nat) (WW : XK) (n : Nat) (L : XLs) (st : List XV) (M : XM) : xru (xlk (pX3_takeFirst Post)) cut WW (n + 1) 14 L st M = j_c 63 2 14 L st M (xkk (xlk (pX3_takeFirst Post)) cut WW n) := (rfl)
theorem fX3_takeFirst_16 (Post : XPo) (cut : List Nat) (WW : XK) (n : Nat) (L : XLs) (st : List XV) (M : XM) : xru (xlk (pX3_takeFirst Post)) cut WW (n + 1) 16 L st M = j_ist 6 2 16 L st M (xkk (xlk (pX3_takeFirst Post)) cut WW n) := (rfl)
theorem fX3_takeFirst_18 (Post : XPo) (cut : List Nat) (WW : XK) (n : Nat) (L : XLs) (st : List XV) (M : XM) : xru (xlk (pX3_takeFirst Post)) cut WW (n + 1) 18 L st M = j_ild 6 2 18 L st M (xkk (xlk (pX3_takeFirst Post)) cut WW n) := (rfl)
theorem fX3_takeFirst_20 (Post : XPo) (cut : List Nat) (WW : XK) (n : Nat) (L : XLs) (st : List XV) (M : XM) : xru (xlk (pX3_takeFirst Post)) cut WW (n + 1) 20 L st M = j_lt 86 20 L st M (xkk (xlk (pX3_takeFirst Post)) cut WW n) := (rfl)
theorem fX3_takeFirst_23 (Post : XPo) (cut : List Nat) (WW : XK) (n : Nat) (L : XLs) (st : List XV) (M : XM) : xru (xlk (pX3_takeFirst Post)) cut WW (n + 1) 23 L st M = j_ild 5 2 23 L st M (xkk (xlk (pX3_takeFirst Post)) cut WW n) := (rfl)
theorem fX3_takeFirst_25 (Post : XPo) (cut : List Nat) (WW : XK) (n : Nat) (L : XLs) (st : List XV) (M : XM) : xru (xlk (pX3_takeFirst Post)) cut WW (n + 1) 25 L st M = j_ild 4 2 25 L st M (xkk (xlk (pX3_takeFirst Post)) cut WW n) := (rfl)
theorem fX3_takeFirst_27 (Post : XPo) (cut : List Nat) (WW : XK) (n : Nat) (L : XLs) (st : List XV) (M : XM) : xru (xlk (pX3_takeFirst Post)) cut WW (n + 1) 27 L st M = j_ige 86 27 L st M (xkk (xlk (pX3_takeFirst Post)) cut WW n) := (rfl)
theorem fX3_takeFirst_30 (Post : XPo) (cut : List Nat) (WW : XK) (n : Nat) (L : XLs) (st : List XV) (M : XM) : xru (xlk (pX3_takeFirst Post)) cut WW (n + 1) 30 L st M = j_c 0 1 30 L st M (xkk (xlk (pX3_takeFirst Post)) cut WW n) := (rfl)
theorem fX3_takeFirst_31 (Post : XPo) (cut : List Nat) (WW : XK) (n : Nat) (L : XLs) (st : List XV) (M : XM) : xru (xlk (pX3_takeFirst Post)) cut WW (n + 1) 31 L st M = j_ist 7 2 31 L st M (xkk (xlk (pX3_takeFirst Post)) cut WW n) := (rfl)
theorem fX3_takeFirst_33 (Post : XPo) (cut : List Nat) (WW : XK) (n : Nat) (L : XLs) (st : List XV) (M : XM) : xru (xlk (pX3_takeFirst Post)) cut WW (n + 1) 33 L st M = j_ild 7 2 33 L st M (xkk (xlk (pX3_takeFirst Post)) cut WW n) := (rfl)
theorem fX3_takeFirst_35 (Post : XPo) (cut : List Nat) (WW : XK) (n : Nat) (L : XLs) (st : List XV) (M : XM) : xru (xlk (pX3_takeFirst Post)) cut WW (n + 1) 35 L st M = j_c 3 1 35 L st M (xkk (xlk (pX3_takeFirst Post)) cut WW n) := (rfl)
theorem fX3_takeFirst_36 (Post : XPo) (cut : List Nat) (WW : XK) (n : Nat) (L : XLs) (st : List XV) (M : XM) : xru (xlk (pX3_takeFirst Post)) cut WW (n + 1) 36 L st M = j_ige 80 36 L st M (xkk (xlk (pX3_takeFirst Post)) cut WW n) := (rfl)
theorem fX3_takeFirst_39 (Post : XPo) (cut : List Nat) (WW : XK) (n : Nat) (L : XLs) (st : List XV) (M : XM) : xru (xlk (pX3_takeFirst Post)) cut WW (n + 1) 39 L st M = j_ild 7 2 39 L st M (xkk (xlk (pX3_takeFirst Post)) cut WW n) := (rfl)
theorem fX3_takeFirst_41 (Post : XPo) (cut : List Nat) (WW : XK) (n : Nat) (L : XLs) (st : List XV) (M : XM) : xru (xlk (pX3_takeFirst Post)) cut WW (n + 1) 41 L st M = j_c 1 1 41 L st M (xkk (xlk (pX3_takeFirst Post)) cut WW n) := (rfl)
theorem fX3_takeFirst_42 (Post : XPo) (cut : List Nat) (WW : XK) (n : Nat) (L : XLs) (st : List XV) (M : XM) : xru (xlk (pX3_takeFirst Post)) cut WW (n + 1) 42 L st M = j_ine 49 42 L st M (xkk (xlk (pX3_takeFirst Post)) cut WW n) := (rfl)
theorem fX3_takeFirst_45 (Post : XPo) (cut : List Nat) (WW : XK) (n : Nat) (L : XLs) (st : List XV) (M : XM) : xru (xlk (pX3_takeFirst Post)) cut WW (n + 1) 45 L st M = j_c 1 1 45 L st M (xkk (xlk (pX3_takeFirst Post)) cut WW n) := (rfl)
theorem fX3_takeFirst_46 (Post : XPo) (cut : List Nat) (WW : XK) (n : Nat) (L : XLs) (st : List XV) (M : XM) : xru (xlk (pX3_takeFirst Post)) cut WW (n + 1) 46 L st M = j_goto 50 46 L st M (xkk (xlk (pX3_takeFirst Post)) cut WW n) := (rfl)
theorem fX3_takeFirst_49 (Post : XPo) (cut : List Nat) (WW : XK) (n : Nat) (L : XLs) (st : List XV) (M : XM) : xru (xlk (pX3_takeFirst Post)) cut WW (n + 1) 49 L st M = j_c 0 1 49 L st M (xkk (xlk (pX3_takeFirst Post)) cut WW n) := (rfl)
theorem fX3_takeFirst_50 (Post : XPo) (cut : List Nat) (WW : XK) (n : Nat) (L : XLs) (st : List XV) (M : XM) : xru (xlk (pX3_takeFirst Post)) cut WW (n + 1) 50 L st M = j_ild 1 1 50 L st M (xkk (xlk (pX3_takeFirst Post)) cut WW n) := (rfl)
theorem fX3_takeFirst_51 (Post : XPo) (cut : List Nat) (WW : XK) (n : Nat) (L : XLs) (st : List XV) (M : XM) : xru (xlk (pX3_takeFirst Post)) cut WW (n + 1) 51 L st M = j_ine 74 51 L st M (xkk (xlk (pX3_takeFirst Post)) cut WW n) := (rfl)
theorem fX3_takeFirst_54 (Post : XPo) (cut : List Nat) (WW : XK) (n : Nat) (L : XLs) (st : List XV) (M : XM) : xru (xlk (pX3_takeFirst Post)) cut WW (n + 1) 54 L st M = j_ild 5 2 54 L st M (xkk (xlk (pX3_takeFirst Post)) cut WW n) := (rfl)
theorem fX3_takeFirst_56 (Post : XPo) (cut : List Nat) (WW : XK) (n : Nat) (L : XLs) (st : List XV) (M : XM) : xru (xlk (pX3_takeFirst Post)) cut WW (n + 1) 56 L st M = j_ald 0 1 56 L st M (xkk (xlk (pX3_takeFirst Post)) cut WW n) := (rfl)
theorem fX3_takeFirst_57 (Post : XPo) (cut : List Nat) (WW : XK) (n : Nat) (L : XLs) (st : List XV) (M : XM) : xru (xlk (pX3_takeFirst Post)) cut WW (n + 1) 57 L st M = j_ild 7 2 57 L st M (xkk (xlk (pX3_takeFirst Post)) cut WW n) := (rfl)
theorem fX3_takeFirst_59 (Post : XPo) (cut : List Nat) (WW : XK) (n : Nat) (L : XLs) (st : List XV) (M : XM) : xru (xlk (pX3_takeFirst Post)) cut WW (n + 1) 59 L st M = j_ild 3 1 59 L st M (xkk (xlk (pX3_takeFirst Post)) cut WW n) := (rfl)
theorem fX3_takeFirst_60 (Post : XPo) (cut : List Nat) (WW : XK) (n : Nat) (L : XLs) (st : List XV) (M : XM) : xru (xlk (pX3_takeFirst Post)) cut WW (n + 1) 60 L st M = j_ild 6 2 60 L st M (xkk (xlk (pX3_takeFirst Post)) cut WW n) := (rfl)
theorem fX3_takeFirst_62 (Post : XPo) (cut : List Nat) (WW : XK) (n : Nat) (L : XLs) (st : List XV) (M : XM) : xru (xlk (pX3_takeFirst Post)) cut WW (n + 1) 62 L st M = j_sub 62 L st M (xkk (xlk (pX3_takeFirst Post)) cut WW n) := (rfl)
theorem fX3_takeFirst_63 (Post : XPo) (cut : List Nat) (WW : XK) (n : Nat) (L : XLs) (st : List XV) (M : XM) : xru (xlk (pX3_takeFirst Post)) cut WW (n + 1) 63 L st M = j_ild 4 2 63 L st M (xkk (xlk (pX3_takeFirst Post)) cut WW n) := (rfl)
theorem fX3_takeFirst_65 (Post : XPo) (cut : List Nat) (WW : XK) (n : Nat) (L : XLs) (st : List XV) (M : XM) : xru (xlk (pX3_takeFirst Post)) cut WW (n + 1) 65 L st M = j_ild 5 2 65 L st M (xkk (xlk (pX3_takeFirst Post)) cut WW n) := (rfl)
theorem fX3_takeFirst_67 (Post : XPo) (cut : List Nat) (WW : XK) (n : Nat) (L : XLs) (st : List XV) (M : XM) : xru (xlk (pX3_takeFirst Post)) cut WW (n + 1) 67 L st M = j_sub 67 L st M (xkk (xlk (pX3_takeFirst Post)) cut WW n) := (rfl)
theorem fX3_takeFirst_68 (Post : XPo) (cut : List Nat) (WW : XK) (n : Nat) (L : XLs) (st : List XV) (M : XM) : xru (xlk (pX3_takeFirst Post)) cut WW (n + 1) 68 L st M = j_V3 10 sX3_take 68 L st M (xkk (xlk (pX3_takeFirst Post)) cut WW n) := (rfl)
theorem fX3_takeFirst_71 (Post : XPo) (cut : List Nat) (WW : XK) (n : Nat) (L : XLs) (st : List XV) (M : XM) : xru (xlk (pX3_takeFirst Post)) cut WW (n + 1) 71 L st M = j_add 71 L st M (xkk (xlk (pX3_takeFirst Post)) cut WW n) := (rfl)
theorem fX3_takeFirst_72 (Post : XPo) (cut : List Nat) (WW : XK) (n : Nat) (L : XLs) (st : List XV) (M : XM) : xru (xlk (pX3_takeFirst Post)) cut WW (n + 1) 72 L st M = j_ist 5 2 72 L st M (xkk (xlk (pX3_takeFirst Post)) cut WW n) := (rfl)
theorem fX3_takeFirst_74 (Post : XPo) (cut : List Nat) (WW : XK) (n : Nat) (L : XLs) (st : List XV) (M : XM) : xru (xlk (pX3_takeFirst Post)) cut WW (n + 1) 74 L st M = j_inc 7 1 74 L st M (xkk (xlk (pX3_takeFirst Post)) cut WW n) := (rfl)
theorem fX3_takeFirst_77 (Post : XPo) (cut : List Nat) (WW : XK) (n : Nat) (L : XLs) (st : List XV) (M : XM) : xru (xlk (pX3_takeFirst Post)) cut WW (n + 1) 77 L st M = j_goto 33 77 L st M (xkk (xlk (pX3_takeFirst Post)) cut WW n) := (rfl)
theorem fX3_takeFirst_80 (Post : XPo) (cut : List Nat) (WW : XK) (n : Nat) (L : XLs) (st : List XV) (M : XM) : xru (xlk (pX3_takeFirst Post)) cut WW (n + 1) 80 L st M = j_inc 6 (-1) 80 L st M (xkk (xlk (pX3_takeFirst Post)) cut WW n) := (rfl)
theorem fX3_takeFirst_83 (Post : XPo) (cut : List Nat) (WW : XK) (n : Nat) (L : XLs) (st : List XV) (M : XM) : xru (xlk (pX3_takeFirst Post)) cut WW (n + 1) 83 L st M = j_goto 18 83 L st M (xkk (xlk (pX3_takeFirst Post)) cut WW n) := (rfl)
theorem fX3_takeFirst_86 (Post : XPo) (cut : List Nat) (WW : XK) (n : Nat) (L : XLs) (st : List XV) (M : XM) : xru (xlk (pX3_takeFirst Post)) cut WW (n + 1) 86 L st M = j_ild 5 2 86 L st M (xkk (xlk (pX3_takeFirst Post)) cut WW n) := (rfl)
theorem fX3_takeFirst_88 (Post : XPo) (cut : List Nat) (WW : XK) (n : Nat) (L : XLs) (st : List XV) (M : XM) : xru (xlk (pX3_takeFirst Post)) cut WW (n + 1) 88 L st M = j_iret Post 88 L st M (xkk (xlk (pX3_takeFirst Post)) cut WW n) := (rfl)
set_option maxRecDepth 100000 in
theorem kX3_takeFirst_loop {Post : XPo} {WW : XK} (hC : XCl (xlk (pX3_takeFirst Post)) WW) {M : XM} {i j meat w0 now most : Int} (hv : xval 10 i j) (hm : meat = 0 ∨ meat = 1) (hmost : 0 ≤ most ∧ most ≤ 1000000000) : ∀ (n : Nat) (tk : Int) (S : Int → Int) (x7 : Option XV), n ≤ 64 → sOK S → 0 ≤ tk → tk ≤ most → Post [xI (most - (tkL (agL (dkL meat) now n) S (most - tk)).2)] (mset M i j (tkL (agL (dkL meat) now n) S (most - tk)).1) →
    WW 18 [some (xR 10 i j), some (xI meat), some (xI w0), some (xI now), some (xI most), some (xI tk), some (xI ((n : Int) - 1)), x7] [] (mset M i j S) := by
  intro n
  induction n with
  | zero =>
    intro tk S x7 hn hS h0 h1 h
    have e : most - (most - tk) = tk := by omega
    simp only [agL, tkL, e] at h
    refine xru_ok hC [18] 40 _ _ _ _ ?_
    simp only [xkk_ap, Int.reduceEq, Int.reduceLT, Int.reduceLE, Int.reduceNeg, Int.reduceAdd, Int.reduceSub, Int.reduceMul, and_self, false_and, and_false, not_true_eq_false, not_false_eq_true, true_implies, false_implies, xq0, xq1, xq2, xq3, xq4, xq5, xqR, xq1R, xq3R, xt1, xt2, xt3, List.mem_cons, List.not_mem_nil, or_false, false_or, or_self, if_false, if_true, reduceIte, reduceCtorEq, xent, xen, List.length_cons, List.length_nil, List.replicate, j_c, j_cJ, j_ild, j_ald, j_lld, j_ist, j_ast, j_lst, j_inc, j_add, j_sub, j_mul, j_neg, j_div, j_rem, j_and, j_shr, j_shl1, j_or, j_ladd, j_lsub, j_lmul, j_i2l, j_lcmp, j_i2c, j_dup, j_dup2, j_pop, j_goto, j_ieq, j_ine, j_ilt, j_ige, j_igt, j_ile, j_eq, j_ne, j_lt, j_ge, j_gt, j_le, xsw, j_tsw, j_gI, j_gJ, j_gR, j_pI, j_pJ, j_gs, j_iald, j_iast, j_cald, j_cast, j_aald, j_cpy, j_min, j_max, j_abs, j_iret, j_zret, j_lret, j_dret, j_ret0, j_V0, j_V1, j_V2, j_V3, j_V4, j_V5, j_S1, j_S2, j_S3, xget, xset, xset2, xclr, xc1, xcat, Nat.reduceAdd, Nat.reduceEqDiff, Nat.reduceLT, Nat.reduceLeDiff, Nat.reduceMul, List.cons_append, List.nil_append, true_and, and_true, List.singleton_append, fX3_takeFirst_0, fX3_takeFirst_1, fX3_takeFirst_2, fX3_takeFirst_3, fX3_takeFirst_6, fX3_takeFirst_9, fX3_takeFirst_11, fX3_takeFirst_12, fX3_takeFirst_14, fX3_takeFirst_16, fX3_takeFirst_18, fX3_takeFirst_20, fX3_takeFirst_23, fX3_takeFirst_25, fX3_takeFirst_27, fX3_takeFirst_30, fX3_takeFirst_31, fX3_takeFirst_33, fX3_takeFirst_35, fX3_takeFirst_36, fX3_takeFirst_39, fX3_takeFirst_41, fX3_takeFirst_42, fX3_takeFirst_45, fX3_takeFirst_46, fX3_takeFirst_49, fX3_takeFirst_50, fX3_takeFirst_51, fX3_takeFirst_54, fX3_takeFirst_56, fX3_takeFirst_57, fX3_takeFirst_59, fX3_takeFirst_60, fX3_takeFirst_62, fX3_takeFirst_63, fX3_takeFirst_65, fX3_takeFirst_67, fX3_takeFirst_68, fX3_takeFirst_71, fX3_takeFirst_72, fX3_takeFirst_74, fX3_takeFirst_77, fX3_takeFirst_80, fX3_takeFirst_83, fX3_takeFirst_86, fX3_takeFirst_88, sX3_ofKind, sX3_take, hv, Int.ofNat_zero, Int.natCast_zero]
    exact ⟨xr_c rfl, h⟩
  | succ n ih =>
    intro tk S x7 hn hS h0 h1 h
    have ea : ((n + 1 : Nat) : Int) - 1 = (n : Int) := by omega
    rw [ea]
    obtain ⟨a, hae⟩ : ∃ a : Int, a = (n : Int) := ⟨_, rfl⟩
    have hr1 : XInR a := ⟨by omega, by omega⟩
    have hr2 : XInR tk := ⟨by omega, by omega⟩
    have hr3 : XInR most := ⟨by omega, by omega⟩
    rw [← hae]
    simp only [agL, ← hae] at h
    have ha0 : ¬ a < 0 := by omega
    by_cases hlt : tk < most
    · have hlt2 : ¬ most ≤ tk := by omega
      have hr4 : XInR (most - tk) := ⟨by omega, by omega⟩
      refine xru_ok hC [18, 33] 40 _ _ _ _ ?_
      simp only [xkk_ap, Int.reduceEq, Int.reduceLT, Int.reduceLE, Int.reduceNeg, Int.reduceAdd, Int.reduceSub, Int.reduceMul, and_self, false_and, and_false, not_true_eq_false, not_false_eq_true, true_implies, false_implies, xq0, xq1, xq2, xq3, xq4, xq5, xqR, xq1R, xq3R, xt1, xt2, xt3, List.mem_cons, List.not_mem_nil, or_false, false_or, or_self, if_false, if_true, reduceIte, reduceCtorEq, xent, xen, List.length_cons, List.length_nil, List.replicate, j_c, j_cJ, j_ild, j_ald, j_lld, j_ist, j_ast, j_lst, j_inc, j_add, j_sub, j_mul, j_neg, j_div, j_rem, j_and, j_shr, j_shl1, j_or, j_ladd, j_lsub, j_lmul, j_i2l, j_lcmp, j_i2c, j_dup, j_dup2, j_pop, j_goto, j_ieq, j_ine, j_ilt, j_ige, j_igt, j_ile, j_eq, j_ne, j_lt, j_ge, j_gt, j_le, xsw, j_tsw, j_gI, j_gJ, j_gR, j_pI, j_pJ, j_gs, j_iald, j_iast, j_cald, j_cast, j_aald, j_cpy, j_min, j_max, j_abs, j_iret, j_zret, j_lret, j_dret, j_ret0, j_V0, j_V1, j_V2, j_V3, j_V4, j_V5, j_S1, j_S2, j_S3, xget, xset, xset2, xclr, xc1, xcat, Nat.reduceAdd, Nat.reduceEqDiff, Nat.reduceLT, Nat.reduceLeDiff, Nat.reduceMul, List.cons_append, List.nil_append, true_and, and_true, List.singleton_append, fX3_takeFirst_0, fX3_takeFirst_1, fX3_takeFirst_2, fX3_takeFirst_3, fX3_takeFirst_6, fX3_takeFirst_9, fX3_takeFirst_11, fX3_takeFirst_12, fX3_takeFirst_14, fX3_takeFirst_16, fX3_takeFirst_18, fX3_takeFirst_20, fX3_takeFirst_23, fX3_takeFirst_25, fX3_takeFirst_27, fX3_takeFirst_30, fX3_takeFirst_31, fX3_takeFirst_33, fX3_takeFirst_35, fX3_takeFirst_36, fX3_takeFirst_39, fX3_takeFirst_41, fX3_takeFirst_42, fX3_takeFirst_45, fX3_takeFirst_46, fX3_takeFirst_49, fX3_takeFirst_50, fX3_takeFirst_51, fX3_takeFirst_54, fX3_takeFirst_56, fX3_takeFirst_57, fX3_takeFirst_59, fX3_takeFirst_60, fX3_takeFirst_62, fX3_takeFirst_63, fX3_takeFirst_65, fX3_takeFirst_67, fX3_takeFirst_68, fX3_takeFirst_71, fX3_takeFirst_72, fX3_takeFirst_74, fX3_takeFirst_77, fX3_takeFirst_80, fX3_takeFirst_83, fX3_takeFirst_86, fX3_takeFirst_88, sX3_ofKind, sX3_take, hv, hr1, hr2, hr3, hr4, hlt, hlt2, ha0]
      rcases hm with rfl | rfl
      · have q0 := sOK_in hS (d := 0) (m := now - a) (by decide) (by decide)
        have q1 : sOK (sup S (mS 0 (now - a)) (S (mS 0 (now - a)) - min (most - tk) (S (mS 0 (now - a))))) := sOK_sup hS (by omega) (by omega)
        have q2 := sOK_in q1 (d := 2) (m := now - a) (by decide) (by decide)
        simp only [dkL, if_true, List.cons_append, List.nil_append, tkL] at h
        refine xru_ok hC [18, 33] 40 _ _ _ _ ?_
        simp only [xkk_ap, Int.reduceEq, Int.reduceLT, Int.reduceLE, Int.reduceNeg, Int.reduceAdd, Int.reduceSub, Int.reduceMul, and_self, false_and, and_false, not_true_eq_false, not_false_eq_true, true_implies, false_implies, xq0, xq1, xq2, xq3, xq4, xq5, xqR, xq1R, xq3R, xt1, xt2, xt3, List.mem_cons, List.not_mem_nil, or_false, false_or, or_self, if_false, if_true, reduceIte, reduceCtorEq, xent, xen, List.length_cons, List.length_nil, List.replicate, j_c, j_cJ, j_ild, j_ald, j_lld, j_ist, j_ast, j_lst, j_inc, j_add, j_sub, j_mul, j_neg, j_div, j_rem, j_and, j_shr, j_shl1, j_or, j_ladd, j_lsub, j_lmul, j_i2l, j_lcmp, j_i2c, j_dup, j_dup2, j_pop, j_goto, j_ieq, j_ine, j_ilt, j_ige, j_igt, j_ile, j_eq, j_ne, j_lt, j_ge, j_gt, j_le, xsw, j_tsw, j_gI, j_gJ, j_gR, j_pI, j_pJ, j_gs, j_iald, j_iast, j_cald, j_cast, j_aald, j_cpy, j_min, j_max, j_abs, j_iret, j_zret, j_lret, j_dret, j_ret0, j_V0, j_V1, j_V2, j_V3, j_V4, j_V5, j_S1, j_S2, j_S3, xget, xset, xset2, xclr, xc1, xcat, Nat.reduceAdd, Nat.reduceEqDiff, Nat.reduceLT, Nat.reduceLeDiff, Nat.reduceMul, List.cons_append, List.nil_append, true_and, and_true, List.singleton_append, fX3_takeFirst_0, fX3_takeFirst_1, fX3_takeFirst_2, fX3_takeFirst_3, fX3_takeFirst_6, fX3_takeFirst_9, fX3_takeFirst_11, fX3_takeFirst_12, fX3_takeFirst_14, fX3_takeFirst_16, fX3_takeFirst_18, fX3_takeFirst_20, fX3_takeFirst_23, fX3_takeFirst_25, fX3_takeFirst_27, fX3_takeFirst_30, fX3_takeFirst_31, fX3_takeFirst_33, fX3_takeFirst_35, fX3_takeFirst_36, fX3_takeFirst_39, fX3_takeFirst_41, fX3_takeFirst_42, fX3_takeFirst_45, fX3_takeFirst_46, fX3_takeFirst_49, fX3_takeFirst_50, fX3_takeFirst_51, fX3_takeFirst_54, fX3_takeFirst_56, fX3_takeFirst_57, fX3_takeFirst_59, fX3_takeFirst_60, fX3_takeFirst_62, fX3_takeFirst_63, fX3_takeFirst_65, fX3_takeFirst_67, fX3_takeFirst_68, fX3_takeFirst_71, fX3_takeFirst_72, fX3_takeFirst_74, fX3_takeFirst_77, fX3_takeFirst_80, fX3_takeFirst_83, fX3_takeFirst_86, fX3_takeFirst_88, sX3_ofKind, sX3_take, hv, hr1, hr2, hr3, hr4, xr_c (n := 0) rfl, xr_c (n := 1) rfl, xr_c (n := 2) rfl, xr_c (n := 3) rfl, mTake, mV, mI_mset, mset_11, mset_mset, q0.1]
        obtain ⟨v0, hv0⟩ : ∃ v : Int, v = min (most - tk) (S (mS 0 (now - a))) := ⟨_, rfl⟩
        simp only [← hv0] at h q1 q2 ⊢
        refine xru_ok hC [18, 33] 40 _ _ _ _ ?_
        simp only [xkk_ap, Int.reduceEq, Int.reduceLT, Int.reduceLE, Int.reduceNeg, Int.reduceAdd, Int.reduceSub, Int.reduceMul, and_self, false_and, and_false, not_true_eq_false, not_false_eq_true, true_implies, false_implies, xq0, xq1, xq2, xq3, xq4, xq5, xqR, xq1R, xq3R, xt1, xt2, xt3, List.mem_cons, List.not_mem_nil, or_false, false_or, or_self, if_false, if_true, reduceIte, reduceCtorEq, xent, xen, List.length_cons, List.length_nil, List.replicate, j_c, j_cJ, j_ild, j_ald, j_lld, j_ist, j_ast, j_lst, j_inc, j_add, j_sub, j_mul, j_neg, j_div, j_rem, j_and, j_shr, j_shl1, j_or, j_ladd, j_lsub, j_lmul, j_i2l, j_lcmp, j_i2c, j_dup, j_dup2, j_pop, j_goto, j_ieq, j_ine, j_ilt, j_ige, j_igt, j_ile, j_eq, j_ne, j_lt, j_ge, j_gt, j_le, xsw, j_tsw, j_gI, j_gJ, j_gR, j_pI, j_pJ, j_gs, j_iald, j_iast, j_cald, j_cast, j_aald, j_cpy, j_min, j_max, j_abs, j_iret, j_zret, j_lret, j_dret, j_ret0, j_V0, j_V1, j_V2, j_V3, j_V4, j_V5, j_S1, j_S2, j_S3, xget, xset, xset2, xclr, xc1, xcat, Nat.reduceAdd, Nat.reduceEqDiff, Nat.reduceLT, Nat.reduceLeDiff, Nat.reduceMul, List.cons_append, List.nil_append, true_and, and_true, List.singleton_append, fX3_takeFirst_0, fX3_takeFirst_1, fX3_takeFirst_2, fX3_takeFirst_3, fX3_takeFirst_6, fX3_takeFirst_9, fX3_takeFirst_11, fX3_takeFirst_12, fX3_takeFirst_14, fX3_takeFirst_16, fX3_takeFirst_18, fX3_takeFirst_20, fX3_takeFirst_23, fX3_takeFirst_25, fX3_takeFirst_27, fX3_takeFirst_30, fX3_takeFirst_31, fX3_takeFirst_33, fX3_takeFirst_35, fX3_takeFirst_36, fX3_takeFirst_39, fX3_takeFirst_41, fX3_takeFirst_42, fX3_takeFirst_45, fX3_takeFirst_46, fX3_takeFirst_49, fX3_takeFirst_50, fX3_takeFirst_51, fX3_takeFirst_54, fX3_takeFirst_56, fX3_takeFirst_57, fX3_takeFirst_59, fX3_takeFirst_60, fX3_takeFirst_62, fX3_takeFirst_63, fX3_takeFirst_65, fX3_takeFirst_67, fX3_takeFirst_68, fX3_takeFirst_71, fX3_takeFirst_72, fX3_takeFirst_74, fX3_takeFirst_77, fX3_takeFirst_80, fX3_takeFirst_83, fX3_takeFirst_86, fX3_takeFirst_88, sX3_ofKind, sX3_take, hv, xr_c (n := 0) rfl, xr_c (n := 1) rfl, xr_c (n := 2) rfl, xr_c (n := 3) rfl]
        have hr5 : XInR (most - (tk + v0)) := ⟨by omega, by omega⟩
        obtain ⟨S1, hS1⟩ : ∃ S1 : Int → Int, S1 = sup S (mS 0 (now - a)) (S (mS 0 (now - a)) - v0) := ⟨_, rfl⟩
        simp only [← hS1] at h q1 q2 ⊢
        have q3 : sOK (sup S1 (mS 2 (now - a)) (S1 (mS 2 (now - a)) - min (most - (tk + v0)) (S1 (mS 2 (now - a))))) := sOK_sup q1 (by omega) (by omega)
        refine xru_ok hC [18, 33] 40 _ _ _ _ ?_
        simp only [xkk_ap, Int.reduceEq, Int.reduceLT, Int.reduceLE, Int.reduceNeg, Int.reduceAdd, Int.reduceSub, Int.reduceMul, and_self, false_and, and_false, not_true_eq_false, not_false_eq_true, true_implies, false_implies, xq0, xq1, xq2, xq3, xq4, xq5, xqR, xq1R, xq3R, xt1, xt2, xt3, List.mem_cons, List.not_mem_nil, or_false, false_or, or_self, if_false, if_true, reduceIte, reduceCtorEq, xent, xen, List.length_cons, List.length_nil, List.replicate, j_c, j_cJ, j_ild, j_ald, j_lld, j_ist, j_ast, j_lst, j_inc, j_add, j_sub, j_mul, j_neg, j_div, j_rem, j_and, j_shr, j_shl1, j_or, j_ladd, j_lsub, j_lmul, j_i2l, j_lcmp, j_i2c, j_dup, j_dup2, j_pop, j_goto, j_ieq, j_ine, j_ilt, j_ige, j_igt, j_ile, j_eq, j_ne, j_lt, j_ge, j_gt, j_le, xsw, j_tsw, j_gI, j_gJ, j_gR, j_pI, j_pJ, j_gs, j_iald, j_iast, j_cald, j_cast, j_aald, j_cpy, j_min, j_max, j_abs, j_iret, j_zret, j_lret, j_dret, j_ret0, j_V0, j_V1, j_V2, j_V3, j_V4, j_V5, j_S1, j_S2, j_S3, xget, xset, xset2, xclr, xc1, xcat, Nat.reduceAdd, Nat.reduceEqDiff, Nat.reduceLT, Nat.reduceLeDiff, Nat.reduceMul, List.cons_append, List.nil_append, true_and, and_true, List.singleton_append, fX3_takeFirst_0, fX3_takeFirst_1, fX3_takeFirst_2, fX3_takeFirst_3, fX3_takeFirst_6, fX3_takeFirst_9, fX3_takeFirst_11, fX3_takeFirst_12, fX3_takeFirst_14, fX3_takeFirst_16, fX3_takeFirst_18, fX3_takeFirst_20, fX3_takeFirst_23, fX3_takeFirst_25, fX3_takeFirst_27, fX3_takeFirst_30, fX3_takeFirst_31, fX3_takeFirst_33, fX3_takeFirst_35, fX3_takeFirst_36, fX3_takeFirst_39, fX3_takeFirst_41, fX3_takeFirst_42, fX3_takeFirst_45, fX3_takeFirst_46, fX3_takeFirst_49, fX3_takeFirst_50, fX3_takeFirst_51, fX3_takeFirst_54, fX3_takeFirst_56, fX3_takeFirst_57, fX3_takeFirst_59, fX3_takeFirst_60, fX3_takeFirst_62, fX3_takeFirst_63, fX3_takeFirst_65, fX3_takeFirst_67, fX3_takeFirst_68, fX3_takeFirst_71, fX3_takeFirst_72, fX3_takeFirst_74, fX3_takeFirst_77, fX3_takeFirst_80, fX3_takeFirst_83, fX3_takeFirst_86, fX3_takeFirst_88, sX3_ofKind, sX3_take, hv, hr5, xr_c (n := 0) rfl, xr_c (n := 1) rfl, xr_c (n := 2) rfl, xr_c (n := 3) rfl, mTake, mV, mI_mset, mset_11, mset_mset, q2.1]
        refine xru_ok hC [18, 33] 40 _ _ _ _ ?_
        simp only [xkk_ap, Int.reduceEq, Int.reduceLT, Int.reduceLE, Int.reduceNeg, Int.reduceAdd, Int.reduceSub, Int.reduceMul, and_self, false_and, and_false, not_true_eq_false, not_false_eq_true, true_implies, false_implies, xq0, xq1, xq2, xq3, xq4, xq5, xqR, xq1R, xq3R, xt1, xt2, xt3, List.mem_cons, List.not_mem_nil, or_false, false_or, or_self, if_false, if_true, reduceIte, reduceCtorEq, xent, xen, List.length_cons, List.length_nil, List.replicate, j_c, j_cJ, j_ild, j_ald, j_lld, j_ist, j_ast, j_lst, j_inc, j_add, j_sub, j_mul, j_neg, j_div, j_rem, j_and, j_shr, j_shl1, j_or, j_ladd, j_lsub, j_lmul, j_i2l, j_lcmp, j_i2c, j_dup, j_dup2, j_pop, j_goto, j_ieq, j_ine, j_ilt, j_ige, j_igt, j_ile, j_eq, j_ne, j_lt, j_ge, j_gt, j_le, xsw, j_tsw, j_gI, j_gJ, j_gR, j_pI, j_pJ, j_gs, j_iald, j_iast, j_cald, j_cast, j_aald, j_cpy, j_min, j_max, j_abs, j_iret, j_zret, j_lret, j_dret, j_ret0, j_V0, j_V1, j_V2, j_V3, j_V4, j_V5, j_S1, j_S2, j_S3, xget, xset, xset2, xclr, xc1, xcat, Nat.reduceAdd, Nat.reduceEqDiff, Nat.reduceLT, Nat.reduceLeDiff, Nat.reduceMul, List.cons_append, List.nil_append, true_and, and_true, List.singleton_append, fX3_takeFirst_0, fX3_takeFirst_1, fX3_takeFirst_2, fX3_takeFirst_3, fX3_takeFirst_6, fX3_takeFirst_9, fX3_takeFirst_11, fX3_takeFirst_12, fX3_takeFirst_14, fX3_takeFirst_16, fX3_takeFirst_18, fX3_takeFirst_20, fX3_takeFirst_23, fX3_takeFirst_25, fX3_takeFirst_27, fX3_takeFirst_30, fX3_takeFirst_31, fX3_takeFirst_33, fX3_takeFirst_35, fX3_takeFirst_36, fX3_takeFirst_39, fX3_takeFirst_41, fX3_takeFirst_42, fX3_takeFirst_45, fX3_takeFirst_46, fX3_takeFirst_49, fX3_takeFirst_50, fX3_takeFirst_51, fX3_takeFirst_54, fX3_takeFirst_56, fX3_takeFirst_57, fX3_takeFirst_59, fX3_takeFirst_60, fX3_takeFirst_62, fX3_takeFirst_63, fX3_takeFirst_65, fX3_takeFirst_67, fX3_takeFirst_68, fX3_takeFirst_71, fX3_takeFirst_72, fX3_takeFirst_74, fX3_takeFirst_77, fX3_takeFirst_80, fX3_takeFirst_83, fX3_takeFirst_86, fX3_takeFirst_88, sX3_ofKind, sX3_take, hv, xr_c (n := 0) rfl, xr_c (n := 1) rfl, xr_c (n := 2) rfl, xr_c (n := 3) rfl]
        simp only [Int.sub_sub] at h
        have hb := ih (tk + v0 + min (most - (tk + v0)) (S1 (mS 2 (now - a)))) _ (some (xI 3)) (by omega) q3 (by omega) (by omega) h
        rw [← hae] at hb
        exact hb
      · have q0 := sOK_in hS (d := 1) (m := now - a) (by decide) (by decide)
        have q1 : sOK (sup S (mS 1 (now - a)) (S (mS 1 (now - a)) - min (most - tk) (S (mS 1 (now - a))))) := sOK_sup hS (by omega) (by omega)
        simp only [dkL, if_false, Int.reduceEq, List.cons_append, List.nil_append, tkL] at h
        refine xru_ok hC [18, 33] 40 _ _ _ _ ?_
        simp only [xkk_ap, Int.reduceEq, Int.reduceLT, Int.reduceLE, Int.reduceNeg, Int.reduceAdd, Int.reduceSub, Int.reduceMul, and_self, false_and, and_false, not_true_eq_false, not_false_eq_true, true_implies, false_implies, xq0, xq1, xq2, xq3, xq4, xq5, xqR, xq1R, xq3R, xt1, xt2, xt3, List.mem_cons, List.not_mem_nil, or_false, false_or, or_self, if_false, if_true, reduceIte, reduceCtorEq, xent, xen, List.length_cons, List.length_nil, List.replicate, j_c, j_cJ, j_ild, j_ald, j_lld, j_ist, j_ast, j_lst, j_inc, j_add, j_sub, j_mul, j_neg, j_div, j_rem, j_and, j_shr, j_shl1, j_or, j_ladd, j_lsub, j_lmul, j_i2l, j_lcmp, j_i2c, j_dup, j_dup2, j_pop, j_goto, j_ieq, j_ine, j_ilt, j_ige, j_igt, j_ile, j_eq, j_ne, j_lt, j_ge, j_gt, j_le, xsw, j_tsw, j_gI, j_gJ, j_gR, j_pI, j_pJ, j_gs, j_iald, j_iast, j_cald, j_cast, j_aald, j_cpy, j_min, j_max, j_abs, j_iret, j_zret, j_lret, j_dret, j_ret0, j_V0, j_V1, j_V2, j_V3, j_V4, j_V5, j_S1, j_S2, j_S3, xget, xset, xset2, xclr, xc1, xcat, Nat.reduceAdd, Nat.reduceEqDiff, Nat.reduceLT, Nat.reduceLeDiff, Nat.reduceMul, List.cons_append, List.nil_append, true_and, and_true, List.singleton_append, fX3_takeFirst_0, fX3_takeFirst_1, fX3_takeFirst_2, fX3_takeFirst_3, fX3_takeFirst_6, fX3_takeFirst_9, fX3_takeFirst_11, fX3_takeFirst_12, fX3_takeFirst_14, fX3_takeFirst_16, fX3_takeFirst_18, fX3_takeFirst_20, fX3_takeFirst_23, fX3_takeFirst_25, fX3_takeFirst_27, fX3_takeFirst_30, fX3_takeFirst_31, fX3_takeFirst_33, fX3_takeFirst_35, fX3_takeFirst_36, fX3_takeFirst_39, fX3_takeFirst_41, fX3_takeFirst_42, fX3_takeFirst_45, fX3_takeFirst_46, fX3_takeFirst_49, fX3_takeFirst_50, fX3_takeFirst_51, fX3_takeFirst_54, fX3_takeFirst_56, fX3_takeFirst_57, fX3_takeFirst_59, fX3_takeFirst_60, fX3_takeFirst_62, fX3_takeFirst_63, fX3_takeFirst_65, fX3_takeFirst_67, fX3_takeFirst_68, fX3_takeFirst_71, fX3_takeFirst_72, fX3_takeFirst_74, fX3_takeFirst_77, fX3_takeFirst_80, fX3_takeFirst_83, fX3_takeFirst_86, fX3_takeFirst_88, sX3_ofKind, sX3_take, hv, xr_c (n := 0) rfl, xr_c (n := 1) rfl, xr_c (n := 2) rfl, xr_c (n := 3) rfl]
        refine xru_ok hC [18, 33] 40 _ _ _ _ ?_
        simp only [xkk_ap, Int.reduceEq, Int.reduceLT, Int.reduceLE, Int.reduceNeg, Int.reduceAdd, Int.reduceSub, Int.reduceMul, and_self, false_and, and_false, not_true_eq_false, not_false_eq_true, true_implies, false_implies, xq0, xq1, xq2, xq3, xq4, xq5, xqR, xq1R, xq3R, xt1, xt2, xt3, List.mem_cons, List.not_mem_nil, or_false, false_or, or_self, if_false, if_true, reduceIte, reduceCtorEq, xent, xen, List.length_cons, List.length_nil, List.replicate, j_c, j_cJ, j_ild, j_ald, j_lld, j_ist, j_ast, j_lst, j_inc, j_add, j_sub, j_mul, j_neg, j_div, j_rem, j_and, j_shr, j_shl1, j_or, j_ladd, j_lsub, j_lmul, j_i2l, j_lcmp, j_i2c, j_dup, j_dup2, j_pop, j_goto, j_ieq, j_ine, j_ilt, j_ige, j_igt, j_ile, j_eq, j_ne, j_lt, j_ge, j_gt, j_le, xsw, j_tsw, j_gI, j_gJ, j_gR, j_pI, j_pJ, j_gs, j_iald, j_iast, j_cald, j_cast, j_aald, j_cpy, j_min, j_max, j_abs, j_iret, j_zret, j_lret, j_dret, j_ret0, j_V0, j_V1, j_V2, j_V3, j_V4, j_V5, j_S1, j_S2, j_S3, xget, xset, xset2, xclr, xc1, xcat, Nat.reduceAdd, Nat.reduceEqDiff, Nat.reduceLT, Nat.reduceLeDiff, Nat.reduceMul, List.cons_append, List.nil_append, true_and, and_true, List.singleton_append, fX3_takeFirst_0, fX3_takeFirst_1, fX3_takeFirst_2, fX3_takeFirst_3, fX3_takeFirst_6, fX3_takeFirst_9, fX3_takeFirst_11, fX3_takeFirst_12, fX3_takeFirst_14, fX3_takeFirst_16, fX3_takeFirst_18, fX3_takeFirst_20, fX3_takeFirst_23, fX3_takeFirst_25, fX3_takeFirst_27, fX3_takeFirst_30, fX3_takeFirst_31, fX3_takeFirst_33, fX3_takeFirst_35, fX3_takeFirst_36, fX3_takeFirst_39, fX3_takeFirst_41, fX3_takeFirst_42, fX3_takeFirst_45, fX3_takeFirst_46, fX3_takeFirst_49, fX3_takeFirst_50, fX3_takeFirst_51, fX3_takeFirst_54, fX3_takeFirst_56, fX3_takeFirst_57, fX3_takeFirst_59, fX3_takeFirst_60, fX3_takeFirst_62, fX3_takeFirst_63, fX3_takeFirst_65, fX3_takeFirst_67, fX3_takeFirst_68, fX3_takeFirst_71, fX3_takeFirst_72, fX3_takeFirst_74, fX3_takeFirst_77, fX3_takeFirst_80, fX3_takeFirst_83, fX3_takeFirst_86, fX3_takeFirst_88, sX3_ofKind, sX3_take, hv, hr1, hr2, hr3, hr4, xr_c (n := 0) rfl, xr_c (n := 1) rfl, xr_c (n := 2) rfl, xr_c (n := 3) rfl, mTake, mV, mI_mset, mset_11, mset_mset, q0.1]
        refine xru_ok hC [18, 33] 40 _ _ _ _ ?_
        simp only [xkk_ap, Int.reduceEq, Int.reduceLT, Int.reduceLE, Int.reduceNeg, Int.reduceAdd, Int.reduceSub, Int.reduceMul, and_self, false_and, and_false, not_true_eq_false, not_false_eq_true, true_implies, false_implies, xq0, xq1, xq2, xq3, xq4, xq5, xqR, xq1R, xq3R, xt1, xt2, xt3, List.mem_cons, List.not_mem_nil, or_false, false_or, or_self, if_false, if_true, reduceIte, reduceCtorEq, xent, xen, List.length_cons, List.length_nil, List.replicate, j_c, j_cJ, j_ild, j_ald, j_lld, j_ist, j_ast, j_lst, j_inc, j_add, j_sub, j_mul, j_neg, j_div, j_rem, j_and, j_shr, j_shl1, j_or, j_ladd, j_lsub, j_lmul, j_i2l, j_lcmp, j_i2c, j_dup, j_dup2, j_pop, j_goto, j_ieq, j_ine, j_ilt, j_ige, j_igt, j_ile, j_eq, j_ne, j_lt, j_ge, j_gt, j_le, xsw, j_tsw, j_gI, j_gJ, j_gR, j_pI, j_pJ, j_gs, j_iald, j_iast, j_cald, j_cast, j_aald, j_cpy, j_min, j_max, j_abs, j_iret, j_zret, j_lret, j_dret, j_ret0, j_V0, j_V1, j_V2, j_V3, j_V4, j_V5, j_S1, j_S2, j_S3, xget, xset, xset2, xclr, xc1, xcat, Nat.reduceAdd, Nat.reduceEqDiff, Nat.reduceLT, Nat.reduceLeDiff, Nat.reduceMul, List.cons_append, List.nil_append, true_and, and_true, List.singleton_append, fX3_takeFirst_0, fX3_takeFirst_1, fX3_takeFirst_2, fX3_takeFirst_3, fX3_takeFirst_6, fX3_takeFirst_9, fX3_takeFirst_11, fX3_takeFirst_12, fX3_takeFirst_14, fX3_takeFirst_16, fX3_takeFirst_18, fX3_takeFirst_20, fX3_takeFirst_23, fX3_takeFirst_25, fX3_takeFirst_27, fX3_takeFirst_30, fX3_takeFirst_31, fX3_takeFirst_33, fX3_takeFirst_35, fX3_takeFirst_36, fX3_takeFirst_39, fX3_takeFirst_41, fX3_takeFirst_42, fX3_takeFirst_45, fX3_takeFirst_46, fX3_takeFirst_49, fX3_takeFirst_50, fX3_takeFirst_51, fX3_takeFirst_54, fX3_takeFirst_56, fX3_takeFirst_57, fX3_takeFirst_59, fX3_takeFirst_60, fX3_takeFirst_62, fX3_takeFirst_63, fX3_takeFirst_65, fX3_takeFirst_67, fX3_takeFirst_68, fX3_takeFirst_71, fX3_takeFirst_72, fX3_takeFirst_74, fX3_takeFirst_77, fX3_takeFirst_80, fX3_takeFirst_83, fX3_takeFirst_86, fX3_takeFirst_88, sX3_ofKind, sX3_take, hv, xr_c (n := 0) rfl, xr_c (n := 1) rfl, xr_c (n := 2) rfl, xr_c (n := 3) rfl]
        refine xru_ok hC [18, 33] 40 _ _ _ _ ?_
        simp only [xkk_ap, Int.reduceEq, Int.reduceLT, Int.reduceLE, Int.reduceNeg, Int.reduceAdd, Int.reduceSub, Int.reduceMul, and_self, false_and, and_false, not_true_eq_false, not_false_eq_true, true_implies, false_implies, xq0, xq1, xq2, xq3, xq4, xq5, xqR, xq1R, xq3R, xt1, xt2, xt3, List.mem_cons, List.not_mem_nil, or_false, false_or, or_self, if_false, if_true, reduceIte, reduceCtorEq, xent, xen, List.length_cons, List.length_nil, List.replicate, j_c, j_cJ, j_ild, j_ald, j_lld, j_ist, j_ast, j_lst, j_inc, j_add, j_sub, j_mul, j_neg, j_div, j_rem, j_and, j_shr, j_shl1, j_or, j_ladd, j_lsub, j_lmul, j_i2l, j_lcmp, j_i2c, j_dup, j_dup2, j_pop, j_goto, j_ieq, j_ine, j_ilt, j_ige, j_igt, j_ile, j_eq, j_ne, j_lt, j_ge, j_gt, j_le, xsw, j_tsw, j_gI, j_gJ, j_gR, j_pI, j_pJ, j_gs, j_iald, j_iast, j_cald, j_cast, j_aald, j_cpy, j_min, j_max, j_abs, j_iret, j_zret, j_lret, j_dret, j_ret0, j_V0, j_V1, j_V2, j_V3, j_V4, j_V5, j_S1, j_S2, j_S3, xget, xset, xset2, xclr, xc1, xcat, Nat.reduceAdd, Nat.reduceEqDiff, Nat.reduceLT, Nat.reduceLeDiff, Nat.reduceMul, List.cons_append, List.nil_append, true_and, and_true, List.singleton_append, fX3_takeFirst_0, fX3_takeFirst_1, fX3_takeFirst_2, fX3_takeFirst_3, fX3_takeFirst_6, fX3_takeFirst_9, fX3_takeFirst_11, fX3_takeFirst_12, fX3_takeFirst_14, fX3_takeFirst_16, fX3_takeFirst_18, fX3_takeFirst_20, fX3_takeFirst_23, fX3_takeFirst_25, fX3_takeFirst_27, fX3_takeFirst_30, fX3_takeFirst_31, fX3_takeFirst_33, fX3_takeFirst_35, fX3_takeFirst_36, fX3_takeFirst_39, fX3_takeFirst_41, fX3_takeFirst_42, fX3_takeFirst_45, fX3_takeFirst_46, fX3_takeFirst_49, fX3_takeFirst_50, fX3_takeFirst_51, fX3_takeFirst_54, fX3_takeFirst_56, fX3_takeFirst_57, fX3_takeFirst_59, fX3_takeFirst_60, fX3_takeFirst_62, fX3_takeFirst_63, fX3_takeFirst_65, fX3_takeFirst_67, fX3_takeFirst_68, fX3_takeFirst_71, fX3_takeFirst_72, fX3_takeFirst_74, fX3_takeFirst_77, fX3_takeFirst_80, fX3_takeFirst_83, fX3_takeFirst_86, fX3_takeFirst_88, sX3_ofKind, sX3_take, hv, xr_c (n := 0) rfl, xr_c (n := 1) rfl, xr_c (n := 2) rfl, xr_c (n := 3) rfl]
        simp only [Int.sub_sub] at h
        have hb := ih (tk + min (most - tk) (S (mS 1 (now - a)))) _ (some (xI 3)) (by omega) q1 (by omega) (by omega) h
        rw [← hae] at hb
        exact hb
    · have e : most - tk = 0 := by omega
      have hge : most ≤ tk := by omega
      have hL : ∀ x ∈ dkL meat (now - a) ++ agL (dkL meat) now n, 0 ≤ S x := fun x hx => by
        have g := inK_in (agL_mem (f := dkL meat) (now := now) (fun m => dkL_in (meat := meat) m) (n + 1) x (by simpa only [agL, hae] using hx))
        exact (hS x g.1 g.2).1
      rw [e, tkL_0 _ _ hL] at h
      have e2 : most - 0 = tk := by omega
      rw [e2] at h
      refine xru_ok hC [18] 40 _ _ _ _ ?_
      simp only [xkk_ap, Int.reduceEq, Int.reduceLT, Int.reduceLE, Int.reduceNeg, Int.reduceAdd, Int.reduceSub, Int.reduceMul, and_self, false_and, and_false, not_true_eq_false, not_false_eq_true, true_implies, false_implies, xq0, xq1, xq2, xq3, xq4, xq5, xqR, xq1R, xq3R, xt1, xt2, xt3, List.mem_cons, List.not_mem_nil, or_false, false_or, or_self, if_false, if_true, reduceIte, reduceCtorEq, xent, xen, List.length_cons, List.length_nil, List.replicate, j_c, j_cJ, j_ild, j_ald, j_lld, j_ist, j_ast, j_lst, j_inc, j_add, j_sub, j_mul, j_neg, j_div, j_rem, j_and, j_shr, j_shl1, j_or, j_ladd, j_lsub, j_lmul, j_i2l, j_lcmp, j_i2c, j_dup, j_dup2, j_pop, j_goto, j_ieq, j_ine, j_ilt, j_ige, j_igt, j_ile, j_eq, j_ne, j_lt, j_ge, j_gt, j_le, xsw, j_tsw, j_gI, j_gJ, j_gR, j_pI, j_pJ, j_gs, j_iald, j_iast, j_cald, j_cast, j_aald, j_cpy, j_min, j_max, j_abs, j_iret, j_zret, j_lret, j_dret, j_ret0, j_V0, j_V1, j_V2, j_V3, j_V4, j_V5, j_S1, j_S2, j_S3, xget, xset, xset2, xclr, xc1, xcat, Nat.reduceAdd, Nat.reduceEqDiff, Nat.reduceLT, Nat.reduceLeDiff, Nat.reduceMul, List.cons_append, List.nil_append, true_and, and_true, List.singleton_append, fX3_takeFirst_0, fX3_takeFirst_1, fX3_takeFirst_2, fX3_takeFirst_3, fX3_takeFirst_6, fX3_takeFirst_9, fX3_takeFirst_11, fX3_takeFirst_12, fX3_takeFirst_14, fX3_takeFirst_16, fX3_takeFirst_18, fX3_takeFirst_20, fX3_takeFirst_23, fX3_takeFirst_25, fX3_takeFirst_27, fX3_takeFirst_30, fX3_takeFirst_31, fX3_takeFirst_33, fX3_takeFirst_35, fX3_takeFirst_36, fX3_takeFirst_39, fX3_takeFirst_41, fX3_takeFirst_42, fX3_takeFirst_45, fX3_takeFirst_46, fX3_takeFirst_49, fX3_takeFirst_50, fX3_takeFirst_51, fX3_takeFirst_54, fX3_takeFirst_56, fX3_takeFirst_57, fX3_takeFirst_59, fX3_takeFirst_60, fX3_takeFirst_62, fX3_takeFirst_63, fX3_takeFirst_65, fX3_takeFirst_67, fX3_takeFirst_68, fX3_takeFirst_71, fX3_takeFirst_72, fX3_takeFirst_74, fX3_takeFirst_77, fX3_takeFirst_80, fX3_takeFirst_83, fX3_takeFirst_86, fX3_takeFirst_88, sX3_ofKind, sX3_take, hv, hr1, hr2, hr3, hge, ha0]
      exact h
def sX3_takeFirst : XSp := xq3 10 (fun i j meat w now M Q => mI M i j ∧ (meat = 0 ∨ meat = 1) ∧ sOK (M 11 i j) ∧ (0 ≤ w ∧ w ≤ 1000000000) ∧ Q [xI (w - (tkL (agL (dkL meat) now 64) (M 11 i j) w).2)] (mset M i j (tkL (agL (dkL meat) now 64) (M 11 i j) w).1))
set_option maxRecDepth 100000 in
theorem kX3_takeFirst : XCn yX3_takeFirst wX3_takeFirst rX3_takeFirst sX3_takeFirst := XC3 pX3_takeFirst rfl rfl aX3_takeFirst (by decide) (fun i j meat w now M Post hv h WW hC => by
  obtain ⟨hI, hm, hS, hw, h⟩ := h
  have hb := totK_bd hS meat
  have hw1 : XInR w := ⟨by omega, by omega⟩
  have hw2 : XInR (totK meat (M 11 i j)) := ⟨by omega, by omega⟩
  have hcap := tkL_cap (agL (dkL meat) now 64) (M 11 i j) w (fun x hx => agL_mem (f := dkL meat) (fun m => dkL_in (meat := meat) m) 64 x hx) hS hw.1
  have hk := kX3_takeFirst_loop hC (M := M) (i := i) (j := j) (meat := meat) (w0 := w) (now := now) (most := min w (totK meat (M 11 i j))) hv hm (by omega) 64 0 (M 11 i j) none (by decide) hS (by decide) (by omega) (by
    rw [Int.sub_zero, hcap]
    have e : min w (totK meat (M 11 i j)) - ((tkL (agL (dkL meat) now 64) (M 11 i j) w).2 - (w - min w (totK meat (M 11 i j)))) = w - (tkL (agL (dkL meat) now 64) (M 11 i j) w).2 := by omega
    dsimp only
    rw [e]
    exact h)
  rw [mset_self hI] at hk
  show WW 0 [some (xR 10 i j), some (xI meat), some (xI w), some (xI now), none, none, none, none] [] M
  refine xru_ok hC [18] 40 _ _ _ _ ?_
  simp only [xkk_ap, Int.reduceEq, Int.reduceLT, Int.reduceLE, Int.reduceNeg, Int.reduceAdd, Int.reduceSub, Int.reduceMul, and_self, false_and, and_false, not_true_eq_false, not_false_eq_true, true_implies, false_implies, xq0, xq1, xq2, xq3, xq4, xq5, xqR, xq1R, xq3R, xt1, xt2, xt3, List.mem_cons, List.not_mem_nil, or_false, false_or, or_self, if_false, if_true, reduceIte, reduceCtorEq, xent, xen, List.length_cons, List.length_nil, List.replicate, j_c, j_cJ, j_ild, j_ald, j_lld, j_ist, j_ast, j_lst, j_inc, j_add, j_sub, j_mul, j_neg, j_div, j_rem, j_and, j_shr, j_shl1, j_or, j_ladd, j_lsub, j_lmul, j_i2l, j_lcmp, j_i2c, j_dup, j_dup2, j_pop, j_goto, j_ieq, j_ine, j_ilt, j_ige, j_igt, j_ile, j_eq, j_ne, j_lt, j_ge, j_gt, j_le, xsw, j_tsw, j_gI, j_gJ, j_gR, j_pI, j_pJ, j_gs, j_iald, j_iast, j_cald, j_cast, j_aald, j_cpy, j_min, j_max, j_abs, j_iret, j_zret, j_lret, j_dret, j_ret0, j_V0, j_V1, j_V2, j_V3, j_V4, j_V5, j_S1, j_S2, j_S3, xget, xset, xset2, xclr, xc1, xcat, Nat.reduceAdd, Nat.reduceEqDiff, Nat.reduceLT, Nat.reduceLeDiff, Nat.reduceMul, List.cons_append, List.nil_append, true_and, and_true, List.singleton_append, fX3_takeFirst_0, fX3_takeFirst_1, fX3_takeFirst_2, fX3_takeFirst_3, fX3_takeFirst_6, fX3_takeFirst_9, fX3_takeFirst_11, fX3_takeFirst_12, fX3_takeFirst_14, fX3_takeFirst_16, fX3_takeFirst_18, fX3_takeFirst_20, fX3_takeFirst_23, fX3_takeFirst_25, fX3_takeFirst_27, fX3_takeFirst_30, fX3_takeFirst_31, fX3_takeFirst_33, fX3_takeFirst_35, fX3_takeFirst_36, fX3_takeFirst_39, fX3_takeFirst_41, fX3_takeFirst_42, fX3_takeFirst_45, fX3_takeFirst_46, fX3_takeFirst_49, fX3_takeFirst_50, fX3_takeFirst_51, fX3_takeFirst_54, fX3_takeFirst_56, fX3_takeFirst_57, fX3_takeFirst_59, fX3_takeFirst_60, fX3_takeFirst_62, fX3_takeFirst_63, fX3_takeFirst_65, fX3_takeFirst_67, fX3_takeFirst_68, fX3_takeFirst_71, fX3_takeFirst_72, fX3_takeFirst_74, fX3_takeFirst_77, fX3_takeFirst_80, fX3_takeFirst_83, fX3_takeFirst_86, fX3_takeFirst_88, sX3_ofKind, sX3_take, hv, hm, mKind_tot hI, hw1, hw2, xcat, xc1, Nat.zero_le, Nat.reduceLeDiff]
  exact hk)
end XMe

