section XPx

def itP (i : Int) : Nat → XM → XM
  | 0, M => M
  | n + 1, M => itP i n (fPass M i)
theorem fPass_min (M : XM) (i : Int) (c b : Int) (h : fI c b M i) (hm : M 1 i 0 0 < 30000) : fPass M i 1 i 0 0 = M 1 i 0 0 + 1 := by
  have h1 := h.1.2.2.2.2.1
  unfold fPass pPunish pServe pCall pThrow
  have e1 : ∀ (n : Nat) (u : Int) (N : XM), xit (pun i) n u N 1 i 0 0 = N 1 i 0 0 := fun n u N => xit_ind (P := fun N' => N' 1 i 0 0 = N 1 i 0 0) (lo := u) (hi := u + n) (fun v N' _ _ h => by rw [pun_tag (by decide)]; exact h) n u N (Int.le_refl _) (Int.le_refl _) rfl
  have e2 : ∀ (n : Nat) (u : Int) (N : XM), xit (srv i) n u N 1 i 0 0 = N 1 i 0 0 := fun n u N => xit_ind (P := fun N' => N' 1 i 0 0 = N 1 i 0 0) (lo := u) (hi := u + n) (fun v N' _ _ h => by rw [srv_tag (by decide) (by decide) (by decide) (by decide)]; exact h) n u N (Int.le_refl _) (Int.le_refl _) rfl
  have e3 : ∀ (n : Nat) (u : Int) (N : XM), xit (cal i) n u N 1 i 0 0 = N 1 i 0 0 := fun n u N => xit_ind (P := fun N' => N' 1 i 0 0 = N 1 i 0 0) (lo := u) (hi := u + n) (fun v N' _ _ h => by rw [cal_1 (by decide)]; exact h) n u N (Int.le_refl _) (Int.le_refl _) rfl
  have e4 : ∀ (n : Nat) (u : Int) (N : XM), xit (thLo i) n u N 1 i 0 0 = N 1 i 0 0 := fun n u N => xit_ind (P := fun N' => N' 1 i 0 0 = N 1 i 0 0) (lo := u) (hi := u + n) (fun v N' _ _ h => by rw [thLo_tag (by decide) (by decide) (by decide)]; exact h) n u N (Int.le_refl _) (Int.le_refl _) rfl
  have e5 : ∀ (n : Nat) (u : Int) (N : XM), xit (thK i) n u N 1 i 0 0 = N 1 i 0 0 := fun n u N => xit_ind (P := fun N' => N' 1 i 0 0 = N 1 i 0 0) (lo := u) (hi := u + n) (fun v N' _ _ h => by rw [thK_tag (by decide) (by decide) (by decide)]; exact h) n u N (Int.le_refl _) (Int.le_refl _) rfl
  have e6 : ∀ (n : Nat) (u : Int) (N : XM), xit (fun k M => kCook M i k (M 1 i 0 0) (M 2 i 0 4)) n u N 1 i 0 0 = N 1 i 0 0 := fun n u N => xit_ind (P := fun N' => N' 1 i 0 0 = N 1 i 0 0) (lo := u) (hi := u + n) (fun v N' _ _ h => by rw [kCook_tag (by decide) (by decide) (by decide)]; exact h) n u N (Int.le_refl _) (Int.le_refl _) rfl
  have e7 : ∀ (n : Nat) (u : Int) (N : XM), xit (fun l M => lDrive M i l) n u N 1 i 0 0 = N 1 i 0 0 := fun n u N => xit_ind (P := fun N' => N' 1 i 0 0 = N 1 i 0 0) (lo := u) (hi := u + n) (fun v N' _ _ h => by rw [lDrive_tag (by decide)]; exact h) n u N (Int.le_refl _) (Int.le_refl _) rfl
  rw [e1, e2, e3, e4, e5]
  unfold pCook pDrive
  rw [e6, e7]
  simp only [xup_app, and_self, if_true]
theorem itP_lo (i : Int) : ∀ (n : Nat) (M : XM), xLo M (itP i n M) i
  | 0, M => xLo_refl M i
  | n + 1, M => xLo_trans (xLo_pass M i) (itP_lo i n (fPass M i))
theorem fI_itP {i : Int} : ∀ (n : Nat) (c b : Int) (M : XM), fI c b M i → M 1 i 0 0 + n ≤ 30000 → fI (c + 3600 * n) (b + 60 * n) (itP i n M) i ∧ itP i n M 1 i 0 0 = M 1 i 0 0 + n
  | 0, c, b, M, h, _ => by
    simp only [itP]
    exact ⟨fI_mono h (by omega) (by omega), by omega⟩
  | n + 1, c, b, M, h, hm => by
    have h1 := fPass_min M i c b h (by omega)
    have ih := fI_itP n (c + 3600) (b + 60) (fPass M i) (fI_pass h (by omega)) (by omega)
    simp only [itP]
    exact ⟨fI_mono ih.1 (by omega) (by omega), by have := ih.2; omega⟩


/-- UnitKitchens.pass(I)I -/
abbrev wX7_pass : List Cond := Cond.code yX7_pass cX7_pass 4 (some .int) :: xT
abbrev rX7_pass : Room := { frames := 6, cells := 0, slots := 0, locals := 141 }
def pX7_pass (Post : XPo) : List (Nat × XStp) := [(0, j_ild 1 1), (1, j_c 1 1), (2, j_c 200 3), (5, j_S3 sX7_requireRange), (8, j_ald 0 1), (9, j_gR 0 (fun i k => (1, 0, 0))), (12, j_gI 1 0), (15, j_ild 1 1), (16, j_add), (17, j_c 20000 3), (20, j_igt 27), (23, j_c 1 1), (24, j_goto 28), (27, j_c 0 1), (28, j_S1 sX7_requireState), (31, j_ald 0 1), (32, j_gR 0 (fun i k => (15, 0, 0))), (35, j_ald 0 1), (36, j_gR 0 (fun i k => (1, 0, 0))), (39, j_V1 15 sX4_keep), (42, j_ald 0 1), (43, j_gR 0 (fun i k => (1, 0, 0))), (46, j_V0 1 sX0_served), (49, j_ist 2 1), (50, j_c 0 1), (51, j_ist 3 1), (52, j_ild 3 1), (53, j_ild 1 1), (54, j_ige 70), (57, j_ald 0 1), (58, j_gR 0 (fun i k => (1, 0, 0))), (61, j_V0 1 sX0_passMinute), (64, j_inc 3 1), (67, j_goto 52), (70, j_ald 0 1), (71, j_gR 0 (fun i k => (1, 0, 0))), (74, j_V0 1 sX0_served), (77, j_ild 2 1), (78, j_sub), (79, j_iret Post)]
set_option maxRecDepth 100000 in
theorem aX7_pass (Post : XPo) : XAll rX7_pass cX7_pass 4 RX7 wX7_pass (some .int) Post (pX7_pass Post) := XAll.cons (xs_iload_n dX7_pass_0 rfl) (XAll.cons (xs_iconst dX7_pass_1) (XAll.cons (xs_sipush dX7_pass_2 rfl) (XAll.cons (xs_S3 kX7_requireRange ⟨⟨rfl, rfl, by decide, by decide⟩, ⟨by decide, by decide, by decide +kernel⟩, tw_297, tw_298, tw_1, tw_299⟩ dX7_pass_5) (XAll.cons (xs_aload_n dX7_pass_8 rfl) (XAll.cons (fgX7_0 tw_274 dX7_pass_9) (XAll.cons (fgX0_0 tw_193 dX7_pass_12) (XAll.cons (xs_iload_n dX7_pass_15 rfl) (XAll.cons (xs_iadd dX7_pass_16) (XAll.cons (xs_sipush dX7_pass_17 rfl) (XAll.cons (xs_icmp_gt dX7_pass_20 (by decide)) (XAll.cons (xs_iconst dX7_pass_23) (XAll.cons (xs_goto dX7_pass_24 (by decide)) (XAll.cons (xs_iconst dX7_pass_27) (XAll.cons (xs_S1 kX7_requireState ⟨⟨rfl, rfl, by decide, by decide⟩, ⟨by decide, by decide, by decide +kernel⟩, tw_368, tw_369, tw_1, tw_370⟩ dX7_pass_28) (XAll.cons (xs_aload_n dX7_pass_31 rfl) (XAll.cons (fgX7_2 tw_276 dX7_pass_32) (XAll.cons (xs_aload_n dX7_pass_35 rfl) (XAll.cons (fgX7_0 tw_274 dX7_pass_36) (XAll.cons (xs_V1 kX4_keep ⟨⟨rfl, rfl, by decide, by decide⟩, ⟨by decide, by decide, by decide +kernel⟩, ⟨tw_387, tw_388, tw_389, tw_7, tw_390⟩, 4, TX4, _, rfl, fun G ρ f i k => ⟨_, rfl⟩⟩ dX7_pass_39) (XAll.cons (xs_aload_n dX7_pass_42 rfl) (XAll.cons (fgX7_0 tw_274 dX7_pass_43) (XAll.cons (xs_V0 kX0_served ⟨⟨rfl, rfl, by decide, by decide⟩, ⟨by decide, by decide, by decide +kernel⟩, ⟨tw_463, tw_464, tw_465, tw_2, tw_466⟩, 0, TX0, _, rfl, fun G ρ f i k => ⟨_, rfl⟩⟩ dX7_pass_46) (XAll.cons (xs_istore_n dX7_pass_49 rfl (by decide)) (XAll.cons (xs_iconst dX7_pass_50) (XAll.cons (xs_istore_n dX7_pass_51 rfl (by decide)) (XAll.cons (xs_iload_n dX7_pass_52 rfl) (XAll.cons (xs_iload_n dX7_pass_53 rfl) (XAll.cons (xs_icmp_ge dX7_pass_54 (by decide)) (XAll.cons (xs_aload_n dX7_pass_57 rfl) (XAll.cons (fgX7_0 tw_274 dX7_pass_58) (XAll.cons (xs_V0 kX0_passMinute ⟨⟨rfl, rfl, by decide, by decide⟩, ⟨by decide, by decide, by decide +kernel⟩, ⟨tw_467, tw_468, tw_469, tw_2, tw_470⟩, 0, TX0, _, rfl, fun G ρ f i k => ⟨_, rfl⟩⟩ dX7_pass_61) (XAll.cons (xs_iinc dX7_pass_64 (by decide)) (XAll.cons (xs_goto dX7_pass_67 (by decide)) (XAll.cons (xs_aload_n dX7_pass_70 rfl) (XAll.cons (fgX7_0 tw_274 dX7_pass_71) (XAll.cons (xs_V0 kX0_served ⟨⟨rfl, rfl, by decide, by decide⟩, ⟨by decide, by decide, by decide +kernel⟩, ⟨tw_463, tw_464, tw_465, tw_2, tw_466⟩, 0, TX0, _, rfl, fun G ρ f i k => ⟨_, rfl⟩⟩ dX7_pass_74) (XAll.cons (xs_iload_n dX7_pass_77 rfl) (XAll.cons (xs_isub dX7_pass_78) (XAll.cons (xs_iret rfl dX7_pass_79) (XAll.nil))))))))))))))))))))))))))))))))))))))))
theorem fX7_pass_0 (Post : XPo) (cut : List Nat) (WW : XK) (n : Nat) (L : XLs) (st : List XV) (M : XM) : xru (xlk (pX7_pass Post)) cut WW (n + 1) 0 L st M = j_ild 1 1 0 L st M (xkk (xlk (pX7_pass Post)) cut WW n) := (rfl)
theorem fX7_pass_1 (Post : XPo) (cut : List Nat) (WW : XK) (n : Nat) (L : XLs) (st : List XV) (M : XM) : xru (xlk (pX7_pass Post)) cut WW (n + 1) 1 L st M = j_c 1 1 1 L st M (xkk (xlk (pX7_pass Post)) cut WW n) := (rfl)
theorem fX7_pass_2 (Post : XPo) (cut : List Nat) (WW : XK) (n : Nat) (L : XLs) (st : List XV) (M : XM) : xru (xlk (pX7_pass Post)) cut WW (n + 1) 2 L st M = j_c 200 3 2 L st M (xkk (xlk (pX7_pass Post)) cut WW n) := (rfl)
theorem fX7_pass_5 (Post : XPo) (cut : List Nat) (WW : XK) (n : Nat) (L : XLs) (st : List XV) (M : XM) : xru (xlk (pX7_pass Post)) cut WW (n + 1) 5 L st M = j_S3 sX7_requireRange 5 L st M (xkk (xlk (pX7_pass Post)) cut WW n) := (rfl)
theorem fX7_pass_8 (Post : XPo) (cut : List Nat) (WW : XK) (n : Nat) (L : XLs) (st : List XV) (M : XM) : xru (xlk (pX7_pass Post)) cut WW (n + 1) 8 L st M = j_ald 0 1 8 L st M (xkk (xlk (pX7_pass Post)) cut WW n) := (rfl)
theorem fX7_pass_9 (Post : XPo) (cut : List Nat) (WW : XK) (n : Nat) (L : XLs) (st : List XV) (M : XM) : xru (xlk (pX7_pass Post)) cut WW (n + 1) 9 L st M = j_gR 0 (fun i k => (1, 0, 0)) 9 L st M (xkk (xlk (pX7_pass Post)) cut WW n) := (rfl)
theorem fX7_pass_12 (Post : XPo) (cut : List Nat) (WW : XK) (n : Nat) (L : XLs) (st : List XV) (M : XM) : xru (xlk (pX7_pass Post)) cut WW (n + 1) 12 L st M = j_gI 1 0 12 L st M (xkk (xlk (pX7_pass Post)) cut WW n) := (rfl)
theorem fX7_pass_15 (Post : XPo) (cut : List Nat) (WW : XK) (n : Nat) (L : XLs) (st : List XV) (M : XM) : xru (xlk (pX7_pass Post)) cut WW (n + 1) 15 L st M = j_ild 1 1 15 L st M (xkk (xlk (pX7_pass Post)) cut WW n) := (rfl)
theorem fX7_pass_16 (Post : XPo) (cut : List Nat) (WW : XK) (n : Nat) (L : XLs) (st : List XV) (M : XM) : xru (xlk (pX7_pass Post)) cut WW (n + 1) 16 L st M = j_add 16 L st M (xkk (xlk (pX7_pass Post)) cut WW n) := (rfl)
theorem fX7_pass_17 (Post : XPo) (cut : List Nat) (WW : XK) (n : Nat) (L : XLs) (st : List XV) (M : XM) : xru (xlk (pX7_pass Post)) cut WW (n + 1) 17 L st M = j_c 20000 3 17 L st M (xkk (xlk (pX7_pass Post)) cut WW n) := (rfl)
theorem fX7_pass_20 (Post : XPo) (cut : List Nat) (WW : XK) (n : Nat) (L : XLs) (st : List XV) (M : XM) : xru (xlk (pX7_pass Post)) cut WW (n + 1) 20 L st M = j_igt 27 20 L st M (xkk (xlk (pX7_pass Post)) cut WW n) := (rfl)
theorem fX7_pass_23 (Post : XPo) (cut : List Nat) (WW : XK) (n : Nat) (L : XLs) (st : List XV) (M : XM) : xru (xlk (pX7_pass Post)) cut WW (n + 1) 23 L st M = j_c 1 1 23 L st M (xkk (xlk (pX7_pass Post)) cut WW n) := (rfl)
theorem fX7_pass_24 (Post : XPo) (cut : List Nat) (WW : XK) (n : Nat) (L : XLs) (st : List XV) (M : XM) : xru (xlk (pX7_pass Post)) cut WW (n + 1) 24 L st M = j_goto 28 24 L st M (xkk (xlk (pX7_pass Post)) cut WW n) := (rfl)
theorem fX7_pass_27 (Post : XPo) (cut : List Nat) (WW : XK) (n : Nat) (L : XLs) (st : List XV) (M : XM) : xru (xlk (pX7_pass Post)) cut WW (n + 1) 27 L st M = j_c 0 1 27 L st M (xkk (xlk (pX7_pass Post)) cut WW n) := (rfl)
theorem fX7_pass_28 (Post : XPo) (cut : List Nat) (WW : XK) (n : Nat) (L : XLs) (st : List XV) (M : XM) : xru (xlk (pX7_pass Post)) cut WW (n + 1) 28 L st M = j_S1 sX7_requireState 28 L st M (xkk (xlk (pX7_pass Post)) cut WW n) := (rfl)
theorem fX7_pass_31 (Post : XPo) (cut : List Nat) (WW : XK) (n : Nat) (L : XLs) (st : List XV) (M : XM) : xru (xlk (pX7_pass Post)) cut WW (n + 1) 31 L st M = j_ald 0 1 31 L st M (xkk (xlk (pX7_pass Post)) cut WW n) := (rfl)
theorem fX7_pass_32 (Post : XPo) (cut : List Nat) (WW : XK) (n : Nat) (L : XLs) (st : List XV) (M : XM) : xru (xlk (pX7_pass Post)) cut WW (n + 1) 32 L st M = j_gR 0 (fun i k => (15, 0, 0)) 32 L st M (xkk (xlk (pX7_pass Post)) cut WW n) := (rfl)
theorem fX7_pass_35 (Post : XPo) (cut : List Nat) (WW : XK) (n : Nat) (L : XLs) (st : List XV) (M : XM) : xru (xlk (pX7_pass Post)) cut WW (n + 1) 35 L st M = j_ald 0 1 35 L st M (xkk (xlk (pX7_pass Post)) cut WW n) := (rfl)
theorem fX7_pass_36 (Post : XPo) (cut : List Nat) (WW : XK) (n : Nat) (L : XLs) (st : List XV) (M : XM) : xru (xlk (pX7_pass Post)) cut WW (n + 1) 36 L st M = j_gR 0 (fun i k => (1, 0, 0)) 36 L st M (xkk (xlk (pX7_pass Post)) cut WW n) := (rfl)
theorem fX7_pass_39 (Post : XPo) (cut : List Nat) (WW : XK) (n : Nat) (L : XLs) (st : List XV) (M : XM) : xru (xlk (pX7_pass Post)) cut WW (n + 1) 39 L st M = j_V1 15 sX4_keep 39 L st M (xkk (xlk (pX7_pass Post)) cut WW n) := (rfl)
theorem fX7_pass_42 (Post : XPo) (cut : List Nat) (WW : XK) (n : Nat) (L : XLs) (st : List XV) (M : XM) : xru (xlk (pX7_pass Post)) cut WW (n + 1) 42 L st M = j_ald 0 1 42 L st M (xkk (xlk (pX7_pass Post)) cut WW n) := (rfl)
theorem fX7_pass_43 (Post : XPo) (cut : List Nat) (WW : XK) (n : Nat) (L : XLs) (st : List XV) (M : XM) : xru (xlk (pX7_pass Post)) cut WW (n + 1) 43 L st M = j_gR 0 (fun i k => (1, 0, 0)) 43 L st M (xkk (xlk (pX7_pass Post)) cut WW n) := (rfl)
theorem fX7_pass_46 (Post : XPo) (cut : List Nat) (WW : XK) (n : Nat) (L : XLs) (st : List XV) (M : XM) : xru (xlk (pX7_pass Post)) cut WW (n + 1) 46 L st M = j_V0 1 sX0_served 46 L st M (xkk (xlk (pX7_pass Post)) cut WW n) := (rfl)
theorem fX7_pass_49 (Post : XPo) (cut : List Nat) (WW : XK) (n : Nat) (L : XLs) (st : List XV) (M : XM) : xru (xlk (pX7_pass Post)) cut WW (n + 1) 49 L st M = j_ist 2 1 49 L st M (xkk (xlk (pX7_pass Post)) cut WW n) := (rfl)
theorem fX7_pass_50 (Post : XPo) (cut : List Nat) (WW : XK) (n : Nat) (L : XLs) (st : List XV) (M : XM) : xru (xlk (pX7_pass Post)) cut WW (n + 1) 50 L st M = j_c 0 1 50 L st M (xkk (xlk (pX7_pass Post)) cut WW n) := (rfl)
theorem fX7_pass_51 (Post : XPo) (cut : List Nat) (WW : XK) (n : Nat) (L : XLs) (st : List XV) (M : XM) : xru (xlk (pX7_pass Post)) cut WW (n + 1) 51 L st M = j_ist 3 1 51 L st M (xkk (xlk (pX7_pass Post)) cut WW n) := (rfl)
theorem fX7_pass_52 (Post : XPo) (cut : List Nat) (WW : XK) (n : Nat) (L : XLs) (st : List XV) (M : XM) : xru (xlk (pX7_pass Post)) cut WW (n + 1) 52 L st M = j_ild 3 1 52 L st M (xkk (xlk (pX7_pass Post)) cut WW n) := (rfl)
theorem fX7_pass_53 (Post : XPo) (cut : List Nat) (WW : XK) (n : Nat) (L : XLs) (st : List XV) (M : XM) : xru (xlk (pX7_pass Post)) cut WW (n + 1) 53 L st M = j_ild 1 1 53 L st M (xkk (xlk (pX7_pass Post)) cut WW n) := (rfl)
theorem fX7_pass_54 (Post : XPo) (cut : List Nat) (WW : XK) (n : Nat) (L : XLs) (st : List XV) (M : XM) : xru (xlk (pX7_pass Post)) cut WW (n + 1) 54 L st M = j_ige 70 54 L st M (xkk (xlk (pX7_pass Post)) cut WW n) := (rfl)
theorem fX7_pass_57 (Post : XPo) (cut : List Nat) (WW : XK) (n : Nat) (L : XLs) (st : List XV) (M : XM) : xru (xlk (pX7_pass Post)) cut WW (n + 1) 57 L st M = j_ald 0 1 57 L st M (xkk (xlk (pX7_pass Post)) cut WW n) := (rfl)
theorem fX7_pass_58 (Post : XPo) (cut : List Nat) (WW : XK) (n : Nat) (L : XLs) (st : List XV) (M : XM) : xru (xlk (pX7_pass Post)) cut WW (n + 1) 58 L st M = j_gR 0 (fun i k => (1, 0, 0)) 58 L st M (xkk (xlk (pX7_pass Post)) cut WW n) := (rfl)
theorem fX7_pass_61 (Post : XPo) (cut : List Nat) (WW : XK) (n : Nat) (L : XLs) (st : List XV) (M : XM) : xru (xlk (pX7_pass Post)) cut WW (n + 1) 61 L st M = j_V0 1 sX0_passMinute 61 L st M (xkk (xlk (pX7_pass Post)) cut WW n) := (rfl)
theorem fX7_pass_64 (Post : XPo) (cut : List Nat) (WW : XK) (n : Nat) (L : XLs) (st : List XV) (M : XM) : xru (xlk (pX7_pass Post)) cut WW (n + 1) 64 L st M = j_inc 3 1 64 L st M (xkk (xlk (pX7_pass Post)) cut WW n) := (rfl)
theorem fX7_pass_67 (Post : XPo) (cut : List Nat) (WW : XK) (n : Nat) (L : XLs) (st : List XV) (M : XM) : xru (xlk (pX7_pass Post)) cut WW (n + 1) 67 L st M = j_goto 52 67 L st M (xkk (xlk (pX7_pass Post)) cut WW n) := (rfl)
theorem fX7_pass_70 (Post : XPo) (cut : List Nat) (WW : XK) (n : Nat) (L : XLs) (st : List XV) (M : XM) : xru (xlk (pX7_pass Post)) cut WW (n + 1) 70 L st M = j_ald 0 1 70 L st M (xkk (xlk (pX7_pass Post)) cut WW n) := (rfl)
theorem fX7_pass_71 (Post : XPo) (cut : List Nat) (WW : XK) (n : Nat) (L : XLs) (st : List XV) (M : XM) : xru (xlk (pX7_pass Post)) cut WW (n + 1) 71 L st M = j_gR 0 (fun i k => (1, 0, 0)) 71 L st M (xkk (xlk (pX7_pass Post)) cut WW n) := (rfl)
theorem fX7_pass_74 (Post : XPo) (cut : List Nat) (WW : XK) (n : Nat) (L : XLs) (st : List XV) (M : XM) : xru (xlk (pX7_pass Post)) cut WW (n + 1) 74 L st M = j_V0 1 sX0_served 74 L st M (xkk (xlk (pX7_pass Post)) cut WW n) := (rfl)
theorem fX7_pass_77 (Post : XPo) (cut : List Nat) (WW : XK) (n : Nat) (L : XLs) (st : List XV) (M : XM) : xru (xlk (pX7_pass Post)) cut WW (n + 1) 77 L st M = j_ild 2 1 77 L st M (xkk (xlk (pX7_pass Post)) cut WW n) := (rfl)
theorem fX7_pass_78 (Post : XPo) (cut : List Nat) (WW : XK) (n : Nat) (L : XLs) (st : List XV) (M : XM) : xru (xlk (pX7_pass Post)) cut WW (n + 1) 78 L st M = j_sub 78 L st M (xkk (xlk (pX7_pass Post)) cut WW n) := (rfl)
theorem fX7_pass_79 (Post : XPo) (cut : List Nat) (WW : XK) (n : Nat) (L : XLs) (st : List XV) (M : XM) : xru (xlk (pX7_pass Post)) cut WW (n + 1) 79 L st M = j_iret Post 79 L st M (xkk (xlk (pX7_pass Post)) cut WW n) := (rfl)
set_option maxRecDepth 100000 in
theorem kX7_pass_loop {Post : XPo} {WW : XK} (hC : XCl (xlk (pX7_pass Post)) WW) {k sb : Int} (hk : k ≤ 200) : ∀ (n : Nat) (j c b : Int) (M : XM), fI c b M 0 → c + 3600 * n ≤ 79996000 → b + 60 * n ≤ 1999900 → M 1 0 0 0 + n ≤ 30000 → 0 ≤ j → j + n = k → Post [xI (tX0_served (itP 0 n M) 0 - sb)] (itP 0 n M) → WW 52 [some (xR 0 0 0), some (xI k), some (xI sb), some (xI j)] [] M := by
  intro n
  induction n with
  | zero =>
    intro j c b M hI hc hb hm h0 h1 h
    have e : j = k := by omega
    have hr : XInR k := ⟨by omega, by omega⟩
    have hG : fG M 0 := fI_mono hI (by omega) (by omega)
    subst e
    refine xru_ok hC [52] 40 _ _ _ _ ?_
    simp only [xkk_ap, Int.reduceEq, Int.reduceLT, Int.reduceLE, Int.reduceNeg, Int.reduceAdd, Int.reduceSub, Int.reduceMul, and_self, false_and, and_false, not_true_eq_false, not_false_eq_true, true_implies, false_implies, xq0, xq1, xq2, xq3, xq4, xq5, xqR, xq1R, xq3R, xt1, xt2, xt3, List.mem_cons, List.not_mem_nil, or_false, false_or, or_self, if_false, if_true, reduceIte, reduceCtorEq, xent, xen, List.length_cons, List.length_nil, List.replicate, j_c, j_cJ, j_ild, j_ald, j_lld, j_ist, j_ast, j_lst, j_inc, j_add, j_sub, j_mul, j_neg, j_div, j_rem, j_and, j_shr, j_shl1, j_or, j_ladd, j_lsub, j_lmul, j_i2l, j_lcmp, j_i2c, j_dup, j_dup2, j_pop, j_goto, j_ieq, j_ine, j_ilt, j_ige, j_igt, j_ile, j_eq, j_ne, j_lt, j_ge, j_gt, j_le, xsw, j_tsw, j_gI, j_gJ, j_gR, j_pI, j_pJ, j_gs, j_iald, j_iast, j_cald, j_cast, j_aald, j_cpy, j_min, j_max, j_abs, j_iret, j_zret, j_lret, j_dret, j_ret0, j_V0, j_V1, j_V2, j_V3, j_V4, j_V5, j_S1, j_S2, j_S3, xget, xset, xset2, xclr, xc1, xcat, Nat.reduceAdd, Nat.reduceEqDiff, Nat.reduceLT, Nat.reduceLeDiff, Nat.reduceMul, List.cons_append, List.nil_append, true_and, and_true, List.singleton_append, fX7_pass_0, fX7_pass_1, fX7_pass_2, fX7_pass_5, fX7_pass_8, fX7_pass_9, fX7_pass_12, fX7_pass_15, fX7_pass_16, fX7_pass_17, fX7_pass_20, fX7_pass_23, fX7_pass_24, fX7_pass_27, fX7_pass_28, fX7_pass_31, fX7_pass_32, fX7_pass_35, fX7_pass_36, fX7_pass_39, fX7_pass_42, fX7_pass_43, fX7_pass_46, fX7_pass_49, fX7_pass_50, fX7_pass_51, fX7_pass_52, fX7_pass_53, fX7_pass_54, fX7_pass_57, fX7_pass_58, fX7_pass_61, fX7_pass_64, fX7_pass_67, fX7_pass_70, fX7_pass_71, fX7_pass_74, fX7_pass_77, fX7_pass_78, fX7_pass_79, sX7_requireRange, sX7_requireState, sX4_keep, sX0_served, sX0_passMinute, xvz_0, xvz_1, hr, hG, Int.le_refl, xcat, xc1, Nat.zero_le, Nat.reduceLeDiff]
    exact h
  | succ n ih =>
    intro j c b M hI hc hb hm h0 h1 h
    have hr : XInR k := ⟨by omega, by omega⟩
    have hr2 : XInR j := ⟨by omega, by omega⟩
    have hlt : ¬ k ≤ j := by omega
    have hI' : fI 79996000 1999900 M 0 := fI_mono hI (by omega) (by omega)
    have hm' : M 1 0 0 0 < 30000 := by omega
    have hb' := ih (j + 1) (c + 3600) (b + 60) (fPass M 0) (fI_pass hI hm') (by omega) (by omega) (by rw [fPass_min M 0 c b hI hm']; omega) (by omega) (by omega) h
    refine xru_ok hC [52] 40 _ _ _ _ ?_
    simp only [xkk_ap, Int.reduceEq, Int.reduceLT, Int.reduceLE, Int.reduceNeg, Int.reduceAdd, Int.reduceSub, Int.reduceMul, and_self, false_and, and_false, not_true_eq_false, not_false_eq_true, true_implies, false_implies, xq0, xq1, xq2, xq3, xq4, xq5, xqR, xq1R, xq3R, xt1, xt2, xt3, List.mem_cons, List.not_mem_nil, or_false, false_or, or_self, if_false, if_true, reduceIte, reduceCtorEq, xent, xen, List.length_cons, List.length_nil, List.replicate, j_c, j_cJ, j_ild, j_ald, j_lld, j_ist, j_ast, j_lst, j_inc, j_add, j_sub, j_mul, j_neg, j_div, j_rem, j_and, j_shr, j_shl1, j_or, j_ladd, j_lsub, j_lmul, j_i2l, j_lcmp, j_i2c, j_dup, j_dup2, j_pop, j_goto, j_ieq, j_ine, j_ilt, j_ige, j_igt, j_ile, j_eq, j_ne, j_lt, j_ge, j_gt, j_le, xsw, j_tsw, j_gI, j_gJ, j_gR, j_pI, j_pJ, j_gs, j_iald, j_iast, j_cald, j_cast, j_aald, j_cpy, j_min, j_max, j_abs, j_iret, j_zret, j_lret, j_dret, j_ret0, j_V0, j_V1, j_V2, j_V3, j_V4, j_V5, j_S1, j_S2, j_S3, xget, xset, xset2, xclr, xc1, xcat, Nat.reduceAdd, Nat.reduceEqDiff, Nat.reduceLT, Nat.reduceLeDiff, Nat.reduceMul, List.cons_append, List.nil_append, true_and, and_true, List.singleton_append, fX7_pass_0, fX7_pass_1, fX7_pass_2, fX7_pass_5, fX7_pass_8, fX7_pass_9, fX7_pass_12, fX7_pass_15, fX7_pass_16, fX7_pass_17, fX7_pass_20, fX7_pass_23, fX7_pass_24, fX7_pass_27, fX7_pass_28, fX7_pass_31, fX7_pass_32, fX7_pass_35, fX7_pass_36, fX7_pass_39, fX7_pass_42, fX7_pass_43, fX7_pass_46, fX7_pass_49, fX7_pass_50, fX7_pass_51, fX7_pass_52, fX7_pass_53, fX7_pass_54, fX7_pass_57, fX7_pass_58, fX7_pass_61, fX7_pass_64, fX7_pass_67, fX7_pass_70, fX7_pass_71, fX7_pass_74, fX7_pass_77, fX7_pass_78, fX7_pass_79, sX7_requireRange, sX7_requireState, sX4_keep, sX0_served, sX0_passMinute, xvz_0, xvz_1, hr, hr2, hlt, hI', hm', xcat, xc1, Nat.zero_le]
    exact hb'

def sX7_pass : XSp := xq1 0 (fun _ _ n => fun M Q => KI M ∧ XInR n ∧ (1 ≤ n ∧ n ≤ 200) ∧ (¬ 20000 < M 1 0 0 0 + n) ∧ Q [xI (tX0_served (itP 0 n.toNat (fKeep M)) 0 - tX0_served (fKeep M) 0)] (itP 0 n.toNat (fKeep M)))
set_option maxRecDepth 100000 in
theorem kX7_pass : XCn yX7_pass wX7_pass rX7_pass sX7_pass := XD1 pX7_pass rfl rfl aX7_pass (by decide) (fun n M Post h WW hC => by
  obtain ⟨hK, r_n, c0, c1, h⟩ := h
  have hG := KI_G hK
  obtain ⟨g3, g6, g8, g10, g0, gs⟩ := fC_in hG.1
  have hK0 := KI_0 hK
  obtain ⟨hK1, hn, hm⟩ := hK
  have hKp := fKeep_at hn.1
  show WW 0 [some (xR 0 0 0), some (xI n), none, none] [] M
  have hc0 := hG.1.2.2.2.2.1
  have hsum : XInR (M 1 0 0 0 + n) := ⟨by omega, by omega⟩
  have hNI := fKeep_I hn.1 hK0
  have hNG : fG (fKeep M) 0 := fI_mono hNI (by decide) (by decide)
  have hb := kX7_pass_loop hC (k := n) (sb := tX0_served (fKeep M) 0) (by omega) n.toNat 0 72000000 1200000 (fKeep M) hNI (by omega) (by omega) (by rw [hKp 1 0 0 (by decide)]; omega) (by decide) (by omega) h
  refine xru_ok hC [52] 60 _ _ _ _ ?_
  simp only [xkk_ap, Int.reduceEq, Int.reduceLT, Int.reduceLE, Int.reduceNeg, Int.reduceAdd, Int.reduceSub, Int.reduceMul, and_self, false_and, and_false, not_true_eq_false, not_false_eq_true, true_implies, false_implies, xq0, xq1, xq2, xq3, xq4, xq5, xqR, xq1R, xq3R, xt1, xt2, xt3, List.mem_cons, List.not_mem_nil, or_false, false_or, or_self, if_false, if_true, reduceIte, reduceCtorEq, xent, xen, List.length_cons, List.length_nil, List.replicate, j_c, j_cJ, j_ild, j_ald, j_lld, j_ist, j_ast, j_lst, j_inc, j_add, j_sub, j_mul, j_neg, j_div, j_rem, j_and, j_shr, j_shl1, j_or, j_ladd, j_lsub, j_lmul, j_i2l, j_lcmp, j_i2c, j_dup, j_dup2, j_pop, j_goto, j_ieq, j_ine, j_ilt, j_ige, j_igt, j_ile, j_eq, j_ne, j_lt, j_ge, j_gt, j_le, xsw, j_tsw, j_gI, j_gJ, j_gR, j_pI, j_pJ, j_gs, j_iald, j_iast, j_cald, j_cast, j_aald, j_cpy, j_min, j_max, j_abs, j_iret, j_zret, j_lret, j_dret, j_ret0, j_V0, j_V1, j_V2, j_V3, j_V4, j_V5, j_S1, j_S2, j_S3, xget, xset, xset2, xclr, xc1, xcat, Nat.reduceAdd, Nat.reduceEqDiff, Nat.reduceLT, Nat.reduceLeDiff, Nat.reduceMul, List.cons_append, List.nil_append, true_and, and_true, List.singleton_append, fX7_pass_0, fX7_pass_1, fX7_pass_2, fX7_pass_5, fX7_pass_8, fX7_pass_9, fX7_pass_12, fX7_pass_15, fX7_pass_16, fX7_pass_17, fX7_pass_20, fX7_pass_23, fX7_pass_24, fX7_pass_27, fX7_pass_28, fX7_pass_31, fX7_pass_32, fX7_pass_35, fX7_pass_36, fX7_pass_39, fX7_pass_42, fX7_pass_43, fX7_pass_46, fX7_pass_49, fX7_pass_50, fX7_pass_51, fX7_pass_52, fX7_pass_53, fX7_pass_54, fX7_pass_57, fX7_pass_58, fX7_pass_61, fX7_pass_64, fX7_pass_67, fX7_pass_70, fX7_pass_71, fX7_pass_74, fX7_pass_77, fX7_pass_78, fX7_pass_79, sX7_requireRange, sX7_requireState, sX4_keep, sX0_served, sX0_passMinute, hn, hm, g3, g6, g8, g10, g0, gs, hKp, r_n, hsum, hNG, xvz_0, xvz_1, xvz_2, xvz_3, xvz_4, xvz_5, xvz_6, xvz_7, xvz_15, xvz_17, xvz_18, xrz_2, xrz_3, xrz_4, xdz_2, xdz_3, xdz_4, xdz_9, xdz_11, xdz_12, xr_c (n := 0) rfl, xr_c (n := 1) rfl, xr_c (n := 2) rfl, xr_c (n := 3) rfl, xr_c (n := 4) rfl, xr_c (n := 5) rfl, xr_c (n := 6) rfl, xr_c (n := 8) rfl, xr_c (n := 10) rfl, xr_c (n := 11) rfl, xr_c (n := 12) rfl, xr_c (n := 16) rfl, xr_c (n := 30) rfl, xr_c (n := 99) rfl, xr_c (n := 120) rfl, xr_c (n := 126) rfl, xr_c (n := 33) rfl, xr_c (n := 200) rfl, xr_c (n := 255) rfl, xr_c (n := 299) rfl, xr_c (n := 300) rfl, xr_c (n := 500) rfl, xr_c (n := 600) rfl, xr_c (n := 999) rfl, xr_c (n := 1000) rfl, xr_c (n := 20000) rfl, xr_c (n := 60) rfl, xr_c (n := -1) rfl, xlen, xcat, xc1, Nat.zero_le, Nat.reduceLeDiff, c0, c1]
  exact hb)
end XPx

