section XPu
theorem xk0 {i k : Int} (h : xval 0 i k) : i = 0 ∧ k = 0 := by have h1 := h.1; have h2 := h.2.1; have h3 := h.2.2.1; have h4 := h.2.2.2; simp only [xvk, xvi] at h2 h4; omega
theorem xvz_0 : xval 0 0 0 := ⟨by decide, by decide, by decide, by decide⟩
theorem xvz_1 : xval 1 0 0 := ⟨by decide, by decide, by decide, by decide⟩
theorem xvz_2 : xval 2 0 0 := ⟨by decide, by decide, by decide, by decide⟩
theorem xvz_3 : xval 3 0 0 := ⟨by decide, by decide, by decide, by decide⟩
theorem xvz_4 : xval 4 0 0 := ⟨by decide, by decide, by decide, by decide⟩
theorem xvz_5 : xval 5 0 0 := ⟨by decide, by decide, by decide, by decide⟩
theorem xvz_6 : xval 6 0 0 := ⟨by decide, by decide, by decide, by decide⟩
theorem xvz_7 : xval 7 0 0 := ⟨by decide, by decide, by decide, by decide⟩
theorem xvz_15 : xval 15 0 0 := ⟨by decide, by decide, by decide, by decide⟩
theorem xvz_16 : xval 16 0 0 := ⟨by decide, by decide, by decide, by decide⟩
theorem xvz_17 : xval 17 0 0 := ⟨by decide, by decide, by decide, by decide⟩
theorem xvz_18 : xval 18 0 0 := ⟨by decide, by decide, by decide, by decide⟩
theorem xvz_19 : xval 19 0 0 := ⟨by decide, by decide, by decide, by decide⟩
theorem xvz_20 : xval 20 0 0 := ⟨by decide, by decide, by decide, by decide⟩
theorem xvz_21 : xval 21 0 0 := ⟨by decide, by decide, by decide, by decide⟩
theorem xvz_22 : xval 22 0 0 := ⟨by decide, by decide, by decide, by decide⟩
theorem xvz_23 : xval 23 0 0 := ⟨by decide, by decide, by decide, by decide⟩
theorem xvz_24 : xval 24 0 0 := ⟨by decide, by decide, by decide, by decide⟩
theorem xvz_25 : xval 25 0 0 := ⟨by decide, by decide, by decide, by decide⟩
theorem xvz_26 : xval 26 0 0 := ⟨by decide, by decide, by decide, by decide⟩
theorem xvz_27 : xval 27 0 0 := ⟨by decide, by decide, by decide, by decide⟩
theorem xvz_28 : xval 28 0 0 := ⟨by decide, by decide, by decide, by decide⟩
theorem xvz_29 : xval 29 0 0 := ⟨by decide, by decide, by decide, by decide⟩
theorem xrz_2 : xrow 2 0 0 := xrow_m (by decide) (by decide) xvz_2
theorem xdz_2 (M : XM) (i k j : Int) : xrd M 2 i k j = M 2 i k j := (rfl)
theorem xrz_3 : xrow 3 0 0 := xrow_m (by decide) (by decide) xvz_3
theorem xdz_3 (M : XM) (i k j : Int) : xrd M 3 i k j = M 3 i k j := (rfl)
theorem xrz_4 : xrow 4 0 0 := xrow_m (by decide) (by decide) xvz_4
theorem xdz_4 (M : XM) (i k j : Int) : xrd M 4 i k j = M 4 i k j := (rfl)
theorem xrz_19 : xrow 19 0 0 := xrow_m (by decide) (by decide) xvz_19
theorem xdz_19 (M : XM) (i k j : Int) : xrd M 19 i k j = M 19 i k j := (rfl)
theorem xrz_20 : xrow 20 0 0 := xrow_m (by decide) (by decide) xvz_20
theorem xdz_20 (M : XM) (i k j : Int) : xrd M 20 i k j = M 20 i k j := (rfl)
theorem xrz_21 : xrow 21 0 0 := xrow_m (by decide) (by decide) xvz_21
theorem xdz_21 (M : XM) (i k j : Int) : xrd M 21 i k j = M 21 i k j := (rfl)
theorem xrz_22 : xrow 22 0 0 := xrow_m (by decide) (by decide) xvz_22
theorem xdz_22 (M : XM) (i k j : Int) : xrd M 22 i k j = M 22 i k j := (rfl)
theorem xrz_23 : xrow 23 0 0 := xrow_m (by decide) (by decide) xvz_23
theorem xdz_23 (M : XM) (i k j : Int) : xrd M 23 i k j = M 23 i k j := (rfl)
theorem xrz_24 : xrow 24 0 0 := xrow_m (by decide) (by decide) xvz_24
theorem xdz_24 (M : XM) (i k j : Int) : xrd M 24 i k j = M 24 i k j := (rfl)
theorem xrz_25 : xrow 25 0 0 := xrow_m (by decide) (by decide) xvz_25
theorem xdz_25 (M : XM) (i k j : Int) : xrd M 25 i k j = M 25 i k j := (rfl)
theorem xrz_26 : xrow 26 0 0 := xrow_m (by decide) (by decide) xvz_26
theorem xdz_26 (M : XM) (i k j : Int) : xrd M 26 i k j = M 26 i k j := (rfl)
theorem xrz_27 : xrow 27 0 0 := xrow_m (by decide) (by decide) xvz_27
theorem xdz_27 (M : XM) (i k j : Int) : xrd M 27 i k j = M 27 i k j := (rfl)
theorem xrz_28 : xrow 28 0 0 := xrow_m (by decide) (by decide) xvz_28
theorem xdz_28 (M : XM) (i k j : Int) : xrd M 28 i k j = M 28 i k j := (rfl)
theorem xrz_29 : xrow 29 0 0 := xrow_m (by decide) (by decide) xvz_29
theorem xdz_29 (M : XM) (i k j : Int) : xrd M 29 i k j = M 29 i k j := (rfl)
theorem xdz_9 (M : XM) (i k j : Int) : xrd M 9 i k j = M 9 i k j := (rfl)
theorem xdz_11 (M : XM) (i k j : Int) : xrd M 11 i k j = M 11 i k j := (rfl)
theorem xdz_12 (M : XM) (i k j : Int) : xrd M 12 i k j = M 12 i k j := (rfl)
theorem xrz_31 : xrow 31 0 0 := Or.inl (by decide)
theorem xrz_34 : xrow 34 0 0 := Or.inl (by decide)
theorem XD1 {y : MethodName} {ws ws' : List Cond} {rm : Room} {cc : ByteArray} {nL : Nat} {ret : Option FieldType} (P : XPo → List (Nat × XStp)) (hy : plainName y.cls = true) (hw : ws = Cond.code y cc nL ret :: ws') (hall : ∀ Post, XAll rm cc nL y.cls ws ret Post (P Post)) {S : Int → XM → XPo → Prop} (hn : 2 ≤ nL) (body : ∀ (a : Int) (M : XM) (Post : XPo), S a M Post → ∀ WW : XK, XCl (xlk (P Post)) WW → WW 0 (xent nL [xR 0 0 0, xI a]) [] M) : XCn y ws rm (xq1 0 (fun _ _ => S)) := by
  refine XCn.of P hy hw hall ?_ ?_
  · intro av M Post h
    simp only [xq1] at h
    split at h
    · exact hn
    · exact h.elim
  · intro av M Post h WW hC
    simp only [xq1] at h
    split at h
    next t' i k a =>
      obtain ⟨⟨rfl, hv⟩, h⟩ := h
      obtain ⟨rfl, rfl⟩ := xk0 hv
      exact body a M Post h WW hC
    next => exact h.elim
theorem XD2 {y : MethodName} {ws ws' : List Cond} {rm : Room} {cc : ByteArray} {nL : Nat} {ret : Option FieldType} (P : XPo → List (Nat × XStp)) (hy : plainName y.cls = true) (hw : ws = Cond.code y cc nL ret :: ws') (hall : ∀ Post, XAll rm cc nL y.cls ws ret Post (P Post)) {S : Int → Int → XM → XPo → Prop} (hn : 3 ≤ nL) (body : ∀ (a b : Int) (M : XM) (Post : XPo), S a b M Post → ∀ WW : XK, XCl (xlk (P Post)) WW → WW 0 (xent nL [xR 0 0 0, xI a, xI b]) [] M) : XCn y ws rm (xq2 0 (fun _ _ => S)) := by
  refine XCn.of P hy hw hall ?_ ?_
  · intro av M Post h
    simp only [xq2] at h
    split at h
    · exact hn
    · exact h.elim
  · intro av M Post h WW hC
    simp only [xq2] at h
    split at h
    next t' i k a b =>
      obtain ⟨⟨rfl, hv⟩, h⟩ := h
      obtain ⟨rfl, rfl⟩ := xk0 hv
      exact body a b M Post h WW hC
    next => exact h.elim
theorem XD3 {y : MethodName} {ws ws' : List Cond} {rm : Room} {cc : ByteArray} {nL : Nat} {ret : Option FieldType} (P : XPo → List (Nat × XStp)) (hy : plainName y.cls = true) (hw : ws = Cond.code y cc nL ret :: ws') (hall : ∀ Post, XAll rm cc nL y.cls ws ret Post (P Post)) {S : Int → Int → Int → XM → XPo → Prop} (hn : 4 ≤ nL) (body : ∀ (a b c : Int) (M : XM) (Post : XPo), S a b c M Post → ∀ WW : XK, XCl (xlk (P Post)) WW → WW 0 (xent nL [xR 0 0 0, xI a, xI b, xI c]) [] M) : XCn y ws rm (xq3 0 (fun _ _ => S)) := by
  refine XCn.of P hy hw hall ?_ ?_
  · intro av M Post h
    simp only [xq3] at h
    split at h
    · exact hn
    · exact h.elim
  · intro av M Post h WW hC
    simp only [xq3] at h
    split at h
    next t' i k a b c =>
      obtain ⟨⟨rfl, hv⟩, h⟩ := h
      obtain ⟨rfl, rfl⟩ := xk0 hv
      exact body a b c M Post h WW hC
    next => exact h.elim
theorem XD4 {y : MethodName} {ws ws' : List Cond} {rm : Room} {cc : ByteArray} {nL : Nat} {ret : Option FieldType} (P : XPo → List (Nat × XStp)) (hy : plainName y.cls = true) (hw : ws = Cond.code y cc nL ret :: ws') (hall : ∀ Post, XAll rm cc nL y.cls ws ret Post (P Post)) {S : Int → Int → Int → Int → XM → XPo → Prop} (hn : 5 ≤ nL) (body : ∀ (a b c d : Int) (M : XM) (Post : XPo), S a b c d M Post → ∀ WW : XK, XCl (xlk (P Post)) WW → WW 0 (xent nL [xR 0 0 0, xI a, xI b, xI c, xI d]) [] M) : XCn y ws rm (xq4 0 (fun _ _ => S)) := by
  refine XCn.of P hy hw hall ?_ ?_
  · intro av M Post h
    simp only [xq4] at h
    split at h
    · exact hn
    · exact h.elim
  · intro av M Post h WW hC
    simp only [xq4] at h
    split at h
    next t' i k a b c d =>
      obtain ⟨⟨rfl, hv⟩, h⟩ := h
      obtain ⟨rfl, rfl⟩ := xk0 hv
      exact body a b c d M Post h WW hC
    next => exact h.elim
theorem XD5 {y : MethodName} {ws ws' : List Cond} {rm : Room} {cc : ByteArray} {nL : Nat} {ret : Option FieldType} (P : XPo → List (Nat × XStp)) (hy : plainName y.cls = true) (hw : ws = Cond.code y cc nL ret :: ws') (hall : ∀ Post, XAll rm cc nL y.cls ws ret Post (P Post)) {S : Int → Int → Int → Int → Int → XM → XPo → Prop} (hn : 6 ≤ nL) (body : ∀ (a b c d e : Int) (M : XM) (Post : XPo), S a b c d e M Post → ∀ WW : XK, XCl (xlk (P Post)) WW → WW 0 (xent nL [xR 0 0 0, xI a, xI b, xI c, xI d, xI e]) [] M) : XCn y ws rm (xq5 0 (fun _ _ => S)) := by
  refine XCn.of P hy hw hall ?_ ?_
  · intro av M Post h
    simp only [xq5] at h
    split at h
    · exact hn
    · exact h.elim
  · intro av M Post h WW hC
    simp only [xq5] at h
    split at h
    next t' i k a b c d e =>
      obtain ⟨⟨rfl, hv⟩, h⟩ := h
      obtain ⟨rfl, rfl⟩ := xk0 hv
      exact body a b c d e M Post h WW hC
    next => exact h.elim
theorem XD0 {y : MethodName} {ws ws' : List Cond} {rm : Room} {cc : ByteArray} {nL : Nat} {ret : Option FieldType} (P : XPo → List (Nat × XStp)) (hy : plainName y.cls = true) (hw : ws = Cond.code y cc nL ret :: ws') (hall : ∀ Post, XAll rm cc nL y.cls ws ret Post (P Post)) {S : XM → XPo → Prop} (hn : 1 ≤ nL) (body : ∀ (M : XM) (Post : XPo), S M Post → ∀ WW : XK, XCl (xlk (P Post)) WW → WW 0 (xent nL [xR 0 0 0]) [] M) : XCn y ws rm (xq0 0 (fun _ _ => S)) := by
  refine XCn.of P hy hw hall ?_ ?_
  · intro av M Post h
    simp only [xq0] at h
    split at h
    · exact hn
    · exact h.elim
  · intro av M Post h WW hC
    simp only [xq0] at h
    split at h
    next t' i k =>
      obtain ⟨⟨rfl, hv⟩, h⟩ := h
      obtain ⟨rfl, rfl⟩ := xk0 hv
      exact body M Post h WW hC
    next => exact h.elim
/-- what holds of the object between calls -/
def fH (M : XM) (i : Int) : Prop := fI (3600 * M 1 i 0 0) (60 * M 1 i 0 0) M i ∧ M 1 i 0 0 ≤ 20000
def KI (M : XM) : Prop := fH M 0 ∧ (0 ≤ M 15 0 0 1 ∧ M 15 0 0 1 < 6) ∧ (0 ≤ M 15 0 0 2 ∧ M 15 0 0 2 ≤ 6)
theorem fH_G {M : XM} {i : Int} (h : fH M i) : fI 72000000 1200000 M i := fI_mono h.1 (by have := h.2; omega) (by have := h.2; omega)
theorem KI_0 {M : XM} (h : KI M) : fI 72000000 1200000 M 0 := fH_G h.1
theorem KI_G {M : XM} (h : KI M) : fG M 0 := fI_mono (KI_0 h) (by decide) (by decide)
theorem fKeep_at {M : XM} (h : 0 ≤ M 15 0 0 1) (t : Nat) (k s : Int) (ht : ¬ t = 15) : fKeep M t 0 k s = M t 0 k s := by
  unfold fKeep rcp
  simp only [xup_app, ht, false_and, if_false]
  rw [if_neg (by omega)]
theorem fKeep_0 {M : XM} (h : 0 ≤ M 15 0 0 1) (t : Nat) (ht : ¬ t = 15) : fKeep M t 0 = M t 0 := by
  funext k s
  exact fKeep_at h t k s ht
theorem fKeep_I {M : XM} (h : 0 ≤ M 15 0 0 1) {c b : Int} (hI : fI c b M 0) : fI c b (fKeep M) 0 := by
  have e := fun t ht => fKeep_0 h t ht
  obtain ⟨hC, hS, hK, hL, hU⟩ := hI
  exact ⟨fC_congr (fun s _ => by rw [e 1 (by decide)]) (e 2 (by decide)) (e 3 (by decide)) (e 4 (by decide)) hC, fS_congr (e 11 (by decide)) (e 12 (by decide)) hS, fK_congr (fun k s _ => by rw [e 8 (by decide)]) (e 9 (by decide)) hK, fL_congr (fun l s _ => by rw [e 13 (by decide)]) hL, fU_congr (e 14 (by decide)) (by rw [e 1 (by decide)]) hU⟩
/-- UnitKitchens.addPlace(II)I -/
abbrev wX7_addPlace : List Cond := Cond.code yX7_addPlace cX7_addPlace 3 (some .int) :: xT
abbrev rX7_addPlace : Room := { frames := 5, cells := 0, slots := 0, locals := 125 }
def pX7_addPlace (Post : XPo) : List (Nat × XStp) := [(0, j_ild 1 1), (1, j_c 0 1), (2, j_c 99 2), (4, j_S3 sX7_requireRange), (7, j_ild 2 1), (8, j_c 0 1), (9, j_c 99 2), (11, j_S3 sX7_requireRange), (14, j_ald 0 1), (15, j_gR 0 (fun i k => (1, 0, 0))), (18, j_gI 1 3), (21, j_c 8 2), (23, j_ige 30), (26, j_c 1 1), (27, j_goto 31), (30, j_c 0 1), (31, j_S1 sX7_requireState), (34, j_ald 0 1), (35, j_gR 0 (fun i k => (15, 0, 0))), (38, j_ald 0 1), (39, j_gR 0 (fun i k => (1, 0, 0))), (42, j_V1 15 sX4_keep), (45, j_ald 0 1), (46, j_gR 0 (fun i k => (1, 0, 0))), (49, j_ild 1 1), (50, j_ild 2 1), (51, j_V2 1 sX0_newPlace), (54, j_iret Post)]
set_option maxRecDepth 100000 in
theorem aX7_addPlace (Post : XPo) : XAll rX7_addPlace cX7_addPlace 3 RX7 wX7_addPlace (some .int) Post (pX7_addPlace Post) := XAll.cons (xs_iload_n dX7_addPlace_0 rfl) (XAll.cons (xs_iconst dX7_addPlace_1) (XAll.cons (xs_bipush dX7_addPlace_2 rfl) (XAll.cons (xs_S3 kX7_requireRange ⟨⟨rfl, rfl, by decide, by decide⟩, ⟨by decide, by decide, by decide +kernel⟩, tw_297, tw_298, tw_1, tw_299⟩ dX7_addPlace_4) (XAll.cons (xs_iload_n dX7_addPlace_7 rfl) (XAll.cons (xs_iconst dX7_addPlace_8) (XAll.cons (xs_bipush dX7_addPlace_9 rfl) (XAll.cons (xs_S3 kX7_requireRange ⟨⟨rfl, rfl, by decide, by decide⟩, ⟨by decide, by decide, by decide +kernel⟩, tw_297, tw_298, tw_1, tw_299⟩ dX7_addPlace_11) (XAll.cons (xs_aload_n dX7_addPlace_14 rfl) (XAll.cons (fgX7_0 tw_274 dX7_addPlace_15) (XAll.cons (fgX0_3 tw_198 dX7_addPlace_18) (XAll.cons (xs_bipush dX7_addPlace_21 rfl) (XAll.cons (xs_icmp_ge dX7_addPlace_23 (by decide)) (XAll.cons (xs_iconst dX7_addPlace_26) (XAll.cons (xs_goto dX7_addPlace_27 (by decide)) (XAll.cons (xs_iconst dX7_addPlace_30) (XAll.cons (xs_S1 kX7_requireState ⟨⟨rfl, rfl, by decide, by decide⟩, ⟨by decide, by decide, by decide +kernel⟩, tw_368, tw_369, tw_1, tw_370⟩ dX7_addPlace_31) (XAll.cons (xs_aload_n dX7_addPlace_34 rfl) (XAll.cons (fgX7_2 tw_276 dX7_addPlace_35) (XAll.cons (xs_aload_n dX7_addPlace_38 rfl) (XAll.cons (fgX7_0 tw_274 dX7_addPlace_39) (XAll.cons (xs_V1 kX4_keep ⟨⟨rfl, rfl, by decide, by decide⟩, ⟨by decide, by decide, by decide +kernel⟩, ⟨tw_387, tw_388, tw_389, tw_7, tw_390⟩, 4, TX4, _, rfl, fun G ρ f i k => ⟨_, rfl⟩⟩ dX7_addPlace_42) (XAll.cons (xs_aload_n dX7_addPlace_45 rfl) (XAll.cons (fgX7_0 tw_274 dX7_addPlace_46) (XAll.cons (xs_iload_n dX7_addPlace_49 rfl) (XAll.cons (xs_iload_n dX7_addPlace_50 rfl) (XAll.cons (xs_V2 kX0_newPlace ⟨⟨rfl, rfl, by decide, by decide⟩, ⟨by decide, by decide, by decide +kernel⟩, ⟨tw_420, tw_421, tw_422, tw_2, tw_423⟩, 0, TX0, _, rfl, fun G ρ f i k => ⟨_, rfl⟩⟩ dX7_addPlace_51) (XAll.cons (xs_iret rfl dX7_addPlace_54) (XAll.nil))))))))))))))))))))))))))))
theorem fX7_addPlace_0 (Post : XPo) (cut : List Nat) (WW : XK) (n : Nat) (L : XLs) (st : List XV) (M : XM) : xru (xlk (pX7_addPlace Post)) cut WW (n + 1) 0 L st M = j_ild 1 1 0 L st M (xkk (xlk (pX7_addPlace Post)) cut WW n) := (rfl)
theorem fX7_addPlace_1 (Post : XPo) (cut : List Nat) (WW : XK) (n : Nat) (L : XLs) (st : List XV) (M : XM) : xru (xlk (pX7_addPlace Post)) cut WW (n + 1) 1 L st M = j_c 0 1 1 L st M (xkk (xlk (pX7_addPlace Post)) cut WW n) := (rfl)
theorem fX7_addPlace_2 (Post : XPo) (cut : List Nat) (WW : XK) (n : Nat) (L : XLs) (st : List XV) (M : XM) : xru (xlk (pX7_addPlace Post)) cut WW (n + 1) 2 L st M = j_c 99 2 2 L st M (xkk (xlk (pX7_addPlace Post)) cut WW n) := (rfl)
theorem fX7_addPlace_4 (Post : XPo) (cut : List Nat) (WW : XK) (n : Nat) (L : XLs) (st : List XV) (M : XM) : xru (xlk (pX7_addPlace Post)) cut WW (n + 1) 4 L st M = j_S3 sX7_requireRange 4 L st M (xkk (xlk (pX7_addPlace Post)) cut WW n) := (rfl)
theorem fX7_addPlace_7 (Post : XPo) (cut : List Nat) (WW : XK) (n : Nat) (L : XLs) (st : List XV) (M : XM) : xru (xlk (pX7_addPlace Post)) cut WW (n + 1) 7 L st M = j_ild 2 1 7 L st M (xkk (xlk (pX7_addPlace Post)) cut WW n) := (rfl)
theorem fX7_addPlace_8 (Post : XPo) (cut : List Nat) (WW : XK) (n : Nat) (L : XLs) (st : List XV) (M : XM) : xru (xlk (pX7_addPlace Post)) cut WW (n + 1) 8 L st M = j_c 0 1 8 L st M (xkk (xlk (pX7_addPlace Post)) cut WW n) := (rfl)
theorem fX7_addPlace_9 (Post : XPo) (cut : List Nat) (WW : XK) (n : Nat) (L : XLs) (st : List XV) (M : XM) : xru (xlk (pX7_addPlace Post)) cut WW (n + 1) 9 L st M = j_c 99 2 9 L st M (xkk (xlk (pX7_addPlace Post)) cut WW n) := (rfl)
theorem fX7_addPlace_11 (Post : XPo) (cut : List Nat) (WW : XK) (n : Nat) (L : XLs) (st : List XV) (M : XM) : xru (xlk (pX7_addPlace Post)) cut WW (n + 1) 11 L st M = j_S3 sX7_requireRange 11 L st M (xkk (xlk (pX7_addPlace Post)) cut WW n) := (rfl)
theorem fX7_addPlace_14 (Post : XPo) (cut : List Nat) (WW : XK) (n : Nat) (L : XLs) (st : List XV) (M : XM) : xru (xlk (pX7_addPlace Post)) cut WW (n + 1) 14 L st M = j_ald 0 1 14 L st M (xkk (xlk (pX7_addPlace Post)) cut WW n) := (rfl)
theorem fX7_addPlace_15 (Post : XPo) (cut : List Nat) (WW : XK) (n : Nat) (L : XLs) (st : List XV) (M : XM) : xru (xlk (pX7_addPlace Post)) cut WW (n + 1) 15 L st M = j_gR 0 (fun i k => (1, 0, 0)) 15 L st M (xkk (xlk (pX7_addPlace Post)) cut WW n) := (rfl)
theorem fX7_addPlace_18 (Post : XPo) (cut : List Nat) (WW : XK) (n : Nat) (L : XLs) (st : List XV) (M : XM) : xru (xlk (pX7_addPlace Post)) cut WW (n + 1) 18 L st M = j_gI 1 3 18 L st M (xkk (xlk (pX7_addPlace Post)) cut WW n) := (rfl)
theorem fX7_addPlace_21 (Post : XPo) (cut : List Nat) (WW : XK) (n : Nat) (L : XLs) (st : List XV) (M : XM) : xru (xlk (pX7_addPlace Post)) cut WW (n + 1) 21 L st M = j_c 8 2 21 L st M (xkk (xlk (pX7_addPlace Post)) cut WW n) := (rfl)
theorem fX7_addPlace_23 (Post : XPo) (cut : List Nat) (WW : XK) (n : Nat) (L : XLs) (st : List XV) (M : XM) : xru (xlk (pX7_addPlace Post)) cut WW (n + 1) 23 L st M = j_ige 30 23 L st M (xkk (xlk (pX7_addPlace Post)) cut WW n) := (rfl)
theorem fX7_addPlace_26 (Post : XPo) (cut : List Nat) (WW : XK) (n : Nat) (L : XLs) (st : List XV) (M : XM) : xru (xlk (pX7_addPlace Post)) cut WW (n + 1) 26 L st M = j_c 1 1 26 L st M (xkk (xlk (pX7_addPlace Post)) cut WW n) := (rfl)
theorem fX7_addPlace_27 (Post : XPo) (cut : List Nat) (WW : XK) (n : Nat) (L : XLs) (st : List XV) (M : XM) : xru (xlk (pX7_addPlace Post)) cut WW (n + 1) 27 L st M = j_goto 31 27 L st M (xkk (xlk (pX7_addPlace Post)) cut WW n) := (rfl)
theorem fX7_addPlace_30 (Post : XPo) (cut : List Nat) (WW : XK) (n : Nat) (L : XLs) (st : List XV) (M : XM) : xru (xlk (pX7_addPlace Post)) cut WW (n + 1) 30 L st M = j_c 0 1 30 L st M (xkk (xlk (pX7_addPlace Post)) cut WW n) := (rfl)
theorem fX7_addPlace_31 (Post : XPo) (cut : List Nat) (WW : XK) (n : Nat) (L : XLs) (st : List XV) (M : XM) : xru (xlk (pX7_addPlace Post)) cut WW (n + 1) 31 L st M = j_S1 sX7_requireState 31 L st M (xkk (xlk (pX7_addPlace Post)) cut WW n) := (rfl)
theorem fX7_addPlace_34 (Post : XPo) (cut : List Nat) (WW : XK) (n : Nat) (L : XLs) (st : List XV) (M : XM) : xru (xlk (pX7_addPlace Post)) cut WW (n + 1) 34 L st M = j_ald 0 1 34 L st M (xkk (xlk (pX7_addPlace Post)) cut WW n) := (rfl)
theorem fX7_addPlace_35 (Post : XPo) (cut : List Nat) (WW : XK) (n : Nat) (L : XLs) (st : List XV) (M : XM) : xru (xlk (pX7_addPlace Post)) cut WW (n + 1) 35 L st M = j_gR 0 (fun i k => (15, 0, 0)) 35 L st M (xkk (xlk (pX7_addPlace Post)) cut WW n) := (rfl)
theorem fX7_addPlace_38 (Post : XPo) (cut : List Nat) (WW : XK) (n : Nat) (L : XLs) (st : List XV) (M : XM) : xru (xlk (pX7_addPlace Post)) cut WW (n + 1) 38 L st M = j_ald 0 1 38 L st M (xkk (xlk (pX7_addPlace Post)) cut WW n) := (rfl)
theorem fX7_addPlace_39 (Post : XPo) (cut : List Nat) (WW : XK) (n : Nat) (L : XLs) (st : List XV) (M : XM) : xru (xlk (pX7_addPlace Post)) cut WW (n + 1) 39 L st M = j_gR 0 (fun i k => (1, 0, 0)) 39 L st M (xkk (xlk (pX7_addPlace Post)) cut WW n) := (rfl)
theorem fX7_addPlace_42 (Post : XPo) (cut : List Nat) (WW : XK) (n : Nat) (L : XLs) (st : List XV) (M : XM) : xru (xlk (pX7_addPlace Post)) cut WW (n + 1) 42 L st M = j_V1 15 sX4_keep 42 L st M (xkk (xlk (pX7_addPlace Post)) cut WW n) := (rfl)
theorem fX7_addPlace_45 (Post : XPo) (cut : List Nat) (WW : XK) (n : Nat) (L : XLs) (st : List XV) (M : XM) : xru (xlk (pX7_addPlace Post)) cut WW (n + 1) 45 L st M = j_ald 0 1 45 L st M (xkk (xlk (pX7_addPlace Post)) cut WW n) := (rfl)
theorem fX7_addPlace_46 (Post : XPo) (cut : List Nat) (WW : XK) (n : Nat) (L : XLs) (st : List XV) (M : XM) : xru (xlk (pX7_addPlace Post)) cut WW (n + 1) 46 L st M = j_gR 0 (fun i k => (1, 0, 0)) 46 L st M (xkk (xlk (pX7_addPlace Post)) cut WW n) := (rfl)
theorem fX7_addPlace_49 (Post : XPo) (cut : List Nat) (WW : XK) (n : Nat) (L : XLs) (st : List XV) (M : XM) : xru (xlk (pX7_addPlace Post)) cut WW (n + 1) 49 L st M = j_ild 1 1 49 L st M (xkk (xlk (pX7_addPlace Post)) cut WW n) := (rfl)
theorem fX7_addPlace_50 (Post : XPo) (cut : List Nat) (WW : XK) (n : Nat) (L : XLs) (st : List XV) (M : XM) : xru (xlk (pX7_addPlace Post)) cut WW (n + 1) 50 L st M = j_ild 2 1 50 L st M (xkk (xlk (pX7_addPlace Post)) cut WW n) := (rfl)
theorem fX7_addPlace_51 (Post : XPo) (cut : List Nat) (WW : XK) (n : Nat) (L : XLs) (st : List XV) (M : XM) : xru (xlk (pX7_addPlace Post)) cut WW (n + 1) 51 L st M = j_V2 1 sX0_newPlace 51 L st M (xkk (xlk (pX7_addPlace Post)) cut WW n) := (rfl)
theorem fX7_addPlace_54 (Post : XPo) (cut : List Nat) (WW : XK) (n : Nat) (L : XLs) (st : List XV) (M : XM) : xru (xlk (pX7_addPlace Post)) cut WW (n + 1) 54 L st M = j_iret Post 54 L st M (xkk (xlk (pX7_addPlace Post)) cut WW n) := (rfl)
def sX7_addPlace : XSp := xq2 0 (fun _ _ x y => fun M Q => KI M ∧ XInR x ∧ XInR y ∧ (0 ≤ x ∧ x ≤ 99) ∧ (0 ≤ y ∧ y ≤ 99) ∧ (¬ 8 ≤ M 1 0 0 3) ∧ Q [xI (M 1 0 0 3)] (fNewP (fKeep M) 0 x y))
set_option maxRecDepth 100000 in
theorem kX7_addPlace : XCn yX7_addPlace wX7_addPlace rX7_addPlace sX7_addPlace := XD2 pX7_addPlace rfl rfl aX7_addPlace (by decide) (fun x y M Post h WW hC => by
  obtain ⟨hK, r_x, r_y, c0, c1, c2, h⟩ := h
  have hG := KI_G hK
  obtain ⟨g3, g6, g8, g10, g0, gs⟩ := fC_in hG.1
  have hK0 := KI_0 hK
  obtain ⟨hK1, hn, hm⟩ := hK
  have hKp := fKeep_at hn.1
  have q3 : 0 ≤ M 1 0 0 3 := hG.1.1.1
  show WW 0 [some (xR 0 0 0), some (xI x), some (xI y)] [] M
  refine xru_ok hC [] 200 _ _ _ _ ?_
  simp only [xkk_ap, Int.reduceEq, Int.reduceLT, Int.reduceLE, Int.reduceNeg, Int.reduceAdd, Int.reduceSub, Int.reduceMul, and_self, false_and, and_false, not_true_eq_false, not_false_eq_true, true_implies, false_implies, xq0, xq1, xq2, xq3, xq4, xq5, xqR, xq1R, xq3R, xt1, xt2, xt3, List.mem_cons, List.not_mem_nil, or_false, false_or, or_self, if_false, if_true, reduceIte, reduceCtorEq, xent, xen, List.length_cons, List.length_nil, List.replicate, j_c, j_cJ, j_ild, j_ald, j_lld, j_ist, j_ast, j_lst, j_inc, j_add, j_sub, j_mul, j_neg, j_div, j_rem, j_and, j_shr, j_shl1, j_or, j_ladd, j_lsub, j_lmul, j_i2l, j_lcmp, j_i2c, j_dup, j_dup2, j_pop, j_goto, j_ieq, j_ine, j_ilt, j_ige, j_igt, j_ile, j_eq, j_ne, j_lt, j_ge, j_gt, j_le, xsw, j_tsw, j_gI, j_gJ, j_gR, j_pI, j_pJ, j_gs, j_iald, j_iast, j_cald, j_cast, j_aald, j_cpy, j_min, j_max, j_abs, j_iret, j_zret, j_lret, j_dret, j_ret0, j_V0, j_V1, j_V2, j_V3, j_V4, j_V5, j_S1, j_S2, j_S3, xget, xset, xset2, xclr, xc1, xcat, Nat.reduceAdd, Nat.reduceEqDiff, Nat.reduceLT, Nat.reduceLeDiff, Nat.reduceMul, List.cons_append, List.nil_append, true_and, and_true, List.singleton_append, fX7_addPlace_0, fX7_addPlace_1, fX7_addPlace_2, fX7_addPlace_4, fX7_addPlace_7, fX7_addPlace_8, fX7_addPlace_9, fX7_addPlace_11, fX7_addPlace_14, fX7_addPlace_15, fX7_addPlace_18, fX7_addPlace_21, fX7_addPlace_23, fX7_addPlace_26, fX7_addPlace_27, fX7_addPlace_30, fX7_addPlace_31, fX7_addPlace_34, fX7_addPlace_35, fX7_addPlace_38, fX7_addPlace_39, fX7_addPlace_42, fX7_addPlace_45, fX7_addPlace_46, fX7_addPlace_49, fX7_addPlace_50, fX7_addPlace_51, fX7_addPlace_54, sX7_requireRange, sX7_requireState, sX4_keep, sX0_newPlace, hn, hm, g3, g6, g8, g10, g0, gs, hKp, r_x, r_y, q3, xvz_0, xvz_1, xvz_2, xvz_3, xvz_4, xvz_5, xvz_6, xvz_7, xvz_15, xvz_17, xvz_18, xrz_2, xrz_3, xrz_4, xdz_2, xdz_3, xdz_4, xdz_9, xdz_11, xdz_12, xr_c (n := 0) rfl, xr_c (n := 1) rfl, xr_c (n := 2) rfl, xr_c (n := 3) rfl, xr_c (n := 4) rfl, xr_c (n := 5) rfl, xr_c (n := 6) rfl, xr_c (n := 8) rfl, xr_c (n := 10) rfl, xr_c (n := 11) rfl, xr_c (n := 12) rfl, xr_c (n := 16) rfl, xr_c (n := 30) rfl, xr_c (n := 99) rfl, xr_c (n := 120) rfl, xr_c (n := 126) rfl, xr_c (n := 33) rfl, xr_c (n := 200) rfl, xr_c (n := 255) rfl, xr_c (n := 299) rfl, xr_c (n := 300) rfl, xr_c (n := 500) rfl, xr_c (n := 600) rfl, xr_c (n := 999) rfl, xr_c (n := 1000) rfl, xr_c (n := 20000) rfl, xr_c (n := 60) rfl, xr_c (n := -1) rfl, xlen, xcat, xc1, Nat.zero_le, Nat.reduceLeDiff, c0, c1, c2]
  (repeat' (first | exact h | intro _ | apply And.intro)) <;> first | omega | (exfalso; omega) | exact ⟨by omega, by omega⟩)
/-- UnitKitchens.addKitchen(I)I -/
abbrev wX7_addKitchen : List Cond := Cond.code yX7_addKitchen cX7_addKitchen 2 (some .int) :: xT
abbrev rX7_addKitchen : Room := { frames := 5, cells := 0, slots := 0, locals := 125 }
def pX7_addKitchen (Post : XPo) : List (Nat × XStp) := [(0, j_ild 1 1), (1, j_ald 0 1), (2, j_gR 0 (fun i k => (1, 0, 0))), (5, j_gI 1 3), (8, j_S2 sX7_requireIndex), (11, j_ald 0 1), (12, j_gR 0 (fun i k => (1, 0, 0))), (15, j_gI 1 6), (18, j_c 3 1), (19, j_ige 26), (22, j_c 1 1), (23, j_goto 27), (26, j_c 0 1), (27, j_S1 sX7_requireState), (30, j_ald 0 1), (31, j_gR 0 (fun i k => (15, 0, 0))), (34, j_ald 0 1), (35, j_gR 0 (fun i k => (1, 0, 0))), (38, j_V1 15 sX4_keep), (41, j_ald 0 1), (42, j_gR 0 (fun i k => (1, 0, 0))), (45, j_ild 1 1), (46, j_V1 1 sX0_newKitchen), (49, j_iret Post)]
set_option maxRecDepth 100000 in
theorem aX7_addKitchen (Post : XPo) : XAll rX7_addKitchen cX7_addKitchen 2 RX7 wX7_addKitchen (some .int) Post (pX7_addKitchen Post) := XAll.cons (xs_iload_n dX7_addKitchen_0 rfl) (XAll.cons (xs_aload_n dX7_addKitchen_1 rfl) (XAll.cons (fgX7_0 tw_274 dX7_addKitchen_2) (XAll.cons (fgX0_3 tw_198 dX7_addKitchen_5) (XAll.cons (xs_S2 kX7_requireIndex ⟨⟨rfl, rfl, by decide, by decide⟩, ⟨by decide, by decide, by decide +kernel⟩, tw_428, tw_429, tw_1, tw_430⟩ dX7_addKitchen_8) (XAll.cons (xs_aload_n dX7_addKitchen_11 rfl) (XAll.cons (fgX7_0 tw_274 dX7_addKitchen_12) (XAll.cons (fgX0_6 tw_203 dX7_addKitchen_15) (XAll.cons (xs_iconst dX7_addKitchen_18) (XAll.cons (xs_icmp_ge dX7_addKitchen_19 (by decide)) (XAll.cons (xs_iconst dX7_addKitchen_22) (XAll.cons (xs_goto dX7_addKitchen_23 (by decide)) (XAll.cons (xs_iconst dX7_addKitchen_26) (XAll.cons (xs_S1 kX7_requireState ⟨⟨rfl, rfl, by decide, by decide⟩, ⟨by decide, by decide, by decide +kernel⟩, tw_368, tw_369, tw_1, tw_370⟩ dX7_addKitchen_27) (XAll.cons (xs_aload_n dX7_addKitchen_30 rfl) (XAll.cons (fgX7_2 tw_276 dX7_addKitchen_31) (XAll.cons (xs_aload_n dX7_addKitchen_34 rfl) (XAll.cons (fgX7_0 tw_274 dX7_addKitchen_35) (XAll.cons (xs_V1 kX4_keep ⟨⟨rfl, rfl, by decide, by decide⟩, ⟨by decide, by decide, by decide +kernel⟩, ⟨tw_387, tw_388, tw_389, tw_7, tw_390⟩, 4, TX4, _, rfl, fun G ρ f i k => ⟨_, rfl⟩⟩ dX7_addKitchen_38) (XAll.cons (xs_aload_n dX7_addKitchen_41 rfl) (XAll.cons (fgX7_0 tw_274 dX7_addKitchen_42) (XAll.cons (xs_iload_n dX7_addKitchen_45 rfl) (XAll.cons (xs_V1 kX0_newKitchen ⟨⟨rfl, rfl, by decide, by decide⟩, ⟨by decide, by decide, by decide +kernel⟩, ⟨tw_447, tw_448, tw_449, tw_2, tw_450⟩, 0, TX0, _, rfl, fun G ρ f i k => ⟨_, rfl⟩⟩ dX7_addKitchen_46) (XAll.cons (xs_iret rfl dX7_addKitchen_49) (XAll.nil))))))))))))))))))))))))
theorem fX7_addKitchen_0 (Post : XPo) (cut : List Nat) (WW : XK) (n : Nat) (L : XLs) (st : List XV) (M : XM) : xru (xlk (pX7_addKitchen Post)) cut WW (n + 1) 0 L st M = j_ild 1 1 0 L st M (xkk (xlk (pX7_addKitchen Post)) cut WW n) := (rfl)
theorem fX7_addKitchen_1 (Post : XPo) (cut : List Nat) (WW : XK) (n : Nat) (L : XLs) (st : List XV) (M : XM) : xru (xlk (pX7_addKitchen Post)) cut WW (n + 1) 1 L st M = j_ald 0 1 1 L st M (xkk (xlk (pX7_addKitchen Post)) cut WW n) := (rfl)
theorem fX7_addKitchen_2 (Post : XPo) (cut : List Nat) (WW : XK) (n : Nat) (L : XLs) (st : List XV) (M : XM) : xru (xlk (pX7_addKitchen Post)) cut WW (n + 1) 2 L st M = j_gR 0 (fun i k => (1, 0, 0)) 2 L st M (xkk (xlk (pX7_addKitchen Post)) cut WW n) := (rfl)
theorem fX7_addKitchen_5 (Post : XPo) (cut : List Nat) (WW : XK) (n : Nat) (L : XLs) (st : List XV) (M : XM) : xru (xlk (pX7_addKitchen Post)) cut WW (n + 1) 5 L st M = j_gI 1 3 5 L st M (xkk (xlk (pX7_addKitchen Post)) cut WW n) := (rfl)
theorem fX7_addKitchen_8 (Post : XPo) (cut : List Nat) (WW : XK) (n : Nat) (L : XLs) (st : List XV) (M : XM) : xru (xlk (pX7_addKitchen Post)) cut WW (n + 1) 8 L st M = j_S2 sX7_requireIndex 8 L st M (xkk (xlk (pX7_addKitchen Post)) cut WW n) := (rfl)
theorem fX7_addKitchen_11 (Post : XPo) (cut : List Nat) (WW : XK) (n : Nat) (L : XLs) (st : List XV) (M : XM) : xru (xlk (pX7_addKitchen Post)) cut WW (n + 1) 11 L st M = j_ald 0 1 11 L st M (xkk (xlk (pX7_addKitchen Post)) cut WW n) := (rfl)
theorem fX7_addKitchen_12 (Post : XPo) (cut : List Nat) (WW : XK) (n : Nat) (L : XLs) (st : List XV) (M : XM) : xru (xlk (pX7_addKitchen Post)) cut WW (n + 1) 12 L st M = j_gR 0 (fun i k => (1, 0, 0)) 12 L st M (xkk (xlk (pX7_addKitchen Post)) cut WW n) := (rfl)
theorem fX7_addKitchen_15 (Post : XPo) (cut : List Nat) (WW : XK) (n : Nat) (L : XLs) (st : List XV) (M : XM) : xru (xlk (pX7_addKitchen Post)) cut WW (n + 1) 15 L st M = j_gI 1 6 15 L st M (xkk (xlk (pX7_addKitchen Post)) cut WW n) := (rfl)
theorem fX7_addKitchen_18 (Post : XPo) (cut : List Nat) (WW : XK) (n : Nat) (L : XLs) (st : List XV) (M : XM) : xru (xlk (pX7_addKitchen Post)) cut WW (n + 1) 18 L st M = j_c 3 1 18 L st M (xkk (xlk (pX7_addKitchen Post)) cut WW n) := (rfl)
theorem fX7_addKitchen_19 (Post : XPo) (cut : List Nat) (WW : XK) (n : Nat) (L : XLs) (st : List XV) (M : XM) : xru (xlk (pX7_addKitchen Post)) cut WW (n + 1) 19 L st M = j_ige 26 19 L st M (xkk (xlk (pX7_addKitchen Post)) cut WW n) := (rfl)
theorem fX7_addKitchen_22 (Post : XPo) (cut : List Nat) (WW : XK) (n : Nat) (L : XLs) (st : List XV) (M : XM) : xru (xlk (pX7_addKitchen Post)) cut WW (n + 1) 22 L st M = j_c 1 1 22 L st M (xkk (xlk (pX7_addKitchen Post)) cut WW n) := (rfl)
theorem fX7_addKitchen_23 (Post : XPo) (cut : List Nat) (WW : XK) (n : Nat) (L : XLs) (st : List XV) (M : XM) : xru (xlk (pX7_addKitchen Post)) cut WW (n + 1) 23 L st M = j_goto 27 23 L st M (xkk (xlk (pX7_addKitchen Post)) cut WW n) := (rfl)
theorem fX7_addKitchen_26 (Post : XPo) (cut : List Nat) (WW : XK) (n : Nat) (L : XLs) (st : List XV) (M : XM) : xru (xlk (pX7_addKitchen Post)) cut WW (n + 1) 26 L st M = j_c 0 1 26 L st M (xkk (xlk (pX7_addKitchen Post)) cut WW n) := (rfl)
theorem fX7_addKitchen_27 (Post : XPo) (cut : List Nat) (WW : XK) (n : Nat) (L : XLs) (st : List XV) (M : XM) : xru (xlk (pX7_addKitchen Post)) cut WW (n + 1) 27 L st M = j_S1 sX7_requireState 27 L st M (xkk (xlk (pX7_addKitchen Post)) cut WW n) := (rfl)
theorem fX7_addKitchen_30 (Post : XPo) (cut : List Nat) (WW : XK) (n : Nat) (L : XLs) (st : List XV) (M : XM) : xru (xlk (pX7_addKitchen Post)) cut WW (n + 1) 30 L st M = j_ald 0 1 30 L st M (xkk (xlk (pX7_addKitchen Post)) cut WW n) := (rfl)
theorem fX7_addKitchen_31 (Post : XPo) (cut : List Nat) (WW : XK) (n : Nat) (L : XLs) (st : List XV) (M : XM) : xru (xlk (pX7_addKitchen Post)) cut WW (n + 1) 31 L st M = j_gR 0 (fun i k => (15, 0, 0)) 31 L st M (xkk (xlk (pX7_addKitchen Post)) cut WW n) := (rfl)
theorem fX7_addKitchen_34 (Post : XPo) (cut : List Nat) (WW : XK) (n : Nat) (L : XLs) (st : List XV) (M : XM) : xru (xlk (pX7_addKitchen Post)) cut WW (n + 1) 34 L st M = j_ald 0 1 34 L st M (xkk (xlk (pX7_addKitchen Post)) cut WW n) := (rfl)
theorem fX7_addKitchen_35 (Post : XPo) (cut : List Nat) (WW : XK) (n : Nat) (L : XLs) (st : List XV) (M : XM) : xru (xlk (pX7_addKitchen Post)) cut WW (n + 1) 35 L st M = j_gR 0 (fun i k => (1, 0, 0)) 35 L st M (xkk (xlk (pX7_addKitchen Post)) cut WW n) := (rfl)
theorem fX7_addKitchen_38 (Post : XPo) (cut : List Nat) (WW : XK) (n : Nat) (L : XLs) (st : List XV) (M : XM) : xru (xlk (pX7_addKitchen Post)) cut WW (n + 1) 38 L st M = j_V1 15 sX4_keep 38 L st M (xkk (xlk (pX7_addKitchen Post)) cut WW n) := (rfl)
theorem fX7_addKitchen_41 (Post : XPo) (cut : List Nat) (WW : XK) (n : Nat) (L : XLs) (st : List XV) (M : XM) : xru (xlk (pX7_addKitchen Post)) cut WW (n + 1) 41 L st M = j_ald 0 1 41 L st M (xkk (xlk (pX7_addKitchen Post)) cut WW n) := (rfl)
theorem fX7_addKitchen_42 (Post : XPo) (cut : List Nat) (WW : XK) (n : Nat) (L : XLs) (st : List XV) (M : XM) : xru (xlk (pX7_addKitchen Post)) cut WW (n + 1) 42 L st M = j_gR 0 (fun i k => (1, 0, 0)) 42 L st M (xkk (xlk (pX7_addKitchen Post)) cut WW n) := (rfl)
theorem fX7_addKitchen_45 (Post : XPo) (cut : List Nat) (WW : XK) (n : Nat) (L : XLs) (st : List XV) (M : XM) : xru (xlk (pX7_addKitchen Post)) cut WW (n + 1) 45 L st M = j_ild 1 1 45 L st M (xkk (xlk (pX7_addKitchen Post)) cut WW n) := (rfl)
theorem fX7_addKitchen_46 (Post : XPo) (cut : List Nat) (WW : XK) (n : Nat) (L : XLs) (st : List XV) (M : XM) : xru (xlk (pX7_addKitchen Post)) cut WW (n + 1) 46 L st M = j_V1 1 sX0_newKitchen 46 L st M (xkk (xlk (pX7_addKitchen Post)) cut WW n) := (rfl)
theorem fX7_addKitchen_49 (Post : XPo) (cut : List Nat) (WW : XK) (n : Nat) (L : XLs) (st : List XV) (M : XM) : xru (xlk (pX7_addKitchen Post)) cut WW (n + 1) 49 L st M = j_iret Post 49 L st M (xkk (xlk (pX7_addKitchen Post)) cut WW n) := (rfl)
def sX7_addKitchen : XSp := xq1 0 (fun _ _ p => fun M Q => KI M ∧ XInR p ∧ (0 ≤ p ∧ p < M 1 0 0 3) ∧ (¬ 3 ≤ M 1 0 0 6) ∧ Q [xI (M 1 0 0 6)] (fNewK (fKeep M) 0 p))
set_option maxRecDepth 100000 in
theorem kX7_addKitchen : XCn yX7_addKitchen wX7_addKitchen rX7_addKitchen sX7_addKitchen := XD1 pX7_addKitchen rfl rfl aX7_addKitchen (by decide) (fun p M Post h WW hC => by
  obtain ⟨hK, r_p, c0, c1, h⟩ := h
  have hG := KI_G hK
  obtain ⟨g3, g6, g8, g10, g0, gs⟩ := fC_in hG.1
  have hK0 := KI_0 hK
  obtain ⟨hK1, hn, hm⟩ := hK
  have hKp := fKeep_at hn.1
  have q3 : 0 ≤ M 1 0 0 6 := hG.1.2.1.1
  show WW 0 [some (xR 0 0 0), some (xI p)] [] M
  refine xru_ok hC [] 200 _ _ _ _ ?_
  simp only [xkk_ap, Int.reduceEq, Int.reduceLT, Int.reduceLE, Int.reduceNeg, Int.reduceAdd, Int.reduceSub, Int.reduceMul, and_self, false_and, and_false, not_true_eq_false, not_false_eq_true, true_implies, false_implies, xq0, xq1, xq2, xq3, xq4, xq5, xqR, xq1R, xq3R, xt1, xt2, xt3, List.mem_cons, List.not_mem_nil, or_false, false_or, or_self, if_false, if_true, reduceIte, reduceCtorEq, xent, xen, List.length_cons, List.length_nil, List.replicate, j_c, j_cJ, j_ild, j_ald, j_lld, j_ist, j_ast, j_lst, j_inc, j_add, j_sub, j_mul, j_neg, j_div, j_rem, j_and, j_shr, j_shl1, j_or, j_ladd, j_lsub, j_lmul, j_i2l, j_lcmp, j_i2c, j_dup, j_dup2, j_pop, j_goto, j_ieq, j_ine, j_ilt, j_ige, j_igt, j_ile, j_eq, j_ne, j_lt, j_ge, j_gt, j_le, xsw, j_tsw, j_gI, j_gJ, j_gR, j_pI, j_pJ, j_gs, j_iald, j_iast, j_cald, j_cast, j_aald, j_cpy, j_min, j_max, j_abs, j_iret, j_zret, j_lret, j_dret, j_ret0, j_V0, j_V1, j_V2, j_V3, j_V4, j_V5, j_S1, j_S2, j_S3, xget, xset, xset2, xclr, xc1, xcat, Nat.reduceAdd, Nat.reduceEqDiff, Nat.reduceLT, Nat.reduceLeDiff, Nat.reduceMul, List.cons_append, List.nil_append, true_and, and_true, List.singleton_append, fX7_addKitchen_0, fX7_addKitchen_1, fX7_addKitchen_2, fX7_addKitchen_5, fX7_addKitchen_8, fX7_addKitchen_11, fX7_addKitchen_12, fX7_addKitchen_15, fX7_addKitchen_18, fX7_addKitchen_19, fX7_addKitchen_22, fX7_addKitchen_23, fX7_addKitchen_26, fX7_addKitchen_27, fX7_addKitchen_30, fX7_addKitchen_31, fX7_addKitchen_34, fX7_addKitchen_35, fX7_addKitchen_38, fX7_addKitchen_41, fX7_addKitchen_42, fX7_addKitchen_45, fX7_addKitchen_46, fX7_addKitchen_49, sX7_requireIndex, sX7_requireState, sX4_keep, sX0_newKitchen, hn, hm, g3, g6, g8, g10, g0, gs, hKp, r_p, q3, xvz_0, xvz_1, xvz_2, xvz_3, xvz_4, xvz_5, xvz_6, xvz_7, xvz_15, xvz_17, xvz_18, xrz_2, xrz_3, xrz_4, xdz_2, xdz_3, xdz_4, xdz_9, xdz_11, xdz_12, xr_c (n := 0) rfl, xr_c (n := 1) rfl, xr_c (n := 2) rfl, xr_c (n := 3) rfl, xr_c (n := 4) rfl, xr_c (n := 5) rfl, xr_c (n := 6) rfl, xr_c (n := 8) rfl, xr_c (n := 10) rfl, xr_c (n := 11) rfl, xr_c (n := 12) rfl, xr_c (n := 16) rfl, xr_c (n := 30) rfl, xr_c (n := 99) rfl, xr_c (n := 120) rfl, xr_c (n := 126) rfl, xr_c (n := 33) rfl, xr_c (n := 200) rfl, xr_c (n := 255) rfl, xr_c (n := 299) rfl, xr_c (n := 300) rfl, xr_c (n := 500) rfl, xr_c (n := 600) rfl, xr_c (n := 999) rfl, xr_c (n := 1000) rfl, xr_c (n := 20000) rfl, xr_c (n := 60) rfl, xr_c (n := -1) rfl, xlen, xcat, xc1, Nat.zero_le, Nat.reduceLeDiff, c0, c1]
  (repeat' (first | exact h | intro _ | apply And.intro)) <;> first | omega | (exfalso; omega) | exact ⟨by omega, by omega⟩)
/-- UnitKitchens.addLorry(I)I -/
abbrev wX7_addLorry : List Cond := Cond.code yX7_addLorry cX7_addLorry 2 (some .int) :: xT
abbrev rX7_addLorry : Room := { frames := 5, cells := 0, slots := 0, locals := 125 }
def pX7_addLorry (Post : XPo) : List (Nat × XStp) := [(0, j_ild 1 1), (1, j_ald 0 1), (2, j_gR 0 (fun i k => (1, 0, 0))), (5, j_gI 1 3), (8, j_S2 sX7_requireIndex), (11, j_ald 0 1), (12, j_gR 0 (fun i k => (1, 0, 0))), (15, j_gI 1 8), (18, j_c 4 1), (19, j_ige 26), (22, j_c 1 1), (23, j_goto 27), (26, j_c 0 1), (27, j_S1 sX7_requireState), (30, j_ald 0 1), (31, j_gR 0 (fun i k => (15, 0, 0))), (34, j_ald 0 1), (35, j_gR 0 (fun i k => (1, 0, 0))), (38, j_V1 15 sX4_keep), (41, j_ald 0 1), (42, j_gR 0 (fun i k => (1, 0, 0))), (45, j_ild 1 1), (46, j_V1 1 sX0_newLorry), (49, j_iret Post)]
set_option maxRecDepth 100000 in
theorem aX7_addLorry (Post : XPo) : XAll rX7_addLorry cX7_addLorry 2 RX7 wX7_addLorry (some .int) Post (pX7_addLorry Post) := XAll.cons (xs_iload_n dX7_addLorry_0 rfl) (XAll.cons (xs_aload_n dX7_addLorry_1 rfl) (XAll.cons (fgX7_0 tw_274 dX7_addLorry_2) (XAll.cons (fgX0_3 tw_198 dX7_addLorry_5) (XAll.cons (xs_S2 kX7_requireIndex ⟨⟨rfl, rfl, by decide, by decide⟩, ⟨by decide, by decide, by decide +kernel⟩, tw_428, tw_429, tw_1, tw_430⟩ dX7_addLorry_8) (XAll.cons (xs_aload_n dX7_addLorry_11 rfl) (XAll.cons (fgX7_0 tw_274 dX7_addLorry_12) (XAll.cons (fgX0_8 tw_207 dX7_addLorry_15) (XAll.cons (xs_iconst dX7_addLorry_18) (XAll.cons (xs_icmp_ge dX7_addLorry_19 (by decide)) (XAll.cons (xs_iconst dX7_addLorry_22) (XAll.cons (xs_goto dX7_addLorry_23 (by decide)) (XAll.cons (xs_iconst dX7_addLorry_26) (XAll.cons (xs_S1 kX7_requireState ⟨⟨rfl, rfl, by decide, by decide⟩, ⟨by decide, by decide, by decide +kernel⟩, tw_368, tw_369, tw_1, tw_370⟩ dX7_addLorry_27) (XAll.cons (xs_aload_n dX7_addLorry_30 rfl) (XAll.cons (fgX7_2 tw_276 dX7_addLorry_31) (XAll.cons (xs_aload_n dX7_addLorry_34 rfl) (XAll.cons (fgX7_0 tw_274 dX7_addLorry_35) (XAll.cons (xs_V1 kX4_keep ⟨⟨rfl, rfl, by decide, by decide⟩, ⟨by decide, by decide, by decide +kernel⟩, ⟨tw_387, tw_388, tw_389, tw_7, tw_390⟩, 4, TX4, _, rfl, fun G ρ f i k => ⟨_, rfl⟩⟩ dX7_addLorry_38) (XAll.cons (xs_aload_n dX7_addLorry_41 rfl) (XAll.cons (fgX7_0 tw_274 dX7_addLorry_42) (XAll.cons (xs_iload_n dX7_addLorry_45 rfl) (XAll.cons (xs_V1 kX0_newLorry ⟨⟨rfl, rfl, by decide, by decide⟩, ⟨by decide, by decide, by decide +kernel⟩, ⟨tw_455, tw_456, tw_457, tw_2, tw_458⟩, 0, TX0, _, rfl, fun G ρ f i k => ⟨_, rfl⟩⟩ dX7_addLorry_46) (XAll.cons (xs_iret rfl dX7_addLorry_49) (XAll.nil))))))))))))))))))))))))
theorem fX7_addLorry_0 (Post : XPo) (cut : List Nat) (WW : XK) (n : Nat) (L : XLs) (st : List XV) (M : XM) : xru (xlk (pX7_addLorry Post)) cut WW (n + 1) 0 L st M = j_ild 1 1 0 L st M (xkk (xlk (pX7_addLorry Post)) cut WW n) := (rfl)
theorem fX7_addLorry_1 (Post : XPo) (cut : List Nat) (WW : XK) (n : Nat) (L : XLs) (st : List XV) (M : XM) : xru (xlk (pX7_addLorry Post)) cut WW (n + 1) 1 L st M = j_ald 0 1 1 L st M (xkk (xlk (pX7_addLorry Post)) cut WW n) := (rfl)
theorem fX7_addLorry_2 (Post : XPo) (cut : List Nat) (WW : XK) (n : Nat) (L : XLs) (st : List XV) (M : XM) : xru (xlk (pX7_addLorry Post)) cut WW (n + 1) 2 L st M = j_gR 0 (fun i k => (1, 0, 0)) 2 L st M (xkk (xlk (pX7_addLorry Post)) cut WW n) := (rfl)
theorem fX7_addLorry_5 (Post : XPo) (cut : List Nat) (WW : XK) (n : Nat) (L : XLs) (st : List XV) (M : XM) : xru (xlk (pX7_addLorry Post)) cut WW (n + 1) 5 L st M = j_gI 1 3 5 L st M (xkk (xlk (pX7_addLorry Post)) cut WW n) := (rfl)
theorem fX7_addLorry_8 (Post : XPo) (cut : List Nat) (WW : XK) (n : Nat) (L : XLs) (st : List XV) (M : XM) : xru (xlk (pX7_addLorry Post)) cut WW (n + 1) 8 L st M = j_S2 sX7_requireIndex 8 L st M (xkk (xlk (pX7_addLorry Post)) cut WW n) := (rfl)
theorem fX7_addLorry_11 (Post : XPo) (cut : List Nat) (WW : XK) (n : Nat) (L : XLs) (st : List XV) (M : XM) : xru (xlk (pX7_addLorry Post)) cut WW (n + 1) 11 L st M = j_ald 0 1 11 L st M (xkk (xlk (pX7_addLorry Post)) cut WW n) := (rfl)
theorem fX7_addLorry_12 (Post : XPo) (cut : List Nat) (WW : XK) (n : Nat) (L : XLs) (st : List XV) (M : XM) : xru (xlk (pX7_addLorry Post)) cut WW (n + 1) 12 L st M = j_gR 0 (fun i k => (1, 0, 0)) 12 L st M (xkk (xlk (pX7_addLorry Post)) cut WW n) := (rfl)
theorem fX7_addLorry_15 (Post : XPo) (cut : List Nat) (WW : XK) (n : Nat) (L : XLs) (st : List XV) (M : XM) : xru (xlk (pX7_addLorry Post)) cut WW (n + 1) 15 L st M = j_gI 1 8 15 L st M (xkk (xlk (pX7_addLorry Post)) cut WW n) := (rfl)
theorem fX7_addLorry_18 (Post : XPo) (cut : List Nat) (WW : XK) (n : Nat) (L : XLs) (st : List XV) (M : XM) : xru (xlk (pX7_addLorry Post)) cut WW (n + 1) 18 L st M = j_c 4 1 18 L st M (xkk (xlk (pX7_addLorry Post)) cut WW n) := (rfl)
theorem fX7_addLorry_19 (Post : XPo) (cut : List Nat) (WW : XK) (n : Nat) (L : XLs) (st : List XV) (M : XM) : xru (xlk (pX7_addLorry Post)) cut WW (n + 1) 19 L st M = j_ige 26 19 L st M (xkk (xlk (pX7_addLorry Post)) cut WW n) := (rfl)
theorem fX7_addLorry_22 (Post : XPo) (cut : List Nat) (WW : XK) (n : Nat) (L : XLs) (st : List XV) (M : XM) : xru (xlk (pX7_addLorry Post)) cut WW (n + 1) 22 L st M = j_c 1 1 22 L st M (xkk (xlk (pX7_addLorry Post)) cut WW n) := (rfl)
theorem fX7_addLorry_23 (Post : XPo) (cut : List Nat) (WW : XK) (n : Nat) (L : XLs) (st : List XV) (M : XM) : xru (xlk (pX7_addLorry Post)) cut WW (n + 1) 23 L st M = j_goto 27 23 L st M (xkk (xlk (pX7_addLorry Post)) cut WW n) := (rfl)
theorem fX7_addLorry_26 (Post : XPo) (cut : List Nat) (WW : XK) (n : Nat) (L : XLs) (st : List XV) (M : XM) : xru (xlk (pX7_addLorry Post)) cut WW (n + 1) 26 L st M = j_c 0 1 26 L st M (xkk (xlk (pX7_addLorry Post)) cut WW n) := (rfl)
theorem fX7_addLorry_27 (Post : XPo) (cut : List Nat) (WW : XK) (n : Nat) (L : XLs) (st : List XV) (M : XM) : xru (xlk (pX7_addLorry Post)) cut WW (n + 1) 27 L st M = j_S1 sX7_requireState 27 L st M (xkk (xlk (pX7_addLorry Post)) cut WW n) := (rfl)
theorem fX7_addLorry_30 (Post : XPo) (cut : List Nat) (WW : XK) (n : Nat) (L : XLs) (st : List XV) (M : XM) : xru (xlk (pX7_addLorry Post)) cut WW (n + 1) 30 L st M = j_ald 0 1 30 L st M (xkk (xlk (pX7_addLorry Post)) cut WW n) := (rfl)
theorem fX7_addLorry_31 (Post : XPo) (cut : List Nat) (WW : XK) (n : Nat) (L : XLs) (st : List XV) (M : XM) : xru (xlk (pX7_addLorry Post)) cut WW (n + 1) 31 L st M = j_gR 0 (fun i k => (15, 0, 0)) 31 L st M (xkk (xlk (pX7_addLorry Post)) cut WW n) := (rfl)
theorem fX7_addLorry_34 (Post : XPo) (cut : List Nat) (WW : XK) (n : Nat) (L : XLs) (st : List XV) (M : XM) : xru (xlk (pX7_addLorry Post)) cut WW (n + 1) 34 L st M = j_ald 0 1 34 L st M (xkk (xlk (pX7_addLorry Post)) cut WW n) := (rfl)
theorem fX7_addLorry_35 (Post : XPo) (cut : List Nat) (WW : XK) (n : Nat) (L : XLs) (st : List XV) (M : XM) : xru (xlk (pX7_addLorry Post)) cut WW (n + 1) 35 L st M = j_gR 0 (fun i k => (1, 0, 0)) 35 L st M (xkk (xlk (pX7_addLorry Post)) cut WW n) := (rfl)
theorem fX7_addLorry_38 (Post : XPo) (cut : List Nat) (WW : XK) (n : Nat) (L : XLs) (st : List XV) (M : XM) : xru (xlk (pX7_addLorry Post)) cut WW (n + 1) 38 L st M = j_V1 15 sX4_keep 38 L st M (xkk (xlk (pX7_addLorry Post)) cut WW n) := (rfl)
theorem fX7_addLorry_41 (Post : XPo) (cut : List Nat) (WW : XK) (n : Nat) (L : XLs) (st : List XV) (M : XM) : xru (xlk (pX7_addLorry Post)) cut WW (n + 1) 41 L st M = j_ald 0 1 41 L st M (xkk (xlk (pX7_addLorry Post)) cut WW n) := (rfl)
theorem fX7_addLorry_42 (Post : XPo) (cut : List Nat) (WW : XK) (n : Nat) (L : XLs) (st : List XV) (M : XM) : xru (xlk (pX7_addLorry Post)) cut WW (n + 1) 42 L st M = j_gR 0 (fun i k => (1, 0, 0)) 42 L st M (xkk (xlk (pX7_addLorry Post)) cut WW n) := (rfl)
theorem fX7_addLorry_45 (Post : XPo) (cut : List Nat) (WW : XK) (n : Nat) (L : XLs) (st : List XV) (M : XM) : xru (xlk (pX7_addLorry Post)) cut WW (n + 1) 45 L st M = j_ild 1 1 45 L st M (xkk (xlk (pX7_addLorry Post)) cut WW n) := (rfl)
theorem fX7_addLorry_46 (Post : XPo) (cut : List Nat) (WW : XK) (n : Nat) (L : XLs) (st : List XV) (M : XM) : xru (xlk (pX7_addLorry Post)) cut WW (n + 1) 46 L st M = j_V1 1 sX0_newLorry 46 L st M (xkk (xlk (pX7_addLorry Post)) cut WW n) := (rfl)
theorem fX7_addLorry_49 (Post : XPo) (cut : List Nat) (WW : XK) (n : Nat) (L : XLs) (st : List XV) (M : XM) : xru (xlk (pX7_addLorry Post)) cut WW (n + 1) 49 L st M = j_iret Post 49 L st M (xkk (xlk (pX7_addLorry Post)) cut WW n) := (rfl)
def sX7_addLorry : XSp := xq1 0 (fun _ _ p => fun M Q => KI M ∧ XInR p ∧ (0 ≤ p ∧ p < M 1 0 0 3) ∧ (¬ 4 ≤ M 1 0 0 8) ∧ Q [xI (M 1 0 0 8)] (fNewL (fKeep M) 0 p))
set_option maxRecDepth 100000 in
theorem kX7_addLorry : XCn yX7_addLorry wX7_addLorry rX7_addLorry sX7_addLorry := XD1 pX7_addLorry rfl rfl aX7_addLorry (by decide) (fun p M Post h WW hC => by
  obtain ⟨hK, r_p, c0, c1, h⟩ := h
  have hG := KI_G hK
  obtain ⟨g3, g6, g8, g10, g0, gs⟩ := fC_in hG.1
  have hK0 := KI_0 hK
  obtain ⟨hK1, hn, hm⟩ := hK
  have hKp := fKeep_at hn.1
  have q3 : 0 ≤ M 1 0 0 8 := hG.1.2.2.1.1
  show WW 0 [some (xR 0 0 0), some (xI p)] [] M
  refine xru_ok hC [] 200 _ _ _ _ ?_
  simp only [xkk_ap, Int.reduceEq, Int.reduceLT, Int.reduceLE, Int.reduceNeg, Int.reduceAdd, Int.reduceSub, Int.reduceMul, and_self, false_and, and_false, not_true_eq_false, not_false_eq_true, true_implies, false_implies, xq0, xq1, xq2, xq3, xq4, xq5, xqR, xq1R, xq3R, xt1, xt2, xt3, List.mem_cons, List.not_mem_nil, or_false, false_or, or_self, if_false, if_true, reduceIte, reduceCtorEq, xent, xen, List.length_cons, List.length_nil, List.replicate, j_c, j_cJ, j_ild, j_ald, j_lld, j_ist, j_ast, j_lst, j_inc, j_add, j_sub, j_mul, j_neg, j_div, j_rem, j_and, j_shr, j_shl1, j_or, j_ladd, j_lsub, j_lmul, j_i2l, j_lcmp, j_i2c, j_dup, j_dup2, j_pop, j_goto, j_ieq, j_ine, j_ilt, j_ige, j_igt, j_ile, j_eq, j_ne, j_lt, j_ge, j_gt, j_le, xsw, j_tsw, j_gI, j_gJ, j_gR, j_pI, j_pJ, j_gs, j_iald, j_iast, j_cald, j_cast, j_aald, j_cpy, j_min, j_max, j_abs, j_iret, j_zret, j_lret, j_dret, j_ret0, j_V0, j_V1, j_V2, j_V3, j_V4, j_V5, j_S1, j_S2, j_S3, xget, xset, xset2, xclr, xc1, xcat, Nat.reduceAdd, Nat.reduceEqDiff, Nat.reduceLT, Nat.reduceLeDiff, Nat.reduceMul, List.cons_append, List.nil_append, true_and, and_true, List.singleton_append, fX7_addLorry_0, fX7_addLorry_1, fX7_addLorry_2, fX7_addLorry_5, fX7_addLorry_8, fX7_addLorry_11, fX7_addLorry_12, fX7_addLorry_15, fX7_addLorry_18, fX7_addLorry_19, fX7_addLorry_22, fX7_addLorry_23, fX7_addLorry_26, fX7_addLorry_27, fX7_addLorry_30, fX7_addLorry_31, fX7_addLorry_34, fX7_addLorry_35, fX7_addLorry_38, fX7_addLorry_41, fX7_addLorry_42, fX7_addLorry_45, fX7_addLorry_46, fX7_addLorry_49, sX7_requireIndex, sX7_requireState, sX4_keep, sX0_newLorry, hn, hm, g3, g6, g8, g10, g0, gs, hKp, r_p, q3, xvz_0, xvz_1, xvz_2, xvz_3, xvz_4, xvz_5, xvz_6, xvz_7, xvz_15, xvz_17, xvz_18, xrz_2, xrz_3, xrz_4, xdz_2, xdz_3, xdz_4, xdz_9, xdz_11, xdz_12, xr_c (n := 0) rfl, xr_c (n := 1) rfl, xr_c (n := 2) rfl, xr_c (n := 3) rfl, xr_c (n := 4) rfl, xr_c (n := 5) rfl, xr_c (n := 6) rfl, xr_c (n := 8) rfl, xr_c (n := 10) rfl, xr_c (n := 11) rfl, xr_c (n := 12) rfl, xr_c (n := 16) rfl, xr_c (n := 30) rfl, xr_c (n := 99) rfl, xr_c (n := 120) rfl, xr_c (n := 126) rfl, xr_c (n := 33) rfl, xr_c (n := 200) rfl, xr_c (n := 255) rfl, xr_c (n := 299) rfl, xr_c (n := 300) rfl, xr_c (n := 500) rfl, xr_c (n := 600) rfl, xr_c (n := 999) rfl, xr_c (n := 1000) rfl, xr_c (n := 20000) rfl, xr_c (n := 60) rfl, xr_c (n := -1) rfl, xlen, xcat, xc1, Nat.zero_le, Nat.reduceLeDiff, c0, c1]
  (repeat' (first | exact h | intro _ | apply And.intro)) <;> first | omega | (exfalso; omega) | exact ⟨by omega, by omega⟩)
/-- UnitKitchens.stock(III)I -/
abbrev wX7_stock : List Cond := Cond.code yX7_stock cX7_stock 5 (some .int) :: xT
abbrev rX7_stock : Room := { frames := 5, cells := 0, slots := 0, locals := 125 }
def pX7_stock (Post : XPo) : List (Nat × XStp) := [(0, j_ild 1 1), (1, j_ald 0 1), (2, j_gR 0 (fun i k => (1, 0, 0))), (5, j_gI 1 6), (8, j_S2 sX7_requireIndex), (11, j_ild 2 1), (12, j_c 0 1), (13, j_c 2 1), (14, j_S3 sX7_requireRange), (17, j_ild 3 1), (18, j_c 1 1), (19, j_c 500 3), (22, j_S3 sX7_requireRange), (25, j_ald 0 1), (26, j_gR 0 (fun i k => (1, 0, 0))), (29, j_gR 1 (fun i k => (5, i, 0))), (32, j_ild 1 1), (33, j_aald), (34, j_gR 8 (fun i k => (9, i, k))), (37, j_ast 4 2), (39, j_ald 4 2), (41, j_ild 2 1), (42, j_iald), (43, j_ild 3 1), (44, j_add), (45, j_c 999 3), (48, j_igt 55), (51, j_c 1 1), (52, j_goto 56), (55, j_c 0 1), (56, j_S1 sX7_requireState), (59, j_ald 0 1), (60, j_gR 0 (fun i k => (15, 0, 0))), (63, j_ald 0 1), (64, j_gR 0 (fun i k => (1, 0, 0))), (67, j_V1 15 sX4_keep), (70, j_ald 4 2), (72, j_ild 2 1), (73, j_dup2), (74, j_iald), (75, j_ild 3 1), (76, j_add), (77, j_iast), (78, j_ald 4 2), (80, j_ild 2 1), (81, j_iald), (82, j_iret Post)]
set_option maxRecDepth 100000 in
theorem aX7_stock (Post : XPo) : XAll rX7_stock cX7_stock 5 RX7 wX7_stock (some .int) Post (pX7_stock Post) := XAll.cons (xs_iload_n dX7_stock_0 rfl) (XAll.cons (xs_aload_n dX7_stock_1 rfl) (XAll.cons (fgX7_0 tw_274 dX7_stock_2) (XAll.cons (fgX0_6 tw_203 dX7_stock_5) (XAll.cons (xs_S2 kX7_requireIndex ⟨⟨rfl, rfl, by decide, by decide⟩, ⟨by decide, by decide, by decide +kernel⟩, tw_428, tw_429, tw_1, tw_430⟩ dX7_stock_8) (XAll.cons (xs_iload_n dX7_stock_11 rfl) (XAll.cons (xs_iconst dX7_stock_12) (XAll.cons (xs_iconst dX7_stock_13) (XAll.cons (xs_S3 kX7_requireRange ⟨⟨rfl, rfl, by decide, by decide⟩, ⟨by decide, by decide, by decide +kernel⟩, tw_297, tw_298, tw_1, tw_299⟩ dX7_stock_14) (XAll.cons (xs_iload_n dX7_stock_17 rfl) (XAll.cons (xs_iconst dX7_stock_18) (XAll.cons (xs_sipush dX7_stock_19 rfl) (XAll.cons (xs_S3 kX7_requireRange ⟨⟨rfl, rfl, by decide, by decide⟩, ⟨by decide, by decide, by decide +kernel⟩, tw_297, tw_298, tw_1, tw_299⟩ dX7_stock_22) (XAll.cons (xs_aload_n dX7_stock_25 rfl) (XAll.cons (fgX7_0 tw_274 dX7_stock_26) (XAll.cons (fgX0_7 tw_205 dX7_stock_29) (XAll.cons (xs_iload_n dX7_stock_32 rfl) (XAll.cons (xs_aald dX7_stock_33) (XAll.cons (fgX1_1 tw_72 dX7_stock_34) (XAll.cons (xs_astore dX7_stock_37 (by decide)) (XAll.cons (xs_aload dX7_stock_39) (XAll.cons (xs_iload_n dX7_stock_41 rfl) (XAll.cons (xs_iald dX7_stock_42) (XAll.cons (xs_iload_n dX7_stock_43 rfl) (XAll.cons (xs_iadd dX7_stock_44) (XAll.cons (xs_sipush dX7_stock_45 rfl) (XAll.cons (xs_icmp_gt dX7_stock_48 (by decide)) (XAll.cons (xs_iconst dX7_stock_51) (XAll.cons (xs_goto dX7_stock_52 (by decide)) (XAll.cons (xs_iconst dX7_stock_55) (XAll.cons (xs_S1 kX7_requireState ⟨⟨rfl, rfl, by decide, by decide⟩, ⟨by decide, by decide, by decide +kernel⟩, tw_368, tw_369, tw_1, tw_370⟩ dX7_stock_56) (XAll.cons (xs_aload_n dX7_stock_59 rfl) (XAll.cons (fgX7_2 tw_276 dX7_stock_60) (XAll.cons (xs_aload_n dX7_stock_63 rfl) (XAll.cons (fgX7_0 tw_274 dX7_stock_64) (XAll.cons (xs_V1 kX4_keep ⟨⟨rfl, rfl, by decide, by decide⟩, ⟨by decide, by decide, by decide +kernel⟩, ⟨tw_387, tw_388, tw_389, tw_7, tw_390⟩, 4, TX4, _, rfl, fun G ρ f i k => ⟨_, rfl⟩⟩ dX7_stock_67) (XAll.cons (xs_aload dX7_stock_70) (XAll.cons (xs_iload_n dX7_stock_72 rfl) (XAll.cons (xs_dup2 dX7_stock_73) (XAll.cons (xs_iald dX7_stock_74) (XAll.cons (xs_iload_n dX7_stock_75 rfl) (XAll.cons (xs_iadd dX7_stock_76) (XAll.cons (xs_iast dX7_stock_77) (XAll.cons (xs_aload dX7_stock_78) (XAll.cons (xs_iload_n dX7_stock_80 rfl) (XAll.cons (xs_iald dX7_stock_81) (XAll.cons (xs_iret rfl dX7_stock_82) (XAll.nil)))))))))))))))))))))))))))))))))))))))))))))))
theorem fX7_stock_0 (Post : XPo) (cut : List Nat) (WW : XK) (n : Nat) (L : XLs) (st : List XV) (M : XM) : xru (xlk (pX7_stock Post)) cut WW (n + 1) 0 L st M = j_ild 1 1 0 L st M (xkk (xlk (pX7_stock Post)) cut WW n) := (rfl)
theorem fX7_stock_1 (Post : XPo) (cut : List Nat) (WW : XK) (n : Nat) (L : XLs) (st : List XV) (M : XM) : xru (xlk (pX7_stock Post)) cut WW (n + 1) 1 L st M = j_ald 0 1 1 L st M (xkk (xlk (pX7_stock Post)) cut WW n) := (rfl)
theorem fX7_stock_2 (Post : XPo) (cut : List Nat) (WW : XK) (n : Nat) (L : XLs) (st : List XV) (M : XM) : xru (xlk (pX7_stock Post)) cut WW (n + 1) 2 L st M = j_gR 0 (fun i k => (1, 0, 0)) 2 L st M (xkk (xlk (pX7_stock Post)) cut WW n) := (rfl)
theorem fX7_stock_5 (Post : XPo) (cut : List Nat) (WW : XK) (n : Nat) (L : XLs) (st : List XV) (M : XM) : xru (xlk (pX7_stock Post)) cut WW (n + 1) 5 L st M = j_gI 1 6 5 L st M (xkk (xlk (pX7_stock Post)) cut WW n) := (rfl)
theorem fX7_stock_8 (Post : XPo) (cut : List Nat) (WW : XK) (n : Nat) (L : XLs) (st : List XV) (M : XM) : xru (xlk (pX7_stock Post)) cut WW (n + 1) 8 L st M = j_S2 sX7_requireIndex 8 L st M (xkk (xlk (pX7_stock Post)) cut WW n) := (rfl)
theorem fX7_stock_11 (Post : XPo) (cut : List Nat) (WW : XK) (n : Nat) (L : XLs) (st : List XV) (M : XM) : xru (xlk (pX7_stock Post)) cut WW (n + 1) 11 L st M = j_ild 2 1 11 L st M (xkk (xlk (pX7_stock Post)) cut WW n) := (rfl)
theorem fX7_stock_12 (Post : XPo) (cut : List Nat) (WW : XK) (n : Nat) (L : XLs) (st : List XV) (M : XM) : xru (xlk (pX7_stock Post)) cut WW (n + 1) 12 L st M = j_c 0 1 12 L st M (xkk (xlk (pX7_stock Post)) cut WW n) := (rfl)
theorem fX7_stock_13 (Post : XPo) (cut : List Nat) (WW : XK) (n : Nat) (L : XLs) (st : List XV) (M : XM) : xru (xlk (pX7_stock Post)) cut WW (n + 1) 13 L st M = j_c 2 1 13 L st M (xkk (xlk (pX7_stock Post)) cut WW n) := (rfl)
theorem fX7_stock_14 (Post : XPo) (cut : List Nat) (WW : XK) (n : Nat) (L : XLs) (st : List XV) (M : XM) : xru (xlk (pX7_stock Post)) cut WW (n + 1) 14 L st M = j_S3 sX7_requireRange 14 L st M (xkk (xlk (pX7_stock Post)) cut WW n) := (rfl)
theorem fX7_stock_17 (Post : XPo) (cut : List Nat) (WW : XK) (n : Nat) (L : XLs) (st : List XV) (M : XM) : xru (xlk (pX7_stock Post)) cut WW (n + 1) 17 L st M = j_ild 3 1 17 L st M (xkk (xlk (pX7_stock Post)) cut WW n) := (rfl)
theorem fX7_stock_18 (Post : XPo) (cut : List Nat) (WW : XK) (n : Nat) (L : XLs) (st : List XV) (M : XM) : xru (xlk (pX7_stock Post)) cut WW (n + 1) 18 L st M = j_c 1 1 18 L st M (xkk (xlk (pX7_stock Post)) cut WW n) := (rfl)
theorem fX7_stock_19 (Post : XPo) (cut : List Nat) (WW : XK) (n : Nat) (L : XLs) (st : List XV) (M : XM) : xru (xlk (pX7_stock Post)) cut WW (n + 1) 19 L st M = j_c 500 3 19 L st M (xkk (xlk (pX7_stock Post)) cut WW n) := (rfl)
theorem fX7_stock_22 (Post : XPo) (cut : List Nat) (WW : XK) (n : Nat) (L : XLs) (st : List XV) (M : XM) : xru (xlk (pX7_stock Post)) cut WW (n + 1) 22 L st M = j_S3 sX7_requireRange 22 L st M (xkk (xlk (pX7_stock Post)) cut WW n) := (rfl)
theorem fX7_stock_25 (Post : XPo) (cut : List Nat) (WW : XK) (n : Nat) (L : XLs) (st : List XV) (M : XM) : xru (xlk (pX7_stock Post)) cut WW (n + 1) 25 L st M = j_ald 0 1 25 L st M (xkk (xlk (pX7_stock Post)) cut WW n) := (rfl)
theorem fX7_stock_26 (Post : XPo) (cut : List Nat) (WW : XK) (n : Nat) (L : XLs) (st : List XV) (M : XM) : xru (xlk (pX7_stock Post)) cut WW (n + 1) 26 L st M = j_gR 0 (fun i k => (1, 0, 0)) 26 L st M (xkk (xlk (pX7_stock Post)) cut WW n) := (rfl)
theorem fX7_stock_29 (Post : XPo) (cut : List Nat) (WW : XK) (n : Nat) (L : XLs) (st : List XV) (M : XM) : xru (xlk (pX7_stock Post)) cut WW (n + 1) 29 L st M = j_gR 1 (fun i k => (5, i, 0)) 29 L st M (xkk (xlk (pX7_stock Post)) cut WW n) := (rfl)
theorem fX7_stock_32 (Post : XPo) (cut : List Nat) (WW : XK) (n : Nat) (L : XLs) (st : List XV) (M : XM) : xru (xlk (pX7_stock Post)) cut WW (n + 1) 32 L st M = j_ild 1 1 32 L st M (xkk (xlk (pX7_stock Post)) cut WW n) := (rfl)
theorem fX7_stock_33 (Post : XPo) (cut : List Nat) (WW : XK) (n : Nat) (L : XLs) (st : List XV) (M : XM) : xru (xlk (pX7_stock Post)) cut WW (n + 1) 33 L st M = j_aald 33 L st M (xkk (xlk (pX7_stock Post)) cut WW n) := (rfl)
theorem fX7_stock_34 (Post : XPo) (cut : List Nat) (WW : XK) (n : Nat) (L : XLs) (st : List XV) (M : XM) : xru (xlk (pX7_stock Post)) cut WW (n + 1) 34 L st M = j_gR 8 (fun i k => (9, i, k)) 34 L st M (xkk (xlk (pX7_stock Post)) cut WW n) := (rfl)
theorem fX7_stock_37 (Post : XPo) (cut : List Nat) (WW : XK) (n : Nat) (L : XLs) (st : List XV) (M : XM) : xru (xlk (pX7_stock Post)) cut WW (n + 1) 37 L st M = j_ast 4 2 37 L st M (xkk (xlk (pX7_stock Post)) cut WW n) := (rfl)
theorem fX7_stock_39 (Post : XPo) (cut : List Nat) (WW : XK) (n : Nat) (L : XLs) (st : List XV) (M : XM) : xru (xlk (pX7_stock Post)) cut WW (n + 1) 39 L st M = j_ald 4 2 39 L st M (xkk (xlk (pX7_stock Post)) cut WW n) := (rfl)
theorem fX7_stock_41 (Post : XPo) (cut : List Nat) (WW : XK) (n : Nat) (L : XLs) (st : List XV) (M : XM) : xru (xlk (pX7_stock Post)) cut WW (n + 1) 41 L st M = j_ild 2 1 41 L st M (xkk (xlk (pX7_stock Post)) cut WW n) := (rfl)
theorem fX7_stock_42 (Post : XPo) (cut : List Nat) (WW : XK) (n : Nat) (L : XLs) (st : List XV) (M : XM) : xru (xlk (pX7_stock Post)) cut WW (n + 1) 42 L st M = j_iald 42 L st M (xkk (xlk (pX7_stock Post)) cut WW n) := (rfl)
theorem fX7_stock_43 (Post : XPo) (cut : List Nat) (WW : XK) (n : Nat) (L : XLs) (st : List XV) (M : XM) : xru (xlk (pX7_stock Post)) cut WW (n + 1) 43 L st M = j_ild 3 1 43 L st M (xkk (xlk (pX7_stock Post)) cut WW n) := (rfl)
theorem fX7_stock_44 (Post : XPo) (cut : List Nat) (WW : XK) (n : Nat) (L : XLs) (st : List XV) (M : XM) : xru (xlk (pX7_stock Post)) cut WW (n + 1) 44 L st M = j_add 44 L st M (xkk (xlk (pX7_stock Post)) cut WW n) := (rfl)
theorem fX7_stock_45 (Post : XPo) (cut : List Nat) (WW : XK) (n : Nat) (L : XLs) (st : List XV) (M : XM) : xru (xlk (pX7_stock Post)) cut WW (n + 1) 45 L st M = j_c 999 3 45 L st M (xkk (xlk (pX7_stock Post)) cut WW n) := (rfl)
theorem fX7_stock_48 (Post : XPo) (cut : List Nat) (WW : XK) (n : Nat) (L : XLs) (st : List XV) (M : XM) : xru (xlk (pX7_stock Post)) cut WW (n + 1) 48 L st M = j_igt 55 48 L st M (xkk (xlk (pX7_stock Post)) cut WW n) := (rfl)
theorem fX7_stock_51 (Post : XPo) (cut : List Nat) (WW : XK) (n : Nat) (L : XLs) (st : List XV) (M : XM) : xru (xlk (pX7_stock Post)) cut WW (n + 1) 51 L st M = j_c 1 1 51 L st M (xkk (xlk (pX7_stock Post)) cut WW n) := (rfl)
theorem fX7_stock_52 (Post : XPo) (cut : List Nat) (WW : XK) (n : Nat) (L : XLs) (st : List XV) (M : XM) : xru (xlk (pX7_stock Post)) cut WW (n + 1) 52 L st M = j_goto 56 52 L st M (xkk (xlk (pX7_stock Post)) cut WW n) := (rfl)
theorem fX7_stock_55 (Post : XPo) (cut : List Nat) (WW : XK) (n : Nat) (L : XLs) (st : List XV) (M : XM) : xru (xlk (pX7_stock Post)) cut WW (n + 1) 55 L st M = j_c 0 1 55 L st M (xkk (xlk (pX7_stock Post)) cut WW n) := (rfl)
theorem fX7_stock_56 (Post : XPo) (cut : List Nat) (WW : XK) (n : Nat) (L : XLs) (st : List XV) (M : XM) : xru (xlk (pX7_stock Post)) cut WW (n + 1) 56 L st M = j_S1 sX7_requireState 56 L st M (xkk (xlk (pX7_stock Post)) cut WW n) := (rfl)
theorem fX7_stock_59 (Post : XPo) (cut : List Nat) (WW : XK) (n : Nat) (L : XLs) (st : List XV) (M : XM) : xru (xlk (pX7_stock Post)) cut WW (n + 1) 59 L st M = j_ald 0 1 59 L st M (xkk (xlk (pX7_stock Post)) cut WW n) := (rfl)
theorem fX7_stock_60 (Post : XPo) (cut : List Nat) (WW : XK) (n : Nat) (L : XLs) (st : List XV) (M : XM) : xru (xlk (pX7_stock Post)) cut WW (n + 1) 60 L st M = j_gR 0 (fun i k => (15, 0, 0)) 60 L st M (xkk (xlk (pX7_stock Post)) cut WW n) := (rfl)
theorem fX7_stock_63 (Post : XPo) (cut : List Nat) (WW : XK) (n : Nat) (L : XLs) (st : List XV) (M : XM) : xru (xlk (pX7_stock Post)) cut WW (n + 1) 63 L st M = j_ald 0 1 63 L st M (xkk (xlk (pX7_stock Post)) cut WW n) := (rfl)
theorem fX7_stock_64 (Post : XPo) (cut : List Nat) (WW : XK) (n : Nat) (L : XLs) (st : List XV) (M : XM) : xru (xlk (pX7_stock Post)) cut WW (n + 1) 64 L st M = j_gR 0 (fun i k => (1, 0, 0)) 64 L st M (xkk (xlk (pX7_stock Post)) cut WW n) := (rfl)
theorem fX7_stock_67 (Post : XPo) (cut : List Nat) (WW : XK) (n : Nat) (L : XLs) (st : List XV) (M : XM) : xru (xlk (pX7_stock Post)) cut WW (n + 1) 67 L st M = j_V1 15 sX4_keep 67 L st M (xkk (xlk (pX7_stock Post)) cut WW n) := (rfl)
theorem fX7_stock_70 (Post : XPo) (cut : List Nat) (WW : XK) (n : Nat) (L : XLs) (st : List XV) (M : XM) : xru (xlk (pX7_stock Post)) cut WW (n + 1) 70 L st M = j_ald 4 2 70 L st M (xkk (xlk (pX7_stock Post)) cut WW n) := (rfl)
theorem fX7_stock_72 (Post : XPo) (cut : List Nat) (WW : XK) (n : Nat) (L : XLs) (st : List XV) (M : XM) : xru (xlk (pX7_stock Post)) cut WW (n + 1) 72 L st M = j_ild 2 1 72 L st M (xkk (xlk (pX7_stock Post)) cut WW n) := (rfl)
theorem fX7_stock_73 (Post : XPo) (cut : List Nat) (WW : XK) (n : Nat) (L : XLs) (st : List XV) (M : XM) : xru (xlk (pX7_stock Post)) cut WW (n + 1) 73 L st M = j_dup2 73 L st M (xkk (xlk (pX7_stock Post)) cut WW n) := (rfl)
theorem fX7_stock_74 (Post : XPo) (cut : List Nat) (WW : XK) (n : Nat) (L : XLs) (st : List XV) (M : XM) : xru (xlk (pX7_stock Post)) cut WW (n + 1) 74 L st M = j_iald 74 L st M (xkk (xlk (pX7_stock Post)) cut WW n) := (rfl)
theorem fX7_stock_75 (Post : XPo) (cut : List Nat) (WW : XK) (n : Nat) (L : XLs) (st : List XV) (M : XM) : xru (xlk (pX7_stock Post)) cut WW (n + 1) 75 L st M = j_ild 3 1 75 L st M (xkk (xlk (pX7_stock Post)) cut WW n) := (rfl)
theorem fX7_stock_76 (Post : XPo) (cut : List Nat) (WW : XK) (n : Nat) (L : XLs) (st : List XV) (M : XM) : xru (xlk (pX7_stock Post)) cut WW (n + 1) 76 L st M = j_add 76 L st M (xkk (xlk (pX7_stock Post)) cut WW n) := (rfl)
theorem fX7_stock_77 (Post : XPo) (cut : List Nat) (WW : XK) (n : Nat) (L : XLs) (st : List XV) (M : XM) : xru (xlk (pX7_stock Post)) cut WW (n + 1) 77 L st M = j_iast 77 L st M (xkk (xlk (pX7_stock Post)) cut WW n) := (rfl)
theorem fX7_stock_78 (Post : XPo) (cut : List Nat) (WW : XK) (n : Nat) (L : XLs) (st : List XV) (M : XM) : xru (xlk (pX7_stock Post)) cut WW (n + 1) 78 L st M = j_ald 4 2 78 L st M (xkk (xlk (pX7_stock Post)) cut WW n) := (rfl)
theorem fX7_stock_80 (Post : XPo) (cut : List Nat) (WW : XK) (n : Nat) (L : XLs) (st : List XV) (M : XM) : xru (xlk (pX7_stock Post)) cut WW (n + 1) 80 L st M = j_ild 2 1 80 L st M (xkk (xlk (pX7_stock Post)) cut WW n) := (rfl)
theorem fX7_stock_81 (Post : XPo) (cut : List Nat) (WW : XK) (n : Nat) (L : XLs) (st : List XV) (M : XM) : xru (xlk (pX7_stock Post)) cut WW (n + 1) 81 L st M = j_iald 81 L st M (xkk (xlk (pX7_stock Post)) cut WW n) := (rfl)
theorem fX7_stock_82 (Post : XPo) (cut : List Nat) (WW : XK) (n : Nat) (L : XLs) (st : List XV) (M : XM) : xru (xlk (pX7_stock Post)) cut WW (n + 1) 82 L st M = j_iret Post 82 L st M (xkk (xlk (pX7_stock Post)) cut WW n) := (rfl)
def sX7_stock : XSp := xq3 0 (fun _ _ k w n => fun M Q => KI M ∧ XInR k ∧ XInR w ∧ XInR n ∧ (0 ≤ k ∧ k < M 1 0 0 6) ∧ (0 ≤ w ∧ w ≤ 2) ∧ (1 ≤ n ∧ n ≤ 500) ∧ (¬ 999 < M 9 0 k w + n) ∧ Q [xI (M 9 0 k w + n)] (xup (fKeep M) 9 0 k w (M 9 0 k w + n)))
set_option maxRecDepth 100000 in
theorem kX7_stock : XCn yX7_stock wX7_stock rX7_stock sX7_stock := XD3 pX7_stock rfl rfl aX7_stock (by decide) (fun k w n M Post h WW hC => by
  obtain ⟨hK, r_k, r_w, r_n, c0, c1, c2, c3, h⟩ := h
  have hG := KI_G hK
  obtain ⟨g3, g6, g8, g10, g0, gs⟩ := fC_in hG.1
  have hK0 := KI_0 hK
  obtain ⟨hK1, hn, hm⟩ := hK
  have hKp := fKeep_at hn.1
  show WW 0 [some (xR 0 0 0), some (xI k), some (xI w), some (xI n), none] [] M
  have k3 : k < 3 := by have := hG.1.2.1; omega
  have vk : xval 8 0 k := xv_of8 (by decide) c0.1 k3
  have vk9 : xval 9 0 k := vk
  have vk10 : xval 10 0 k := xv_of10 (by decide) c0.1 (by omega)
  have rk9 : xrow 9 0 k := xrow_m (by decide) (by decide) vk
  have hk := hG.2.2.1 k c0.1 k3
  have w3 : w < 3 := by omega
  have hs := hk.2.1 w c1.1 w3
  have hsum : XInR (M 9 0 k w + n) := ⟨by omega, by omega⟩
  refine xru_ok hC [] 200 _ _ _ _ ?_
  simp only [xkk_ap, Int.reduceEq, Int.reduceLT, Int.reduceLE, Int.reduceNeg, Int.reduceAdd, Int.reduceSub, Int.reduceMul, and_self, false_and, and_false, not_true_eq_false, not_false_eq_true, true_implies, false_implies, xq0, xq1, xq2, xq3, xq4, xq5, xqR, xq1R, xq3R, xt1, xt2, xt3, List.mem_cons, List.not_mem_nil, or_false, false_or, or_self, if_false, if_true, reduceIte, reduceCtorEq, xent, xen, List.length_cons, List.length_nil, List.replicate, j_c, j_cJ, j_ild, j_ald, j_lld, j_ist, j_ast, j_lst, j_inc, j_add, j_sub, j_mul, j_neg, j_div, j_rem, j_and, j_shr, j_shl1, j_or, j_ladd, j_lsub, j_lmul, j_i2l, j_lcmp, j_i2c, j_dup, j_dup2, j_pop, j_goto, j_ieq, j_ine, j_ilt, j_ige, j_igt, j_ile, j_eq, j_ne, j_lt, j_ge, j_gt, j_le, xsw, j_tsw, j_gI, j_gJ, j_gR, j_pI, j_pJ, j_gs, j_iald, j_iast, j_cald, j_cast, j_aald, j_cpy, j_min, j_max, j_abs, j_iret, j_zret, j_lret, j_dret, j_ret0, j_V0, j_V1, j_V2, j_V3, j_V4, j_V5, j_S1, j_S2, j_S3, xget, xset, xset2, xclr, xc1, xcat, Nat.reduceAdd, Nat.reduceEqDiff, Nat.reduceLT, Nat.reduceLeDiff, Nat.reduceMul, List.cons_append, List.nil_append, true_and, and_true, List.singleton_append, fX7_stock_0, fX7_stock_1, fX7_stock_2, fX7_stock_5, fX7_stock_8, fX7_stock_11, fX7_stock_12, fX7_stock_13, fX7_stock_14, fX7_stock_17, fX7_stock_18, fX7_stock_19, fX7_stock_22, fX7_stock_25, fX7_stock_26, fX7_stock_29, fX7_stock_32, fX7_stock_33, fX7_stock_34, fX7_stock_37, fX7_stock_39, fX7_stock_41, fX7_stock_42, fX7_stock_43, fX7_stock_44, fX7_stock_45, fX7_stock_48, fX7_stock_51, fX7_stock_52, fX7_stock_55, fX7_stock_56, fX7_stock_59, fX7_stock_60, fX7_stock_63, fX7_stock_64, fX7_stock_67, fX7_stock_70, fX7_stock_72, fX7_stock_73, fX7_stock_74, fX7_stock_75, fX7_stock_76, fX7_stock_77, fX7_stock_78, fX7_stock_80, fX7_stock_81, fX7_stock_82, sX7_requireIndex, sX7_requireRange, sX7_requireState, sX4_keep, hn, hm, g3, g6, g8, g10, g0, gs, hKp, r_k, r_w, r_n, xup_app, k3, vk, vk9, vk10, rk9, w3, hsum, xvz_0, xvz_1, xvz_2, xvz_3, xvz_4, xvz_5, xvz_6, xvz_7, xvz_15, xvz_17, xvz_18, xrz_2, xrz_3, xrz_4, xdz_2, xdz_3, xdz_4, xdz_9, xdz_11, xdz_12, xr_c (n := 0) rfl, xr_c (n := 1) rfl, xr_c (n := 2) rfl, xr_c (n := 3) rfl, xr_c (n := 4) rfl, xr_c (n := 5) rfl, xr_c (n := 6) rfl, xr_c (n := 8) rfl, xr_c (n := 10) rfl, xr_c (n := 11) rfl, xr_c (n := 12) rfl, xr_c (n := 16) rfl, xr_c (n := 30) rfl, xr_c (n := 99) rfl, xr_c (n := 120) rfl, xr_c (n := 126) rfl, xr_c (n := 33) rfl, xr_c (n := 200) rfl, xr_c (n := 255) rfl, xr_c (n := 299) rfl, xr_c (n := 300) rfl, xr_c (n := 500) rfl, xr_c (n := 600) rfl, xr_c (n := 999) rfl, xr_c (n := 1000) rfl, xr_c (n := 20000) rfl, xr_c (n := 60) rfl, xr_c (n := -1) rfl, xlen, xcat, xc1, Nat.zero_le, Nat.reduceLeDiff, c0, c1, c2, c3]
  (repeat' (first | exact h | intro _ | apply And.intro)) <;> first | omega | (exfalso; omega) | exact ⟨by omega, by omega⟩)
theorem kFill_2 (M : XM) (i k d n a b c : Int) : kFill M i k d n 2 a b c = M 2 a b c := by
  unfold kFill
  simp only [xup_app, Nat.reduceEqDiff, false_and, if_false]
/-- UnitKitchens.cook(III)I -/
abbrev wX7_cook : List Cond := Cond.code yX7_cook cX7_cook 5 (some .int) :: xT
abbrev rX7_cook : Room := { frames := 5, cells := 0, slots := 0, locals := 125 }
def pX7_cook (Post : XPo) : List (Nat × XStp) := [(0, j_ild 1 1), (1, j_ald 0 1), (2, j_gR 0 (fun i k => (1, 0, 0))), (5, j_gI 1 6), (8, j_S2 sX7_requireIndex), (11, j_ild 2 1), (12, j_c 0 1), (13, j_c 2 1), (14, j_S3 sX7_requireRange), (17, j_ild 3 1), (18, j_c 1 1), (19, j_c 300 3), (22, j_S3 sX7_requireRange), (25, j_ald 0 1), (26, j_gR 0 (fun i k => (1, 0, 0))), (29, j_gR 1 (fun i k => (5, i, 0))), (32, j_ild 1 1), (33, j_aald), (34, j_ast 4 2), (36, j_ald 4 2), (38, j_gI 8 3), (41, j_ne 58), (44, j_ald 4 2), (46, j_ild 2 1), (47, j_V1 8 sX1_enoughFor), (50, j_ild 3 1), (51, j_ilt 58), (54, j_c 1 1), (55, j_goto 59), (58, j_c 0 1), (59, j_S1 sX7_requireState), (62, j_ald 0 1), (63, j_gR 0 (fun i k => (15, 0, 0))), (66, j_ald 0 1), (67, j_gR 0 (fun i k => (1, 0, 0))), (70, j_V1 15 sX4_keep), (73, j_ald 4 2), (75, j_ild 2 1), (76, j_ild 3 1), (77, j_V2 8 sX1_fillPot), (80, j_ild 3 1), (81, j_ald 0 1), (82, j_gR 0 (fun i k => (1, 0, 0))), (85, j_gR 1 (fun i k => (2, i, 0))), (88, j_c 4 1), (89, j_iald), (90, j_S2 sX7_dividedUp), (93, j_iret Post)]
set_option maxRecDepth 100000 in
theorem aX7_cook (Post : XPo) : XAll rX7_cook cX7_cook 5 RX7 wX7_cook (some .int) Post (pX7_cook Post) := XAll.cons (xs_iload_n dX7_cook_0 rfl) (XAll.cons (xs_aload_n dX7_cook_1 rfl) (XAll.cons (fgX7_0 tw_274 dX7_cook_2) (XAll.cons (fgX0_6 tw_203 dX7_cook_5) (XAll.cons (xs_S2 kX7_requireIndex ⟨⟨rfl, rfl, by decide, by decide⟩, ⟨by decide, by decide, by decide +kernel⟩, tw_428, tw_429, tw_1, tw_430⟩ dX7_cook_8) (XAll.cons (xs_iload_n dX7_cook_11 rfl) (XAll.cons (xs_iconst dX7_cook_12) (XAll.cons (xs_iconst dX7_cook_13) (XAll.cons (xs_S3 kX7_requireRange ⟨⟨rfl, rfl, by decide, by decide⟩, ⟨by decide, by decide, by decide +kernel⟩, tw_297, tw_298, tw_1, tw_299⟩ dX7_cook_14) (XAll.cons (xs_iload_n dX7_cook_17 rfl) (XAll.cons (xs_iconst dX7_cook_18) (XAll.cons (xs_sipush dX7_cook_19 rfl) (XAll.cons (xs_S3 kX7_requireRange ⟨⟨rfl, rfl, by decide, by decide⟩, ⟨by decide, by decide, by decide +kernel⟩, tw_297, tw_298, tw_1, tw_299⟩ dX7_cook_22) (XAll.cons (xs_aload_n dX7_cook_25 rfl) (XAll.cons (fgX7_0 tw_274 dX7_cook_26) (XAll.cons (fgX0_7 tw_205 dX7_cook_29) (XAll.cons (xs_iload_n dX7_cook_32 rfl) (XAll.cons (xs_aald dX7_cook_33) (XAll.cons (xs_astore dX7_cook_34 (by decide)) (XAll.cons (xs_aload dX7_cook_36) (XAll.cons (fgX1_3 tw_75 dX7_cook_38) (XAll.cons (xs_if_ne dX7_cook_41 (by decide)) (XAll.cons (xs_aload dX7_cook_44) (XAll.cons (xs_iload_n dX7_cook_46 rfl) (XAll.cons (xs_V1 kX1_enoughFor ⟨⟨rfl, rfl, by decide, by decide⟩, ⟨by decide, by decide, by decide +kernel⟩, ⟨tw_601, tw_602, tw_603, tw_3, tw_604⟩, 1, TX1, _, rfl, fun G ρ f i k => ⟨_, rfl⟩⟩ dX7_cook_47) (XAll.cons (xs_iload_n dX7_cook_50 rfl) (XAll.cons (xs_icmp_lt dX7_cook_51 (by decide)) (XAll.cons (xs_iconst dX7_cook_54) (XAll.cons (xs_goto dX7_cook_55 (by decide)) (XAll.cons (xs_iconst dX7_cook_58) (XAll.cons (xs_S1 kX7_requireState ⟨⟨rfl, rfl, by decide, by decide⟩, ⟨by decide, by decide, by decide +kernel⟩, tw_368, tw_369, tw_1, tw_370⟩ dX7_cook_59) (XAll.cons (xs_aload_n dX7_cook_62 rfl) (XAll.cons (fgX7_2 tw_276 dX7_cook_63) (XAll.cons (xs_aload_n dX7_cook_66 rfl) (XAll.cons (fgX7_0 tw_274 dX7_cook_67) (XAll.cons (xs_V1 kX4_keep ⟨⟨rfl, rfl, by decide, by decide⟩, ⟨by decide, by decide, by decide +kernel⟩, ⟨tw_387, tw_388, tw_389, tw_7, tw_390⟩, 4, TX4, _, rfl, fun G ρ f i k => ⟨_, rfl⟩⟩ dX7_cook_70) (XAll.cons (xs_aload dX7_cook_73) (XAll.cons (xs_iload_n dX7_cook_75 rfl) (XAll.cons (xs_iload_n dX7_cook_76 rfl) (XAll.cons (xs_V2 kX1_fillPot ⟨⟨rfl, rfl, by decide, by decide⟩, ⟨by decide, by decide, by decide +kernel⟩, ⟨tw_611, tw_612, tw_613, tw_3, tw_614⟩, 1, TX1, _, rfl, fun G ρ f i k => ⟨_, rfl⟩⟩ dX7_cook_77) (XAll.cons (xs_iload_n dX7_cook_80 rfl) (XAll.cons (xs_aload_n dX7_cook_81 rfl) (XAll.cons (fgX7_0 tw_274 dX7_cook_82) (XAll.cons (fgX0_2 tw_197 dX7_cook_85) (XAll.cons (xs_iconst dX7_cook_88) (XAll.cons (xs_iald dX7_cook_89) (XAll.cons (xs_S2 kX7_dividedUp ⟨⟨rfl, rfl, by decide, by decide⟩, ⟨by decide, by decide, by decide +kernel⟩, tw_615, tw_616, tw_1, tw_617⟩ dX7_cook_90) (XAll.cons (xs_iret rfl dX7_cook_93) (XAll.nil))))))))))))))))))))))))))))))))))))))))))))))))
theorem fX7_cook_0 (Post : XPo) (cut : List Nat) (WW : XK) (n : Nat) (L : XLs) (st : List XV) (M : XM) : xru (xlk (pX7_cook Post)) cut WW (n + 1) 0 L st M = j_ild 1 1 0 L st M (xkk (xlk (pX7_cook Post)) cut WW n) := (rfl)
theorem fX7_cook_1 (Post : XPo) (cut : List Nat) (WW : XK) (n : Nat) (L : XLs) (st : List XV) (M : XM) : xru (xlk (pX7_cook Post)) cut WW (n + 1) 1 L st M = j_ald 0 1 1 L st M (xkk (xlk (pX7_cook Post)) cut WW n) := (rfl)
theorem fX7_cook_2 (Post : XPo) (cut : List Nat) (WW : XK) (n : Nat) (L : XLs) (st : List XV) (M : XM) : xru (xlk (pX7_cook Post)) cut WW (n + 1) 2 L st M = j_gR 0 (fun i k => (1, 0, 0)) 2 L st M (xkk (xlk (pX7_cook Post)) cut WW n) := (rfl)
theorem fX7_cook_5 (Post : XPo) (cut : List Nat) (WW : XK) (n : Nat) (L : XLs) (st : List XV) (M : XM) : xru (xlk (pX7_cook Post)) cut WW (n + 1) 5 L st M = j_gI 1 6 5 L st M (xkk (xlk (pX7_cook Post)) cut WW n) := (rfl)
theorem fX7_cook_8 (Post : XPo) (cut : List Nat) (WW : XK) (n : Nat) (L : XLs) (st : List XV) (M : XM) : xru (xlk (pX7_cook Post)) cut WW (n + 1) 8 L st M = j_S2 sX7_requireIndex 8 L st M (xkk (xlk (pX7_cook Post)) cut WW n) := (rfl)
theorem fX7_cook_11 (Post : XPo) (cut : List Nat) (WW : XK) (n : Nat) (L : XLs) (st : List XV) (M : XM) : xru (xlk (pX7_cook Post)) cut WW (n + 1) 11 L st M = j_ild 2 1 11 L st M (xkk (xlk (pX7_cook Post)) cut WW n) := (rfl)
theorem fX7_cook_12 (Post : XPo) (cut : List Nat) (WW : XK) (n : Nat) (L : XLs) (st : List XV) (M : XM) : xru (xlk (pX7_cook Post)) cut WW (n + 1) 12 L st M = j_c 0 1 12 L st M (xkk (xlk (pX7_cook Post)) cut WW n) := (rfl)
theorem fX7_cook_13 (Post : XPo) (cut : List Nat) (WW : XK) (n : Nat) (L : XLs) (st : List XV) (M : XM) : xru (xlk (pX7_cook Post)) cut WW (n + 1) 13 L st M = j_c 2 1 13 L st M (xkk (xlk (pX7_cook Post)) cut WW n) := (rfl)
theorem fX7_cook_14 (Post : XPo) (cut : List Nat) (WW : XK) (n : Nat) (L : XLs) (st : List XV) (M : XM) : xru (xlk (pX7_cook Post)) cut WW (n + 1) 14 L st M = j_S3 sX7_requireRange 14 L st M (xkk (xlk (pX7_cook Post)) cut WW n) := (rfl)
theorem fX7_cook_17 (Post : XPo) (cut : List Nat) (WW : XK) (n : Nat) (L : XLs) (st : List XV) (M : XM) : xru (xlk (pX7_cook Post)) cut WW (n + 1) 17 L st M = j_ild 3 1 17 L st M (xkk (xlk (pX7_cook Post)) cut WW n) := (rfl)
theorem fX7_cook_18 (Post : XPo) (cut : List Nat) (WW : XK) (n : Nat) (L : XLs) (st : List XV) (M : XM) : xru (xlk (pX7_cook Post)) cut WW (n + 1) 18 L st M = j_c 1 1 18 L st M (xkk (xlk (pX7_cook Post)) cut WW n) := (rfl)
theorem fX7_cook_19 (Post : XPo) (cut : List Nat) (WW : XK) (n : Nat) (L : XLs) (st : List XV) (M : XM) : xru (xlk (pX7_cook Post)) cut WW (n + 1) 19 L st M = j_c 300 3 19 L st M (xkk (xlk (pX7_cook Post)) cut WW n) := (rfl)
theorem fX7_cook_22 (Post : XPo) (cut : List Nat) (WW : XK) (n : Nat) (L : XLs) (st : List XV) (M : XM) : xru (xlk (pX7_cook Post)) cut WW (n + 1) 22 L st M = j_S3 sX7_requireRange 22 L st M (xkk (xlk (pX7_cook Post)) cut WW n) := (rfl)
theorem fX7_cook_25 (Post : XPo) (cut : List Nat) (WW : XK) (n : Nat) (L : XLs) (st : List XV) (M : XM) : xru (xlk (pX7_cook Post)) cut WW (n + 1) 25 L st M = j_ald 0 1 25 L st M (xkk (xlk (pX7_cook Post)) cut WW n) := (rfl)
theorem fX7_cook_26 (Post : XPo) (cut : List Nat) (WW : XK) (n : Nat) (L : XLs) (st : List XV) (M : XM) : xru (xlk (pX7_cook Post)) cut WW (n + 1) 26 L st M = j_gR 0 (fun i k => (1, 0, 0)) 26 L st M (xkk (xlk (pX7_cook Post)) cut WW n) := (rfl)
theorem fX7_cook_29 (Post : XPo) (cut : List Nat) (WW : XK) (n : Nat) (L : XLs) (st : List XV) (M : XM) : xru (xlk (pX7_cook Post)) cut WW (n + 1) 29 L st M = j_gR 1 (fun i k => (5, i, 0)) 29 L st M (xkk (xlk (pX7_cook Post)) cut WW n) := (rfl)
theorem fX7_cook_32 (Post : XPo) (cut : List Nat) (WW : XK) (n : Nat) (L : XLs) (st : List XV) (M : XM) : xru (xlk (pX7_cook Post)) cut WW (n + 1) 32 L st M = j_ild 1 1 32 L st M (xkk (xlk (pX7_cook Post)) cut WW n) := (rfl)
theorem fX7_cook_33 (Post : XPo) (cut : List Nat) (WW : XK) (n : Nat) (L : XLs) (st : List XV) (M : XM) : xru (xlk (pX7_cook Post)) cut WW (n + 1) 33 L st M = j_aald 33 L st M (xkk (xlk (pX7_cook Post)) cut WW n) := (rfl)
theorem fX7_cook_34 (Post : XPo) (cut : List Nat) (WW : XK) (n : Nat) (L : XLs) (st : List XV) (M : XM) : xru (xlk (pX7_cook Post)) cut WW (n + 1) 34 L st M = j_ast 4 2 34 L st M (xkk (xlk (pX7_cook Post)) cut WW n) := (rfl)
theorem fX7_cook_36 (Post : XPo) (cut : List Nat) (WW : XK) (n : Nat) (L : XLs) (st : List XV) (M : XM) : xru (xlk (pX7_cook Post)) cut WW (n + 1) 36 L st M = j_ald 4 2 36 L st M (xkk (xlk (pX7_cook Post)) cut WW n) := (rfl)
theorem fX7_cook_38 (Post : XPo) (cut : List Nat) (WW : XK) (n : Nat) (L : XLs) (st : List XV) (M : XM) : xru (xlk (pX7_cook Post)) cut WW (n + 1) 38 L st M = j_gI 8 3 38 L st M (xkk (xlk (pX7_cook Post)) cut WW n) := (rfl)
theorem fX7_cook_41 (Post : XPo) (cut : List Nat) (WW : XK) (n : Nat) (L : XLs) (st : List XV) (M : XM) : xru (xlk (pX7_cook Post)) cut WW (n + 1) 41 L st M = j_ne 58 41 L st M (xkk (xlk (pX7_cook Post)) cut WW n) := (rfl)
theorem fX7_cook_44 (Post : XPo) (cut : List Nat) (WW : XK) (n : Nat) (L : XLs) (st : List XV) (M : XM) : xru (xlk (pX7_cook Post)) cut WW (n + 1) 44 L st M = j_ald 4 2 44 L st M (xkk (xlk (pX7_cook Post)) cut WW n) := (rfl)
theorem fX7_cook_46 (Post : XPo) (cut : List Nat) (WW : XK) (n : Nat) (L : XLs) (st : List XV) (M : XM) : xru (xlk (pX7_cook Post)) cut WW (n + 1) 46 L st M = j_ild 2 1 46 L st M (xkk (xlk (pX7_cook Post)) cut WW n) := (rfl)
theorem fX7_cook_47 (Post : XPo) (cut : List Nat) (WW : XK) (n : Nat) (L : XLs) (st : List XV) (M : XM) : xru (xlk (pX7_cook Post)) cut WW (n + 1) 47 L st M = j_V1 8 sX1_enoughFor 47 L st M (xkk (xlk (pX7_cook Post)) cut WW n) := (rfl)
theorem fX7_cook_50 (Post : XPo) (cut : List Nat) (WW : XK) (n : Nat) (L : XLs) (st : List XV) (M : XM) : xru (xlk (pX7_cook Post)) cut WW (n + 1) 50 L st M = j_ild 3 1 50 L st M (xkk (xlk (pX7_cook Post)) cut WW n) := (rfl)
theorem fX7_cook_51 (Post : XPo) (cut : List Nat) (WW : XK) (n : Nat) (L : XLs) (st : List XV) (M : XM) : xru (xlk (pX7_cook Post)) cut WW (n + 1) 51 L st M = j_ilt 58 51 L st M (xkk (xlk (pX7_cook Post)) cut WW n) := (rfl)
theorem fX7_cook_54 (Post : XPo) (cut : List Nat) (WW : XK) (n : Nat) (L : XLs) (st : List XV) (M : XM) : xru (xlk (pX7_cook Post)) cut WW (n + 1) 54 L st M = j_c 1 1 54 L st M (xkk (xlk (pX7_cook Post)) cut WW n) := (rfl)
theorem fX7_cook_55 (Post : XPo) (cut : List Nat) (WW : XK) (n : Nat) (L : XLs) (st : List XV) (M : XM) : xru (xlk (pX7_cook Post)) cut WW (n + 1) 55 L st M = j_goto 59 55 L st M (xkk (xlk (pX7_cook Post)) cut WW n) := (rfl)
theorem fX7_cook_58 (Post : XPo) (cut : List Nat) (WW : XK) (n : Nat) (L : XLs) (st : List XV) (M : XM) : xru (xlk (pX7_cook Post)) cut WW (n + 1) 58 L st M = j_c 0 1 58 L st M (xkk (xlk (pX7_cook Post)) cut WW n) := (rfl)
theorem fX7_cook_59 (Post : XPo) (cut : List Nat) (WW : XK) (n : Nat) (L : XLs) (st : List XV) (M : XM) : xru (xlk (pX7_cook Post)) cut WW (n + 1) 59 L st M = j_S1 sX7_requireState 59 L st M (xkk (xlk (pX7_cook Post)) cut WW n) := (rfl)
theorem fX7_cook_62 (Post : XPo) (cut : List Nat) (WW : XK) (n : Nat) (L : XLs) (st : List XV) (M : XM) : xru (xlk (pX7_cook Post)) cut WW (n + 1) 62 L st M = j_ald 0 1 62 L st M (xkk (xlk (pX7_cook Post)) cut WW n) := (rfl)
theorem fX7_cook_63 (Post : XPo) (cut : List Nat) (WW : XK) (n : Nat) (L : XLs) (st : List XV) (M : XM) : xru (xlk (pX7_cook Post)) cut WW (n + 1) 63 L st M = j_gR 0 (fun i k => (15, 0, 0)) 63 L st M (xkk (xlk (pX7_cook Post)) cut WW n) := (rfl)
theorem fX7_cook_66 (Post : XPo) (cut : List Nat) (WW : XK) (n : Nat) (L : XLs) (st : List XV) (M : XM) : xru (xlk (pX7_cook Post)) cut WW (n + 1) 66 L st M = j_ald 0 1 66 L st M (xkk (xlk (pX7_cook Post)) cut WW n) := (rfl)
theorem fX7_cook_67 (Post : XPo) (cut : List Nat) (WW : XK) (n : Nat) (L : XLs) (st : List XV) (M : XM) : xru (xlk (pX7_cook Post)) cut WW (n + 1) 67 L st M = j_gR 0 (fun i k => (1, 0, 0)) 67 L st M (xkk (xlk (pX7_cook Post)) cut WW n) := (rfl)
theorem fX7_cook_70 (Post : XPo) (cut : List Nat) (WW : XK) (n : Nat) (L : XLs) (st : List XV) (M : XM) : xru (xlk (pX7_cook Post)) cut WW (n + 1) 70 L st M = j_V1 15 sX4_keep 70 L st M (xkk (xlk (pX7_cook Post)) cut WW n) := (rfl)
theorem fX7_cook_73 (Post : XPo) (cut : List Nat) (WW : XK) (n : Nat) (L : XLs) (st : List XV) (M : XM) : xru (xlk (pX7_cook Post)) cut WW (n + 1) 73 L st M = j_ald 4 2 73 L st M (xkk (xlk (pX7_cook Post)) cut WW n) := (rfl)
theorem fX7_cook_75 (Post : XPo) (cut : List Nat) (WW : XK) (n : Nat) (L : XLs) (st : List XV) (M : XM) : xru (xlk (pX7_cook Post)) cut WW (n + 1) 75 L st M = j_ild 2 1 75 L st M (xkk (xlk (pX7_cook Post)) cut WW n) := (rfl)
theorem fX7_cook_76 (Post : XPo) (cut : List Nat) (WW : XK) (n : Nat) (L : XLs) (st : List XV) (M : XM) : xru (xlk (pX7_cook Post)) cut WW (n + 1) 76 L st M = j_ild 3 1 76 L st M (xkk (xlk (pX7_cook Post)) cut WW n) := (rfl)
theorem fX7_cook_77 (Post : XPo) (cut : List Nat) (WW : XK) (n : Nat) (L : XLs) (st : List XV) (M : XM) : xru (xlk (pX7_cook Post)) cut WW (n + 1) 77 L st M = j_V2 8 sX1_fillPot 77 L st M (xkk (xlk (pX7_cook Post)) cut WW n) := (rfl)
theorem fX7_cook_80 (Post : XPo) (cut : List Nat) (WW : XK) (n : Nat) (L : XLs) (st : List XV) (M : XM) : xru (xlk (pX7_cook Post)) cut WW (n + 1) 80 L st M = j_ild 3 1 80 L st M (xkk (xlk (pX7_cook Post)) cut WW n) := (rfl)
theorem fX7_cook_81 (Post : XPo) (cut : List Nat) (WW : XK) (n : Nat) (L : XLs) (st : List XV) (M : XM) : xru (xlk (pX7_cook Post)) cut WW (n + 1) 81 L st M = j_ald 0 1 81 L st M (xkk (xlk (pX7_cook Post)) cut WW n) := (rfl)
theorem fX7_cook_82 (Post : XPo) (cut : List Nat) (WW : XK) (n : Nat) (L : XLs) (st : List XV) (M : XM) : xru (xlk (pX7_cook Post)) cut WW (n + 1) 82 L st M = j_gR 0 (fun i k => (1, 0, 0)) 82 L st M (xkk (xlk (pX7_cook Post)) cut WW n) := (rfl)
theorem fX7_cook_85 (Post : XPo) (cut : List Nat) (WW : XK) (n : Nat) (L : XLs) (st : List XV) (M : XM) : xru (xlk (pX7_cook Post)) cut WW (n + 1) 85 L st M = j_gR 1 (fun i k => (2, i, 0)) 85 L st M (xkk (xlk (pX7_cook Post)) cut WW n) := (rfl)
theorem fX7_cook_88 (Post : XPo) (cut : List Nat) (WW : XK) (n : Nat) (L : XLs) (st : List XV) (M : XM) : xru (xlk (pX7_cook Post)) cut WW (n + 1) 88 L st M = j_c 4 1 88 L st M (xkk (xlk (pX7_cook Post)) cut WW n) := (rfl)
theorem fX7_cook_89 (Post : XPo) (cut : List Nat) (WW : XK) (n : Nat) (L : XLs) (st : List XV) (M : XM) : xru (xlk (pX7_cook Post)) cut WW (n + 1) 89 L st M = j_iald 89 L st M (xkk (xlk (pX7_cook Post)) cut WW n) := (rfl)
theorem fX7_cook_90 (Post : XPo) (cut : List Nat) (WW : XK) (n : Nat) (L : XLs) (st : List XV) (M : XM) : xru (xlk (pX7_cook Post)) cut WW (n + 1) 90 L st M = j_S2 sX7_dividedUp 90 L st M (xkk (xlk (pX7_cook Post)) cut WW n) := (rfl)
theorem fX7_cook_93 (Post : XPo) (cut : List Nat) (WW : XK) (n : Nat) (L : XLs) (st : List XV) (M : XM) : xru (xlk (pX7_cook Post)) cut WW (n + 1) 93 L st M = j_iret Post 93 L st M (xkk (xlk (pX7_cook Post)) cut WW n) := (rfl)
def sX7_cook : XSp := xq3 0 (fun _ _ k d n => fun M Q => KI M ∧ XInR k ∧ XInR d ∧ XInR n ∧ (0 ≤ k ∧ k < M 1 0 0 6) ∧ (0 ≤ d ∧ d ≤ 2) ∧ (1 ≤ n ∧ n ≤ 300) ∧ (M 8 0 k 3 = 0 ∧ ¬ kEn M 0 k d < n) ∧ Q [xI ((n + M 2 0 0 4 - 1) / M 2 0 0 4)] (kFill (fKeep M) 0 k d n))
set_option maxRecDepth 100000 in
theorem kX7_cook : XCn yX7_cook wX7_cook rX7_cook sX7_cook := XD3 pX7_cook rfl rfl aX7_cook (by decide) (fun k d n M Post h WW hC => by
  obtain ⟨hK, r_k, r_d, r_n, c0, c1, c2, c3, h⟩ := h
  have hG := KI_G hK
  obtain ⟨g3, g6, g8, g10, g0, gs⟩ := fC_in hG.1
  have hK0 := KI_0 hK
  obtain ⟨hK1, hn, hm⟩ := hK
  have hKp := fKeep_at hn.1
  show WW 0 [some (xR 0 0 0), some (xI k), some (xI d), some (xI n), none] [] M
  have k3 : k < 3 := by have := hG.1.2.1; omega
  have vk : xval 8 0 k := xv_of8 (by decide) c0.1 k3
  have vk9 : xval 9 0 k := vk
  have vk10 : xval 10 0 k := xv_of10 (by decide) c0.1 (by omega)
  have rk9 : xrow 9 0 k := xrow_m (by decide) (by decide) vk
  have hk := hG.2.2.1 k c0.1 k3
  have hp := hG.1.2.2.2.2.2.2.2.2.2.1
  have hst := hk.2.1
  have s0 := hst 0 (by decide) (by decide)
  have s1 := hst 1 (by decide) (by decide)
  have s2 := hst 2 (by decide) (by decide)
  have hpm : XInR (M 8 0 k 3) := ⟨by omega, by omega⟩
  have hen : XInR (kEn M 0 k d) := by
    unfold kEn
    split
    · exact ⟨by omega, by omega⟩
    · split
      · exact ⟨by omega, by omega⟩
      · exact ⟨by omega, by omega⟩
  have p1 : M 2 0 0 4 ≤ 1000000 := by omega
  have p2 : 0 ≤ n + M 2 0 0 4 - 1 := by omega
  have p3 : n + M 2 0 0 4 - 1 ≤ 2147483647 := by omega
  refine xru_ok hC [] 200 _ _ _ _ ?_
  simp only [xkk_ap, Int.reduceEq, Int.reduceLT, Int.reduceLE, Int.reduceNeg, Int.reduceAdd, Int.reduceSub, Int.reduceMul, and_self, false_and, and_false, not_true_eq_false, not_false_eq_true, true_implies, false_implies, xq0, xq1, xq2, xq3, xq4, xq5, xqR, xq1R, xq3R, xt1, xt2, xt3, List.mem_cons, List.not_mem_nil, or_false, false_or, or_self, if_false, if_true, reduceIte, reduceCtorEq, xent, xen, List.length_cons, List.length_nil, List.replicate, j_c, j_cJ, j_ild, j_ald, j_lld, j_ist, j_ast, j_lst, j_inc, j_add, j_sub, j_mul, j_neg, j_div, j_rem, j_and, j_shr, j_shl1, j_or, j_ladd, j_lsub, j_lmul, j_i2l, j_lcmp, j_i2c, j_dup, j_dup2, j_pop, j_goto, j_ieq, j_ine, j_ilt, j_ige, j_igt, j_ile, j_eq, j_ne, j_lt, j_ge, j_gt, j_le, xsw, j_tsw, j_gI, j_gJ, j_gR, j_pI, j_pJ, j_gs, j_iald, j_iast, j_cald, j_cast, j_aald, j_cpy, j_min, j_max, j_abs, j_iret, j_zret, j_lret, j_dret, j_ret0, j_V0, j_V1, j_V2, j_V3, j_V4, j_V5, j_S1, j_S2, j_S3, xget, xset, xset2, xclr, xc1, xcat, Nat.reduceAdd, Nat.reduceEqDiff, Nat.reduceLT, Nat.reduceLeDiff, Nat.reduceMul, List.cons_append, List.nil_append, true_and, and_true, List.singleton_append, fX7_cook_0, fX7_cook_1, fX7_cook_2, fX7_cook_5, fX7_cook_8, fX7_cook_11, fX7_cook_12, fX7_cook_13, fX7_cook_14, fX7_cook_17, fX7_cook_18, fX7_cook_19, fX7_cook_22, fX7_cook_25, fX7_cook_26, fX7_cook_29, fX7_cook_32, fX7_cook_33, fX7_cook_34, fX7_cook_36, fX7_cook_38, fX7_cook_41, fX7_cook_44, fX7_cook_46, fX7_cook_47, fX7_cook_50, fX7_cook_51, fX7_cook_54, fX7_cook_55, fX7_cook_58, fX7_cook_59, fX7_cook_62, fX7_cook_63, fX7_cook_66, fX7_cook_67, fX7_cook_70, fX7_cook_73, fX7_cook_75, fX7_cook_76, fX7_cook_77, fX7_cook_80, fX7_cook_81, fX7_cook_82, fX7_cook_85, fX7_cook_88, fX7_cook_89, fX7_cook_90, fX7_cook_93, sX7_requireIndex, sX7_requireRange, sX1_enoughFor, sX7_requireState, sX4_keep, sX1_fillPot, sX7_dividedUp, hn, hm, g3, g6, g8, g10, g0, gs, hKp, r_k, r_d, r_n, xup_app, k3, vk, vk9, vk10, rk9, hst, hpm, hen, hp, p1, p2, p3, kFill_2, xvz_0, xvz_1, xvz_2, xvz_3, xvz_4, xvz_5, xvz_6, xvz_7, xvz_15, xvz_17, xvz_18, xrz_2, xrz_3, xrz_4, xdz_2, xdz_3, xdz_4, xdz_9, xdz_11, xdz_12, xr_c (n := 0) rfl, xr_c (n := 1) rfl, xr_c (n := 2) rfl, xr_c (n := 3) rfl, xr_c (n := 4) rfl, xr_c (n := 5) rfl, xr_c (n := 6) rfl, xr_c (n := 8) rfl, xr_c (n := 10) rfl, xr_c (n := 11) rfl, xr_c (n := 12) rfl, xr_c (n := 16) rfl, xr_c (n := 30) rfl, xr_c (n := 99) rfl, xr_c (n := 120) rfl, xr_c (n := 126) rfl, xr_c (n := 33) rfl, xr_c (n := 200) rfl, xr_c (n := 255) rfl, xr_c (n := 299) rfl, xr_c (n := 300) rfl, xr_c (n := 500) rfl, xr_c (n := 600) rfl, xr_c (n := 999) rfl, xr_c (n := 1000) rfl, xr_c (n := 20000) rfl, xr_c (n := 60) rfl, xr_c (n := -1) rfl, xlen, xcat, xc1, Nat.zero_le, Nat.reduceLeDiff, c0, c1, c2, c3]
  (repeat' (first | exact h | intro _ | apply And.intro)) <;> first | omega | (exfalso; omega) | exact ⟨by omega, by omega⟩)
end XPu

