section XPu
theorem xk0 {i k : Int} (h : xval 0 i k) : i = 0 ∧ k = 0 := by have h1 := h.1; have h2 := h.2.1; have h3 := h.2.2.1; have h4 := h.2.2.2; simp only [xvk, xvi] at h2 h4; omega
theorem xvz_0 : xval 0 0 0 := ⟨by decide, by decide, by decide, by decide⟩
theorem xvz_1 : xval 1 0 0 := ⟨by decide, by decide, by decide, by decide⟩
theorem xvz_2 : xval 2 0 0 := ⟨by decide, by decide, by decide, by decide⟩
theorem xvz_3 : xval 3 0 0 := ⟨by decide, by decide, by decide, by decide⟩
theorem xvz_4 : xval 4 0 0 := ⟨by decide, by decide, by decide, by decide⟩
theorem xvz_5 : xval 5 0 0 := ⟨by decide, by decide, by decide, by decide⟩
theorem xvz_6 : xval 6 0 0 := ⟨by decide, by decide, by decide, by decide⟩
theorem xvz_7 : xval 7 0 0 := ⟨by decide, by decide, by decide, by decide⟩
theorem xvz_15 : xval 15 0 0 := ⟨by decide, by decide, by decide, by decide⟩
theorem xvz_16 : xval 16 0 0 := ⟨by decide, by decide, by decide, by decide⟩
theorem xvz_17 : xval 17 0 0 := ⟨by decide, by decide, by decide, by decide⟩
theorem xvz_18 : xval 18 0 0 := ⟨by decide, by decide, by decide, by decide⟩
theorem xvz_19 : xval 19 0 0 := ⟨by decide, by decide, by decide, by decide⟩
theorem xvz_20 : xval 20 0 0 := ⟨by decide, by decide, by decide, by decide⟩
theorem xvz_21 : xval 21 0 0 := ⟨by decide, by decide, by decide, by decide⟩
theorem xvz_22 : xval 22 0 0 := ⟨by decide, by decide, by decide, by decide⟩
theorem xvz_23 : xval 23 0 0 := ⟨by decide, by decide, by decide, by decide⟩
theorem xvz_24 : xval 24 0 0 := ⟨by decide, by decide, by decide, by decide⟩
theorem xvz_25 : xval 25 0 0 := ⟨by decide, by decide, by decide, by decide⟩
theorem xvz_26 : xval 26 0 0 := ⟨by decide, by decide, by decide, by decide⟩
theorem xrz_2 : xrow 2 0 0 := xrow_m (by decide) (by decide) xvz_2
theorem xdz_2 (M : XM) (i k j : Int) : xrd M 2 i k j = M 2 i k j := (rfl)
theorem xrz_3 : xrow 3 0 0 := xrow_m (by decide) (by decide) xvz_3
theorem xdz_3 (M : XM) (i k j : Int) : xrd M 3 i k j = M 3 i k j := (rfl)
theorem xrz_4 : xrow 4 0 0 := xrow_m (by decide) (by decide) xvz_4
theorem xdz_4 (M : XM) (i k j : Int) : xrd M 4 i k j = M 4 i k j := (rfl)
theorem xrz_19 : xrow 19 0 0 := xrow_m (by decide) (by decide) xvz_19
theorem xdz_19 (M : XM) (i k j : Int) : xrd M 19 i k j = M 19 i k j := (rfl)
theorem xrz_21 : xrow 21 0 0 := xrow_m (by decide) (by decide) xvz_21
theorem xdz_21 (M : XM) (i k j : Int) : xrd M 21 i k j = M 21 i k j := (rfl)
theorem xrz_22 : xrow 22 0 0 := xrow_m (by decide) (by decide) xvz_22
theorem xdz_22 (M : XM) (i k j : Int) : xrd M 22 i k j = M 22 i k j := (rfl)
theorem xrz_23 : xrow 23 0 0 := xrow_m (by decide) (by decide) xvz_23
theorem xdz_23 (M : XM) (i k j : Int) : xrd M 23 i k j = M 23 i k j := (rfl)
theorem xrz_24 : xrow 24 0 0 := xrow_m (by decide) (by decide) xvz_24
theorem xdz_24 (M : XM) (i k j : Int) : xrd M 24 i k j = M 24 i k j := (rfl)
theorem xrz_25 : xrow 25 0 0 := xrow_m (by decide) (by decide) xvz_25
theorem xdz_25 (M : XM) (i k j : Int) : xrd M 25 i k j = M 25 i k j := (rfl)
theorem xdz_9 (M : XM) (i k j : Int) : xrd M 9 i k j = M 9 i k j := (rfl)
theorem xdz_11 (M : XM) (i k j : Int) : xrd M 11 i k j = M 11 i k j := (rfl)
theorem xdz_12 (M : XM) (i k j : Int) : xrd M 12 i k j = M 12 i k j := (rfl)
theorem xrz_32 : xrow 32 0 0 := Or.inl (by decide)
theorem xrz_33 : xrow 33 0 0 := Or.inl (by decide)
theorem XE1 {y : MethodName} {ws ws' : List Cond} {rm : Room} {cc : ByteArray} {nL : Nat} {ret : Option FieldType} (P : XPo → List (Nat × XStp)) (hrm : rm.cells = 1 ∧ rm.slots = 6) (hy : plainName y.cls = true) (hw : ws = Cond.code y cc nL ret :: ws') (hall : ∀ Post, XAx rm cc nL y.cls ws ret Post (P Post)) {S : Int → XM → XPo → Prop} (hn : 2 ≤ nL) (body : ∀ (a : Int) (M : XM) (Post : XPo), S a M Post → ∀ WW : XK, XCl (xlk (P Post)) WW → WW 0 (xent nL [xR 0 0 0, xI a]) [] M) : XCe y ws rm (xq1 0 (fun _ _ => S)) := by
  refine XCe.of P hrm hy hw hall ?_ ?_
  · intro av M Post h
    simp only [xq1] at h
    split at h
    · exact hn
    · exact h.elim
  · intro av M Post h WW hC
    simp only [xq1] at h
    split at h
    next t' i k a =>
      obtain ⟨⟨rfl, hv⟩, h⟩ := h
      obtain ⟨rfl, rfl⟩ := xk0 hv
      exact body a M Post h WW hC
    next => exact h.elim
theorem XE2 {y : MethodName} {ws ws' : List Cond} {rm : Room} {cc : ByteArray} {nL : Nat} {ret : Option FieldType} (P : XPo → List (Nat × XStp)) (hrm : rm.cells = 1 ∧ rm.slots = 6) (hy : plainName y.cls = true) (hw : ws = Cond.code y cc nL ret :: ws') (hall : ∀ Post, XAx rm cc nL y.cls ws ret Post (P Post)) {S : Int → Int → XM → XPo → Prop} (hn : 3 ≤ nL) (body : ∀ (a b : Int) (M : XM) (Post : XPo), S a b M Post → ∀ WW : XK, XCl (xlk (P Post)) WW → WW 0 (xent nL [xR 0 0 0, xI a, xI b]) [] M) : XCe y ws rm (xq2 0 (fun _ _ => S)) := by
  refine XCe.of P hrm hy hw hall ?_ ?_
  · intro av M Post h
    simp only [xq2] at h
    split at h
    · exact hn
    · exact h.elim
  · intro av M Post h WW hC
    simp only [xq2] at h
    split at h
    next t' i k a b =>
      obtain ⟨⟨rfl, hv⟩, h⟩ := h
      obtain ⟨rfl, rfl⟩ := xk0 hv
      exact body a b M Post h WW hC
    next => exact h.elim
theorem XE3 {y : MethodName} {ws ws' : List Cond} {rm : Room} {cc : ByteArray} {nL : Nat} {ret : Option FieldType} (P : XPo → List (Nat × XStp)) (hrm : rm.cells = 1 ∧ rm.slots = 6) (hy : plainName y.cls = true) (hw : ws = Cond.code y cc nL ret :: ws') (hall : ∀ Post, XAx rm cc nL y.cls ws ret Post (P Post)) {S : Int → Int → Int → XM → XPo → Prop} (hn : 4 ≤ nL) (body : ∀ (a b c : Int) (M : XM) (Post : XPo), S a b c M Post → ∀ WW : XK, XCl (xlk (P Post)) WW → WW 0 (xent nL [xR 0 0 0, xI a, xI b, xI c]) [] M) : XCe y ws rm (xq3 0 (fun _ _ => S)) := by
  refine XCe.of P hrm hy hw hall ?_ ?_
  · intro av M Post h
    simp only [xq3] at h
    split at h
    · exact hn
    · exact h.elim
  · intro av M Post h WW hC
    simp only [xq3] at h
    split at h
    next t' i k a b c =>
      obtain ⟨⟨rfl, hv⟩, h⟩ := h
      obtain ⟨rfl, rfl⟩ := xk0 hv
      exact body a b c M Post h WW hC
    next => exact h.elim
theorem XE4 {y : MethodName} {ws ws' : List Cond} {rm : Room} {cc : ByteArray} {nL : Nat} {ret : Option FieldType} (P : XPo → List (Nat × XStp)) (hrm : rm.cells = 1 ∧ rm.slots = 6) (hy : plainName y.cls = true) (hw : ws = Cond.code y cc nL ret :: ws') (hall : ∀ Post, XAx rm cc nL y.cls ws ret Post (P Post)) {S : Int → Int → Int → Int → XM → XPo → Prop} (hn : 5 ≤ nL) (body : ∀ (a b c d : Int) (M : XM) (Post : XPo), S a b c d M Post → ∀ WW : XK, XCl (xlk (P Post)) WW → WW 0 (xent nL [xR 0 0 0, xI a, xI b, xI c, xI d]) [] M) : XCe y ws rm (xq4 0 (fun _ _ => S)) := by
  refine XCe.of P hrm hy hw hall ?_ ?_
  · intro av M Post h
    simp only [xq4] at h
    split at h
    · exact hn
    · exact h.elim
  · intro av M Post h WW hC
    simp only [xq4] at h
    split at h
    next t' i k a b c d =>
      obtain ⟨⟨rfl, hv⟩, h⟩ := h
      obtain ⟨rfl, rfl⟩ := xk0 hv
      exact body a b c d M Post h WW hC
    next => exact h.elim
theorem XE5 {y : MethodName} {ws ws' : List Cond} {rm : Room} {cc : ByteArray} {nL : Nat} {ret : Option FieldType} (P : XPo → List (Nat × XStp)) (hrm : rm.cells = 1 ∧ rm.slots = 6) (hy : plainName y.cls = true) (hw : ws = Cond.code y cc nL ret :: ws') (hall : ∀ Post, XAx rm cc nL y.cls ws ret Post (P Post)) {S : Int → Int → Int → Int → Int → XM → XPo → Prop} (hn : 6 ≤ nL) (body : ∀ (a b c d e : Int) (M : XM) (Post : XPo), S a b c d e M Post → ∀ WW : XK, XCl (xlk (P Post)) WW → WW 0 (xent nL [xR 0 0 0, xI a, xI b, xI c, xI d, xI e]) [] M) : XCe y ws rm (xq5 0 (fun _ _ => S)) := by
  refine XCe.of P hrm hy hw hall ?_ ?_
  · intro av M Post h
    simp only [xq5] at h
    split at h
    · exact hn
    · exact h.elim
  · intro av M Post h WW hC
    simp only [xq5] at h
    split at h
    next t' i k a b c d e =>
      obtain ⟨⟨rfl, hv⟩, h⟩ := h
      obtain ⟨rfl, rfl⟩ := xk0 hv
      exact body a b c d e M Post h WW hC
    next => exact h.elim
theorem XE0 {y : MethodName} {ws ws' : List Cond} {rm : Room} {cc : ByteArray} {nL : Nat} {ret : Option FieldType} (P : XPo → List (Nat × XStp)) (hrm : rm.cells = 1 ∧ rm.slots = 6) (hy : plainName y.cls = true) (hw : ws = Cond.code y cc nL ret :: ws') (hall : ∀ Post, XAx rm cc nL y.cls ws ret Post (P Post)) {S : XM → XPo → Prop} (hn : 1 ≤ nL) (body : ∀ (M : XM) (Post : XPo), S M Post → ∀ WW : XK, XCl (xlk (P Post)) WW → WW 0 (xent nL [xR 0 0 0]) [] M) : XCe y ws rm (xq0 0 (fun _ _ => S)) := by
  refine XCe.of P hrm hy hw hall ?_ ?_
  · intro av M Post h
    simp only [xq0] at h
    split at h
    · exact hn
    · exact h.elim
  · intro av M Post h WW hC
    simp only [xq0] at h
    split at h
    next t' i k =>
      obtain ⟨⟨rfl, hv⟩, h⟩ := h
      obtain ⟨rfl, rfl⟩ := xk0 hv
      exact body M Post h WW hC
    next => exact h.elim
/-- what holds of the object between calls -/
def fH (M : XM) (i : Int) : Prop := fI (3600 * M 1 i 0 0) (60 * M 1 i 0 0) M i ∧ M 1 i 0 0 ≤ 20000
def KI (M : XM) : Prop := (∀ i : Int, i = 0 ∨ 2 ≤ i → i < 8 → fH M i) ∧ (0 ≤ M 15 0 0 1 ∧ M 15 0 0 1 < 6) ∧ (0 ≤ M 15 0 0 2 ∧ M 15 0 0 2 ≤ 6) ∧ (0 ≤ M 0 0 0 5 ∧ M 0 0 0 5 ≤ 60) ∧ ∀ j : Int, 0 ≤ j → j < 60 → 0 ≤ M 17 0 0 j ∧ M 17 0 0 j < 65536
theorem fH_G {M : XM} {i : Int} (h : fH M i) : fI 72000000 1200000 M i := fI_mono h.1 (by have := h.2; omega) (by have := h.2; omega)
theorem KI_0 {M : XM} (h : KI M) : fI 72000000 1200000 M 0 := fH_G (h.1 0 (Or.inl rfl) (by decide))
theorem KI_G {M : XM} (h : KI M) : fG M 0 := fI_mono (KI_0 h) (by decide) (by decide)
theorem fKeep_at {M : XM} (h : 0 ≤ M 15 0 0 1) (t : Nat) (k s : Int) (ht : ¬ t = 15) : fKeep M t 0 k s = M t 0 k s := by
  unfold fKeep rcp
  simp only [xup_app, ht, false_and, if_false]
  rw [if_neg (by omega)]
theorem fKeep_0 {M : XM} (h : 0 ≤ M 15 0 0 1) (t : Nat) (ht : ¬ t = 15) : fKeep M t 0 = M t 0 := by
  funext k s
  exact fKeep_at h t k s ht
theorem fKeep_I {M : XM} (h : 0 ≤ M 15 0 0 1) {c b : Int} (hI : fI c b M 0) : fI c b (fKeep M) 0 := by
  have e := fun t ht => fKeep_0 h t ht
  obtain ⟨hC, hS, hK, hL, hU⟩ := hI
  exact ⟨fC_congr (fun s _ => by rw [e 1 (by decide)]) (e 2 (by decide)) (e 3 (by decide)) (e 4 (by decide)) hC, fS_congr (e 11 (by decide)) (e 12 (by decide)) hS, fK_congr (fun k s _ => by rw [e 8 (by decide)]) (e 9 (by decide)) hK, fL_congr (fun l s _ => by rw [e 13 (by decide)]) hL, fU_congr (e 14 (by decide)) (by rw [e 1 (by decide)]) hU⟩
/-- UnitKitchens.addPlace(II)I, that may throw -/
abbrev wEX7_addPlace : List Cond := Cond.code yX7_addPlace cX7_addPlace 3 (some .int) :: xT
abbrev rEX7_addPlace : Room := { frames := 7, cells := 1, slots := 6, locals := 125 }
def pEX7_addPlace (Post : XPo) : List (Nat × XStp) := [(0, j_ild 1 1), (1, j_c 0 1), (2, j_c 99 2), (4, j_T3 1 (fun a b d => b ≤ a ∧ a ≤ d) Post), (7, j_ild 2 1), (8, j_c 0 1), (9, j_c 99 2), (11, j_T3 1 (fun a b d => b ≤ a ∧ a ≤ d) Post), (14, j_ald 0 1), (15, j_gR 0 (fun i k => (1, 0, 0))), (18, j_gI 1 3), (21, j_c 8 2), (23, j_ige 30), (26, j_c 1 1), (27, j_goto 31), (30, j_c 0 1), (31, j_T1 2 (fun a => ¬ a = 0) Post), (34, j_ald 0 1), (35, j_gR 0 (fun i k => (15, 0, 0))), (38, j_ald 0 1), (39, j_gR 0 (fun i k => (1, 0, 0))), (42, j_V1 15 sX4_keep), (45, j_ald 0 1), (46, j_gR 0 (fun i k => (1, 0, 0))), (49, j_ild 1 1), (50, j_ild 2 1), (51, j_V2 1 sX0_newPlace), (54, j_iret Post)]
set_option maxRecDepth 100000 in
theorem aEX7_addPlace (Post : XPo) : XAx rEX7_addPlace cX7_addPlace 3 RX7 wEX7_addPlace (some .int) Post (pEX7_addPlace Post) := XAx.cons (XSx.of (xs_iload_n dX7_addPlace_0 rfl)) (XAx.cons (XSx.of (xs_iconst dX7_addPlace_1)) (XAx.cons (XSx.of (xs_bipush dX7_addPlace_2 rfl)) (XAx.cons (xe_T3 kX7_requireRange kEX7_requireRange uRR uRR_ ⟨⟨rfl, rfl, by decide, by decide⟩, ⟨by decide, by decide, by decide +kernel⟩, tw_364, tw_365, tw_1, tw_366⟩ ⟨⟨rfl, rfl, by decide, by decide⟩, ⟨by decide, by decide, by decide +kernel⟩, tw_364, tw_365, tw_1, tw_366⟩ dX7_addPlace_4) (XAx.cons (XSx.of (xs_iload_n dX7_addPlace_7 rfl)) (XAx.cons (XSx.of (xs_iconst dX7_addPlace_8)) (XAx.cons (XSx.of (xs_bipush dX7_addPlace_9 rfl)) (XAx.cons (xe_T3 kX7_requireRange kEX7_requireRange uRR uRR_ ⟨⟨rfl, rfl, by decide, by decide⟩, ⟨by decide, by decide, by decide +kernel⟩, tw_364, tw_365, tw_1, tw_366⟩ ⟨⟨rfl, rfl, by decide, by decide⟩, ⟨by decide, by decide, by decide +kernel⟩, tw_364, tw_365, tw_1, tw_366⟩ dX7_addPlace_11) (XAx.cons (XSx.of (xs_aload_n dX7_addPlace_14 rfl)) (XAx.cons (XSx.of (fgX7_0 tw_286 dX7_addPlace_15)) (XAx.cons (XSx.of (fgX0_3 tw_205 dX7_addPlace_18)) (XAx.cons (XSx.of (xs_bipush dX7_addPlace_21 rfl)) (XAx.cons (XSx.of (xs_icmp_ge dX7_addPlace_23 (by decide))) (XAx.cons (XSx.of (xs_iconst dX7_addPlace_26)) (XAx.cons (XSx.of (xs_goto dX7_addPlace_27 (by decide))) (XAx.cons (XSx.of (xs_iconst dX7_addPlace_30)) (XAx.cons (xe_T1 kX7_requireState kEX7_requireState uRS uRS_ ⟨⟨rfl, rfl, by decide, by decide⟩, ⟨by decide, by decide, by decide +kernel⟩, tw_766, tw_767, tw_1, tw_768⟩ ⟨⟨rfl, rfl, by decide, by decide⟩, ⟨by decide, by decide, by decide +kernel⟩, tw_766, tw_767, tw_1, tw_768⟩ dX7_addPlace_31) (XAx.cons (XSx.of (xs_aload_n dX7_addPlace_34 rfl)) (XAx.cons (XSx.of (fgX7_2 tw_288 dX7_addPlace_35)) (XAx.cons (XSx.of (xs_aload_n dX7_addPlace_38 rfl)) (XAx.cons (XSx.of (fgX7_0 tw_286 dX7_addPlace_39)) (XAx.cons (XSx.of (xs_V1 kX4_keep ⟨⟨rfl, rfl, by decide, by decide⟩, ⟨by decide, by decide, by decide +kernel⟩, ⟨tw_785, tw_786, tw_787, tw_7, tw_788⟩, 4, TX4, _, rfl, fun G ρ f i k => ⟨_, rfl⟩⟩ dX7_addPlace_42)) (XAx.cons (XSx.of (xs_aload_n dX7_addPlace_45 rfl)) (XAx.cons (XSx.of (fgX7_0 tw_286 dX7_addPlace_46)) (XAx.cons (XSx.of (xs_iload_n dX7_addPlace_49 rfl)) (XAx.cons (XSx.of (xs_iload_n dX7_addPlace_50 rfl)) (XAx.cons (XSx.of (xs_V2 kX0_newPlace ⟨⟨rfl, rfl, by decide, by decide⟩, ⟨by decide, by decide, by decide +kernel⟩, ⟨tw_791, tw_792, tw_793, tw_2, tw_794⟩, 0, TX0, _, rfl, fun G ρ f i k => ⟨_, rfl⟩⟩ dX7_addPlace_51)) (XAx.cons (xe_iret rfl dX7_addPlace_54) (XAx.nil))))))))))))))))))))))))))))
theorem fEX7_addPlace_0 (Post : XPo) (cut : List Nat) (WW : XK) (n : Nat) (L : XLs) (st : List XV) (M : XM) : xru (xlk (pEX7_addPlace Post)) cut WW (n + 1) 0 L st M = j_ild 1 1 0 L st M (xkk (xlk (pEX7_addPlace Post)) cut WW n) := (rfl)
theorem fEX7_addPlace_1 (Post : XPo) (cut : List Nat) (WW : XK) (n : Nat) (L : XLs) (st : List XV) (M : XM) : xru (xlk (pEX7_addPlace Post)) cut WW (n + 1) 1 L st M = j_c 0 1 1 L st M (xkk (xlk (pEX7_addPlace Post)) cut WW n) := (rfl)
theorem fEX7_addPlace_2 (Post : XPo) (cut : List Nat) (WW : XK) (n : Nat) (L : XLs) (st : List XV) (M : XM) : xru (xlk (pEX7_addPlace Post)) cut WW (n + 1) 2 L st M = j_c 99 2 2 L st M (xkk (xlk (pEX7_addPlace Post)) cut WW n) := (rfl)
theorem fEX7_addPlace_4 (Post : XPo) (cut : List Nat) (WW : XK) (n : Nat) (L : XLs) (st : List XV) (M : XM) : xru (xlk (pEX7_addPlace Post)) cut WW (n + 1) 4 L st M = j_T3 1 (fun a b d => b ≤ a ∧ a ≤ d) Post 4 L st M (xkk (xlk (pEX7_addPlace Post)) cut WW n) := (rfl)
theorem fEX7_addPlace_7 (Post : XPo) (cut : List Nat) (WW : XK) (n : Nat) (L : XLs) (st : List XV) (M : XM) : xru (xlk (pEX7_addPlace Post)) cut WW (n + 1) 7 L st M = j_ild 2 1 7 L st M (xkk (xlk (pEX7_addPlace Post)) cut WW n) := (rfl)
theorem fEX7_addPlace_8 (Post : XPo) (cut : List Nat) (WW : XK) (n : Nat) (L : XLs) (st : List XV) (M : XM) : xru (xlk (pEX7_addPlace Post)) cut WW (n + 1) 8 L st M = j_c 0 1 8 L st M (xkk (xlk (pEX7_addPlace Post)) cut WW n) := (rfl)
theorem fEX7_addPlace_9 (Post : XPo) (cut : List Nat) (WW : XK) (n : Nat) (L : XLs) (st : List XV) (M : XM) : xru (xlk (pEX7_addPlace Post)) cut WW (n + 1) 9 L st M = j_c 99 2 9 L st M (xkk (xlk (pEX7_addPlace Post)) cut WW n) := (rfl)
theorem fEX7_addPlace_11 (Post : XPo) (cut : List Nat) (WW : XK) (n : Nat) (L : XLs) (st : List XV) (M : XM) : xru (xlk (pEX7_addPlace Post)) cut WW (n + 1) 11 L st M = j_T3 1 (fun a b d => b ≤ a ∧ a ≤ d) Post 11 L st M (xkk (xlk (pEX7_addPlace Post)) cut WW n) := (rfl)
theorem fEX7_addPlace_14 (Post : XPo) (cut : List Nat) (WW : XK) (n : Nat) (L : XLs) (st : List XV) (M : XM) : xru (xlk (pEX7_addPlace Post)) cut WW (n + 1) 14 L st M = j_ald 0 1 14 L st M (xkk (xlk (pEX7_addPlace Post)) cut WW n) := (rfl)
theorem fEX7_addPlace_15 (Post : XPo) (cut : List Nat) (WW : XK) (n : Nat) (L : XLs) (st : List XV) (M : XM) : xru (xlk (pEX7_addPlace Post)) cut WW (n + 1) 15 L st M = j_gR 0 (fun i k => (1, 0, 0)) 15 L st M (xkk (xlk (pEX7_addPlace Post)) cut WW n) := (rfl)
theorem fEX7_addPlace_18 (Post : XPo) (cut : List Nat) (WW : XK) (n : Nat) (L : XLs) (st : List XV) (M : XM) : xru (xlk (pEX7_addPlace Post)) cut WW (n + 1) 18 L st M = j_gI 1 3 18 L st M (xkk (xlk (pEX7_addPlace Post)) cut WW n) := (rfl)
theorem fEX7_addPlace_21 (Post : XPo) (cut : List Nat) (WW : XK) (n : Nat) (L : XLs) (st : List XV) (M : XM) : xru (xlk (pEX7_addPlace Post)) cut WW (n + 1) 21 L st M = j_c 8 2 21 L st M (xkk (xlk (pEX7_addPlace Post)) cut WW n) := (rfl)
theorem fEX7_addPlace_23 (Post : XPo) (cut : List Nat) (WW : XK) (n : Nat) (L : XLs) (st : List XV) (M : XM) : xru (xlk (pEX7_addPlace Post)) cut WW (n + 1) 23 L st M = j_ige 30 23 L st M (xkk (xlk (pEX7_addPlace Post)) cut WW n) := (rfl)
theorem fEX7_addPlace_26 (Post : XPo) (cut : List Nat) (WW : XK) (n : Nat) (L : XLs) (st : List XV) (M : XM) : xru (xlk (pEX7_addPlace Post)) cut WW (n + 1) 26 L st M = j_c 1 1 26 L st M (xkk (xlk (pEX7_addPlace Post)) cut WW n) := (rfl)
theorem fEX7_addPlace_27 (Post : XPo) (cut : List Nat) (WW : XK) (n : Nat) (L : XLs) (st : List XV) (M : XM) : xru (xlk (pEX7_addPlace Post)) cut WW (n + 1) 27 L st M = j_goto 31 27 L st M (xkk (xlk (pEX7_addPlace Post)) cut WW n) := (rfl)
theorem fEX7_addPlace_30 (Post : XPo) (cut : List Nat) (WW : XK) (n : Nat) (L : XLs) (st : List XV) (M : XM) : xru (xlk (pEX7_addPlace Post)) cut WW (n + 1) 30 L st M = j_c 0 1 30 L st M (xkk (xlk (pEX7_addPlace Post)) cut WW n) := (rfl)
theorem fEX7_addPlace_31 (Post : XPo) (cut : List Nat) (WW : XK) (n : Nat) (L : XLs) (st : List XV) (M : XM) : xru (xlk (pEX7_addPlace Post)) cut WW (n + 1) 31 L st M = j_T1 2 (fun a => ¬ a = 0) Post 31 L st M (xkk (xlk (pEX7_addPlace Post)) cut WW n) := (rfl)
theorem fEX7_addPlace_34 (Post : XPo) (cut : List Nat) (WW : XK) (n : Nat) (L : XLs) (st : List XV) (M : XM) : xru (xlk (pEX7_addPlace Post)) cut WW (n + 1) 34 L st M = j_ald 0 1 34 L st M (xkk (xlk (pEX7_addPlace Post)) cut WW n) := (rfl)
theorem fEX7_addPlace_35 (Post : XPo) (cut : List Nat) (WW : XK) (n : Nat) (L : XLs) (st : List XV) (M : XM) : xru (xlk (pEX7_addPlace Post)) cut WW (n + 1) 35 L st M = j_gR 0 (fun i k => (15, 0, 0)) 35 L st M (xkk (xlk (pEX7_addPlace Post)) cut WW n) := (rfl)
theorem fEX7_addPlace_38 (Post : XPo) (cut : List Nat) (WW : XK) (n : Nat) (L : XLs) (st : List XV) (M : XM) : xru (xlk (pEX7_addPlace Post)) cut WW (n + 1) 38 L st M = j_ald 0 1 38 L st M (xkk (xlk (pEX7_addPlace Post)) cut WW n) := (rfl)
theorem fEX7_addPlace_39 (Post : XPo) (cut : List Nat) (WW : XK) (n : Nat) (L : XLs) (st : List XV) (M : XM) : xru (xlk (pEX7_addPlace Post)) cut WW (n + 1) 39 L st M = j_gR 0 (fun i k => (1, 0, 0)) 39 L st M (xkk (xlk (pEX7_addPlace Post)) cut WW n) := (rfl)
theorem fEX7_addPlace_42 (Post : XPo) (cut : List Nat) (WW : XK) (n : Nat) (L : XLs) (st : List XV) (M : XM) : xru (xlk (pEX7_addPlace Post)) cut WW (n + 1) 42 L st M = j_V1 15 sX4_keep 42 L st M (xkk (xlk (pEX7_addPlace Post)) cut WW n) := (rfl)
theorem fEX7_addPlace_45 (Post : XPo) (cut : List Nat) (WW : XK) (n : Nat) (L : XLs) (st : List XV) (M : XM) : xru (xlk (pEX7_addPlace Post)) cut WW (n + 1) 45 L st M = j_ald 0 1 45 L st M (xkk (xlk (pEX7_addPlace Post)) cut WW n) := (rfl)
theorem fEX7_addPlace_46 (Post : XPo) (cut : List Nat) (WW : XK) (n : Nat) (L : XLs) (st : List XV) (M : XM) : xru (xlk (pEX7_addPlace Post)) cut WW (n + 1) 46 L st M = j_gR 0 (fun i k => (1, 0, 0)) 46 L st M (xkk (xlk (pEX7_addPlace Post)) cut WW n) := (rfl)
theorem fEX7_addPlace_49 (Post : XPo) (cut : List Nat) (WW : XK) (n : Nat) (L : XLs) (st : List XV) (M : XM) : xru (xlk (pEX7_addPlace Post)) cut WW (n + 1) 49 L st M = j_ild 1 1 49 L st M (xkk (xlk (pEX7_addPlace Post)) cut WW n) := (rfl)
theorem fEX7_addPlace_50 (Post : XPo) (cut : List Nat) (WW : XK) (n : Nat) (L : XLs) (st : List XV) (M : XM) : xru (xlk (pEX7_addPlace Post)) cut WW (n + 1) 50 L st M = j_ild 2 1 50 L st M (xkk (xlk (pEX7_addPlace Post)) cut WW n) := (rfl)
theorem fEX7_addPlace_51 (Post : XPo) (cut : List Nat) (WW : XK) (n : Nat) (L : XLs) (st : List XV) (M : XM) : xru (xlk (pEX7_addPlace Post)) cut WW (n + 1) 51 L st M = j_V2 1 sX0_newPlace 51 L st M (xkk (xlk (pEX7_addPlace Post)) cut WW n) := (rfl)
theorem fEX7_addPlace_54 (Post : XPo) (cut : List Nat) (WW : XK) (n : Nat) (L : XLs) (st : List XV) (M : XM) : xru (xlk (pEX7_addPlace Post)) cut WW (n + 1) 54 L st M = j_iret Post 54 L st M (xkk (xlk (pEX7_addPlace Post)) cut WW n) := (rfl)
def tEX7_addPlace : XSp := xq2 0 (fun _ _ x y => fun M Q => KI M ∧ XInR x ∧ XInR y ∧ (if 0 ≤ x ∧ x ≤ 99 then (if 0 ≤ y ∧ y ≤ 99 then (if ¬ 8 ≤ M 1 0 0 3 then Q [xI (M 1 0 0 3)] (fNewP (fKeep M) 0 x y) else Q [xI 2, xI 0] M) else Q [xI 1, xI 0] M) else Q [xI 1, xI 0] M))
set_option maxRecDepth 100000 in
theorem kEX7_addPlace : XCe yX7_addPlace wEX7_addPlace rEX7_addPlace tEX7_addPlace := XE2 pEX7_addPlace ⟨rfl, rfl⟩ rfl rfl aEX7_addPlace (by decide) (fun x y M Post h WW hC => by
  obtain ⟨hK, r_x, r_y, h⟩ := h
  have hG := KI_G hK
  obtain ⟨g3, g6, g8, g10, g0, gs⟩ := fC_in hG.1
  obtain ⟨-, hn, hm, hlen, hbuf⟩ := hK
  have hKp := fKeep_at hn.1
  have q3 : 0 ≤ M 1 0 0 3 := hG.1.1.1
  show WW 0 [some (xR 0 0 0), some (xI x), some (xI y)] [] M
  by_cases c0 : 0 ≤ x ∧ x ≤ 99
  · rw [if_pos c0] at h
    by_cases c1 : 0 ≤ y ∧ y ≤ 99
    · rw [if_pos c1] at h
      by_cases c2 : ¬ 8 ≤ M 1 0 0 3
      · rw [if_pos c2] at h
        refine xru_ok hC [] 200 _ _ _ _ ?_
        simp only [xkk_ap, Int.reduceEq, Int.reduceLT, Int.reduceLE, Int.reduceNeg, Int.reduceAdd, Int.reduceSub, Int.reduceMul, and_self, false_and, and_false, not_true_eq_false, not_false_eq_true, true_implies, false_implies, xq0, xq1, xq2, xq3, xq4, xq5, xqR, xq1R, xq3R, xt1, xt2, xt3, List.mem_cons, List.not_mem_nil, or_false, false_or, or_self, if_false, if_true, reduceIte, reduceCtorEq, xent, xen, List.length_cons, List.length_nil, List.replicate, j_c, j_cJ, j_ild, j_ald, j_lld, j_ist, j_ast, j_lst, j_inc, j_add, j_sub, j_mul, j_neg, j_div, j_rem, j_and, j_shr, j_shl1, j_or, j_ladd, j_lsub, j_lmul, j_i2l, j_lcmp, j_i2c, j_dup, j_dup2, j_pop, j_goto, j_ieq, j_ine, j_ilt, j_ige, j_igt, j_ile, j_eq, j_ne, j_lt, j_ge, j_gt, j_le, xsw, j_tsw, j_gI, j_gJ, j_gR, j_pI, j_pJ, j_gs, j_iald, j_iast, j_cald, j_cast, j_lald, j_last, j_aald, j_cpy, j_min, j_max, j_abs, j_iret, j_zret, j_lret, j_dret, j_ret0, j_V0, j_V1, j_V2, j_V3, j_V4, j_V5, j_S1, j_S2, j_S3, xget, xset, xset2, xclr, xc1, xcat, Nat.reduceAdd, Nat.reduceEqDiff, Nat.reduceLT, Nat.reduceLeDiff, Nat.reduceMul, List.cons_append, List.nil_append, true_and, and_true, List.singleton_append, fEX7_addPlace_0, fEX7_addPlace_1, fEX7_addPlace_2, fEX7_addPlace_4, fEX7_addPlace_7, fEX7_addPlace_8, fEX7_addPlace_9, fEX7_addPlace_11, fEX7_addPlace_14, fEX7_addPlace_15, fEX7_addPlace_18, fEX7_addPlace_21, fEX7_addPlace_23, fEX7_addPlace_26, fEX7_addPlace_27, fEX7_addPlace_30, fEX7_addPlace_31, fEX7_addPlace_34, fEX7_addPlace_35, fEX7_addPlace_38, fEX7_addPlace_39, fEX7_addPlace_42, fEX7_addPlace_45, fEX7_addPlace_46, fEX7_addPlace_49, fEX7_addPlace_50, fEX7_addPlace_51, fEX7_addPlace_54, sX4_keep, sX0_newPlace, j_T1, j_T2, j_T3, j_thr, hn, hm, hlen, g3, g6, g8, g10, g0, gs, hKp, r_x, r_y, q3, xvz_0, xvz_1, xvz_2, xvz_3, xvz_4, xvz_5, xvz_6, xvz_7, xvz_15, xvz_17, xvz_18, xrz_2, xrz_3, xrz_4, xdz_2, xdz_3, xdz_4, xdz_9, xdz_11, xdz_12, xr_c (n := 0) rfl, xr_c (n := 1) rfl, xr_c (n := 2) rfl, xr_c (n := 3) rfl, xr_c (n := 4) rfl, xr_c (n := 5) rfl, xr_c (n := 6) rfl, xr_c (n := 8) rfl, xr_c (n := 10) rfl, xr_c (n := 11) rfl, xr_c (n := 12) rfl, xr_c (n := 16) rfl, xr_c (n := 30) rfl, xr_c (n := 99) rfl, xr_c (n := 120) rfl, xr_c (n := 126) rfl, xr_c (n := 33) rfl, xr_c (n := 200) rfl, xr_c (n := 255) rfl, xr_c (n := 299) rfl, xr_c (n := 300) rfl, xr_c (n := 500) rfl, xr_c (n := 600) rfl, xr_c (n := 999) rfl, xr_c (n := 1000) rfl, xr_c (n := 20000) rfl, xr_c (n := 60) rfl, xr_c (n := -1) rfl, xlen, xcat, xc1, Nat.zero_le, Nat.reduceLeDiff, c0, c1, c2]
        exact ⟨by omega, h⟩
      · rw [if_neg c2] at h
        refine xru_ok hC [] 200 _ _ _ _ ?_
        simp only [xkk_ap, Int.reduceEq, Int.reduceLT, Int.reduceLE, Int.reduceNeg, Int.reduceAdd, Int.reduceSub, Int.reduceMul, and_self, false_and, and_false, not_true_eq_false, not_false_eq_true, true_implies, false_implies, xq0, xq1, xq2, xq3, xq4, xq5, xqR, xq1R, xq3R, xt1, xt2, xt3, List.mem_cons, List.not_mem_nil, or_false, false_or, or_self, if_false, if_true, reduceIte, reduceCtorEq, xent, xen, List.length_cons, List.length_nil, List.replicate, j_c, j_cJ, j_ild, j_ald, j_lld, j_ist, j_ast, j_lst, j_inc, j_add, j_sub, j_mul, j_neg, j_div, j_rem, j_and, j_shr, j_shl1, j_or, j_ladd, j_lsub, j_lmul, j_i2l, j_lcmp, j_i2c, j_dup, j_dup2, j_pop, j_goto, j_ieq, j_ine, j_ilt, j_ige, j_igt, j_ile, j_eq, j_ne, j_lt, j_ge, j_gt, j_le, xsw, j_tsw, j_gI, j_gJ, j_gR, j_pI, j_pJ, j_gs, j_iald, j_iast, j_cald, j_cast, j_lald, j_last, j_aald, j_cpy, j_min, j_max, j_abs, j_iret, j_zret, j_lret, j_dret, j_ret0, j_V0, j_V1, j_V2, j_V3, j_V4, j_V5, j_S1, j_S2, j_S3, xget, xset, xset2, xclr, xc1, xcat, Nat.reduceAdd, Nat.reduceEqDiff, Nat.reduceLT, Nat.reduceLeDiff, Nat.reduceMul, List.cons_append, List.nil_append, true_and, and_true, List.singleton_append, fEX7_addPlace_0, fEX7_addPlace_1, fEX7_addPlace_2, fEX7_addPlace_4, fEX7_addPlace_7, fEX7_addPlace_8, fEX7_addPlace_9, fEX7_addPlace_11, fEX7_addPlace_14, fEX7_addPlace_15, fEX7_addPlace_18, fEX7_addPlace_21, fEX7_addPlace_23, fEX7_addPlace_26, fEX7_addPlace_27, fEX7_addPlace_30, fEX7_addPlace_31, fEX7_addPlace_34, fEX7_addPlace_35, fEX7_addPlace_38, fEX7_addPlace_39, fEX7_addPlace_42, fEX7_addPlace_45, fEX7_addPlace_46, fEX7_addPlace_49, fEX7_addPlace_50, fEX7_addPlace_51, fEX7_addPlace_54, sX4_keep, sX0_newPlace, j_T1, j_T2, j_T3, j_thr, hn, hm, hlen, g3, g6, g8, g10, g0, gs, hKp, r_x, r_y, q3, xvz_0, xvz_1, xvz_2, xvz_3, xvz_4, xvz_5, xvz_6, xvz_7, xvz_15, xvz_17, xvz_18, xrz_2, xrz_3, xrz_4, xdz_2, xdz_3, xdz_4, xdz_9, xdz_11, xdz_12, xr_c (n := 0) rfl, xr_c (n := 1) rfl, xr_c (n := 2) rfl, xr_c (n := 3) rfl, xr_c (n := 4) rfl, xr_c (n := 5) rfl, xr_c (n := 6) rfl, xr_c (n := 8) rfl, xr_c (n := 10) rfl, xr_c (n := 11) rfl, xr_c (n := 12) rfl, xr_c (n := 16) rfl, xr_c (n := 30) rfl, xr_c (n := 99) rfl, xr_c (n := 120) rfl, xr_c (n := 126) rfl, xr_c (n := 33) rfl, xr_c (n := 200) rfl, xr_c (n := 255) rfl, xr_c (n := 299) rfl, xr_c (n := 300) rfl, xr_c (n := 500) rfl, xr_c (n := 600) rfl, xr_c (n := 999) rfl, xr_c (n := 1000) rfl, xr_c (n := 20000) rfl, xr_c (n := 60) rfl, xr_c (n := -1) rfl, xlen, xcat, xc1, Nat.zero_le, Nat.reduceLeDiff, c0, c1, c2]
        exact h
    · rw [if_neg c1] at h
      refine xru_ok hC [] 200 _ _ _ _ ?_
      simp only [xkk_ap, Int.reduceEq, Int.reduceLT, Int.reduceLE, Int.reduceNeg, Int.reduceAdd, Int.reduceSub, Int.reduceMul, and_self, false_and, and_false, not_true_eq_false, not_false_eq_true, true_implies, false_implies, xq0, xq1, xq2, xq3, xq4, xq5, xqR, xq1R, xq3R, xt1, xt2, xt3, List.mem_cons, List.not_mem_nil, or_false, false_or, or_self, if_false, if_true, reduceIte, reduceCtorEq, xent, xen, List.length_cons, List.length_nil, List.replicate, j_c, j_cJ, j_ild, j_ald, j_lld, j_ist, j_ast, j_lst, j_inc, j_add, j_sub, j_mul, j_neg, j_div, j_rem, j_and, j_shr, j_shl1, j_or, j_ladd, j_lsub, j_lmul, j_i2l, j_lcmp, j_i2c, j_dup, j_dup2, j_pop, j_goto, j_ieq, j_ine, j_ilt, j_ige, j_igt, j_ile, j_eq, j_ne, j_lt, j_ge, j_gt, j_le, xsw, j_tsw, j_gI, j_gJ, j_gR, j_pI, j_pJ, j_gs, j_iald, j_iast, j_cald, j_cast, j_lald, j_last, j_aald, j_cpy, j_min, j_max, j_abs, j_iret, j_zret, j_lret, j_dret, j_ret0, j_V0, j_V1, j_V2, j_V3, j_V4, j_V5, j_S1, j_S2, j_S3, xget, xset, xset2, xclr, xc1, xcat, Nat.reduceAdd, Nat.reduceEqDiff, Nat.reduceLT, Nat.reduceLeDiff, Nat.reduceMul, List.cons_append, List.nil_append, true_and, and_true, List.singleton_append, fEX7_addPlace_0, fEX7_addPlace_1, fEX7_addPlace_2, fEX7_addPlace_4, fEX7_addPlace_7, fEX7_addPlace_8, fEX7_addPlace_9, fEX7_addPlace_11, fEX7_addPlace_14, fEX7_addPlace_15, fEX7_addPlace_18, fEX7_addPlace_21, fEX7_addPlace_23, fEX7_addPlace_26, fEX7_addPlace_27, fEX7_addPlace_30, fEX7_addPlace_31, fEX7_addPlace_34, fEX7_addPlace_35, fEX7_addPlace_38, fEX7_addPlace_39, fEX7_addPlace_42, fEX7_addPlace_45, fEX7_addPlace_46, fEX7_addPlace_49, fEX7_addPlace_50, fEX7_addPlace_51, fEX7_addPlace_54, sX4_keep, sX0_newPlace, j_T1, j_T2, j_T3, j_thr, hn, hm, hlen, g3, g6, g8, g10, g0, gs, hKp, r_x, r_y, q3, xvz_0, xvz_1, xvz_2, xvz_3, xvz_4, xvz_5, xvz_6, xvz_7, xvz_15, xvz_17, xvz_18, xrz_2, xrz_3, xrz_4, xdz_2, xdz_3, xdz_4, xdz_9, xdz_11, xdz_12, xr_c (n := 0) rfl, xr_c (n := 1) rfl, xr_c (n := 2) rfl, xr_c (n := 3) rfl, xr_c (n := 4) rfl, xr_c (n := 5) rfl, xr_c (n := 6) rfl, xr_c (n := 8) rfl, xr_c (n := 10) rfl, xr_c (n := 11) rfl, xr_c (n := 12) rfl, xr_c (n := 16) rfl, xr_c (n := 30) rfl, xr_c (n := 99) rfl, xr_c (n := 120) rfl, xr_c (n := 126) rfl, xr_c (n := 33) rfl, xr_c (n := 200) rfl, xr_c (n := 255) rfl, xr_c (n := 299) rfl, xr_c (n := 300) rfl, xr_c (n := 500) rfl, xr_c (n := 600) rfl, xr_c (n := 999) rfl, xr_c (n := 1000) rfl, xr_c (n := 20000) rfl, xr_c (n := 60) rfl, xr_c (n := -1) rfl, xlen, xcat, xc1, Nat.zero_le, Nat.reduceLeDiff, c0, c1]
      exact h
  · rw [if_neg c0] at h
    refine xru_ok hC [] 200 _ _ _ _ ?_
    simp only [xkk_ap, Int.reduceEq, Int.reduceLT, Int.reduceLE, Int.reduceNeg, Int.reduceAdd, Int.reduceSub, Int.reduceMul, and_self, false_and, and_false, not_true_eq_false, not_false_eq_true, true_implies, false_implies, xq0, xq1, xq2, xq3, xq4, xq5, xqR, xq1R, xq3R, xt1, xt2, xt3, List.mem_cons, List.not_mem_nil, or_false, false_or, or_self, if_false, if_true, reduceIte, reduceCtorEq, xent, xen, List.length_cons, List.length_nil, List.replicate, j_c, j_cJ, j_ild, j_ald, j_lld, j_ist, j_ast, j_lst, j_inc, j_add, j_sub, j_mul, j_neg, j_div, j_rem, j_and, j_shr, j_shl1, j_or, j_ladd, j_lsub, j_lmul, j_i2l, j_lcmp, j_i2c, j_dup, j_dup2, j_pop, j_goto, j_ieq, j_ine, j_ilt, j_ige, j_igt, j_ile, j_eq, j_ne, j_lt, j_ge, j_gt, j_le, xsw, j_tsw, j_gI, j_gJ, j_gR, j_pI, j_pJ, j_gs, j_iald, j_iast, j_cald, j_cast, j_lald, j_last, j_aald, j_cpy, j_min, j_max, j_abs, j_iret, j_zret, j_lret, j_dret, j_ret0, j_V0, j_V1, j_V2, j_V3, j_V4, j_V5, j_S1, j_S2, j_S3, xget, xset, xset2, xclr, xc1, xcat, Nat.reduceAdd, Nat.reduceEqDiff, Nat.reduceLT, Nat.reduceLeDiff, Nat.reduceMul, List.cons_append, List.nil_append, true_and, and_true, List.singleton_append, fEX7_addPlace_0, fEX7_addPlace_1, fEX7_addPlace_2, fEX7_addPlace_4, fEX7_addPlace_7, fEX7_addPlace_8, fEX7_addPlace_9, fEX7_addPlace_11, fEX7_addPlace_14, fEX7_addPlace_15, fEX7_addPlace_18, fEX7_addPlace_21, fEX7_addPlace_23, fEX7_addPlace_26, fEX7_addPlace_27, fEX7_addPlace_30, fEX7_addPlace_31, fEX7_addPlace_34, fEX7_addPlace_35, fEX7_addPlace_38, fEX7_addPlace_39, fEX7_addPlace_42, fEX7_addPlace_45, fEX7_addPlace_46, fEX7_addPlace_49, fEX7_addPlace_50, fEX7_addPlace_51, fEX7_addPlace_54, sX4_keep, sX0_newPlace, j_T1, j_T2, j_T3, j_thr, hn, hm, hlen, g3, g6, g8, g10, g0, gs, hKp, r_x, r_y, q3, xvz_0, xvz_1, xvz_2, xvz_3, xvz_4, xvz_5, xvz_6, xvz_7, xvz_15, xvz_17, xvz_18, xrz_2, xrz_3, xrz_4, xdz_2, xdz_3, xdz_4, xdz_9, xdz_11, xdz_12, xr_c (n := 0) rfl, xr_c (n := 1) rfl, xr_c (n := 2) rfl, xr_c (n := 3) rfl, xr_c (n := 4) rfl, xr_c (n := 5) rfl, xr_c (n := 6) rfl, xr_c (n := 8) rfl, xr_c (n := 10) rfl, xr_c (n := 11) rfl, xr_c (n := 12) rfl, xr_c (n := 16) rfl, xr_c (n := 30) rfl, xr_c (n := 99) rfl, xr_c (n := 120) rfl, xr_c (n := 126) rfl, xr_c (n := 33) rfl, xr_c (n := 200) rfl, xr_c (n := 255) rfl, xr_c (n := 299) rfl, xr_c (n := 300) rfl, xr_c (n := 500) rfl, xr_c (n := 600) rfl, xr_c (n := 999) rfl, xr_c (n := 1000) rfl, xr_c (n := 20000) rfl, xr_c (n := 60) rfl, xr_c (n := -1) rfl, xlen, xcat, xc1, Nat.zero_le, Nat.reduceLeDiff, c0]
    exact h)
end XPu

