section XRq
def xtw : List Cond := tables_1.take 1100
def xnm : List String := ["java/lang/RuntimeException", "java/lang/Exception"]
def xwd (ik ic : Nat) (cls : String) : List Cond := Cond.classLink "UnitKitchens" ik cls :: Cond.initialized cls :: vx_atS "UnitKitchens" ic cls xnm
theorem xt_177_181 : ∀ w ∈ (xwd 177 181 "java/lang/IllegalArgumentException").filter goodWord, w ∈ xtw := by decide +kernel
theorem xt_329_333 : ∀ w ∈ (xwd 329 333 "java/lang/IndexOutOfBoundsException").filter goodWord, w ∈ xtw := by decide +kernel
theorem xt_336_340 : ∀ w ∈ (xwd 336 340 "java/lang/IllegalStateException").filter goodWord, w ∈ xtw := by decide +kernel
def xng (cls : String) : List Cond := [.castable cls cls, .declares (xiS "java/lang/RuntimeException"), .declares (xiS "java/lang/Exception"), .declares (xiS "java/lang/Throwable")]
theorem xg_177_181 : ∀ w ∈ (xwd 177 181 "java/lang/IllegalArgumentException").filter (fun w => !goodWord w), w ∈ xng "java/lang/IllegalArgumentException" := by decide +kernel
theorem xg_329_333 : ∀ w ∈ (xwd 329 333 "java/lang/IndexOutOfBoundsException").filter (fun w => !goodWord w), w ∈ xng "java/lang/IndexOutOfBoundsException" := by decide +kernel
theorem xg_336_340 : ∀ w ∈ (xwd 336 340 "java/lang/IllegalStateException").filter (fun w => !goodWord w), w ∈ xng "java/lang/IllegalStateException" := by decide +kernel
theorem xo_177_181 : ∀ w ∈ xwd 177 181 "java/lang/IllegalArgumentException", vx_ot w = true := by decide +kernel
theorem xo_329_333 : ∀ w ∈ xwd 329 333 "java/lang/IndexOutOfBoundsException", vx_ot w = true := by decide +kernel
theorem xo_336_340 : ∀ w ∈ xwd 336 340 "java/lang/IllegalStateException", vx_ot w = true := by decide +kernel
def XEl : List (Nat × String) := [(334, "an argument is out of range"), (331, "there is no such number"), (338, "the film does not allow it now"), (179, "a unit cannot join itself"), (218, "the buffer is not a complete call sheet")]
section
variable {R : Room} {cc : ByteArray} {nL : Nat} {q0 : Cond} {ret : Option FieldType} {Post : XPo} {pc : Nat}
theorem xe_words {p : Program} {s : State} {m : MethodId} {args : Array Value} {c : Code} {D : va_G} {G : Nat → ClassId} {ρ : XOb → Nat} {n : Int} {ik ic : Nat} {cls : String} (hC : XCX p R s m args c 0 0 D G ρ cc nL "UnitKitchens" (q0 :: xT)) (hw : XEw s) (hcls : cls = xE n) (hn : n = 1 ∨ n = 2 ∨ n = 3)
    (hxt : ∀ w ∈ (xwd ik ic cls).filter goodWord, w ∈ xtw) (hng : ∀ w ∈ (xwd ik ic cls).filter (fun w => !goodWord w), w ∈ xng cls) : ∀ w ∈ xwd ik ic cls, w.before args s = true := by
  refine vx_hat (B := xng cls) (fun w hw' => ?_) hng ?_
  · refine hC.1.2.2.2.2 w (xgood1 ?_)
    have h1 := List.mem_filter.mp hw'
    exact List.mem_filter.mpr ⟨List.mem_append_right _ (List.mem_of_mem_take (hxt w hw')), h1.2⟩
  · intro w hw'
    simp only [xng, List.mem_cons, List.not_mem_nil, or_false] at hw'
    obtain ⟨c1, c2, c3, d1, d2, d3⟩ := hw
    rcases hw' with rfl | rfl | rfl | rfl
    · subst hcls
      rcases hn with rfl | rfl | rfl
      · exact va_Nw.use rfl c1
      · exact va_Nw.use rfl c2
      · exact va_Nw.use rfl c3
    · exact va_Nw.use rfl d1
    · exact va_Nw.use rfl d2
    · exact va_Nw.use rfl d3
theorem xe_thrW {n : Int} {ik is ic : Nat} {text cls : String} (hcls : cls = xE n) (hn : n = 1 ∨ n = 2 ∨ n = 3) (hxt : ∀ w ∈ (xwd ik ic cls).filter goodWord, w ∈ xtw) (hng : ∀ w ∈ (xwd ik ic cls).filter (fun w => !goodWord w), w ∈ xng cls) (hot : ∀ w ∈ xwd ik ic cls, vx_ot w = true)
    (hRf : 5 < R.frames) (hRl : 82 ≤ R.locals) (hs : (is, text) ∈ XEl) (d0 : decode cc pc = .ok (.new ik, 3)) (d3 : decode cc (pc + 3) = .ok (.dup, 1)) (d4 : decode cc (pc + 4) = .ok (.ldc_w is, 3)) (d7 : decode cc (pc + 7) = .ok (.invokespecial ic, 3)) (d10 : decode cc (pc + 10) = .ok (.athrow, 1)) :
    XSx R cc nL "UnitKitchens" (q0 :: xT) ret Post pc (j_thr n Post) := by
  intro p l e s m args below meth c D G ρ hC hY L st M K h hk H locs ls hP hS hl
  obtain ⟨rfl, hp⟩ := h
  obtain ⟨hfl, ⟨hw, hstr, hz⟩, hrt, hlocks, htab, hc1, hs6⟩ := hY
  have hall := xe_words hC hw hcls hn hxt hng
  obtain ⟨sa, hsa⟩ := hstr (is, text) hs
  have hfit : Bundle.fit cls = true := by
    subst hcls
    rcases hn with rfl | rfl | rfl <;> decide
  exact vx_throwSW (own := "UnitKitchens") (cls := cls) (text := text) (names := xnm) (A := XA ρ s.heap.size) hC.1.1 hC.1.2.1 hfl hC.1.2.2.2.1 hfit (by decide) (hall _ List.mem_cons_self) (hall _ (List.mem_cons_of_mem _ List.mem_cons_self)) hsa (fun w h => hall w (List.mem_cons_of_mem _ (List.mem_cons_of_mem _ h))) hot hz.1 hz.2 hS (hl.1.trans hC.1.2.2.1.symm)
    d0 d3 d4 d7 d10 (fun x hx => (htab x hx).elim) hRf hRl (by simpa using hc1) (by simpa using hs6) hlocks
    (fun t hal hz1 hk1 => ⟨(n, M), trivial, ⟨hcls, hp, hP.kept (fun k q hq => hk1 _ (hP k q hq).lt)⟩, ⟨Nat.le_trans hS.1 hz1, fun q h1 h2 => (hk1 q (Nat.lt_of_lt_of_le h1 hS.1)).trans (hS.2.1 q h1 h2)⟩⟩) hS.2.2 (by decide) (by decide)
theorem xe_thr {n : Int} {ik is ic : Nat} {text cls : String} (hcls : cls = xE n) (hn : n = 1 ∨ n = 2 ∨ n = 3) (hxt : ∀ w ∈ (xwd ik ic cls).filter goodWord, w ∈ xtw) (hng : ∀ w ∈ (xwd ik ic cls).filter (fun w => !goodWord w), w ∈ xng cls) (hot : ∀ w ∈ xwd ik ic cls, vx_ot w = true)
    (hRf : 5 < R.frames) (hRl : 82 ≤ R.locals) (hs : (is, text) ∈ XEl) (d0 : decode cc pc = .ok (.new ik, 3)) (d3 : decode cc (pc + 3) = .ok (.dup, 1)) (d4 : decode cc (pc + 4) = .ok (.ldc is, 2)) (d6 : decode cc (pc + 6) = .ok (.invokespecial ic, 3)) (d9 : decode cc (pc + 9) = .ok (.athrow, 1)) :
    XSx R cc nL "UnitKitchens" (q0 :: xT) ret Post pc (j_thr n Post) := by
  intro p l e s m args below meth c D G ρ hC hY L st M K h hk H locs ls hP hS hl
  obtain ⟨rfl, hp⟩ := h
  obtain ⟨hfl, ⟨hw, hstr, hz⟩, hrt, hlocks, htab, hc1, hs6⟩ := hY
  have hall := xe_words hC hw hcls hn hxt hng
  obtain ⟨sa, hsa⟩ := hstr (is, text) hs
  have hfit : Bundle.fit cls = true := by
    subst hcls
    rcases hn with rfl | rfl | rfl <;> decide
  exact vx_throwS (own := "UnitKitchens") (cls := cls) (text := text) (names := xnm) (A := XA ρ s.heap.size) hC.1.1 hC.1.2.1 hfl hC.1.2.2.2.1 hfit (by decide) (hall _ List.mem_cons_self) (hall _ (List.mem_cons_of_mem _ List.mem_cons_self)) hsa (fun w h => hall w (List.mem_cons_of_mem _ (List.mem_cons_of_mem _ h))) hot hz.1 hz.2 hS (hl.1.trans hC.1.2.2.1.symm)
    d0 d3 d4 d6 d9 (fun x hx => (htab x hx).elim) hRf hRl (by simpa using hc1) (by simpa using hs6) hlocks
    (fun t hal hz1 hk1 => ⟨(n, M), trivial, ⟨hcls, hp, hP.kept (fun k q hq => hk1 _ (hP k q hq).lt)⟩, ⟨Nat.le_trans hS.1 hz1, fun q h1 h2 => (hk1 q (Nat.lt_of_lt_of_le h1 hS.1)).trans (hS.2.1 q h1 h2)⟩⟩) hS.2.2 (by decide) (by decide)
end
/-! what is required -/
/-- UnitKitchens.requireIndex(II)V -/
abbrev wX7_requireIndex : List Cond := Cond.code yX7_requireIndex cX7_requireIndex 2 none :: xT
abbrev rX7_requireIndex : Room := { frames := 0, cells := 0, slots := 0, locals := 0 }
def pX7_requireIndex (Post : XPo) : List (Nat × XStp) := [(0, j_ild 0 1), (1, j_lt 9), (4, j_ild 0 1), (5, j_ild 1 1), (6, j_ilt 20), (12, j_dup), (20, j_ret0 Post)]
set_option maxRecDepth 100000 in
theorem aX7_requireIndex (Post : XPo) : XAll rX7_requireIndex cX7_requireIndex 2 RX7 wX7_requireIndex none Post (pX7_requireIndex Post) := XAll.cons (xs_iload_n dX7_requireIndex_0 rfl) (XAll.cons (xs_if_lt dX7_requireIndex_1 (by decide)) (XAll.cons (xs_iload_n dX7_requireIndex_4 rfl) (XAll.cons (xs_iload_n dX7_requireIndex_5 rfl) (XAll.cons (xs_icmp_lt dX7_requireIndex_6 (by decide)) (XAll.cons (xs_dup dX7_requireIndex_12) (XAll.cons (xs_vret rfl dX7_requireIndex_20) (XAll.nil)))))))
theorem fX7_requireIndex_0 (Post : XPo) (cut : List Nat) (WW : XK) (n : Nat) (L : XLs) (st : List XV) (M : XM) : xru (xlk (pX7_requireIndex Post)) cut WW (n + 1) 0 L st M = j_ild 0 1 0 L st M (xkk (xlk (pX7_requireIndex Post)) cut WW n) := (rfl)
theorem fX7_requireIndex_1 (Post : XPo) (cut : List Nat) (WW : XK) (n : Nat) (L : XLs) (st : List XV) (M : XM) : xru (xlk (pX7_requireIndex Post)) cut WW (n + 1) 1 L st M = j_lt 9 1 L st M (xkk (xlk (pX7_requireIndex Post)) cut WW n) := (rfl)
theorem fX7_requireIndex_4 (Post : XPo) (cut : List Nat) (WW : XK) (n : Nat) (L : XLs) (st : List XV) (M : XM) : xru (xlk (pX7_requireIndex Post)) cut WW (n + 1) 4 L st M = j_ild 0 1 4 L st M (xkk (xlk (pX7_requireIndex Post)) cut WW n) := (rfl)
theorem fX7_requireIndex_5 (Post : XPo) (cut : List Nat) (WW : XK) (n : Nat) (L : XLs) (st : List XV) (M : XM) : xru (xlk (pX7_requireIndex Post)) cut WW (n + 1) 5 L st M = j_ild 1 1 5 L st M (xkk (xlk (pX7_requireIndex Post)) cut WW n) := (rfl)
theorem fX7_requireIndex_6 (Post : XPo) (cut : List Nat) (WW : XK) (n : Nat) (L : XLs) (st : List XV) (M : XM) : xru (xlk (pX7_requireIndex Post)) cut WW (n + 1) 6 L st M = j_ilt 20 6 L st M (xkk (xlk (pX7_requireIndex Post)) cut WW n) := (rfl)
theorem fX7_requireIndex_12 (Post : XPo) (cut : List Nat) (WW : XK) (n : Nat) (L : XLs) (st : List XV) (M : XM) : xru (xlk (pX7_requireIndex Post)) cut WW (n + 1) 12 L st M = j_dup 12 L st M (xkk (xlk (pX7_requireIndex Post)) cut WW n) := (rfl)
theorem fX7_requireIndex_20 (Post : XPo) (cut : List Nat) (WW : XK) (n : Nat) (L : XLs) (st : List XV) (M : XM) : xru (xlk (pX7_requireIndex Post)) cut WW (n + 1) 20 L st M = j_ret0 Post 20 L st M (xkk (xlk (pX7_requireIndex Post)) cut WW n) := (rfl)
def sX7_requireIndex : XSp := xt2 (fun a b M Q => (XInR a ∧ XInR b) ∧ (0 ≤ a ∧ a < b) ∧ Q [] M)
set_option maxRecDepth 100000 in
theorem kX7_requireIndex : XCn yX7_requireIndex wX7_requireIndex rX7_requireIndex sX7_requireIndex := XT2 pX7_requireIndex rfl rfl aX7_requireIndex (by decide) (fun a b M Post h WW hC => by
  obtain ⟨⟨ha, hb⟩, ⟨h0, h1⟩, h⟩ := h
  have h2 : ¬ a < 0 := by omega
  show WW 0 [some (xI a), some (xI b)] [] M
  refine xru_ok hC [] 20 _ _ _ _ ?_
  simp only [xkk_ap, Int.reduceEq, Int.reduceLT, Int.reduceLE, Int.reduceNeg, Int.reduceAdd, Int.reduceSub, Int.reduceMul, and_self, false_and, and_false, not_true_eq_false, not_false_eq_true, true_implies, false_implies, xq0, xq1, xq2, xq3, xq4, xq5, xqR, xq1R, xq3R, xt1, xt2, xt3, List.mem_cons, List.not_mem_nil, or_false, false_or, or_self, if_false, if_true, reduceIte, reduceCtorEq, xent, xen, List.length_cons, List.length_nil, List.replicate, j_c, j_cJ, j_ild, j_ald, j_lld, j_ist, j_ast, j_lst, j_inc, j_add, j_sub, j_mul, j_neg, j_div, j_rem, j_and, j_shr, j_shl1, j_or, j_ladd, j_lsub, j_lmul, j_i2l, j_lcmp, j_i2c, j_dup, j_dup2, j_pop, j_goto, j_ieq, j_ine, j_ilt, j_ige, j_igt, j_ile, j_eq, j_ne, j_lt, j_ge, j_gt, j_le, xsw, j_tsw, j_gI, j_gJ, j_gR, j_pI, j_pJ, j_gs, j_iald, j_iast, j_cald, j_cast, j_lald, j_last, j_aald, j_cpy, j_min, j_max, j_abs, j_iret, j_zret, j_lret, j_dret, j_ret0, j_V0, j_V1, j_V2, j_V3, j_V4, j_V5, j_S1, j_S2, j_S3, xget, xset, xset2, xclr, xc1, xcat, Nat.reduceAdd, Nat.reduceEqDiff, Nat.reduceLT, Nat.reduceLeDiff, Nat.reduceMul, List.cons_append, List.nil_append, true_and, and_true, List.singleton_append, fX7_requireIndex_0, fX7_requireIndex_1, fX7_requireIndex_4, fX7_requireIndex_5, fX7_requireIndex_6, fX7_requireIndex_12, fX7_requireIndex_20, ha, hb, h1, h2]
  exact h)
/-- UnitKitchens.requireRange(III)V -/
abbrev wX7_requireRange : List Cond := Cond.code yX7_requireRange cX7_requireRange 3 none :: xT
abbrev rX7_requireRange : Room := { frames := 0, cells := 0, slots := 0, locals := 0 }
def pX7_requireRange (Post : XPo) : List (Nat × XStp) := [(0, j_ild 0 1), (1, j_ild 1 1), (2, j_ilt 10), (5, j_ild 0 1), (6, j_ild 2 1), (7, j_ile 21), (13, j_dup), (21, j_ret0 Post)]
set_option maxRecDepth 100000 in
theorem aX7_requireRange (Post : XPo) : XAll rX7_requireRange cX7_requireRange 3 RX7 wX7_requireRange none Post (pX7_requireRange Post) := XAll.cons (xs_iload_n dX7_requireRange_0 rfl) (XAll.cons (xs_iload_n dX7_requireRange_1 rfl) (XAll.cons (xs_icmp_lt dX7_requireRange_2 (by decide)) (XAll.cons (xs_iload_n dX7_requireRange_5 rfl) (XAll.cons (xs_iload_n dX7_requireRange_6 rfl) (XAll.cons (xs_icmp_le dX7_requireRange_7 (by decide)) (XAll.cons (xs_dup dX7_requireRange_13) (XAll.cons (xs_vret rfl dX7_requireRange_21) (XAll.nil))))))))
theorem fX7_requireRange_0 (Post : XPo) (cut : List Nat) (WW : XK) (n : Nat) (L : XLs) (st : List XV) (M : XM) : xru (xlk (pX7_requireRange Post)) cut WW (n + 1) 0 L st M = j_ild 0 1 0 L st M (xkk (xlk (pX7_requireRange Post)) cut WW n) := (rfl)
theorem fX7_requireRange_1 (Post : XPo) (cut : List Nat) (WW : XK) (n : Nat) (L : XLs) (st : List XV) (M : XM) : xru (xlk (pX7_requireRange Post)) cut WW (n + 1) 1 L st M = j_ild 1 1 1 L st M (xkk (xlk (pX7_requireRange Post)) cut WW n) := (rfl)
theorem fX7_requireRange_2 (Post : XPo) (cut : List Nat) (WW : XK) (n : Nat) (L : XLs) (st : List XV) (M : XM) : xru (xlk (pX7_requireRange Post)) cut WW (n + 1) 2 L st M = j_ilt 10 2 L st M (xkk (xlk (pX7_requireRange Post)) cut WW n) := (rfl)
theorem fX7_requireRange_5 (Post : XPo) (cut : List Nat) (WW : XK) (n : Nat) (L : XLs) (st : List XV) (M : XM) : xru (xlk (pX7_requireRange Post)) cut WW (n + 1) 5 L st M = j_ild 0 1 5 L st M (xkk (xlk (pX7_requireRange Post)) cut WW n) := (rfl)
theorem fX7_requireRange_6 (Post : XPo) (cut : List Nat) (WW : XK) (n : Nat) (L : XLs) (st : List XV) (M : XM) : xru (xlk (pX7_requireRange Post)) cut WW (n + 1) 6 L st M = j_ild 2 1 6 L st M (xkk (xlk (pX7_requireRange Post)) cut WW n) := (rfl)
theorem fX7_requireRange_7 (Post : XPo) (cut : List Nat) (WW : XK) (n : Nat) (L : XLs) (st : List XV) (M : XM) : xru (xlk (pX7_requireRange Post)) cut WW (n + 1) 7 L st M = j_ile 21 7 L st M (xkk (xlk (pX7_requireRange Post)) cut WW n) := (rfl)
theorem fX7_requireRange_13 (Post : XPo) (cut : List Nat) (WW : XK) (n : Nat) (L : XLs) (st : List XV) (M : XM) : xru (xlk (pX7_requireRange Post)) cut WW (n + 1) 13 L st M = j_dup 13 L st M (xkk (xlk (pX7_requireRange Post)) cut WW n) := (rfl)
theorem fX7_requireRange_21 (Post : XPo) (cut : List Nat) (WW : XK) (n : Nat) (L : XLs) (st : List XV) (M : XM) : xru (xlk (pX7_requireRange Post)) cut WW (n + 1) 21 L st M = j_ret0 Post 21 L st M (xkk (xlk (pX7_requireRange Post)) cut WW n) := (rfl)
def sX7_requireRange : XSp := xt3 (fun a b d M Q => (XInR a ∧ XInR b ∧ XInR d) ∧ (b ≤ a ∧ a ≤ d) ∧ Q [] M)
set_option maxRecDepth 100000 in
theorem kX7_requireRange : XCn yX7_requireRange wX7_requireRange rX7_requireRange sX7_requireRange := XT3 pX7_requireRange rfl rfl aX7_requireRange (by decide) (fun a b d M Post h WW hC => by
  obtain ⟨⟨ha, hb, hd⟩, ⟨h0, h1⟩, h⟩ := h
  have h2 : ¬ a < b := by omega
  show WW 0 [some (xI a), some (xI b), some (xI d)] [] M
  refine xru_ok hC [] 20 _ _ _ _ ?_
  simp only [xkk_ap, Int.reduceEq, Int.reduceLT, Int.reduceLE, Int.reduceNeg, Int.reduceAdd, Int.reduceSub, Int.reduceMul, and_self, false_and, and_false, not_true_eq_false, not_false_eq_true, true_implies, false_implies, xq0, xq1, xq2, xq3, xq4, xq5, xqR, xq1R, xq3R, xt1, xt2, xt3, List.mem_cons, List.not_mem_nil, or_false, false_or, or_self, if_false, if_true, reduceIte, reduceCtorEq, xent, xen, List.length_cons, List.length_nil, List.replicate, j_c, j_cJ, j_ild, j_ald, j_lld, j_ist, j_ast, j_lst, j_inc, j_add, j_sub, j_mul, j_neg, j_div, j_rem, j_and, j_shr, j_shl1, j_or, j_ladd, j_lsub, j_lmul, j_i2l, j_lcmp, j_i2c, j_dup, j_dup2, j_pop, j_goto, j_ieq, j_ine, j_ilt, j_ige, j_igt, j_ile, j_eq, j_ne, j_lt, j_ge, j_gt, j_le, xsw, j_tsw, j_gI, j_gJ, j_gR, j_pI, j_pJ, j_gs, j_iald, j_iast, j_cald, j_cast, j_lald, j_last, j_aald, j_cpy, j_min, j_max, j_abs, j_iret, j_zret, j_lret, j_dret, j_ret0, j_V0, j_V1, j_V2, j_V3, j_V4, j_V5, j_S1, j_S2, j_S3, xget, xset, xset2, xclr, xc1, xcat, Nat.reduceAdd, Nat.reduceEqDiff, Nat.reduceLT, Nat.reduceLeDiff, Nat.reduceMul, List.cons_append, List.nil_append, true_and, and_true, List.singleton_append, fX7_requireRange_0, fX7_requireRange_1, fX7_requireRange_2, fX7_requireRange_5, fX7_requireRange_6, fX7_requireRange_7, fX7_requireRange_13, fX7_requireRange_21, ha, hb, hd, h1, h2]
  exact h)
/-- UnitKitchens.requireState(Z)V -/
abbrev wX7_requireState : List Cond := Cond.code yX7_requireState cX7_requireState 1 none :: xT
abbrev rX7_requireState : Room := { frames := 0, cells := 0, slots := 0, locals := 0 }
def pX7_requireState (Post : XPo) : List (Nat × XStp) := [(0, j_ild 0 1), (1, j_ne 15), (7, j_dup), (15, j_ret0 Post)]
set_option maxRecDepth 100000 in
theorem aX7_requireState (Post : XPo) : XAll rX7_requireState cX7_requireState 1 RX7 wX7_requireState none Post (pX7_requireState Post) := XAll.cons (xs_iload_n dX7_requireState_0 rfl) (XAll.cons (xs_if_ne dX7_requireState_1 (by decide)) (XAll.cons (xs_dup dX7_requireState_7) (XAll.cons (xs_vret rfl dX7_requireState_15) (XAll.nil))))
theorem fX7_requireState_0 (Post : XPo) (cut : List Nat) (WW : XK) (n : Nat) (L : XLs) (st : List XV) (M : XM) : xru (xlk (pX7_requireState Post)) cut WW (n + 1) 0 L st M = j_ild 0 1 0 L st M (xkk (xlk (pX7_requireState Post)) cut WW n) := (rfl)
theorem fX7_requireState_1 (Post : XPo) (cut : List Nat) (WW : XK) (n : Nat) (L : XLs) (st : List XV) (M : XM) : xru (xlk (pX7_requireState Post)) cut WW (n + 1) 1 L st M = j_ne 15 1 L st M (xkk (xlk (pX7_requireState Post)) cut WW n) := (rfl)
theorem fX7_requireState_7 (Post : XPo) (cut : List Nat) (WW : XK) (n : Nat) (L : XLs) (st : List XV) (M : XM) : xru (xlk (pX7_requireState Post)) cut WW (n + 1) 7 L st M = j_dup 7 L st M (xkk (xlk (pX7_requireState Post)) cut WW n) := (rfl)
theorem fX7_requireState_15 (Post : XPo) (cut : List Nat) (WW : XK) (n : Nat) (L : XLs) (st : List XV) (M : XM) : xru (xlk (pX7_requireState Post)) cut WW (n + 1) 15 L st M = j_ret0 Post 15 L st M (xkk (xlk (pX7_requireState Post)) cut WW n) := (rfl)
def sX7_requireState : XSp := xt1 (fun a M Q => XInR a ∧ ¬ a = 0 ∧ Q [] M)
set_option maxRecDepth 100000 in
theorem kX7_requireState : XCn yX7_requireState wX7_requireState rX7_requireState sX7_requireState := XT1 pX7_requireState rfl rfl aX7_requireState (by decide) (fun a M Post h WW hC => by
  obtain ⟨ha, h1, h⟩ := h
  show WW 0 [some (xI a)] [] M
  refine xru_ok hC [] 20 _ _ _ _ ?_
  simp only [xkk_ap, Int.reduceEq, Int.reduceLT, Int.reduceLE, Int.reduceNeg, Int.reduceAdd, Int.reduceSub, Int.reduceMul, and_self, false_and, and_false, not_true_eq_false, not_false_eq_true, true_implies, false_implies, xq0, xq1, xq2, xq3, xq4, xq5, xqR, xq1R, xq3R, xt1, xt2, xt3, List.mem_cons, List.not_mem_nil, or_false, false_or, or_self, if_false, if_true, reduceIte, reduceCtorEq, xent, xen, List.length_cons, List.length_nil, List.replicate, j_c, j_cJ, j_ild, j_ald, j_lld, j_ist, j_ast, j_lst, j_inc, j_add, j_sub, j_mul, j_neg, j_div, j_rem, j_and, j_shr, j_shl1, j_or, j_ladd, j_lsub, j_lmul, j_i2l, j_lcmp, j_i2c, j_dup, j_dup2, j_pop, j_goto, j_ieq, j_ine, j_ilt, j_ige, j_igt, j_ile, j_eq, j_ne, j_lt, j_ge, j_gt, j_le, xsw, j_tsw, j_gI, j_gJ, j_gR, j_pI, j_pJ, j_gs, j_iald, j_iast, j_cald, j_cast, j_lald, j_last, j_aald, j_cpy, j_min, j_max, j_abs, j_iret, j_zret, j_lret, j_dret, j_ret0, j_V0, j_V1, j_V2, j_V3, j_V4, j_V5, j_S1, j_S2, j_S3, xget, xset, xset2, xclr, xc1, xcat, Nat.reduceAdd, Nat.reduceEqDiff, Nat.reduceLT, Nat.reduceLeDiff, Nat.reduceMul, List.cons_append, List.nil_append, true_and, and_true, List.singleton_append, fX7_requireState_0, fX7_requireState_1, fX7_requireState_7, fX7_requireState_15, ha, h1]
  exact h)
/-- UnitKitchens.requireIndex(II)V, that may throw -/
abbrev wEX7_requireIndex : List Cond := Cond.code yX7_requireIndex cX7_requireIndex 2 none :: xT
abbrev rEX7_requireIndex : Room := { frames := 6, cells := 1, slots := 6, locals := 82 }
def pEX7_requireIndex (Post : XPo) : List (Nat × XStp) := [(0, j_ild 0 1), (1, j_lt 9), (4, j_ild 0 1), (5, j_ild 1 1), (6, j_ilt 20), (9, j_thr 3 Post), (12, j_dup), (20, j_ret0 Post)]
set_option maxRecDepth 100000 in
theorem aEX7_requireIndex (Post : XPo) : XAx rEX7_requireIndex cX7_requireIndex 2 RX7 wEX7_requireIndex none Post (pEX7_requireIndex Post) := XAx.cons (XSx.of (xs_iload_n dX7_requireIndex_0 rfl)) (XAx.cons (XSx.of (xs_if_lt dX7_requireIndex_1 (by decide))) (XAx.cons (XSx.of (xs_iload_n dX7_requireIndex_4 rfl)) (XAx.cons (XSx.of (xs_iload_n dX7_requireIndex_5 rfl)) (XAx.cons (XSx.of (xs_icmp_lt dX7_requireIndex_6 (by decide))) (XAx.cons (xe_thrW (n := 3) (text := "there is no such number") rfl (by decide) xt_329_333 xg_329_333 xo_329_333 (by decide) (by decide) (by simp [XEl]) dX7_requireIndex_9 dX7_requireIndex_12 dX7_requireIndex_13 dX7_requireIndex_16 dX7_requireIndex_19) (XAx.cons (XSx.of (xs_dup dX7_requireIndex_12)) (XAx.cons (xe_vret rfl dX7_requireIndex_20) (XAx.nil))))))))
theorem fEX7_requireIndex_0 (Post : XPo) (cut : List Nat) (WW : XK) (n : Nat) (L : XLs) (st : List XV) (M : XM) : xru (xlk (pEX7_requireIndex Post)) cut WW (n + 1) 0 L st M = j_ild 0 1 0 L st M (xkk (xlk (pEX7_requireIndex Post)) cut WW n) := (rfl)
theorem fEX7_requireIndex_1 (Post : XPo) (cut : List Nat) (WW : XK) (n : Nat) (L : XLs) (st : List XV) (M : XM) : xru (xlk (pEX7_requireIndex Post)) cut WW (n + 1) 1 L st M = j_lt 9 1 L st M (xkk (xlk (pEX7_requireIndex Post)) cut WW n) := (rfl)
theorem fEX7_requireIndex_4 (Post : XPo) (cut : List Nat) (WW : XK) (n : Nat) (L : XLs) (st : List XV) (M : XM) : xru (xlk (pEX7_requireIndex Post)) cut WW (n + 1) 4 L st M = j_ild 0 1 4 L st M (xkk (xlk (pEX7_requireIndex Post)) cut WW n) := (rfl)
theorem fEX7_requireIndex_5 (Post : XPo) (cut : List Nat) (WW : XK) (n : Nat) (L : XLs) (st : List XV) (M : XM) : xru (xlk (pEX7_requireIndex Post)) cut WW (n + 1) 5 L st M = j_ild 1 1 5 L st M (xkk (xlk (pEX7_requireIndex Post)) cut WW n) := (rfl)
theorem fEX7_requireIndex_6 (Post : XPo) (cut : List Nat) (WW : XK) (n : Nat) (L : XLs) (st : List XV) (M : XM) : xru (xlk (pEX7_requireIndex Post)) cut WW (n + 1) 6 L st M = j_ilt 20 6 L st M (xkk (xlk (pEX7_requireIndex Post)) cut WW n) := (rfl)
theorem fEX7_requireIndex_9 (Post : XPo) (cut : List Nat) (WW : XK) (n : Nat) (L : XLs) (st : List XV) (M : XM) : xru (xlk (pEX7_requireIndex Post)) cut WW (n + 1) 9 L st M = j_thr 3 Post 9 L st M (xkk (xlk (pEX7_requireIndex Post)) cut WW n) := (rfl)
theorem fEX7_requireIndex_12 (Post : XPo) (cut : List Nat) (WW : XK) (n : Nat) (L : XLs) (st : List XV) (M : XM) : xru (xlk (pEX7_requireIndex Post)) cut WW (n + 1) 12 L st M = j_dup 12 L st M (xkk (xlk (pEX7_requireIndex Post)) cut WW n) := (rfl)
theorem fEX7_requireIndex_20 (Post : XPo) (cut : List Nat) (WW : XK) (n : Nat) (L : XLs) (st : List XV) (M : XM) : xru (xlk (pEX7_requireIndex Post)) cut WW (n + 1) 20 L st M = j_ret0 Post 20 L st M (xkk (xlk (pEX7_requireIndex Post)) cut WW n) := (rfl)
def tX7_requireIndex : XSp := xt2 (fun a b M Q => (XInR a ∧ XInR b) ∧ ¬ (0 ≤ a ∧ a < b) ∧ Q [xI 3, xI 0] M)
set_option maxRecDepth 100000 in
theorem kEX7_requireIndex : XCe yX7_requireIndex wEX7_requireIndex rEX7_requireIndex tX7_requireIndex := by
  refine XCe.of pEX7_requireIndex ⟨rfl, rfl⟩ rfl rfl aEX7_requireIndex ?_ ?_
  · intro av M Post h
    simp only [tX7_requireIndex, xt2] at h
    split at h
    · simp [xen, xc1]
    · exact h.elim
  · intro av M Post h WW hC
    simp only [tX7_requireIndex, xt2] at h
    split at h
    next a b =>
      obtain ⟨⟨ha, hb⟩, h0, h⟩ := h
      show WW 0 [some (xI a), some (xI b)] [] M
      refine xru_ok hC [] 20 _ _ _ _ ?_
      simp only [xkk_ap, Int.reduceEq, Int.reduceLT, Int.reduceLE, Int.reduceNeg, Int.reduceAdd, Int.reduceSub, Int.reduceMul, and_self, false_and, and_false, not_true_eq_false, not_false_eq_true, true_implies, false_implies, xq0, xq1, xq2, xq3, xq4, xq5, xqR, xq1R, xq3R, xt1, xt2, xt3, List.mem_cons, List.not_mem_nil, or_false, false_or, or_self, if_false, if_true, reduceIte, reduceCtorEq, xent, xen, List.length_cons, List.length_nil, List.replicate, j_c, j_cJ, j_ild, j_ald, j_lld, j_ist, j_ast, j_lst, j_inc, j_add, j_sub, j_mul, j_neg, j_div, j_rem, j_and, j_shr, j_shl1, j_or, j_ladd, j_lsub, j_lmul, j_i2l, j_lcmp, j_i2c, j_dup, j_dup2, j_pop, j_goto, j_ieq, j_ine, j_ilt, j_ige, j_igt, j_ile, j_eq, j_ne, j_lt, j_ge, j_gt, j_le, xsw, j_tsw, j_gI, j_gJ, j_gR, j_pI, j_pJ, j_gs, j_iald, j_iast, j_cald, j_cast, j_lald, j_last, j_aald, j_cpy, j_min, j_max, j_abs, j_iret, j_zret, j_lret, j_dret, j_ret0, j_V0, j_V1, j_V2, j_V3, j_V4, j_V5, j_S1, j_S2, j_S3, xget, xset, xset2, xclr, xc1, xcat, Nat.reduceAdd, Nat.reduceEqDiff, Nat.reduceLT, Nat.reduceLeDiff, Nat.reduceMul, List.cons_append, List.nil_append, true_and, and_true, List.singleton_append, fEX7_requireIndex_0, fEX7_requireIndex_1, fEX7_requireIndex_4, fEX7_requireIndex_5, fEX7_requireIndex_6, fEX7_requireIndex_9, fEX7_requireIndex_12, fEX7_requireIndex_20, j_T1, j_T2, j_T3, j_thr, ha, hb, h]
      exact ⟨fun _ => trivial, fun g1 => ⟨fun g2 => absurd ⟨by omega, g2⟩ h0, fun _ => trivial⟩⟩
    next => exact h.elim
/-- UnitKitchens.requireRange(III)V, that may throw -/
abbrev wEX7_requireRange : List Cond := Cond.code yX7_requireRange cX7_requireRange 3 none :: xT
abbrev rEX7_requireRange : Room := { frames := 6, cells := 1, slots := 6, locals := 82 }
def pEX7_requireRange (Post : XPo) : List (Nat × XStp) := [(0, j_ild 0 1), (1, j_ild 1 1), (2, j_ilt 10), (5, j_ild 0 1), (6, j_ild 2 1), (7, j_ile 21), (10, j_thr 1 Post), (13, j_dup), (21, j_ret0 Post)]
set_option maxRecDepth 100000 in
theorem aEX7_requireRange (Post : XPo) : XAx rEX7_requireRange cX7_requireRange 3 RX7 wEX7_requireRange none Post (pEX7_requireRange Post) := XAx.cons (XSx.of (xs_iload_n dX7_requireRange_0 rfl)) (XAx.cons (XSx.of (xs_iload_n dX7_requireRange_1 rfl)) (XAx.cons (XSx.of (xs_icmp_lt dX7_requireRange_2 (by decide))) (XAx.cons (XSx.of (xs_iload_n dX7_requireRange_5 rfl)) (XAx.cons (XSx.of (xs_iload_n dX7_requireRange_6 rfl)) (XAx.cons (XSx.of (xs_icmp_le dX7_requireRange_7 (by decide))) (XAx.cons (xe_thrW (n := 1) (text := "an argument is out of range") rfl (by decide) xt_177_181 xg_177_181 xo_177_181 (by decide) (by decide) (by simp [XEl]) dX7_requireRange_10 dX7_requireRange_13 dX7_requireRange_14 dX7_requireRange_17 dX7_requireRange_20) (XAx.cons (XSx.of (xs_dup dX7_requireRange_13)) (XAx.cons (xe_vret rfl dX7_requireRange_21) (XAx.nil)))))))))
theorem fEX7_requireRange_0 (Post : XPo) (cut : List Nat) (WW : XK) (n : Nat) (L : XLs) (st : List XV) (M : XM) : xru (xlk (pEX7_requireRange Post)) cut WW (n + 1) 0 L st M = j_ild 0 1 0 L st M (xkk (xlk (pEX7_requireRange Post)) cut WW n) := (rfl)
theorem fEX7_requireRange_1 (Post : XPo) (cut : List Nat) (WW : XK) (n : Nat) (L : XLs) (st : List XV) (M : XM) : xru (xlk (pEX7_requireRange Post)) cut WW (n + 1) 1 L st M = j_ild 1 1 1 L st M (xkk (xlk (pEX7_requireRange Post)) cut WW n) := (rfl)
theorem fEX7_requireRange_2 (Post : XPo) (cut : List Nat) (WW : XK) (n : Nat) (L : XLs) (st : List XV) (M : XM) : xru (xlk (pEX7_requireRange Post)) cut WW (n + 1) 2 L st M = j_ilt 10 2 L st M (xkk (xlk (pEX7_requireRange Post)) cut WW n) := (rfl)
theorem fEX7_requireRange_5 (Post : XPo) (cut : List Nat) (WW : XK) (n : Nat) (L : XLs) (st : List XV) (M : XM) : xru (xlk (pEX7_requireRange Post)) cut WW (n + 1) 5 L st M = j_ild 0 1 5 L st M (xkk (xlk (pEX7_requireRange Post)) cut WW n) := (rfl)
theorem fEX7_requireRange_6 (Post : XPo) (cut : List Nat) (WW : XK) (n : Nat) (L : XLs) (st : List XV) (M : XM) : xru (xlk (pEX7_requireRange Post)) cut WW (n + 1) 6 L st M = j_ild 2 1 6 L st M (xkk (xlk (pEX7_requireRange Post)) cut WW n) := (rfl)
theorem fEX7_requireRange_7 (Post : XPo) (cut : List Nat) (WW : XK) (n : Nat) (L : XLs) (st : List XV) (M : XM) : xru (xlk (pEX7_requireRange Post)) cut WW (n + 1) 7 L st M = j_ile 21 7 L st M (xkk (xlk (pEX7_requireRange Post)) cut WW n) := (rfl)
theorem fEX7_requireRange_10 (Post : XPo) (cut : List Nat) (WW : XK) (n : Nat) (L : XLs) (st : List XV) (M : XM) : xru (xlk (pEX7_requireRange Post)) cut WW (n + 1) 10 L st M = j_thr 1 Post 10 L st M (xkk (xlk (pEX7_requireRange Post)) cut WW n) := (rfl)
theorem fEX7_requireRange_13 (Post : XPo) (cut : List Nat) (WW : XK) (n : Nat) (L : XLs) (st : List XV) (M : XM) : xru (xlk (pEX7_requireRange Post)) cut WW (n + 1) 13 L st M = j_dup 13 L st M (xkk (xlk (pEX7_requireRange Post)) cut WW n) := (rfl)
theorem fEX7_requireRange_21 (Post : XPo) (cut : List Nat) (WW : XK) (n : Nat) (L : XLs) (st : List XV) (M : XM) : xru (xlk (pEX7_requireRange Post)) cut WW (n + 1) 21 L st M = j_ret0 Post 21 L st M (xkk (xlk (pEX7_requireRange Post)) cut WW n) := (rfl)
def tX7_requireRange : XSp := xt3 (fun a b d M Q => (XInR a ∧ XInR b ∧ XInR d) ∧ ¬ (b ≤ a ∧ a ≤ d) ∧ Q [xI 1, xI 0] M)
set_option maxRecDepth 100000 in
theorem kEX7_requireRange : XCe yX7_requireRange wEX7_requireRange rEX7_requireRange tX7_requireRange := by
  refine XCe.of pEX7_requireRange ⟨rfl, rfl⟩ rfl rfl aEX7_requireRange ?_ ?_
  · intro av M Post h
    simp only [tX7_requireRange, xt3] at h
    split at h
    · simp [xen, xc1]
    · exact h.elim
  · intro av M Post h WW hC
    simp only [tX7_requireRange, xt3] at h
    split at h
    next a b d =>
      obtain ⟨⟨ha, hb, hd⟩, h0, h⟩ := h
      show WW 0 [some (xI a), some (xI b), some (xI d)] [] M
      refine xru_ok hC [] 20 _ _ _ _ ?_
      simp only [xkk_ap, Int.reduceEq, Int.reduceLT, Int.reduceLE, Int.reduceNeg, Int.reduceAdd, Int.reduceSub, Int.reduceMul, and_self, false_and, and_false, not_true_eq_false, not_false_eq_true, true_implies, false_implies, xq0, xq1, xq2, xq3, xq4, xq5, xqR, xq1R, xq3R, xt1, xt2, xt3, List.mem_cons, List.not_mem_nil, or_false, false_or, or_self, if_false, if_true, reduceIte, reduceCtorEq, xent, xen, List.length_cons, List.length_nil, List.replicate, j_c, j_cJ, j_ild, j_ald, j_lld, j_ist, j_ast, j_lst, j_inc, j_add, j_sub, j_mul, j_neg, j_div, j_rem, j_and, j_shr, j_shl1, j_or, j_ladd, j_lsub, j_lmul, j_i2l, j_lcmp, j_i2c, j_dup, j_dup2, j_pop, j_goto, j_ieq, j_ine, j_ilt, j_ige, j_igt, j_ile, j_eq, j_ne, j_lt, j_ge, j_gt, j_le, xsw, j_tsw, j_gI, j_gJ, j_gR, j_pI, j_pJ, j_gs, j_iald, j_iast, j_cald, j_cast, j_lald, j_last, j_aald, j_cpy, j_min, j_max, j_abs, j_iret, j_zret, j_lret, j_dret, j_ret0, j_V0, j_V1, j_V2, j_V3, j_V4, j_V5, j_S1, j_S2, j_S3, xget, xset, xset2, xclr, xc1, xcat, Nat.reduceAdd, Nat.reduceEqDiff, Nat.reduceLT, Nat.reduceLeDiff, Nat.reduceMul, List.cons_append, List.nil_append, true_and, and_true, List.singleton_append, fEX7_requireRange_0, fEX7_requireRange_1, fEX7_requireRange_2, fEX7_requireRange_5, fEX7_requireRange_6, fEX7_requireRange_7, fEX7_requireRange_10, fEX7_requireRange_13, fEX7_requireRange_21, j_T1, j_T2, j_T3, j_thr, ha, hb, hd, h]
      exact ⟨fun _ => trivial, fun g1 => ⟨fun g2 => absurd ⟨by omega, g2⟩ h0, fun _ => trivial⟩⟩
    next => exact h.elim
/-- UnitKitchens.requireState(Z)V, that may throw -/
abbrev wEX7_requireState : List Cond := Cond.code yX7_requireState cX7_requireState 1 none :: xT
abbrev rEX7_requireState : Room := { frames := 6, cells := 1, slots := 6, locals := 82 }
def pEX7_requireState (Post : XPo) : List (Nat × XStp) := [(0, j_ild 0 1), (1, j_ne 15), (4, j_thr 2 Post), (7, j_dup), (15, j_ret0 Post)]
set_option maxRecDepth 100000 in
theorem aEX7_requireState (Post : XPo) : XAx rEX7_requireState cX7_requireState 1 RX7 wEX7_requireState none Post (pEX7_requireState Post) := XAx.cons (XSx.of (xs_iload_n dX7_requireState_0 rfl)) (XAx.cons (XSx.of (xs_if_ne dX7_requireState_1 (by decide))) (XAx.cons (xe_thrW (n := 2) (text := "the film does not allow it now") rfl (by decide) xt_336_340 xg_336_340 xo_336_340 (by decide) (by decide) (by simp [XEl]) dX7_requireState_4 dX7_requireState_7 dX7_requireState_8 dX7_requireState_11 dX7_requireState_14) (XAx.cons (XSx.of (xs_dup dX7_requireState_7)) (XAx.cons (xe_vret rfl dX7_requireState_15) (XAx.nil)))))
theorem fEX7_requireState_0 (Post : XPo) (cut : List Nat) (WW : XK) (n : Nat) (L : XLs) (st : List XV) (M : XM) : xru (xlk (pEX7_requireState Post)) cut WW (n + 1) 0 L st M = j_ild 0 1 0 L st M (xkk (xlk (pEX7_requireState Post)) cut WW n) := (rfl)
theorem fEX7_requireState_1 (Post : XPo) (cut : List Nat) (WW : XK) (n : Nat) (L : XLs) (st : List XV) (M : XM) : xru (xlk (pEX7_requireState Post)) cut WW (n + 1) 1 L st M = j_ne 15 1 L st M (xkk (xlk (pEX7_requireState Post)) cut WW n) := (rfl)
theorem fEX7_requireState_4 (Post : XPo) (cut : List Nat) (WW : XK) (n : Nat) (L : XLs) (st : List XV) (M : XM) : xru (xlk (pEX7_requireState Post)) cut WW (n + 1) 4 L st M = j_thr 2 Post 4 L st M (xkk (xlk (pEX7_requireState Post)) cut WW n) := (rfl)
theorem fEX7_requireState_7 (Post : XPo) (cut : List Nat) (WW : XK) (n : Nat) (L : XLs) (st : List XV) (M : XM) : xru (xlk (pEX7_requireState Post)) cut WW (n + 1) 7 L st M = j_dup 7 L st M (xkk (xlk (pEX7_requireState Post)) cut WW n) := (rfl)
theorem fEX7_requireState_15 (Post : XPo) (cut : List Nat) (WW : XK) (n : Nat) (L : XLs) (st : List XV) (M : XM) : xru (xlk (pEX7_requireState Post)) cut WW (n + 1) 15 L st M = j_ret0 Post 15 L st M (xkk (xlk (pEX7_requireState Post)) cut WW n) := (rfl)
def tX7_requireState : XSp := xt1 (fun a M Q => XInR a ∧ a = 0 ∧ Q [xI 2, xI 0] M)
set_option maxRecDepth 100000 in
theorem kEX7_requireState : XCe yX7_requireState wEX7_requireState rEX7_requireState tX7_requireState := by
  refine XCe.of pEX7_requireState ⟨rfl, rfl⟩ rfl rfl aEX7_requireState ?_ ?_
  · intro av M Post h
    simp only [tX7_requireState, xt1] at h
    split at h
    · simp [xen, xc1]
    · exact h.elim
  · intro av M Post h WW hC
    simp only [tX7_requireState, xt1] at h
    split at h
    next a =>
      obtain ⟨ha, rfl, h⟩ := h
      show WW 0 [some (xI 0)] [] M
      refine xru_ok hC [] 20 _ _ _ _ ?_
      simp only [xkk_ap, Int.reduceEq, Int.reduceLT, Int.reduceLE, Int.reduceNeg, Int.reduceAdd, Int.reduceSub, Int.reduceMul, and_self, false_and, and_false, not_true_eq_false, not_false_eq_true, true_implies, false_implies, xq0, xq1, xq2, xq3, xq4, xq5, xqR, xq1R, xq3R, xt1, xt2, xt3, List.mem_cons, List.not_mem_nil, or_false, false_or, or_self, if_false, if_true, reduceIte, reduceCtorEq, xent, xen, List.length_cons, List.length_nil, List.replicate, j_c, j_cJ, j_ild, j_ald, j_lld, j_ist, j_ast, j_lst, j_inc, j_add, j_sub, j_mul, j_neg, j_div, j_rem, j_and, j_shr, j_shl1, j_or, j_ladd, j_lsub, j_lmul, j_i2l, j_lcmp, j_i2c, j_dup, j_dup2, j_pop, j_goto, j_ieq, j_ine, j_ilt, j_ige, j_igt, j_ile, j_eq, j_ne, j_lt, j_ge, j_gt, j_le, xsw, j_tsw, j_gI, j_gJ, j_gR, j_pI, j_pJ, j_gs, j_iald, j_iast, j_cald, j_cast, j_lald, j_last, j_aald, j_cpy, j_min, j_max, j_abs, j_iret, j_zret, j_lret, j_dret, j_ret0, j_V0, j_V1, j_V2, j_V3, j_V4, j_V5, j_S1, j_S2, j_S3, xget, xset, xset2, xclr, xc1, xcat, Nat.reduceAdd, Nat.reduceEqDiff, Nat.reduceLT, Nat.reduceLeDiff, Nat.reduceMul, List.cons_append, List.nil_append, true_and, and_true, List.singleton_append, fEX7_requireState_0, fEX7_requireState_1, fEX7_requireState_4, fEX7_requireState_7, fEX7_requireState_15, j_T1, j_T2, j_T3, j_thr, ha, h]
    next => exact h.elim
theorem uRI (a b : Int) (M : XM) (Q : XPo) (ha : XInR a) (hb : XInR b) (hc : 0 ≤ a ∧ a < b) (h : Q [] M) : sX7_requireIndex [xI a, xI b] M Q := show (XInR a ∧ XInR b) ∧ (0 ≤ a ∧ a < b) ∧ Q [] M from ⟨⟨ha, hb⟩, hc, h⟩
theorem uRI_ (a b : Int) (M : XM) (Q : XPo) (ha : XInR a) (hb : XInR b) (hc : ¬ (0 ≤ a ∧ a < b)) (h : Q [xI 3, xI 0] M) : tX7_requireIndex [xI a, xI b] M Q := show (XInR a ∧ XInR b) ∧ ¬ (0 ≤ a ∧ a < b) ∧ Q [xI 3, xI 0] M from ⟨⟨ha, hb⟩, hc, h⟩
theorem uRR (a b d : Int) (M : XM) (Q : XPo) (ha : XInR a) (hb : XInR b) (hd : XInR d) (hc : b ≤ a ∧ a ≤ d) (h : Q [] M) : sX7_requireRange [xI a, xI b, xI d] M Q := show (XInR a ∧ XInR b ∧ XInR d) ∧ (b ≤ a ∧ a ≤ d) ∧ Q [] M from ⟨⟨ha, hb, hd⟩, hc, h⟩
theorem uRR_ (a b d : Int) (M : XM) (Q : XPo) (ha : XInR a) (hb : XInR b) (hd : XInR d) (hc : ¬ (b ≤ a ∧ a ≤ d)) (h : Q [xI 1, xI 0] M) : tX7_requireRange [xI a, xI b, xI d] M Q := show (XInR a ∧ XInR b ∧ XInR d) ∧ ¬ (b ≤ a ∧ a ≤ d) ∧ Q [xI 1, xI 0] M from ⟨⟨ha, hb, hd⟩, hc, h⟩
theorem uRS (a : Int) (M : XM) (Q : XPo) (ha : XInR a) (hc : ¬ a = 0) (h : Q [] M) : sX7_requireState [xI a] M Q := show XInR a ∧ ¬ a = 0 ∧ Q [] M from ⟨ha, hc, h⟩
theorem uRS_ (a : Int) (M : XM) (Q : XPo) (ha : XInR a) (hc : ¬ ¬ a = 0) (h : Q [xI 2, xI 0] M) : tX7_requireState [xI a] M Q := show XInR a ∧ a = 0 ∧ Q [xI 2, xI 0] M from ⟨ha, Classical.not_not.mp hc, h⟩
end XRq

