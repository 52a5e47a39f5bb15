section XLx
/-! the law's methods, one at a time -/
/-- addPlace -/
theorem twL_addPlace : Cond.codeWith yL_addPlace cL_addPlace 5 (some .int) [(0, 10, 13, 13), (0, 10, 17, 15)] ∈ xT := xT_in 759 (by decide +kernel) rfl
abbrev wL_addPlace : List Cond := Cond.codeWith yL_addPlace cL_addPlace 5 (some .int) [(0, 10, 13, 13), (0, 10, 17, 15)] :: xT
abbrev rL_addPlace : Room := { frames := 8, cells := 1, slots := 6, locals := 147 }
def sL_addPlace : XSp := fun av M Q => ∃ (x0 x1 : Int), av = [xR 0 0 0, xI x0, xI x1, xR 26 0 0] ∧ tEX7_addPlace [xR 0 0 0, xI x0, xI x1] M (LQ [1, 2] Q)
set_option maxRecDepth 100000 in
theorem kL_addPlace : XCw yL_addPlace wL_addPlace rL_addPlace sL_addPlace := XCw.of (hh := [(0, 10, 13, 13), (0, 10, 17, 15)]) ⟨rfl, rfl⟩ (by decide) rfl (fun av M Post h => by
    obtain ⟨x0, x1, rfl, h⟩ := h
    simp [xen, xc1]) (fun av M Post h p l e s m args below meth c D G ρ hC hZ => by
  obtain ⟨x0, x1, rfl, h⟩ := h
  have h1 := hZ.2.2.2.2.2.1
  have h6 := hZ.2.2.2.2.2.2
  show XWW p l e rL_addPlace s m args below meth c 0 0 (XWq below args s D G ρ Post) D G ρ 5 0 [some (xR 0 0 0), some (xI x0), some (xI x1), some (xR 26 0 0), none] [] M
  refine xw_st0 hC (xs_aload_n (i := 3) dL_addPlace_0 rfl) ?_
  show XWW p l e rL_addPlace s m args below meth c 0 0 (XWq below args s D G ρ Post) D G ρ 5 1 [some (xR 0 0 0), some (xI x0), some (xI x1), some (xR 26 0 0), none] [xR 26 0 0] M
  refine xw_st0 hC (xs_iconst dL_addPlace_1) ?_
  show XWW p l e rL_addPlace s m args below meth c 0 0 (XWq below args s D G ρ Post) D G ρ 5 2 [some (xR 0 0 0), some (xI x0), some (xI x1), some (xR 26 0 0), none] [xI 0, xR 26 0 0] M
  refine xw_st0 hC (xs_aload_n (i := 0) dL_addPlace_2 rfl) ?_
  show XWW p l e rL_addPlace s m args below meth c 0 0 (XWq below args s D G ρ Post) D G ρ 5 3 [some (xR 0 0 0), some (xI x0), some (xI x1), some (xR 26 0 0), none] [xR 0 0 0, xI 0, xR 26 0 0] M
  refine xw_st0 hC (xs_iload_n (i := 1) dL_addPlace_3 rfl) ?_
  show XWW p l e rL_addPlace s m args below meth c 0 0 (XWq below args s D G ρ Post) D G ρ 5 4 [some (xR 0 0 0), some (xI x0), some (xI x1), some (xR 26 0 0), none] [xI x0, xR 0 0 0, xI 0, xR 26 0 0] M
  refine xw_st0 hC (xs_iload_n (i := 2) dL_addPlace_4 rfl) ?_
  show XWW p l e rL_addPlace s m args below meth c 0 0 (XWq below args s D G ρ Post) D G ρ 5 5 [some (xR 0 0 0), some (xI x0), some (xI x1), some (xR 26 0 0), none] [xI x1, xI x0, xR 0 0 0, xI 0, xR 26 0 0] M
  have hH : ∀ k ∈ ([1, 2] : List Int), XHd RL 5 [(0, 10, 13, 13), (0, 10, 17, 15)] k ((fun k => if k = 1 then 13 else 17 : Int → Nat) k) := by
    intro k hk
    simp only [List.mem_cons, List.not_mem_nil, or_false] at hk
    rcases hk with rfl | rfl
    · exact ⟨by decide, [], ⟨0, 10, 13, 13⟩, [⟨0, 10, 17, 15⟩], rfl, fun z hz => absurd hz List.not_mem_nil, by decide, by decide, tw_760, rfl⟩
    · exact ⟨by decide, [⟨0, 10, 13, 13⟩], ⟨0, 10, 17, 15⟩, [], rfl, by
        intro z hz
        simp only [List.mem_cons, List.not_mem_nil, or_false] at hz
        subst hz
        exact ⟨by decide, 1, by decide, by decide, tw_760⟩, by decide, by decide, tw_761, rfl⟩
  refine xw_try (n := 2) (hh := [(0, 10, 13, 13), (0, 10, 17, 15)]) (As := [xI x0, xI x1]) (st := [xI 0, xR 26 0 0]) (cd := [1, 2]) (Post := Post) (hp := fun k => if k = 1 then 13 else 17) kEX7_addPlace ⟨⟨rfl, rfl, by decide, by decide⟩, ⟨by decide, by decide, by decide +kernel⟩, ⟨tw_762, tw_763, tw_764, tw_1, tw_765⟩, TX7, _, rfl⟩ dL_addPlace_5 hC hZ hH rfl (by decide) h (fun v M1 hq => ?_) (fun k M1 hk hq => ?_)
  · refine xw_st1 hC h1 h6 (xs_i2lw dL_addPlace_8) ?_
    show XWW p l e rL_addPlace s m args below meth c 1 6 (XWq below args s D G ρ Post) D G ρ 5 9 [some (xR 0 0 0), some (xI x0), some (xI x1), some (xR 26 0 0), none] [xJ (w32 v), xI 0, xR 26 0 0] M1
    refine xw_st1 hC h1 h6 (xs_last dL_addPlace_9) ⟨⟨rfl, rfl, rfl, rfl⟩, ?_⟩
    show XWW p l e rL_addPlace s m args below meth c 1 6 (XWq below args s D G ρ Post) D G ρ 5 10 [some (xR 0 0 0), some (xI x0), some (xI x1), some (xR 26 0 0), none] [] (xup M1 26 0 0 0 (w32 v))
    refine xw_st1 hC h1 h6 (xs_goto (t := 21) dL_addPlace_10 (by decide)) ?_
    show XWW p l e rL_addPlace s m args below meth c 1 6 (XWq below args s D G ρ Post) D G ρ 5 21 [some (xR 0 0 0), some (xI x0), some (xI x1), some (xR 26 0 0), none] [] (xup M1 26 0 0 0 (w32 v))
    refine xw_st1 hC h1 h6 (xs_iconst dL_addPlace_21) ?_
    show XWW p l e rL_addPlace s m args below meth c 1 6 (XWq below args s D G ρ Post) D G ρ 5 22 [some (xR 0 0 0), some (xI x0), some (xI x1), some (xR 26 0 0), none] [xI 0] (xup M1 26 0 0 0 (w32 v))
    exact xw_iret ⟨hC.1, hC.2.1, hC.2.2.1, hC.2.2.2.1, hC.2.2.2.2.1, Nat.zero_le _, Nat.zero_le _⟩ hZ dL_addPlace_22 hq
  · simp only [List.mem_cons, List.not_mem_nil, or_false] at hk
    rcases hk with rfl | rfl
    · refine xw_ast hC dL_addPlace_13 (by decide) rfl (by
        intro j w hj hw
        have e : j = 3 := by omega
        subst e
        cases hw
        rfl) ?_
      show XWW p l e rL_addPlace s m args below meth c 1 6 (XWq below args s D G ρ Post) D G ρ 5 15 [some (xR 0 0 0), some (xI x0), some (xI x1), some (xR 26 0 0), none] [] M1
      refine xw_st1 hC h1 h6 (xs_iconst dL_addPlace_15) ?_
      show XWW p l e rL_addPlace s m args below meth c 1 6 (XWq below args s D G ρ Post) D G ρ 5 16 [some (xR 0 0 0), some (xI x0), some (xI x1), some (xR 26 0 0), none] [xI 1] M1
      exact xw_iret ⟨hC.1, hC.2.1, hC.2.2.1, hC.2.2.2.1, hC.2.2.2.2.1, Nat.zero_le _, Nat.zero_le _⟩ hZ dL_addPlace_16 hq
    · refine xw_ast hC dL_addPlace_17 (by decide) rfl (by
        intro j w hj hw
        have e : j = 3 := by omega
        subst e
        cases hw
        rfl) ?_
      show XWW p l e rL_addPlace s m args below meth c 1 6 (XWq below args s D G ρ Post) D G ρ 5 19 [some (xR 0 0 0), some (xI x0), some (xI x1), some (xR 26 0 0), none] [] M1
      refine xw_st1 hC h1 h6 (xs_iconst dL_addPlace_19) ?_
      show XWW p l e rL_addPlace s m args below meth c 1 6 (XWq below args s D G ρ Post) D G ρ 5 20 [some (xR 0 0 0), some (xI x0), some (xI x1), some (xR 26 0 0), none] [xI 2] M1
      exact xw_iret ⟨hC.1, hC.2.1, hC.2.2.1, hC.2.2.2.1, hC.2.2.2.2.1, Nat.zero_le _, Nat.zero_le _⟩ hZ dL_addPlace_20 hq
  )
/-- addKitchen -/
theorem twL_addKitchen : Cond.codeWith yL_addKitchen cL_addKitchen 4 (some .int) [(0, 9, 12, 21), (0, 9, 15, 15)] ∈ xT := xT_in 797 (by decide +kernel) rfl
abbrev wL_addKitchen : List Cond := Cond.codeWith yL_addKitchen cL_addKitchen 4 (some .int) [(0, 9, 12, 21), (0, 9, 15, 15)] :: xT
abbrev rL_addKitchen : Room := { frames := 8, cells := 1, slots := 6, locals := 146 }
def sL_addKitchen : XSp := fun av M Q => ∃ (x0 : Int), av = [xR 0 0 0, xI x0, xR 26 0 0] ∧ tEX7_addKitchen [xR 0 0 0, xI x0] M (LQ [3, 2] Q)
set_option maxRecDepth 100000 in
theorem kL_addKitchen : XCw yL_addKitchen wL_addKitchen rL_addKitchen sL_addKitchen := XCw.of (hh := [(0, 9, 12, 21), (0, 9, 15, 15)]) ⟨rfl, rfl⟩ (by decide) rfl (fun av M Post h => by
    obtain ⟨x0, rfl, h⟩ := h
    simp [xen, xc1]) (fun av M Post h p l e s m args below meth c D G ρ hC hZ => by
  obtain ⟨x0, rfl, h⟩ := h
  have h1 := hZ.2.2.2.2.2.1
  have h6 := hZ.2.2.2.2.2.2
  show XWW p l e rL_addKitchen s m args below meth c 0 0 (XWq below args s D G ρ Post) D G ρ 4 0 [some (xR 0 0 0), some (xI x0), some (xR 26 0 0), none] [] M
  refine xw_st0 hC (xs_aload_n (i := 2) dL_addKitchen_0 rfl) ?_
  show XWW p l e rL_addKitchen s m args below meth c 0 0 (XWq below args s D G ρ Post) D G ρ 4 1 [some (xR 0 0 0), some (xI x0), some (xR 26 0 0), none] [xR 26 0 0] M
  refine xw_st0 hC (xs_iconst dL_addKitchen_1) ?_
  show XWW p l e rL_addKitchen s m args below meth c 0 0 (XWq below args s D G ρ Post) D G ρ 4 2 [some (xR 0 0 0), some (xI x0), some (xR 26 0 0), none] [xI 0, xR 26 0 0] M
  refine xw_st0 hC (xs_aload_n (i := 0) dL_addKitchen_2 rfl) ?_
  show XWW p l e rL_addKitchen s m args below meth c 0 0 (XWq below args s D G ρ Post) D G ρ 4 3 [some (xR 0 0 0), some (xI x0), some (xR 26 0 0), none] [xR 0 0 0, xI 0, xR 26 0 0] M
  refine xw_st0 hC (xs_iload_n (i := 1) dL_addKitchen_3 rfl) ?_
  show XWW p l e rL_addKitchen s m args below meth c 0 0 (XWq below args s D G ρ Post) D G ρ 4 4 [some (xR 0 0 0), some (xI x0), some (xR 26 0 0), none] [xI x0, xR 0 0 0, xI 0, xR 26 0 0] M
  have hH : ∀ k ∈ ([3, 2] : List Int), XHd RL 4 [(0, 9, 12, 21), (0, 9, 15, 15)] k ((fun k => if k = 3 then 12 else 15 : Int → Nat) k) := by
    intro k hk
    simp only [List.mem_cons, List.not_mem_nil, or_false] at hk
    rcases hk with rfl | rfl
    · exact ⟨by decide, [], ⟨0, 9, 12, 21⟩, [⟨0, 9, 15, 15⟩], rfl, fun z hz => absurd hz List.not_mem_nil, by decide, by decide, tw_798, rfl⟩
    · exact ⟨by decide, [⟨0, 9, 12, 21⟩], ⟨0, 9, 15, 15⟩, [], rfl, by
        intro z hz
        simp only [List.mem_cons, List.not_mem_nil, or_false] at hz
        subst hz
        exact ⟨by decide, 3, by decide, by decide, tw_798⟩, by decide, by decide, tw_761, rfl⟩
  refine xw_try (n := 1) (hh := [(0, 9, 12, 21), (0, 9, 15, 15)]) (As := [xI x0]) (st := [xI 0, xR 26 0 0]) (cd := [3, 2]) (Post := Post) (hp := fun k => if k = 3 then 12 else 15) kEX7_addKitchen ⟨⟨rfl, rfl, by decide, by decide⟩, ⟨by decide, by decide, by decide +kernel⟩, ⟨tw_799, tw_800, tw_801, tw_1, tw_802⟩, TX7, _, rfl⟩ dL_addKitchen_4 hC hZ hH rfl (by decide) h (fun v M1 hq => ?_) (fun k M1 hk hq => ?_)
  · refine xw_st1 hC h1 h6 (xs_i2lw dL_addKitchen_7) ?_
    show XWW p l e rL_addKitchen s m args below meth c 1 6 (XWq below args s D G ρ Post) D G ρ 4 8 [some (xR 0 0 0), some (xI x0), some (xR 26 0 0), none] [xJ (w32 v), xI 0, xR 26 0 0] M1
    refine xw_st1 hC h1 h6 (xs_last dL_addKitchen_8) ⟨⟨rfl, rfl, rfl, rfl⟩, ?_⟩
    show XWW p l e rL_addKitchen s m args below meth c 1 6 (XWq below args s D G ρ Post) D G ρ 4 9 [some (xR 0 0 0), some (xI x0), some (xR 26 0 0), none] [] (xup M1 26 0 0 0 (w32 v))
    refine xw_st1 hC h1 h6 (xs_goto (t := 18) dL_addKitchen_9 (by decide)) ?_
    show XWW p l e rL_addKitchen s m args below meth c 1 6 (XWq below args s D G ρ Post) D G ρ 4 18 [some (xR 0 0 0), some (xI x0), some (xR 26 0 0), none] [] (xup M1 26 0 0 0 (w32 v))
    refine xw_st1 hC h1 h6 (xs_iconst dL_addKitchen_18) ?_
    show XWW p l e rL_addKitchen s m args below meth c 1 6 (XWq below args s D G ρ Post) D G ρ 4 19 [some (xR 0 0 0), some (xI x0), some (xR 26 0 0), none] [xI 0] (xup M1 26 0 0 0 (w32 v))
    exact xw_iret ⟨hC.1, hC.2.1, hC.2.2.1, hC.2.2.2.1, hC.2.2.2.2.1, Nat.zero_le _, Nat.zero_le _⟩ hZ dL_addKitchen_19 hq
  · simp only [List.mem_cons, List.not_mem_nil, or_false] at hk
    rcases hk with rfl | rfl
    · refine xw_astn (i := 3) hC dL_addKitchen_12 rfl (by decide) rfl (by
        intro j w hj hw
        have e : j = 2 := by omega
        subst e
        cases hw
        rfl) ?_
      show XWW p l e rL_addKitchen s m args below meth c 1 6 (XWq below args s D G ρ Post) D G ρ 4 13 [some (xR 0 0 0), some (xI x0), some (xR 26 0 0), none] [] M1
      refine xw_st1 hC h1 h6 (xs_iconst dL_addKitchen_13) ?_
      show XWW p l e rL_addKitchen s m args below meth c 1 6 (XWq below args s D G ρ Post) D G ρ 4 14 [some (xR 0 0 0), some (xI x0), some (xR 26 0 0), none] [xI 1] M1
      exact xw_iret ⟨hC.1, hC.2.1, hC.2.2.1, hC.2.2.2.1, hC.2.2.2.2.1, Nat.zero_le _, Nat.zero_le _⟩ hZ dL_addKitchen_14 hq
    · refine xw_astn (i := 3) hC dL_addKitchen_15 rfl (by decide) rfl (by
        intro j w hj hw
        have e : j = 2 := by omega
        subst e
        cases hw
        rfl) ?_
      show XWW p l e rL_addKitchen s m args below meth c 1 6 (XWq below args s D G ρ Post) D G ρ 4 16 [some (xR 0 0 0), some (xI x0), some (xR 26 0 0), none] [] M1
      refine xw_st1 hC h1 h6 (xs_iconst dL_addKitchen_16) ?_
      show XWW p l e rL_addKitchen s m args below meth c 1 6 (XWq below args s D G ρ Post) D G ρ 4 17 [some (xR 0 0 0), some (xI x0), some (xR 26 0 0), none] [xI 2] M1
      exact xw_iret ⟨hC.1, hC.2.1, hC.2.2.1, hC.2.2.2.1, hC.2.2.2.2.1, Nat.zero_le _, Nat.zero_le _⟩ hZ dL_addKitchen_17 hq
  )
/-- addLorry -/
theorem twL_addLorry : Cond.codeWith yL_addLorry cL_addLorry 4 (some .int) [(0, 9, 12, 21), (0, 9, 15, 15)] ∈ xT := xT_in 809 (by decide +kernel) rfl
abbrev wL_addLorry : List Cond := Cond.codeWith yL_addLorry cL_addLorry 4 (some .int) [(0, 9, 12, 21), (0, 9, 15, 15)] :: xT
abbrev rL_addLorry : Room := { frames := 8, cells := 1, slots := 6, locals := 146 }
def sL_addLorry : XSp := fun av M Q => ∃ (x0 : Int), av = [xR 0 0 0, xI x0, xR 26 0 0] ∧ tEX7_addLorry [xR 0 0 0, xI x0] M (LQ [3, 2] Q)
set_option maxRecDepth 100000 in
theorem kL_addLorry : XCw yL_addLorry wL_addLorry rL_addLorry sL_addLorry := XCw.of (hh := [(0, 9, 12, 21), (0, 9, 15, 15)]) ⟨rfl, rfl⟩ (by decide) rfl (fun av M Post h => by
    obtain ⟨x0, rfl, h⟩ := h
    simp [xen, xc1]) (fun av M Post h p l e s m args below meth c D G ρ hC hZ => by
  obtain ⟨x0, rfl, h⟩ := h
  have h1 := hZ.2.2.2.2.2.1
  have h6 := hZ.2.2.2.2.2.2
  show XWW p l e rL_addLorry s m args below meth c 0 0 (XWq below args s D G ρ Post) D G ρ 4 0 [some (xR 0 0 0), some (xI x0), some (xR 26 0 0), none] [] M
  refine xw_st0 hC (xs_aload_n (i := 2) dL_addLorry_0 rfl) ?_
  show XWW p l e rL_addLorry s m args below meth c 0 0 (XWq below args s D G ρ Post) D G ρ 4 1 [some (xR 0 0 0), some (xI x0), some (xR 26 0 0), none] [xR 26 0 0] M
  refine xw_st0 hC (xs_iconst dL_addLorry_1) ?_
  show XWW p l e rL_addLorry s m args below meth c 0 0 (XWq below args s D G ρ Post) D G ρ 4 2 [some (xR 0 0 0), some (xI x0), some (xR 26 0 0), none] [xI 0, xR 26 0 0] M
  refine xw_st0 hC (xs_aload_n (i := 0) dL_addLorry_2 rfl) ?_
  show XWW p l e rL_addLorry s m args below meth c 0 0 (XWq below args s D G ρ Post) D G ρ 4 3 [some (xR 0 0 0), some (xI x0), some (xR 26 0 0), none] [xR 0 0 0, xI 0, xR 26 0 0] M
  refine xw_st0 hC (xs_iload_n (i := 1) dL_addLorry_3 rfl) ?_
  show XWW p l e rL_addLorry s m args below meth c 0 0 (XWq below args s D G ρ Post) D G ρ 4 4 [some (xR 0 0 0), some (xI x0), some (xR 26 0 0), none] [xI x0, xR 0 0 0, xI 0, xR 26 0 0] M
  have hH : ∀ k ∈ ([3, 2] : List Int), XHd RL 4 [(0, 9, 12, 21), (0, 9, 15, 15)] k ((fun k => if k = 3 then 12 else 15 : Int → Nat) k) := by
    intro k hk
    simp only [List.mem_cons, List.not_mem_nil, or_false] at hk
    rcases hk with rfl | rfl
    · exact ⟨by decide, [], ⟨0, 9, 12, 21⟩, [⟨0, 9, 15, 15⟩], rfl, fun z hz => absurd hz List.not_mem_nil, by decide, by decide, tw_798, rfl⟩
    · exact ⟨by decide, [⟨0, 9, 12, 21⟩], ⟨0, 9, 15, 15⟩, [], rfl, by
        intro z hz
        simp only [List.mem_cons, List.not_mem_nil, or_false] at hz
        subst hz
        exact ⟨by decide, 3, by decide, by decide, tw_798⟩, by decide, by decide, tw_761, rfl⟩
  refine xw_try (n := 1) (hh := [(0, 9, 12, 21), (0, 9, 15, 15)]) (As := [xI x0]) (st := [xI 0, xR 26 0 0]) (cd := [3, 2]) (Post := Post) (hp := fun k => if k = 3 then 12 else 15) kEX7_addLorry ⟨⟨rfl, rfl, by decide, by decide⟩, ⟨by decide, by decide, by decide +kernel⟩, ⟨tw_810, tw_811, tw_812, tw_1, tw_813⟩, TX7, _, rfl⟩ dL_addLorry_4 hC hZ hH rfl (by decide) h (fun v M1 hq => ?_) (fun k M1 hk hq => ?_)
  · refine xw_st1 hC h1 h6 (xs_i2lw dL_addLorry_7) ?_
    show XWW p l e rL_addLorry s m args below meth c 1 6 (XWq below args s D G ρ Post) D G ρ 4 8 [some (xR 0 0 0), some (xI x0), some (xR 26 0 0), none] [xJ (w32 v), xI 0, xR 26 0 0] M1
    refine xw_st1 hC h1 h6 (xs_last dL_addLorry_8) ⟨⟨rfl, rfl, rfl, rfl⟩, ?_⟩
    show XWW p l e rL_addLorry s m args below meth c 1 6 (XWq below args s D G ρ Post) D G ρ 4 9 [some (xR 0 0 0), some (xI x0), some (xR 26 0 0), none] [] (xup M1 26 0 0 0 (w32 v))
    refine xw_st1 hC h1 h6 (xs_goto (t := 18) dL_addLorry_9 (by decide)) ?_
    show XWW p l e rL_addLorry s m args below meth c 1 6 (XWq below args s D G ρ Post) D G ρ 4 18 [some (xR 0 0 0), some (xI x0), some (xR 26 0 0), none] [] (xup M1 26 0 0 0 (w32 v))
    refine xw_st1 hC h1 h6 (xs_iconst dL_addLorry_18) ?_
    show XWW p l e rL_addLorry s m args below meth c 1 6 (XWq below args s D G ρ Post) D G ρ 4 19 [some (xR 0 0 0), some (xI x0), some (xR 26 0 0), none] [xI 0] (xup M1 26 0 0 0 (w32 v))
    exact xw_iret ⟨hC.1, hC.2.1, hC.2.2.1, hC.2.2.2.1, hC.2.2.2.2.1, Nat.zero_le _, Nat.zero_le _⟩ hZ dL_addLorry_19 hq
  · simp only [List.mem_cons, List.not_mem_nil, or_false] at hk
    rcases hk with rfl | rfl
    · refine xw_astn (i := 3) hC dL_addLorry_12 rfl (by decide) rfl (by
        intro j w hj hw
        have e : j = 2 := by omega
        subst e
        cases hw
        rfl) ?_
      show XWW p l e rL_addLorry s m args below meth c 1 6 (XWq below args s D G ρ Post) D G ρ 4 13 [some (xR 0 0 0), some (xI x0), some (xR 26 0 0), none] [] M1
      refine xw_st1 hC h1 h6 (xs_iconst dL_addLorry_13) ?_
      show XWW p l e rL_addLorry s m args below meth c 1 6 (XWq below args s D G ρ Post) D G ρ 4 14 [some (xR 0 0 0), some (xI x0), some (xR 26 0 0), none] [xI 1] M1
      exact xw_iret ⟨hC.1, hC.2.1, hC.2.2.1, hC.2.2.2.1, hC.2.2.2.2.1, Nat.zero_le _, Nat.zero_le _⟩ hZ dL_addLorry_14 hq
    · refine xw_astn (i := 3) hC dL_addLorry_15 rfl (by decide) rfl (by
        intro j w hj hw
        have e : j = 2 := by omega
        subst e
        cases hw
        rfl) ?_
      show XWW p l e rL_addLorry s m args below meth c 1 6 (XWq below args s D G ρ Post) D G ρ 4 16 [some (xR 0 0 0), some (xI x0), some (xR 26 0 0), none] [] M1
      refine xw_st1 hC h1 h6 (xs_iconst dL_addLorry_16) ?_
      show XWW p l e rL_addLorry s m args below meth c 1 6 (XWq below args s D G ρ Post) D G ρ 4 17 [some (xR 0 0 0), some (xI x0), some (xR 26 0 0), none] [xI 2] M1
      exact xw_iret ⟨hC.1, hC.2.1, hC.2.2.1, hC.2.2.2.1, hC.2.2.2.2.1, Nat.zero_le _, Nat.zero_le _⟩ hZ dL_addLorry_17 hq
  )
/-- set -/
theorem twL_set : Cond.codeWith yL_set cL_set 5 (some .int) [(0, 10, 13, 21), (0, 10, 17, 13)] ∈ xT := xT_in 820 (by decide +kernel) rfl
abbrev wL_set : List Cond := Cond.codeWith yL_set cL_set 5 (some .int) [(0, 10, 13, 21), (0, 10, 17, 13)] :: xT
abbrev rL_set : Room := { frames := 8, cells := 1, slots := 6, locals := 148 }
def sL_set : XSp := fun av M Q => ∃ (x0 x1 : Int), av = [xR 0 0 0, xI x0, xI x1, xR 26 0 0] ∧ tEX7_set [xR 0 0 0, xI x0, xI x1] M (LQ [3, 1] Q)
set_option maxRecDepth 100000 in
theorem kL_set : XCw yL_set wL_set rL_set sL_set := XCw.of (hh := [(0, 10, 13, 21), (0, 10, 17, 13)]) ⟨rfl, rfl⟩ (by decide) rfl (fun av M Post h => by
    obtain ⟨x0, x1, rfl, h⟩ := h
    simp [xen, xc1]) (fun av M Post h p l e s m args below meth c D G ρ hC hZ => by
  obtain ⟨x0, x1, rfl, h⟩ := h
  have h1 := hZ.2.2.2.2.2.1
  have h6 := hZ.2.2.2.2.2.2
  show XWW p l e rL_set s m args below meth c 0 0 (XWq below args s D G ρ Post) D G ρ 5 0 [some (xR 0 0 0), some (xI x0), some (xI x1), some (xR 26 0 0), none] [] M
  refine xw_st0 hC (xs_aload_n (i := 3) dL_set_0 rfl) ?_
  show XWW p l e rL_set s m args below meth c 0 0 (XWq below args s D G ρ Post) D G ρ 5 1 [some (xR 0 0 0), some (xI x0), some (xI x1), some (xR 26 0 0), none] [xR 26 0 0] M
  refine xw_st0 hC (xs_iconst dL_set_1) ?_
  show XWW p l e rL_set s m args below meth c 0 0 (XWq below args s D G ρ Post) D G ρ 5 2 [some (xR 0 0 0), some (xI x0), some (xI x1), some (xR 26 0 0), none] [xI 0, xR 26 0 0] M
  refine xw_st0 hC (xs_aload_n (i := 0) dL_set_2 rfl) ?_
  show XWW p l e rL_set s m args below meth c 0 0 (XWq below args s D G ρ Post) D G ρ 5 3 [some (xR 0 0 0), some (xI x0), some (xI x1), some (xR 26 0 0), none] [xR 0 0 0, xI 0, xR 26 0 0] M
  refine xw_st0 hC (xs_iload_n (i := 1) dL_set_3 rfl) ?_
  show XWW p l e rL_set s m args below meth c 0 0 (XWq below args s D G ρ Post) D G ρ 5 4 [some (xR 0 0 0), some (xI x0), some (xI x1), some (xR 26 0 0), none] [xI x0, xR 0 0 0, xI 0, xR 26 0 0] M
  refine xw_st0 hC (xs_iload_n (i := 2) dL_set_4 rfl) ?_
  show XWW p l e rL_set s m args below meth c 0 0 (XWq below args s D G ρ Post) D G ρ 5 5 [some (xR 0 0 0), some (xI x0), some (xI x1), some (xR 26 0 0), none] [xI x1, xI x0, xR 0 0 0, xI 0, xR 26 0 0] M
  have hH : ∀ k ∈ ([3, 1] : List Int), XHd RL 5 [(0, 10, 13, 21), (0, 10, 17, 13)] k ((fun k => if k = 3 then 13 else 17 : Int → Nat) k) := by
    intro k hk
    simp only [List.mem_cons, List.not_mem_nil, or_false] at hk
    rcases hk with rfl | rfl
    · exact ⟨by decide, [], ⟨0, 10, 13, 21⟩, [⟨0, 10, 17, 13⟩], rfl, fun z hz => absurd hz List.not_mem_nil, by decide, by decide, tw_798, rfl⟩
    · exact ⟨by decide, [⟨0, 10, 13, 21⟩], ⟨0, 10, 17, 13⟩, [], rfl, by
        intro z hz
        simp only [List.mem_cons, List.not_mem_nil, or_false] at hz
        subst hz
        exact ⟨by decide, 3, by decide, by decide, tw_798⟩, by decide, by decide, tw_760, rfl⟩
  refine xw_try (n := 2) (hh := [(0, 10, 13, 21), (0, 10, 17, 13)]) (As := [xI x0, xI x1]) (st := [xI 0, xR 26 0 0]) (cd := [3, 1]) (Post := Post) (hp := fun k => if k = 3 then 13 else 17) kEX7_set ⟨⟨rfl, rfl, by decide, by decide⟩, ⟨by decide, by decide, by decide +kernel⟩, ⟨tw_821, tw_822, tw_823, tw_1, tw_824⟩, TX7, _, rfl⟩ dL_set_5 hC hZ hH rfl (by decide) h (fun v M1 hq => ?_) (fun k M1 hk hq => ?_)
  · refine xw_st1 hC h1 h6 (xs_i2lw dL_set_8) ?_
    show XWW p l e rL_set s m args below meth c 1 6 (XWq below args s D G ρ Post) D G ρ 5 9 [some (xR 0 0 0), some (xI x0), some (xI x1), some (xR 26 0 0), none] [xJ (w32 v), xI 0, xR 26 0 0] M1
    refine xw_st1 hC h1 h6 (xs_last dL_set_9) ⟨⟨rfl, rfl, rfl, rfl⟩, ?_⟩
    show XWW p l e rL_set s m args below meth c 1 6 (XWq below args s D G ρ Post) D G ρ 5 10 [some (xR 0 0 0), some (xI x0), some (xI x1), some (xR 26 0 0), none] [] (xup M1 26 0 0 0 (w32 v))
    refine xw_st1 hC h1 h6 (xs_goto (t := 21) dL_set_10 (by decide)) ?_
    show XWW p l e rL_set s m args below meth c 1 6 (XWq below args s D G ρ Post) D G ρ 5 21 [some (xR 0 0 0), some (xI x0), some (xI x1), some (xR 26 0 0), none] [] (xup M1 26 0 0 0 (w32 v))
    refine xw_st1 hC h1 h6 (xs_iconst dL_set_21) ?_
    show XWW p l e rL_set s m args below meth c 1 6 (XWq below args s D G ρ Post) D G ρ 5 22 [some (xR 0 0 0), some (xI x0), some (xI x1), some (xR 26 0 0), none] [xI 0] (xup M1 26 0 0 0 (w32 v))
    exact xw_iret ⟨hC.1, hC.2.1, hC.2.2.1, hC.2.2.2.1, hC.2.2.2.2.1, Nat.zero_le _, Nat.zero_le _⟩ hZ dL_set_22 hq
  · simp only [List.mem_cons, List.not_mem_nil, or_false] at hk
    rcases hk with rfl | rfl
    · refine xw_ast hC dL_set_13 (by decide) rfl (by
        intro j w hj hw
        have e : j = 3 := by omega
        subst e
        cases hw
        rfl) ?_
      show XWW p l e rL_set s m args below meth c 1 6 (XWq below args s D G ρ Post) D G ρ 5 15 [some (xR 0 0 0), some (xI x0), some (xI x1), some (xR 26 0 0), none] [] M1
      refine xw_st1 hC h1 h6 (xs_iconst dL_set_15) ?_
      show XWW p l e rL_set s m args below meth c 1 6 (XWq below args s D G ρ Post) D G ρ 5 16 [some (xR 0 0 0), some (xI x0), some (xI x1), some (xR 26 0 0), none] [xI 1] M1
      exact xw_iret ⟨hC.1, hC.2.1, hC.2.2.1, hC.2.2.2.1, hC.2.2.2.2.1, Nat.zero_le _, Nat.zero_le _⟩ hZ dL_set_16 hq
    · refine xw_ast hC dL_set_17 (by decide) rfl (by
        intro j w hj hw
        have e : j = 3 := by omega
        subst e
        cases hw
        rfl) ?_
      show XWW p l e rL_set s m args below meth c 1 6 (XWq below args s D G ρ Post) D G ρ 5 19 [some (xR 0 0 0), some (xI x0), some (xI x1), some (xR 26 0 0), none] [] M1
      refine xw_st1 hC h1 h6 (xs_iconst dL_set_19) ?_
      show XWW p l e rL_set s m args below meth c 1 6 (XWq below args s D G ρ Post) D G ρ 5 20 [some (xR 0 0 0), some (xI x0), some (xI x1), some (xR 26 0 0), none] [xI 2] M1
      exact xw_iret ⟨hC.1, hC.2.1, hC.2.2.1, hC.2.2.2.1, hC.2.2.2.2.1, Nat.zero_le _, Nat.zero_le _⟩ hZ dL_set_20 hq
  )
/-- stock -/
theorem twL_stock : Cond.codeWith yL_stock cL_stock 6 (some .int) [(0, 12, 15, 21), (0, 12, 19, 13), (0, 12, 23, 15)] ∈ xT := xT_in 831 (by decide +kernel) rfl
abbrev wL_stock : List Cond := Cond.codeWith yL_stock cL_stock 6 (some .int) [(0, 12, 15, 21), (0, 12, 19, 13), (0, 12, 23, 15)] :: xT
abbrev rL_stock : Room := { frames := 8, cells := 1, slots := 6, locals := 149 }
def sL_stock : XSp := fun av M Q => ∃ (x0 x1 x2 : Int), av = [xR 0 0 0, xI x0, xI x1, xI x2, xR 26 0 0] ∧ tEX7_stock [xR 0 0 0, xI x0, xI x1, xI x2] M (LQ [3, 1, 2] Q)
set_option maxRecDepth 100000 in
theorem kL_stock : XCw yL_stock wL_stock rL_stock sL_stock := XCw.of (hh := [(0, 12, 15, 21), (0, 12, 19, 13), (0, 12, 23, 15)]) ⟨rfl, rfl⟩ (by decide) rfl (fun av M Post h => by
    obtain ⟨x0, x1, x2, rfl, h⟩ := h
    simp [xen, xc1]) (fun av M Post h p l e s m args below meth c D G ρ hC hZ => by
  obtain ⟨x0, x1, x2, rfl, h⟩ := h
  have h1 := hZ.2.2.2.2.2.1
  have h6 := hZ.2.2.2.2.2.2
  show XWW p l e rL_stock s m args below meth c 0 0 (XWq below args s D G ρ Post) D G ρ 6 0 [some (xR 0 0 0), some (xI x0), some (xI x1), some (xI x2), some (xR 26 0 0), none] [] M
  refine xw_st0 hC (xs_aload dL_stock_0) ?_
  show XWW p l e rL_stock s m args below meth c 0 0 (XWq below args s D G ρ Post) D G ρ 6 2 [some (xR 0 0 0), some (xI x0), some (xI x1), some (xI x2), some (xR 26 0 0), none] [xR 26 0 0] M
  refine xw_st0 hC (xs_iconst dL_stock_2) ?_
  show XWW p l e rL_stock s m args below meth c 0 0 (XWq below args s D G ρ Post) D G ρ 6 3 [some (xR 0 0 0), some (xI x0), some (xI x1), some (xI x2), some (xR 26 0 0), none] [xI 0, xR 26 0 0] M
  refine xw_st0 hC (xs_aload_n (i := 0) dL_stock_3 rfl) ?_
  show XWW p l e rL_stock s m args below meth c 0 0 (XWq below args s D G ρ Post) D G ρ 6 4 [some (xR 0 0 0), some (xI x0), some (xI x1), some (xI x2), some (xR 26 0 0), none] [xR 0 0 0, xI 0, xR 26 0 0] M
  refine xw_st0 hC (xs_iload_n (i := 1) dL_stock_4 rfl) ?_
  show XWW p l e rL_stock s m args below meth c 0 0 (XWq below args s D G ρ Post) D G ρ 6 5 [some (xR 0 0 0), some (xI x0), some (xI x1), some (xI x2), some (xR 26 0 0), none] [xI x0, xR 0 0 0, xI 0, xR 26 0 0] M
  refine xw_st0 hC (xs_iload_n (i := 2) dL_stock_5 rfl) ?_
  show XWW p l e rL_stock s m args below meth c 0 0 (XWq below args s D G ρ Post) D G ρ 6 6 [some (xR 0 0 0), some (xI x0), some (xI x1), some (xI x2), some (xR 26 0 0), none] [xI x1, xI x0, xR 0 0 0, xI 0, xR 26 0 0] M
  refine xw_st0 hC (xs_iload_n (i := 3) dL_stock_6 rfl) ?_
  show XWW p l e rL_stock s m args below meth c 0 0 (XWq below args s D G ρ Post) D G ρ 6 7 [some (xR 0 0 0), some (xI x0), some (xI x1), some (xI x2), some (xR 26 0 0), none] [xI x2, xI x1, xI x0, xR 0 0 0, xI 0, xR 26 0 0] M
  have hH : ∀ k ∈ ([3, 1, 2] : List Int), XHd RL 7 [(0, 12, 15, 21), (0, 12, 19, 13), (0, 12, 23, 15)] k ((fun k => if k = 3 then 15 else if k = 1 then 19 else 23 : Int → Nat) k) := by
    intro k hk
    simp only [List.mem_cons, List.not_mem_nil, or_false] at hk
    rcases hk with rfl | rfl | rfl
    · exact ⟨by decide, [], ⟨0, 12, 15, 21⟩, [⟨0, 12, 19, 13⟩, ⟨0, 12, 23, 15⟩], rfl, fun z hz => absurd hz List.not_mem_nil, by decide, by decide, tw_798, rfl⟩
    · exact ⟨by decide, [⟨0, 12, 15, 21⟩], ⟨0, 12, 19, 13⟩, [⟨0, 12, 23, 15⟩], rfl, by
        intro z hz
        simp only [List.mem_cons, List.not_mem_nil, or_false] at hz
        subst hz
        exact ⟨by decide, 3, by decide, by decide, tw_798⟩, by decide, by decide, tw_760, rfl⟩
    · exact ⟨by decide, [⟨0, 12, 15, 21⟩, ⟨0, 12, 19, 13⟩], ⟨0, 12, 23, 15⟩, [], rfl, by
        intro z hz
        simp only [List.mem_cons, List.not_mem_nil, or_false] at hz
        rcases hz with rfl | rfl
        · exact ⟨by decide, 3, by decide, by decide, tw_798⟩
        · exact ⟨by decide, 1, by decide, by decide, tw_760⟩, by decide, by decide, tw_761, rfl⟩
  refine xw_try (n := 3) (hh := [(0, 12, 15, 21), (0, 12, 19, 13), (0, 12, 23, 15)]) (As := [xI x0, xI x1, xI x2]) (st := [xI 0, xR 26 0 0]) (cd := [3, 1, 2]) (Post := Post) (hp := fun k => if k = 3 then 15 else if k = 1 then 19 else 23) kEX7_stock ⟨⟨rfl, rfl, by decide, by decide⟩, ⟨by decide, by decide, by decide +kernel⟩, ⟨tw_832, tw_833, tw_834, tw_1, tw_835⟩, TX7, _, rfl⟩ dL_stock_7 hC hZ hH rfl (by decide) h (fun v M1 hq => ?_) (fun k M1 hk hq => ?_)
  · refine xw_st1 hC h1 h6 (xs_i2lw dL_stock_10) ?_
    show XWW p l e rL_stock s m args below meth c 1 6 (XWq below args s D G ρ Post) D G ρ 6 11 [some (xR 0 0 0), some (xI x0), some (xI x1), some (xI x2), some (xR 26 0 0), none] [xJ (w32 v), xI 0, xR 26 0 0] M1
    refine xw_st1 hC h1 h6 (xs_last dL_stock_11) ⟨⟨rfl, rfl, rfl, rfl⟩, ?_⟩
    show XWW p l e rL_stock s m args below meth c 1 6 (XWq below args s D G ρ Post) D G ρ 6 12 [some (xR 0 0 0), some (xI x0), some (xI x1), some (xI x2), some (xR 26 0 0), none] [] (xup M1 26 0 0 0 (w32 v))
    refine xw_st1 hC h1 h6 (xs_goto (t := 27) dL_stock_12 (by decide)) ?_
    show XWW p l e rL_stock s m args below meth c 1 6 (XWq below args s D G ρ Post) D G ρ 6 27 [some (xR 0 0 0), some (xI x0), some (xI x1), some (xI x2), some (xR 26 0 0), none] [] (xup M1 26 0 0 0 (w32 v))
    refine xw_st1 hC h1 h6 (xs_iconst dL_stock_27) ?_
    show XWW p l e rL_stock s m args below meth c 1 6 (XWq below args s D G ρ Post) D G ρ 6 28 [some (xR 0 0 0), some (xI x0), some (xI x1), some (xI x2), some (xR 26 0 0), none] [xI 0] (xup M1 26 0 0 0 (w32 v))
    exact xw_iret ⟨hC.1, hC.2.1, hC.2.2.1, hC.2.2.2.1, hC.2.2.2.2.1, Nat.zero_le _, Nat.zero_le _⟩ hZ dL_stock_28 hq
  · simp only [List.mem_cons, List.not_mem_nil, or_false] at hk
    rcases hk with rfl | rfl | rfl
    · refine xw_ast hC dL_stock_15 (by decide) rfl (by
        intro j w hj hw
        have e : j = 4 := by omega
        subst e
        cases hw
        rfl) ?_
      show XWW p l e rL_stock s m args below meth c 1 6 (XWq below args s D G ρ Post) D G ρ 6 17 [some (xR 0 0 0), some (xI x0), some (xI x1), some (xI x2), some (xR 26 0 0), none] [] M1
      refine xw_st1 hC h1 h6 (xs_iconst dL_stock_17) ?_
      show XWW p l e rL_stock s m args below meth c 1 6 (XWq below args s D G ρ Post) D G ρ 6 18 [some (xR 0 0 0), some (xI x0), some (xI x1), some (xI x2), some (xR 26 0 0), none] [xI 1] M1
      exact xw_iret ⟨hC.1, hC.2.1, hC.2.2.1, hC.2.2.2.1, hC.2.2.2.2.1, Nat.zero_le _, Nat.zero_le _⟩ hZ dL_stock_18 hq
    · refine xw_ast hC dL_stock_19 (by decide) rfl (by
        intro j w hj hw
        have e : j = 4 := by omega
        subst e
        cases hw
        rfl) ?_
      show XWW p l e rL_stock s m args below meth c 1 6 (XWq below args s D G ρ Post) D G ρ 6 21 [some (xR 0 0 0), some (xI x0), some (xI x1), some (xI x2), some (xR 26 0 0), none] [] M1
      refine xw_st1 hC h1 h6 (xs_iconst dL_stock_21) ?_
      show XWW p l e rL_stock s m args below meth c 1 6 (XWq below args s D G ρ Post) D G ρ 6 22 [some (xR 0 0 0), some (xI x0), some (xI x1), some (xI x2), some (xR 26 0 0), none] [xI 2] M1
      exact xw_iret ⟨hC.1, hC.2.1, hC.2.2.1, hC.2.2.2.1, hC.2.2.2.2.1, Nat.zero_le _, Nat.zero_le _⟩ hZ dL_stock_22 hq
    · refine xw_ast hC dL_stock_23 (by decide) rfl (by
        intro j w hj hw
        have e : j = 4 := by omega
        subst e
        cases hw
        rfl) ?_
      show XWW p l e rL_stock s m args below meth c 1 6 (XWq below args s D G ρ Post) D G ρ 6 25 [some (xR 0 0 0), some (xI x0), some (xI x1), some (xI x2), some (xR 26 0 0), none] [] M1
      refine xw_st1 hC h1 h6 (xs_iconst dL_stock_25) ?_
      show XWW p l e rL_stock s m args below meth c 1 6 (XWq below args s D G ρ Post) D G ρ 6 26 [some (xR 0 0 0), some (xI x0), some (xI x1), some (xI x2), some (xR 26 0 0), none] [xI 3] M1
      exact xw_iret ⟨hC.1, hC.2.1, hC.2.2.1, hC.2.2.2.1, hC.2.2.2.2.1, Nat.zero_le _, Nat.zero_le _⟩ hZ dL_stock_26 hq
  )
/-- cook -/
theorem twL_cook : Cond.codeWith yL_cook cL_cook 6 (some .int) [(0, 12, 15, 21), (0, 12, 19, 13), (0, 12, 23, 15)] ∈ xT := xT_in 838 (by decide +kernel) rfl
abbrev wL_cook : List Cond := Cond.codeWith yL_cook cL_cook 6 (some .int) [(0, 12, 15, 21), (0, 12, 19, 13), (0, 12, 23, 15)] :: xT
abbrev rL_cook : Room := { frames := 8, cells := 1, slots := 6, locals := 149 }
def sL_cook : XSp := fun av M Q => ∃ (x0 x1 x2 : Int), av = [xR 0 0 0, xI x0, xI x1, xI x2, xR 26 0 0] ∧ tEX7_cook [xR 0 0 0, xI x0, xI x1, xI x2] M (LQ [3, 1, 2] Q)
set_option maxRecDepth 100000 in
theorem kL_cook : XCw yL_cook wL_cook rL_cook sL_cook := XCw.of (hh := [(0, 12, 15, 21), (0, 12, 19, 13), (0, 12, 23, 15)]) ⟨rfl, rfl⟩ (by decide) rfl (fun av M Post h => by
    obtain ⟨x0, x1, x2, rfl, h⟩ := h
    simp [xen, xc1]) (fun av M Post h p l e s m args below meth c D G ρ hC hZ => by
  obtain ⟨x0, x1, x2, rfl, h⟩ := h
  have h1 := hZ.2.2.2.2.2.1
  have h6 := hZ.2.2.2.2.2.2
  show XWW p l e rL_cook s m args below meth c 0 0 (XWq below args s D G ρ Post) D G ρ 6 0 [some (xR 0 0 0), some (xI x0), some (xI x1), some (xI x2), some (xR 26 0 0), none] [] M
  refine xw_st0 hC (xs_aload dL_cook_0) ?_
  show XWW p l e rL_cook s m args below meth c 0 0 (XWq below args s D G ρ Post) D G ρ 6 2 [some (xR 0 0 0), some (xI x0), some (xI x1), some (xI x2), some (xR 26 0 0), none] [xR 26 0 0] M
  refine xw_st0 hC (xs_iconst dL_cook_2) ?_
  show XWW p l e rL_cook s m args below meth c 0 0 (XWq below args s D G ρ Post) D G ρ 6 3 [some (xR 0 0 0), some (xI x0), some (xI x1), some (xI x2), some (xR 26 0 0), none] [xI 0, xR 26 0 0] M
  refine xw_st0 hC (xs_aload_n (i := 0) dL_cook_3 rfl) ?_
  show XWW p l e rL_cook s m args below meth c 0 0 (XWq below args s D G ρ Post) D G ρ 6 4 [some (xR 0 0 0), some (xI x0), some (xI x1), some (xI x2), some (xR 26 0 0), none] [xR 0 0 0, xI 0, xR 26 0 0] M
  refine xw_st0 hC (xs_iload_n (i := 1) dL_cook_4 rfl) ?_
  show XWW p l e rL_cook s m args below meth c 0 0 (XWq below args s D G ρ Post) D G ρ 6 5 [some (xR 0 0 0), some (xI x0), some (xI x1), some (xI x2), some (xR 26 0 0), none] [xI x0, xR 0 0 0, xI 0, xR 26 0 0] M
  refine xw_st0 hC (xs_iload_n (i := 2) dL_cook_5 rfl) ?_
  show XWW p l e rL_cook s m args below meth c 0 0 (XWq below args s D G ρ Post) D G ρ 6 6 [some (xR 0 0 0), some (xI x0), some (xI x1), some (xI x2), some (xR 26 0 0), none] [xI x1, xI x0, xR 0 0 0, xI 0, xR 26 0 0] M
  refine xw_st0 hC (xs_iload_n (i := 3) dL_cook_6 rfl) ?_
  show XWW p l e rL_cook s m args below meth c 0 0 (XWq below args s D G ρ Post) D G ρ 6 7 [some (xR 0 0 0), some (xI x0), some (xI x1), some (xI x2), some (xR 26 0 0), none] [xI x2, xI x1, xI x0, xR 0 0 0, xI 0, xR 26 0 0] M
  have hH : ∀ k ∈ ([3, 1, 2] : List Int), XHd RL 7 [(0, 12, 15, 21), (0, 12, 19, 13), (0, 12, 23, 15)] k ((fun k => if k = 3 then 15 else if k = 1 then 19 else 23 : Int → Nat) k) := by
    intro k hk
    simp only [List.mem_cons, List.not_mem_nil, or_false] at hk
    rcases hk with rfl | rfl | rfl
    · exact ⟨by decide, [], ⟨0, 12, 15, 21⟩, [⟨0, 12, 19, 13⟩, ⟨0, 12, 23, 15⟩], rfl, fun z hz => absurd hz List.not_mem_nil, by decide, by decide, tw_798, rfl⟩
    · exact ⟨by decide, [⟨0, 12, 15, 21⟩], ⟨0, 12, 19, 13⟩, [⟨0, 12, 23, 15⟩], rfl, by
        intro z hz
        simp only [List.mem_cons, List.not_mem_nil, or_false] at hz
        subst hz
        exact ⟨by decide, 3, by decide, by decide, tw_798⟩, by decide, by decide, tw_760, rfl⟩
    · exact ⟨by decide, [⟨0, 12, 15, 21⟩, ⟨0, 12, 19, 13⟩], ⟨0, 12, 23, 15⟩, [], rfl, by
        intro z hz
        simp only [List.mem_cons, List.not_mem_nil, or_false] at hz
        rcases hz with rfl | rfl
        · exact ⟨by decide, 3, by decide, by decide, tw_798⟩
        · exact ⟨by decide, 1, by decide, by decide, tw_760⟩, by decide, by decide, tw_761, rfl⟩
  refine xw_try (n := 3) (hh := [(0, 12, 15, 21), (0, 12, 19, 13), (0, 12, 23, 15)]) (As := [xI x0, xI x1, xI x2]) (st := [xI 0, xR 26 0 0]) (cd := [3, 1, 2]) (Post := Post) (hp := fun k => if k = 3 then 15 else if k = 1 then 19 else 23) kEX7_cook ⟨⟨rfl, rfl, by decide, by decide⟩, ⟨by decide, by decide, by decide +kernel⟩, ⟨tw_839, tw_840, tw_841, tw_1, tw_842⟩, TX7, _, rfl⟩ dL_cook_7 hC hZ hH rfl (by decide) h (fun v M1 hq => ?_) (fun k M1 hk hq => ?_)
  · refine xw_st1 hC h1 h6 (xs_i2lw dL_cook_10) ?_
    show XWW p l e rL_cook s m args below meth c 1 6 (XWq below args s D G ρ Post) D G ρ 6 11 [some (xR 0 0 0), some (xI x0), some (xI x1), some (xI x2), some (xR 26 0 0), none] [xJ (w32 v), xI 0, xR 26 0 0] M1
    refine xw_st1 hC h1 h6 (xs_last dL_cook_11) ⟨⟨rfl, rfl, rfl, rfl⟩, ?_⟩
    show XWW p l e rL_cook s m args below meth c 1 6 (XWq below args s D G ρ Post) D G ρ 6 12 [some (xR 0 0 0), some (xI x0), some (xI x1), some (xI x2), some (xR 26 0 0), none] [] (xup M1 26 0 0 0 (w32 v))
    refine xw_st1 hC h1 h6 (xs_goto (t := 27) dL_cook_12 (by decide)) ?_
    show XWW p l e rL_cook s m args below meth c 1 6 (XWq below args s D G ρ Post) D G ρ 6 27 [some (xR 0 0 0), some (xI x0), some (xI x1), some (xI x2), some (xR 26 0 0), none] [] (xup M1 26 0 0 0 (w32 v))
    refine xw_st1 hC h1 h6 (xs_iconst dL_cook_27) ?_
    show XWW p l e rL_cook s m args below meth c 1 6 (XWq below args s D G ρ Post) D G ρ 6 28 [some (xR 0 0 0), some (xI x0), some (xI x1), some (xI x2), some (xR 26 0 0), none] [xI 0] (xup M1 26 0 0 0 (w32 v))
    exact xw_iret ⟨hC.1, hC.2.1, hC.2.2.1, hC.2.2.2.1, hC.2.2.2.2.1, Nat.zero_le _, Nat.zero_le _⟩ hZ dL_cook_28 hq
  · simp only [List.mem_cons, List.not_mem_nil, or_false] at hk
    rcases hk with rfl | rfl | rfl
    · refine xw_ast hC dL_cook_15 (by decide) rfl (by
        intro j w hj hw
        have e : j = 4 := by omega
        subst e
        cases hw
        rfl) ?_
      show XWW p l e rL_cook s m args below meth c 1 6 (XWq below args s D G ρ Post) D G ρ 6 17 [some (xR 0 0 0), some (xI x0), some (xI x1), some (xI x2), some (xR 26 0 0), none] [] M1
      refine xw_st1 hC h1 h6 (xs_iconst dL_cook_17) ?_
      show XWW p l e rL_cook s m args below meth c 1 6 (XWq below args s D G ρ Post) D G ρ 6 18 [some (xR 0 0 0), some (xI x0), some (xI x1), some (xI x2), some (xR 26 0 0), none] [xI 1] M1
      exact xw_iret ⟨hC.1, hC.2.1, hC.2.2.1, hC.2.2.2.1, hC.2.2.2.2.1, Nat.zero_le _, Nat.zero_le _⟩ hZ dL_cook_18 hq
    · refine xw_ast hC dL_cook_19 (by decide) rfl (by
        intro j w hj hw
        have e : j = 4 := by omega
        subst e
        cases hw
        rfl) ?_
      show XWW p l e rL_cook s m args below meth c 1 6 (XWq below args s D G ρ Post) D G ρ 6 21 [some (xR 0 0 0), some (xI x0), some (xI x1), some (xI x2), some (xR 26 0 0), none] [] M1
      refine xw_st1 hC h1 h6 (xs_iconst dL_cook_21) ?_
      show XWW p l e rL_cook s m args below meth c 1 6 (XWq below args s D G ρ Post) D G ρ 6 22 [some (xR 0 0 0), some (xI x0), some (xI x1), some (xI x2), some (xR 26 0 0), none] [xI 2] M1
      exact xw_iret ⟨hC.1, hC.2.1, hC.2.2.1, hC.2.2.2.1, hC.2.2.2.2.1, Nat.zero_le _, Nat.zero_le _⟩ hZ dL_cook_22 hq
    · refine xw_ast hC dL_cook_23 (by decide) rfl (by
        intro j w hj hw
        have e : j = 4 := by omega
        subst e
        cases hw
        rfl) ?_
      show XWW p l e rL_cook s m args below meth c 1 6 (XWq below args s D G ρ Post) D G ρ 6 25 [some (xR 0 0 0), some (xI x0), some (xI x1), some (xI x2), some (xR 26 0 0), none] [] M1
      refine xw_st1 hC h1 h6 (xs_iconst dL_cook_25) ?_
      show XWW p l e rL_cook s m args below meth c 1 6 (XWq below args s D G ρ Post) D G ρ 6 26 [some (xR 0 0 0), some (xI x0), some (xI x1), some (xI x2), some (xR 26 0 0), none] [xI 3] M1
      exact xw_iret ⟨hC.1, hC.2.1, hC.2.2.1, hC.2.2.2.1, hC.2.2.2.2.1, Nat.zero_le _, Nat.zero_le _⟩ hZ dL_cook_26 hq
  )
/-- load -/
theorem twL_load : Cond.codeWith yL_load cL_load 7 (some .int) [(0, 14, 17, 21), (0, 14, 21, 13), (0, 14, 25, 15)] ∈ xT := xT_in 850 (by decide +kernel) rfl
abbrev wL_load : List Cond := Cond.codeWith yL_load cL_load 7 (some .int) [(0, 14, 17, 21), (0, 14, 21, 13), (0, 14, 25, 15)] :: xT
abbrev rL_load : Room := { frames := 8, cells := 1, slots := 6, locals := 151 }
def sL_load : XSp := fun av M Q => ∃ (x0 x1 x2 x3 : Int), av = [xR 0 0 0, xI x0, xI x1, xI x2, xI x3, xR 26 0 0] ∧ tEX7_load [xR 0 0 0, xI x0, xI x1, xI x2, xI x3] M (LQ [3, 1, 2] Q)
set_option maxRecDepth 100000 in
theorem kL_load : XCw yL_load wL_load rL_load sL_load := XCw.of (hh := [(0, 14, 17, 21), (0, 14, 21, 13), (0, 14, 25, 15)]) ⟨rfl, rfl⟩ (by decide) rfl (fun av M Post h => by
    obtain ⟨x0, x1, x2, x3, rfl, h⟩ := h
    simp [xen, xc1]) (fun av M Post h p l e s m args below meth c D G ρ hC hZ => by
  obtain ⟨x0, x1, x2, x3, rfl, h⟩ := h
  have h1 := hZ.2.2.2.2.2.1
  have h6 := hZ.2.2.2.2.2.2
  show XWW p l e rL_load s m args below meth c 0 0 (XWq below args s D G ρ Post) D G ρ 7 0 [some (xR 0 0 0), some (xI x0), some (xI x1), some (xI x2), some (xI x3), some (xR 26 0 0), none] [] M
  refine xw_st0 hC (xs_aload dL_load_0) ?_
  show XWW p l e rL_load s m args below meth c 0 0 (XWq below args s D G ρ Post) D G ρ 7 2 [some (xR 0 0 0), some (xI x0), some (xI x1), some (xI x2), some (xI x3), some (xR 26 0 0), none] [xR 26 0 0] M
  refine xw_st0 hC (xs_iconst dL_load_2) ?_
  show XWW p l e rL_load s m args below meth c 0 0 (XWq below args s D G ρ Post) D G ρ 7 3 [some (xR 0 0 0), some (xI x0), some (xI x1), some (xI x2), some (xI x3), some (xR 26 0 0), none] [xI 0, xR 26 0 0] M
  refine xw_st0 hC (xs_aload_n (i := 0) dL_load_3 rfl) ?_
  show XWW p l e rL_load s m args below meth c 0 0 (XWq below args s D G ρ Post) D G ρ 7 4 [some (xR 0 0 0), some (xI x0), some (xI x1), some (xI x2), some (xI x3), some (xR 26 0 0), none] [xR 0 0 0, xI 0, xR 26 0 0] M
  refine xw_st0 hC (xs_iload_n (i := 1) dL_load_4 rfl) ?_
  show XWW p l e rL_load s m args below meth c 0 0 (XWq below args s D G ρ Post) D G ρ 7 5 [some (xR 0 0 0), some (xI x0), some (xI x1), some (xI x2), some (xI x3), some (xR 26 0 0), none] [xI x0, xR 0 0 0, xI 0, xR 26 0 0] M
  refine xw_st0 hC (xs_iload_n (i := 2) dL_load_5 rfl) ?_
  show XWW p l e rL_load s m args below meth c 0 0 (XWq below args s D G ρ Post) D G ρ 7 6 [some (xR 0 0 0), some (xI x0), some (xI x1), some (xI x2), some (xI x3), some (xR 26 0 0), none] [xI x1, xI x0, xR 0 0 0, xI 0, xR 26 0 0] M
  refine xw_st0 hC (xs_iload_n (i := 3) dL_load_6 rfl) ?_
  show XWW p l e rL_load s m args below meth c 0 0 (XWq below args s D G ρ Post) D G ρ 7 7 [some (xR 0 0 0), some (xI x0), some (xI x1), some (xI x2), some (xI x3), some (xR 26 0 0), none] [xI x2, xI x1, xI x0, xR 0 0 0, xI 0, xR 26 0 0] M
  refine xw_st0 hC (xs_iload dL_load_7) ?_
  show XWW p l e rL_load s m args below meth c 0 0 (XWq below args s D G ρ Post) D G ρ 7 9 [some (xR 0 0 0), some (xI x0), some (xI x1), some (xI x2), some (xI x3), some (xR 26 0 0), none] [xI x3, xI x2, xI x1, xI x0, xR 0 0 0, xI 0, xR 26 0 0] M
  have hH : ∀ k ∈ ([3, 1, 2] : List Int), XHd RL 9 [(0, 14, 17, 21), (0, 14, 21, 13), (0, 14, 25, 15)] k ((fun k => if k = 3 then 17 else if k = 1 then 21 else 25 : Int → Nat) k) := by
    intro k hk
    simp only [List.mem_cons, List.not_mem_nil, or_false] at hk
    rcases hk with rfl | rfl | rfl
    · exact ⟨by decide, [], ⟨0, 14, 17, 21⟩, [⟨0, 14, 21, 13⟩, ⟨0, 14, 25, 15⟩], rfl, fun z hz => absurd hz List.not_mem_nil, by decide, by decide, tw_798, rfl⟩
    · exact ⟨by decide, [⟨0, 14, 17, 21⟩], ⟨0, 14, 21, 13⟩, [⟨0, 14, 25, 15⟩], rfl, by
        intro z hz
        simp only [List.mem_cons, List.not_mem_nil, or_false] at hz
        subst hz
        exact ⟨by decide, 3, by decide, by decide, tw_798⟩, by decide, by decide, tw_760, rfl⟩
    · exact ⟨by decide, [⟨0, 14, 17, 21⟩, ⟨0, 14, 21, 13⟩], ⟨0, 14, 25, 15⟩, [], rfl, by
        intro z hz
        simp only [List.mem_cons, List.not_mem_nil, or_false] at hz
        rcases hz with rfl | rfl
        · exact ⟨by decide, 3, by decide, by decide, tw_798⟩
        · exact ⟨by decide, 1, by decide, by decide, tw_760⟩, by decide, by decide, tw_761, rfl⟩
  refine xw_try (n := 4) (hh := [(0, 14, 17, 21), (0, 14, 21, 13), (0, 14, 25, 15)]) (As := [xI x0, xI x1, xI x2, xI x3]) (st := [xI 0, xR 26 0 0]) (cd := [3, 1, 2]) (Post := Post) (hp := fun k => if k = 3 then 17 else if k = 1 then 21 else 25) kEX7_load ⟨⟨rfl, rfl, by decide, by decide⟩, ⟨by decide, by decide, by decide +kernel⟩, ⟨tw_851, tw_852, tw_853, tw_1, tw_854⟩, TX7, _, rfl⟩ dL_load_9 hC hZ hH rfl (by decide) h (fun v M1 hq => ?_) (fun k M1 hk hq => ?_)
  · refine xw_st1 hC h1 h6 (xs_i2lw dL_load_12) ?_
    show XWW p l e rL_load s m args below meth c 1 6 (XWq below args s D G ρ Post) D G ρ 7 13 [some (xR 0 0 0), some (xI x0), some (xI x1), some (xI x2), some (xI x3), some (xR 26 0 0), none] [xJ (w32 v), xI 0, xR 26 0 0] M1
    refine xw_st1 hC h1 h6 (xs_last dL_load_13) ⟨⟨rfl, rfl, rfl, rfl⟩, ?_⟩
    show XWW p l e rL_load s m args below meth c 1 6 (XWq below args s D G ρ Post) D G ρ 7 14 [some (xR 0 0 0), some (xI x0), some (xI x1), some (xI x2), some (xI x3), some (xR 26 0 0), none] [] (xup M1 26 0 0 0 (w32 v))
    refine xw_st1 hC h1 h6 (xs_goto (t := 29) dL_load_14 (by decide)) ?_
    show XWW p l e rL_load s m args below meth c 1 6 (XWq below args s D G ρ Post) D G ρ 7 29 [some (xR 0 0 0), some (xI x0), some (xI x1), some (xI x2), some (xI x3), some (xR 26 0 0), none] [] (xup M1 26 0 0 0 (w32 v))
    refine xw_st1 hC h1 h6 (xs_iconst dL_load_29) ?_
    show XWW p l e rL_load s m args below meth c 1 6 (XWq below args s D G ρ Post) D G ρ 7 30 [some (xR 0 0 0), some (xI x0), some (xI x1), some (xI x2), some (xI x3), some (xR 26 0 0), none] [xI 0] (xup M1 26 0 0 0 (w32 v))
    exact xw_iret ⟨hC.1, hC.2.1, hC.2.2.1, hC.2.2.2.1, hC.2.2.2.2.1, Nat.zero_le _, Nat.zero_le _⟩ hZ dL_load_30 hq
  · simp only [List.mem_cons, List.not_mem_nil, or_false] at hk
    rcases hk with rfl | rfl | rfl
    · refine xw_ast hC dL_load_17 (by decide) rfl (by
        intro j w hj hw
        have e : j = 5 := by omega
        subst e
        cases hw
        rfl) ?_
      show XWW p l e rL_load s m args below meth c 1 6 (XWq below args s D G ρ Post) D G ρ 7 19 [some (xR 0 0 0), some (xI x0), some (xI x1), some (xI x2), some (xI x3), some (xR 26 0 0), none] [] M1
      refine xw_st1 hC h1 h6 (xs_iconst dL_load_19) ?_
      show XWW p l e rL_load s m args below meth c 1 6 (XWq below args s D G ρ Post) D G ρ 7 20 [some (xR 0 0 0), some (xI x0), some (xI x1), some (xI x2), some (xI x3), some (xR 26 0 0), none] [xI 1] M1
      exact xw_iret ⟨hC.1, hC.2.1, hC.2.2.1, hC.2.2.2.1, hC.2.2.2.2.1, Nat.zero_le _, Nat.zero_le _⟩ hZ dL_load_20 hq
    · refine xw_ast hC dL_load_21 (by decide) rfl (by
        intro j w hj hw
        have e : j = 5 := by omega
        subst e
        cases hw
        rfl) ?_
      show XWW p l e rL_load s m args below meth c 1 6 (XWq below args s D G ρ Post) D G ρ 7 23 [some (xR 0 0 0), some (xI x0), some (xI x1), some (xI x2), some (xI x3), some (xR 26 0 0), none] [] M1
      refine xw_st1 hC h1 h6 (xs_iconst dL_load_23) ?_
      show XWW p l e rL_load s m args below meth c 1 6 (XWq below args s D G ρ Post) D G ρ 7 24 [some (xR 0 0 0), some (xI x0), some (xI x1), some (xI x2), some (xI x3), some (xR 26 0 0), none] [xI 2] M1
      exact xw_iret ⟨hC.1, hC.2.1, hC.2.2.1, hC.2.2.2.1, hC.2.2.2.2.1, Nat.zero_le _, Nat.zero_le _⟩ hZ dL_load_24 hq
    · refine xw_ast hC dL_load_25 (by decide) rfl (by
        intro j w hj hw
        have e : j = 5 := by omega
        subst e
        cases hw
        rfl) ?_
      show XWW p l e rL_load s m args below meth c 1 6 (XWq below args s D G ρ Post) D G ρ 7 27 [some (xR 0 0 0), some (xI x0), some (xI x1), some (xI x2), some (xI x3), some (xR 26 0 0), none] [] M1
      refine xw_st1 hC h1 h6 (xs_iconst dL_load_27) ?_
      show XWW p l e rL_load s m args below meth c 1 6 (XWq below args s D G ρ Post) D G ρ 7 28 [some (xR 0 0 0), some (xI x0), some (xI x1), some (xI x2), some (xI x3), some (xR 26 0 0), none] [xI 3] M1
      exact xw_iret ⟨hC.1, hC.2.1, hC.2.2.1, hC.2.2.2.1, hC.2.2.2.2.1, Nat.zero_le _, Nat.zero_le _⟩ hZ dL_load_28 hq
  )
/-- unload -/
theorem twL_unload : Cond.codeWith yL_unload cL_unload 5 (some .int) [(0, 10, 13, 21), (0, 10, 17, 15)] ∈ xT := xT_in 863 (by decide +kernel) rfl
abbrev wL_unload : List Cond := Cond.codeWith yL_unload cL_unload 5 (some .int) [(0, 10, 13, 21), (0, 10, 17, 15)] :: xT
abbrev rL_unload : Room := { frames := 8, cells := 1, slots := 6, locals := 151 }
def sL_unload : XSp := fun av M Q => ∃ (x0 x1 : Int), av = [xR 0 0 0, xI x0, xI x1, xR 26 0 0] ∧ tEX7_unload [xR 0 0 0, xI x0, xI x1] M (LQ [3, 2] Q)
set_option maxRecDepth 100000 in
theorem kL_unload : XCw yL_unload wL_unload rL_unload sL_unload := XCw.of (hh := [(0, 10, 13, 21), (0, 10, 17, 15)]) ⟨rfl, rfl⟩ (by decide) rfl (fun av M Post h => by
    obtain ⟨x0, x1, rfl, h⟩ := h
    simp [xen, xc1]) (fun av M Post h p l e s m args below meth c D G ρ hC hZ => by
  obtain ⟨x0, x1, rfl, h⟩ := h
  have h1 := hZ.2.2.2.2.2.1
  have h6 := hZ.2.2.2.2.2.2
  show XWW p l e rL_unload s m args below meth c 0 0 (XWq below args s D G ρ Post) D G ρ 5 0 [some (xR 0 0 0), some (xI x0), some (xI x1), some (xR 26 0 0), none] [] M
  refine xw_st0 hC (xs_aload_n (i := 3) dL_unload_0 rfl) ?_
  show XWW p l e rL_unload s m args below meth c 0 0 (XWq below args s D G ρ Post) D G ρ 5 1 [some (xR 0 0 0), some (xI x0), some (xI x1), some (xR 26 0 0), none] [xR 26 0 0] M
  refine xw_st0 hC (xs_iconst dL_unload_1) ?_
  show XWW p l e rL_unload s m args below meth c 0 0 (XWq below args s D G ρ Post) D G ρ 5 2 [some (xR 0 0 0), some (xI x0), some (xI x1), some (xR 26 0 0), none] [xI 0, xR 26 0 0] M
  refine xw_st0 hC (xs_aload_n (i := 0) dL_unload_2 rfl) ?_
  show XWW p l e rL_unload s m args below meth c 0 0 (XWq below args s D G ρ Post) D G ρ 5 3 [some (xR 0 0 0), some (xI x0), some (xI x1), some (xR 26 0 0), none] [xR 0 0 0, xI 0, xR 26 0 0] M
  refine xw_st0 hC (xs_iload_n (i := 1) dL_unload_3 rfl) ?_
  show XWW p l e rL_unload s m args below meth c 0 0 (XWq below args s D G ρ Post) D G ρ 5 4 [some (xR 0 0 0), some (xI x0), some (xI x1), some (xR 26 0 0), none] [xI x0, xR 0 0 0, xI 0, xR 26 0 0] M
  refine xw_st0 hC (xs_iload_n (i := 2) dL_unload_4 rfl) ?_
  show XWW p l e rL_unload s m args below meth c 0 0 (XWq below args s D G ρ Post) D G ρ 5 5 [some (xR 0 0 0), some (xI x0), some (xI x1), some (xR 26 0 0), none] [xI x1, xI x0, xR 0 0 0, xI 0, xR 26 0 0] M
  have hH : ∀ k ∈ ([3, 2] : List Int), XHd RL 5 [(0, 10, 13, 21), (0, 10, 17, 15)] k ((fun k => if k = 3 then 13 else 17 : Int → Nat) k) := by
    intro k hk
    simp only [List.mem_cons, List.not_mem_nil, or_false] at hk
    rcases hk with rfl | rfl
    · exact ⟨by decide, [], ⟨0, 10, 13, 21⟩, [⟨0, 10, 17, 15⟩], rfl, fun z hz => absurd hz List.not_mem_nil, by decide, by decide, tw_798, rfl⟩
    · exact ⟨by decide, [⟨0, 10, 13, 21⟩], ⟨0, 10, 17, 15⟩, [], rfl, by
        intro z hz
        simp only [List.mem_cons, List.not_mem_nil, or_false] at hz
        subst hz
        exact ⟨by decide, 3, by decide, by decide, tw_798⟩, by decide, by decide, tw_761, rfl⟩
  refine xw_try (n := 2) (hh := [(0, 10, 13, 21), (0, 10, 17, 15)]) (As := [xI x0, xI x1]) (st := [xI 0, xR 26 0 0]) (cd := [3, 2]) (Post := Post) (hp := fun k => if k = 3 then 13 else 17) kEX7_unload ⟨⟨rfl, rfl, by decide, by decide⟩, ⟨by decide, by decide, by decide +kernel⟩, ⟨tw_864, tw_865, tw_866, tw_1, tw_867⟩, TX7, _, rfl⟩ dL_unload_5 hC hZ hH rfl (by decide) h (fun v M1 hq => ?_) (fun k M1 hk hq => ?_)
  · refine xw_st1 hC h1 h6 (xs_i2lw dL_unload_8) ?_
    show XWW p l e rL_unload s m args below meth c 1 6 (XWq below args s D G ρ Post) D G ρ 5 9 [some (xR 0 0 0), some (xI x0), some (xI x1), some (xR 26 0 0), none] [xJ (w32 v), xI 0, xR 26 0 0] M1
    refine xw_st1 hC h1 h6 (xs_last dL_unload_9) ⟨⟨rfl, rfl, rfl, rfl⟩, ?_⟩
    show XWW p l e rL_unload s m args below meth c 1 6 (XWq below args s D G ρ Post) D G ρ 5 10 [some (xR 0 0 0), some (xI x0), some (xI x1), some (xR 26 0 0), none] [] (xup M1 26 0 0 0 (w32 v))
    refine xw_st1 hC h1 h6 (xs_goto (t := 21) dL_unload_10 (by decide)) ?_
    show XWW p l e rL_unload s m args below meth c 1 6 (XWq below args s D G ρ Post) D G ρ 5 21 [some (xR 0 0 0), some (xI x0), some (xI x1), some (xR 26 0 0), none] [] (xup M1 26 0 0 0 (w32 v))
    refine xw_st1 hC h1 h6 (xs_iconst dL_unload_21) ?_
    show XWW p l e rL_unload s m args below meth c 1 6 (XWq below args s D G ρ Post) D G ρ 5 22 [some (xR 0 0 0), some (xI x0), some (xI x1), some (xR 26 0 0), none] [xI 0] (xup M1 26 0 0 0 (w32 v))
    exact xw_iret ⟨hC.1, hC.2.1, hC.2.2.1, hC.2.2.2.1, hC.2.2.2.2.1, Nat.zero_le _, Nat.zero_le _⟩ hZ dL_unload_22 hq
  · simp only [List.mem_cons, List.not_mem_nil, or_false] at hk
    rcases hk with rfl | rfl
    · refine xw_ast hC dL_unload_13 (by decide) rfl (by
        intro j w hj hw
        have e : j = 3 := by omega
        subst e
        cases hw
        rfl) ?_
      show XWW p l e rL_unload s m args below meth c 1 6 (XWq below args s D G ρ Post) D G ρ 5 15 [some (xR 0 0 0), some (xI x0), some (xI x1), some (xR 26 0 0), none] [] M1
      refine xw_st1 hC h1 h6 (xs_iconst dL_unload_15) ?_
      show XWW p l e rL_unload s m args below meth c 1 6 (XWq below args s D G ρ Post) D G ρ 5 16 [some (xR 0 0 0), some (xI x0), some (xI x1), some (xR 26 0 0), none] [xI 1] M1
      exact xw_iret ⟨hC.1, hC.2.1, hC.2.2.1, hC.2.2.2.1, hC.2.2.2.2.1, Nat.zero_le _, Nat.zero_le _⟩ hZ dL_unload_16 hq
    · refine xw_ast hC dL_unload_17 (by decide) rfl (by
        intro j w hj hw
        have e : j = 3 := by omega
        subst e
        cases hw
        rfl) ?_
      show XWW p l e rL_unload s m args below meth c 1 6 (XWq below args s D G ρ Post) D G ρ 5 19 [some (xR 0 0 0), some (xI x0), some (xI x1), some (xR 26 0 0), none] [] M1
      refine xw_st1 hC h1 h6 (xs_iconst dL_unload_19) ?_
      show XWW p l e rL_unload s m args below meth c 1 6 (XWq below args s D G ρ Post) D G ρ 5 20 [some (xR 0 0 0), some (xI x0), some (xI x1), some (xR 26 0 0), none] [xI 2] M1
      exact xw_iret ⟨hC.1, hC.2.1, hC.2.2.1, hC.2.2.2.1, hC.2.2.2.2.1, Nat.zero_le _, Nat.zero_le _⟩ hZ dL_unload_20 hq
  )
/-- drive -/
theorem twL_drive : Cond.codeWith yL_drive cL_drive 5 (some .int) [(0, 10, 13, 21), (0, 10, 17, 15)] ∈ xT := xT_in 870 (by decide +kernel) rfl
abbrev wL_drive : List Cond := Cond.codeWith yL_drive cL_drive 5 (some .int) [(0, 10, 13, 21), (0, 10, 17, 15)] :: xT
abbrev rL_drive : Room := { frames := 8, cells := 1, slots := 6, locals := 148 }
def sL_drive : XSp := fun av M Q => ∃ (x0 x1 : Int), av = [xR 0 0 0, xI x0, xI x1, xR 26 0 0] ∧ tEX7_drive [xR 0 0 0, xI x0, xI x1] M (LQ [3, 2] Q)
set_option maxRecDepth 100000 in
theorem kL_drive : XCw yL_drive wL_drive rL_drive sL_drive := XCw.of (hh := [(0, 10, 13, 21), (0, 10, 17, 15)]) ⟨rfl, rfl⟩ (by decide) rfl (fun av M Post h => by
    obtain ⟨x0, x1, rfl, h⟩ := h
    simp [xen, xc1]) (fun av M Post h p l e s m args below meth c D G ρ hC hZ => by
  obtain ⟨x0, x1, rfl, h⟩ := h
  have h1 := hZ.2.2.2.2.2.1
  have h6 := hZ.2.2.2.2.2.2
  show XWW p l e rL_drive s m args below meth c 0 0 (XWq below args s D G ρ Post) D G ρ 5 0 [some (xR 0 0 0), some (xI x0), some (xI x1), some (xR 26 0 0), none] [] M
  refine xw_st0 hC (xs_aload_n (i := 3) dL_drive_0 rfl) ?_
  show XWW p l e rL_drive s m args below meth c 0 0 (XWq below args s D G ρ Post) D G ρ 5 1 [some (xR 0 0 0), some (xI x0), some (xI x1), some (xR 26 0 0), none] [xR 26 0 0] M
  refine xw_st0 hC (xs_iconst dL_drive_1) ?_
  show XWW p l e rL_drive s m args below meth c 0 0 (XWq below args s D G ρ Post) D G ρ 5 2 [some (xR 0 0 0), some (xI x0), some (xI x1), some (xR 26 0 0), none] [xI 0, xR 26 0 0] M
  refine xw_st0 hC (xs_aload_n (i := 0) dL_drive_2 rfl) ?_
  show XWW p l e rL_drive s m args below meth c 0 0 (XWq below args s D G ρ Post) D G ρ 5 3 [some (xR 0 0 0), some (xI x0), some (xI x1), some (xR 26 0 0), none] [xR 0 0 0, xI 0, xR 26 0 0] M
  refine xw_st0 hC (xs_iload_n (i := 1) dL_drive_3 rfl) ?_
  show XWW p l e rL_drive s m args below meth c 0 0 (XWq below args s D G ρ Post) D G ρ 5 4 [some (xR 0 0 0), some (xI x0), some (xI x1), some (xR 26 0 0), none] [xI x0, xR 0 0 0, xI 0, xR 26 0 0] M
  refine xw_st0 hC (xs_iload_n (i := 2) dL_drive_4 rfl) ?_
  show XWW p l e rL_drive s m args below meth c 0 0 (XWq below args s D G ρ Post) D G ρ 5 5 [some (xR 0 0 0), some (xI x0), some (xI x1), some (xR 26 0 0), none] [xI x1, xI x0, xR 0 0 0, xI 0, xR 26 0 0] M
  have hH : ∀ k ∈ ([3, 2] : List Int), XHd RL 5 [(0, 10, 13, 21), (0, 10, 17, 15)] k ((fun k => if k = 3 then 13 else 17 : Int → Nat) k) := by
    intro k hk
    simp only [List.mem_cons, List.not_mem_nil, or_false] at hk
    rcases hk with rfl | rfl
    · exact ⟨by decide, [], ⟨0, 10, 13, 21⟩, [⟨0, 10, 17, 15⟩], rfl, fun z hz => absurd hz List.not_mem_nil, by decide, by decide, tw_798, rfl⟩
    · exact ⟨by decide, [⟨0, 10, 13, 21⟩], ⟨0, 10, 17, 15⟩, [], rfl, by
        intro z hz
        simp only [List.mem_cons, List.not_mem_nil, or_false] at hz
        subst hz
        exact ⟨by decide, 3, by decide, by decide, tw_798⟩, by decide, by decide, tw_761, rfl⟩
  refine xw_try (n := 2) (hh := [(0, 10, 13, 21), (0, 10, 17, 15)]) (As := [xI x0, xI x1]) (st := [xI 0, xR 26 0 0]) (cd := [3, 2]) (Post := Post) (hp := fun k => if k = 3 then 13 else 17) kEX7_drive ⟨⟨rfl, rfl, by decide, by decide⟩, ⟨by decide, by decide, by decide +kernel⟩, ⟨tw_871, tw_872, tw_873, tw_1, tw_874⟩, TX7, _, rfl⟩ dL_drive_5 hC hZ hH rfl (by decide) h (fun v M1 hq => ?_) (fun k M1 hk hq => ?_)
  · refine xw_st1 hC h1 h6 (xs_i2lw dL_drive_8) ?_
    show XWW p l e rL_drive s m args below meth c 1 6 (XWq below args s D G ρ Post) D G ρ 5 9 [some (xR 0 0 0), some (xI x0), some (xI x1), some (xR 26 0 0), none] [xJ (w32 v), xI 0, xR 26 0 0] M1
    refine xw_st1 hC h1 h6 (xs_last dL_drive_9) ⟨⟨rfl, rfl, rfl, rfl⟩, ?_⟩
    show XWW p l e rL_drive s m args below meth c 1 6 (XWq below args s D G ρ Post) D G ρ 5 10 [some (xR 0 0 0), some (xI x0), some (xI x1), some (xR 26 0 0), none] [] (xup M1 26 0 0 0 (w32 v))
    refine xw_st1 hC h1 h6 (xs_goto (t := 21) dL_drive_10 (by decide)) ?_
    show XWW p l e rL_drive s m args below meth c 1 6 (XWq below args s D G ρ Post) D G ρ 5 21 [some (xR 0 0 0), some (xI x0), some (xI x1), some (xR 26 0 0), none] [] (xup M1 26 0 0 0 (w32 v))
    refine xw_st1 hC h1 h6 (xs_iconst dL_drive_21) ?_
    show XWW p l e rL_drive s m args below meth c 1 6 (XWq below args s D G ρ Post) D G ρ 5 22 [some (xR 0 0 0), some (xI x0), some (xI x1), some (xR 26 0 0), none] [xI 0] (xup M1 26 0 0 0 (w32 v))
    exact xw_iret ⟨hC.1, hC.2.1, hC.2.2.1, hC.2.2.2.1, hC.2.2.2.2.1, Nat.zero_le _, Nat.zero_le _⟩ hZ dL_drive_22 hq
  · simp only [List.mem_cons, List.not_mem_nil, or_false] at hk
    rcases hk with rfl | rfl
    · refine xw_ast hC dL_drive_13 (by decide) rfl (by
        intro j w hj hw
        have e : j = 3 := by omega
        subst e
        cases hw
        rfl) ?_
      show XWW p l e rL_drive s m args below meth c 1 6 (XWq below args s D G ρ Post) D G ρ 5 15 [some (xR 0 0 0), some (xI x0), some (xI x1), some (xR 26 0 0), none] [] M1
      refine xw_st1 hC h1 h6 (xs_iconst dL_drive_15) ?_
      show XWW p l e rL_drive s m args below meth c 1 6 (XWq below args s D G ρ Post) D G ρ 5 16 [some (xR 0 0 0), some (xI x0), some (xI x1), some (xR 26 0 0), none] [xI 1] M1
      exact xw_iret ⟨hC.1, hC.2.1, hC.2.2.1, hC.2.2.2.1, hC.2.2.2.2.1, Nat.zero_le _, Nat.zero_le _⟩ hZ dL_drive_16 hq
    · refine xw_ast hC dL_drive_17 (by decide) rfl (by
        intro j w hj hw
        have e : j = 3 := by omega
        subst e
        cases hw
        rfl) ?_
      show XWW p l e rL_drive s m args below meth c 1 6 (XWq below args s D G ρ Post) D G ρ 5 19 [some (xR 0 0 0), some (xI x0), some (xI x1), some (xR 26 0 0), none] [] M1
      refine xw_st1 hC h1 h6 (xs_iconst dL_drive_19) ?_
      show XWW p l e rL_drive s m args below meth c 1 6 (XWq below args s D G ρ Post) D G ρ 5 20 [some (xR 0 0 0), some (xI x0), some (xI x1), some (xR 26 0 0), none] [xI 2] M1
      exact xw_iret ⟨hC.1, hC.2.1, hC.2.2.1, hC.2.2.2.1, hC.2.2.2.2.1, Nat.zero_le _, Nat.zero_le _⟩ hZ dL_drive_20 hq
  )
/-- addUnit -/
theorem twL_addUnit : Cond.codeWith yL_addUnit cL_addUnit 8 (some .int) [(0, 16, 19, 21), (0, 16, 23, 13), (0, 16, 27, 15)] ∈ xT := xT_in 878 (by decide +kernel) rfl
abbrev wL_addUnit : List Cond := Cond.codeWith yL_addUnit cL_addUnit 8 (some .int) [(0, 16, 19, 21), (0, 16, 23, 13), (0, 16, 27, 15)] :: xT
abbrev rL_addUnit : Room := { frames := 8, cells := 1, slots := 6, locals := 150 }
def sL_addUnit : XSp := fun av M Q => ∃ (x0 x1 x2 x3 x4 : Int), av = [xR 0 0 0, xI x0, xI x1, xI x2, xI x3, xI x4, xR 26 0 0] ∧ tEX7_addUnit [xR 0 0 0, xI x0, xI x1, xI x2, xI x3, xI x4] M (LQ [3, 1, 2] Q)
set_option maxRecDepth 100000 in
theorem kL_addUnit : XCw yL_addUnit wL_addUnit rL_addUnit sL_addUnit := XCw.of (hh := [(0, 16, 19, 21), (0, 16, 23, 13), (0, 16, 27, 15)]) ⟨rfl, rfl⟩ (by decide) rfl (fun av M Post h => by
    obtain ⟨x0, x1, x2, x3, x4, rfl, h⟩ := h
    simp [xen, xc1]) (fun av M Post h p l e s m args below meth c D G ρ hC hZ => by
  obtain ⟨x0, x1, x2, x3, x4, rfl, h⟩ := h
  have h1 := hZ.2.2.2.2.2.1
  have h6 := hZ.2.2.2.2.2.2
  show XWW p l e rL_addUnit s m args below meth c 0 0 (XWq below args s D G ρ Post) D G ρ 8 0 [some (xR 0 0 0), some (xI x0), some (xI x1), some (xI x2), some (xI x3), some (xI x4), some (xR 26 0 0), none] [] M
  refine xw_st0 hC (xs_aload dL_addUnit_0) ?_
  show XWW p l e rL_addUnit s m args below meth c 0 0 (XWq below args s D G ρ Post) D G ρ 8 2 [some (xR 0 0 0), some (xI x0), some (xI x1), some (xI x2), some (xI x3), some (xI x4), some (xR 26 0 0), none] [xR 26 0 0] M
  refine xw_st0 hC (xs_iconst dL_addUnit_2) ?_
  show XWW p l e rL_addUnit s m args below meth c 0 0 (XWq below args s D G ρ Post) D G ρ 8 3 [some (xR 0 0 0), some (xI x0), some (xI x1), some (xI x2), some (xI x3), some (xI x4), some (xR 26 0 0), none] [xI 0, xR 26 0 0] M
  refine xw_st0 hC (xs_aload_n (i := 0) dL_addUnit_3 rfl) ?_
  show XWW p l e rL_addUnit s m args below meth c 0 0 (XWq below args s D G ρ Post) D G ρ 8 4 [some (xR 0 0 0), some (xI x0), some (xI x1), some (xI x2), some (xI x3), some (xI x4), some (xR 26 0 0), none] [xR 0 0 0, xI 0, xR 26 0 0] M
  refine xw_st0 hC (xs_iload_n (i := 1) dL_addUnit_4 rfl) ?_
  show XWW p l e rL_addUnit s m args below meth c 0 0 (XWq below args s D G ρ Post) D G ρ 8 5 [some (xR 0 0 0), some (xI x0), some (xI x1), some (xI x2), some (xI x3), some (xI x4), some (xR 26 0 0), none] [xI x0, xR 0 0 0, xI 0, xR 26 0 0] M
  refine xw_st0 hC (xs_iload_n (i := 2) dL_addUnit_5 rfl) ?_
  show XWW p l e rL_addUnit s m args below meth c 0 0 (XWq below args s D G ρ Post) D G ρ 8 6 [some (xR 0 0 0), some (xI x0), some (xI x1), some (xI x2), some (xI x3), some (xI x4), some (xR 26 0 0), none] [xI x1, xI x0, xR 0 0 0, xI 0, xR 26 0 0] M
  refine xw_st0 hC (xs_iload_n (i := 3) dL_addUnit_6 rfl) ?_
  show XWW p l e rL_addUnit s m args below meth c 0 0 (XWq below args s D G ρ Post) D G ρ 8 7 [some (xR 0 0 0), some (xI x0), some (xI x1), some (xI x2), some (xI x3), some (xI x4), some (xR 26 0 0), none] [xI x2, xI x1, xI x0, xR 0 0 0, xI 0, xR 26 0 0] M
  refine xw_st0 hC (xs_iload dL_addUnit_7) ?_
  show XWW p l e rL_addUnit s m args below meth c 0 0 (XWq below args s D G ρ Post) D G ρ 8 9 [some (xR 0 0 0), some (xI x0), some (xI x1), some (xI x2), some (xI x3), some (xI x4), some (xR 26 0 0), none] [xI x3, xI x2, xI x1, xI x0, xR 0 0 0, xI 0, xR 26 0 0] M
  refine xw_st0 hC (xs_iload dL_addUnit_9) ?_
  show XWW p l e rL_addUnit s m args below meth c 0 0 (XWq below args s D G ρ Post) D G ρ 8 11 [some (xR 0 0 0), some (xI x0), some (xI x1), some (xI x2), some (xI x3), some (xI x4), some (xR 26 0 0), none] [xI x4, xI x3, xI x2, xI x1, xI x0, xR 0 0 0, xI 0, xR 26 0 0] M
  have hH : ∀ k ∈ ([3, 1, 2] : List Int), XHd RL 11 [(0, 16, 19, 21), (0, 16, 23, 13), (0, 16, 27, 15)] k ((fun k => if k = 3 then 19 else if k = 1 then 23 else 27 : Int → Nat) k) := by
    intro k hk
    simp only [List.mem_cons, List.not_mem_nil, or_false] at hk
    rcases hk with rfl | rfl | rfl
    · exact ⟨by decide, [], ⟨0, 16, 19, 21⟩, [⟨0, 16, 23, 13⟩, ⟨0, 16, 27, 15⟩], rfl, fun z hz => absurd hz List.not_mem_nil, by decide, by decide, tw_798, rfl⟩
    · exact ⟨by decide, [⟨0, 16, 19, 21⟩], ⟨0, 16, 23, 13⟩, [⟨0, 16, 27, 15⟩], rfl, by
        intro z hz
        simp only [List.mem_cons, List.not_mem_nil, or_false] at hz
        subst hz
        exact ⟨by decide, 3, by decide, by decide, tw_798⟩, by decide, by decide, tw_760, rfl⟩
    · exact ⟨by decide, [⟨0, 16, 19, 21⟩, ⟨0, 16, 23, 13⟩], ⟨0, 16, 27, 15⟩, [], rfl, by
        intro z hz
        simp only [List.mem_cons, List.not_mem_nil, or_false] at hz
        rcases hz with rfl | rfl
        · exact ⟨by decide, 3, by decide, by decide, tw_798⟩
        · exact ⟨by decide, 1, by decide, by decide, tw_760⟩, by decide, by decide, tw_761, rfl⟩
  refine xw_try (n := 5) (hh := [(0, 16, 19, 21), (0, 16, 23, 13), (0, 16, 27, 15)]) (As := [xI x0, xI x1, xI x2, xI x3, xI x4]) (st := [xI 0, xR 26 0 0]) (cd := [3, 1, 2]) (Post := Post) (hp := fun k => if k = 3 then 19 else if k = 1 then 23 else 27) kEX7_addUnit ⟨⟨rfl, rfl, by decide, by decide⟩, ⟨by decide, by decide, by decide +kernel⟩, ⟨tw_879, tw_880, tw_881, tw_1, tw_882⟩, TX7, _, rfl⟩ dL_addUnit_11 hC hZ hH rfl (by decide) h (fun v M1 hq => ?_) (fun k M1 hk hq => ?_)
  · refine xw_st1 hC h1 h6 (xs_i2lw dL_addUnit_14) ?_
    show XWW p l e rL_addUnit s m args below meth c 1 6 (XWq below args s D G ρ Post) D G ρ 8 15 [some (xR 0 0 0), some (xI x0), some (xI x1), some (xI x2), some (xI x3), some (xI x4), some (xR 26 0 0), none] [xJ (w32 v), xI 0, xR 26 0 0] M1
    refine xw_st1 hC h1 h6 (xs_last dL_addUnit_15) ⟨⟨rfl, rfl, rfl, rfl⟩, ?_⟩
    show XWW p l e rL_addUnit s m args below meth c 1 6 (XWq below args s D G ρ Post) D G ρ 8 16 [some (xR 0 0 0), some (xI x0), some (xI x1), some (xI x2), some (xI x3), some (xI x4), some (xR 26 0 0), none] [] (xup M1 26 0 0 0 (w32 v))
    refine xw_st1 hC h1 h6 (xs_goto (t := 31) dL_addUnit_16 (by decide)) ?_
    show XWW p l e rL_addUnit s m args below meth c 1 6 (XWq below args s D G ρ Post) D G ρ 8 31 [some (xR 0 0 0), some (xI x0), some (xI x1), some (xI x2), some (xI x3), some (xI x4), some (xR 26 0 0), none] [] (xup M1 26 0 0 0 (w32 v))
    refine xw_st1 hC h1 h6 (xs_iconst dL_addUnit_31) ?_
    show XWW p l e rL_addUnit s m args below meth c 1 6 (XWq below args s D G ρ Post) D G ρ 8 32 [some (xR 0 0 0), some (xI x0), some (xI x1), some (xI x2), some (xI x3), some (xI x4), some (xR 26 0 0), none] [xI 0] (xup M1 26 0 0 0 (w32 v))
    exact xw_iret ⟨hC.1, hC.2.1, hC.2.2.1, hC.2.2.2.1, hC.2.2.2.2.1, Nat.zero_le _, Nat.zero_le _⟩ hZ dL_addUnit_32 hq
  · simp only [List.mem_cons, List.not_mem_nil, or_false] at hk
    rcases hk with rfl | rfl | rfl
    · refine xw_ast hC dL_addUnit_19 (by decide) rfl (by
        intro j w hj hw
        have e : j = 6 := by omega
        subst e
        cases hw
        rfl) ?_
      show XWW p l e rL_addUnit s m args below meth c 1 6 (XWq below args s D G ρ Post) D G ρ 8 21 [some (xR 0 0 0), some (xI x0), some (xI x1), some (xI x2), some (xI x3), some (xI x4), some (xR 26 0 0), none] [] M1
      refine xw_st1 hC h1 h6 (xs_iconst dL_addUnit_21) ?_
      show XWW p l e rL_addUnit s m args below meth c 1 6 (XWq below args s D G ρ Post) D G ρ 8 22 [some (xR 0 0 0), some (xI x0), some (xI x1), some (xI x2), some (xI x3), some (xI x4), some (xR 26 0 0), none] [xI 1] M1
      exact xw_iret ⟨hC.1, hC.2.1, hC.2.2.1, hC.2.2.2.1, hC.2.2.2.2.1, Nat.zero_le _, Nat.zero_le _⟩ hZ dL_addUnit_22 hq
    · refine xw_ast hC dL_addUnit_23 (by decide) rfl (by
        intro j w hj hw
        have e : j = 6 := by omega
        subst e
        cases hw
        rfl) ?_
      show XWW p l e rL_addUnit s m args below meth c 1 6 (XWq below args s D G ρ Post) D G ρ 8 25 [some (xR 0 0 0), some (xI x0), some (xI x1), some (xI x2), some (xI x3), some (xI x4), some (xR 26 0 0), none] [] M1
      refine xw_st1 hC h1 h6 (xs_iconst dL_addUnit_25) ?_
      show XWW p l e rL_addUnit s m args below meth c 1 6 (XWq below args s D G ρ Post) D G ρ 8 26 [some (xR 0 0 0), some (xI x0), some (xI x1), some (xI x2), some (xI x3), some (xI x4), some (xR 26 0 0), none] [xI 2] M1
      exact xw_iret ⟨hC.1, hC.2.1, hC.2.2.1, hC.2.2.2.1, hC.2.2.2.2.1, Nat.zero_le _, Nat.zero_le _⟩ hZ dL_addUnit_26 hq
    · refine xw_ast hC dL_addUnit_27 (by decide) rfl (by
        intro j w hj hw
        have e : j = 6 := by omega
        subst e
        cases hw
        rfl) ?_
      show XWW p l e rL_addUnit s m args below meth c 1 6 (XWq below args s D G ρ Post) D G ρ 8 29 [some (xR 0 0 0), some (xI x0), some (xI x1), some (xI x2), some (xI x3), some (xI x4), some (xR 26 0 0), none] [] M1
      refine xw_st1 hC h1 h6 (xs_iconst dL_addUnit_29) ?_
      show XWW p l e rL_addUnit s m args below meth c 1 6 (XWq below args s D G ρ Post) D G ρ 8 30 [some (xR 0 0 0), some (xI x0), some (xI x1), some (xI x2), some (xI x3), some (xI x4), some (xR 26 0 0), none] [xI 3] M1
      exact xw_iret ⟨hC.1, hC.2.1, hC.2.2.1, hC.2.2.2.1, hC.2.2.2.2.1, Nat.zero_le _, Nat.zero_le _⟩ hZ dL_addUnit_30 hq
  )
/-- split -/
theorem twL_split : Cond.codeWith yL_split cL_split 6 (some .int) [(0, 12, 15, 21), (0, 12, 19, 13), (0, 12, 23, 15)] ∈ xT := xT_in 889 (by decide +kernel) rfl
abbrev wL_split : List Cond := Cond.codeWith yL_split cL_split 6 (some .int) [(0, 12, 15, 21), (0, 12, 19, 13), (0, 12, 23, 15)] :: xT
abbrev rL_split : Room := { frames := 8, cells := 1, slots := 6, locals := 149 }
def sL_split : XSp := fun av M Q => ∃ (x0 x1 x2 : Int), av = [xR 0 0 0, xI x0, xI x1, xI x2, xR 26 0 0] ∧ tEX7_split [xR 0 0 0, xI x0, xI x1, xI x2] M (LQ [3, 1, 2] Q)
set_option maxRecDepth 100000 in
theorem kL_split : XCw yL_split wL_split rL_split sL_split := XCw.of (hh := [(0, 12, 15, 21), (0, 12, 19, 13), (0, 12, 23, 15)]) ⟨rfl, rfl⟩ (by decide) rfl (fun av M Post h => by
    obtain ⟨x0, x1, x2, rfl, h⟩ := h
    simp [xen, xc1]) (fun av M Post h p l e s m args below meth c D G ρ hC hZ => by
  obtain ⟨x0, x1, x2, rfl, h⟩ := h
  have h1 := hZ.2.2.2.2.2.1
  have h6 := hZ.2.2.2.2.2.2
  show XWW p l e rL_split s m args below meth c 0 0 (XWq below args s D G ρ Post) D G ρ 6 0 [some (xR 0 0 0), some (xI x0), some (xI x1), some (xI x2), some (xR 26 0 0), none] [] M
  refine xw_st0 hC (xs_aload dL_split_0) ?_
  show XWW p l e rL_split s m args below meth c 0 0 (XWq below args s D G ρ Post) D G ρ 6 2 [some (xR 0 0 0), some (xI x0), some (xI x1), some (xI x2), some (xR 26 0 0), none] [xR 26 0 0] M
  refine xw_st0 hC (xs_iconst dL_split_2) ?_
  show XWW p l e rL_split s m args below meth c 0 0 (XWq below args s D G ρ Post) D G ρ 6 3 [some (xR 0 0 0), some (xI x0), some (xI x1), some (xI x2), some (xR 26 0 0), none] [xI 0, xR 26 0 0] M
  refine xw_st0 hC (xs_aload_n (i := 0) dL_split_3 rfl) ?_
  show XWW p l e rL_split s m args below meth c 0 0 (XWq below args s D G ρ Post) D G ρ 6 4 [some (xR 0 0 0), some (xI x0), some (xI x1), some (xI x2), some (xR 26 0 0), none] [xR 0 0 0, xI 0, xR 26 0 0] M
  refine xw_st0 hC (xs_iload_n (i := 1) dL_split_4 rfl) ?_
  show XWW p l e rL_split s m args below meth c 0 0 (XWq below args s D G ρ Post) D G ρ 6 5 [some (xR 0 0 0), some (xI x0), some (xI x1), some (xI x2), some (xR 26 0 0), none] [xI x0, xR 0 0 0, xI 0, xR 26 0 0] M
  refine xw_st0 hC (xs_iload_n (i := 2) dL_split_5 rfl) ?_
  show XWW p l e rL_split s m args below meth c 0 0 (XWq below args s D G ρ Post) D G ρ 6 6 [some (xR 0 0 0), some (xI x0), some (xI x1), some (xI x2), some (xR 26 0 0), none] [xI x1, xI x0, xR 0 0 0, xI 0, xR 26 0 0] M
  refine xw_st0 hC (xs_iload_n (i := 3) dL_split_6 rfl) ?_
  show XWW p l e rL_split s m args below meth c 0 0 (XWq below args s D G ρ Post) D G ρ 6 7 [some (xR 0 0 0), some (xI x0), some (xI x1), some (xI x2), some (xR 26 0 0), none] [xI x2, xI x1, xI x0, xR 0 0 0, xI 0, xR 26 0 0] M
  have hH : ∀ k ∈ ([3, 1, 2] : List Int), XHd RL 7 [(0, 12, 15, 21), (0, 12, 19, 13), (0, 12, 23, 15)] k ((fun k => if k = 3 then 15 else if k = 1 then 19 else 23 : Int → Nat) k) := by
    intro k hk
    simp only [List.mem_cons, List.not_mem_nil, or_false] at hk
    rcases hk with rfl | rfl | rfl
    · exact ⟨by decide, [], ⟨0, 12, 15, 21⟩, [⟨0, 12, 19, 13⟩, ⟨0, 12, 23, 15⟩], rfl, fun z hz => absurd hz List.not_mem_nil, by decide, by decide, tw_798, rfl⟩
    · exact ⟨by decide, [⟨0, 12, 15, 21⟩], ⟨0, 12, 19, 13⟩, [⟨0, 12, 23, 15⟩], rfl, by
        intro z hz
        simp only [List.mem_cons, List.not_mem_nil, or_false] at hz
        subst hz
        exact ⟨by decide, 3, by decide, by decide, tw_798⟩, by decide, by decide, tw_760, rfl⟩
    · exact ⟨by decide, [⟨0, 12, 15, 21⟩, ⟨0, 12, 19, 13⟩], ⟨0, 12, 23, 15⟩, [], rfl, by
        intro z hz
        simp only [List.mem_cons, List.not_mem_nil, or_false] at hz
        rcases hz with rfl | rfl
        · exact ⟨by decide, 3, by decide, by decide, tw_798⟩
        · exact ⟨by decide, 1, by decide, by decide, tw_760⟩, by decide, by decide, tw_761, rfl⟩
  refine xw_try (n := 3) (hh := [(0, 12, 15, 21), (0, 12, 19, 13), (0, 12, 23, 15)]) (As := [xI x0, xI x1, xI x2]) (st := [xI 0, xR 26 0 0]) (cd := [3, 1, 2]) (Post := Post) (hp := fun k => if k = 3 then 15 else if k = 1 then 19 else 23) kEX7_split ⟨⟨rfl, rfl, by decide, by decide⟩, ⟨by decide, by decide, by decide +kernel⟩, ⟨tw_890, tw_891, tw_892, tw_1, tw_893⟩, TX7, _, rfl⟩ dL_split_7 hC hZ hH rfl (by decide) h (fun v M1 hq => ?_) (fun k M1 hk hq => ?_)
  · refine xw_st1 hC h1 h6 (xs_i2lw dL_split_10) ?_
    show XWW p l e rL_split s m args below meth c 1 6 (XWq below args s D G ρ Post) D G ρ 6 11 [some (xR 0 0 0), some (xI x0), some (xI x1), some (xI x2), some (xR 26 0 0), none] [xJ (w32 v), xI 0, xR 26 0 0] M1
    refine xw_st1 hC h1 h6 (xs_last dL_split_11) ⟨⟨rfl, rfl, rfl, rfl⟩, ?_⟩
    show XWW p l e rL_split s m args below meth c 1 6 (XWq below args s D G ρ Post) D G ρ 6 12 [some (xR 0 0 0), some (xI x0), some (xI x1), some (xI x2), some (xR 26 0 0), none] [] (xup M1 26 0 0 0 (w32 v))
    refine xw_st1 hC h1 h6 (xs_goto (t := 27) dL_split_12 (by decide)) ?_
    show XWW p l e rL_split s m args below meth c 1 6 (XWq below args s D G ρ Post) D G ρ 6 27 [some (xR 0 0 0), some (xI x0), some (xI x1), some (xI x2), some (xR 26 0 0), none] [] (xup M1 26 0 0 0 (w32 v))
    refine xw_st1 hC h1 h6 (xs_iconst dL_split_27) ?_
    show XWW p l e rL_split s m args below meth c 1 6 (XWq below args s D G ρ Post) D G ρ 6 28 [some (xR 0 0 0), some (xI x0), some (xI x1), some (xI x2), some (xR 26 0 0), none] [xI 0] (xup M1 26 0 0 0 (w32 v))
    exact xw_iret ⟨hC.1, hC.2.1, hC.2.2.1, hC.2.2.2.1, hC.2.2.2.2.1, Nat.zero_le _, Nat.zero_le _⟩ hZ dL_split_28 hq
  · simp only [List.mem_cons, List.not_mem_nil, or_false] at hk
    rcases hk with rfl | rfl | rfl
    · refine xw_ast hC dL_split_15 (by decide) rfl (by
        intro j w hj hw
        have e : j = 4 := by omega
        subst e
        cases hw
        rfl) ?_
      show XWW p l e rL_split s m args below meth c 1 6 (XWq below args s D G ρ Post) D G ρ 6 17 [some (xR 0 0 0), some (xI x0), some (xI x1), some (xI x2), some (xR 26 0 0), none] [] M1
      refine xw_st1 hC h1 h6 (xs_iconst dL_split_17) ?_
      show XWW p l e rL_split s m args below meth c 1 6 (XWq below args s D G ρ Post) D G ρ 6 18 [some (xR 0 0 0), some (xI x0), some (xI x1), some (xI x2), some (xR 26 0 0), none] [xI 1] M1
      exact xw_iret ⟨hC.1, hC.2.1, hC.2.2.1, hC.2.2.2.1, hC.2.2.2.2.1, Nat.zero_le _, Nat.zero_le _⟩ hZ dL_split_18 hq
    · refine xw_ast hC dL_split_19 (by decide) rfl (by
        intro j w hj hw
        have e : j = 4 := by omega
        subst e
        cases hw
        rfl) ?_
      show XWW p l e rL_split s m args below meth c 1 6 (XWq below args s D G ρ Post) D G ρ 6 21 [some (xR 0 0 0), some (xI x0), some (xI x1), some (xI x2), some (xR 26 0 0), none] [] M1
      refine xw_st1 hC h1 h6 (xs_iconst dL_split_21) ?_
      show XWW p l e rL_split s m args below meth c 1 6 (XWq below args s D G ρ Post) D G ρ 6 22 [some (xR 0 0 0), some (xI x0), some (xI x1), some (xI x2), some (xR 26 0 0), none] [xI 2] M1
      exact xw_iret ⟨hC.1, hC.2.1, hC.2.2.1, hC.2.2.2.1, hC.2.2.2.2.1, Nat.zero_le _, Nat.zero_le _⟩ hZ dL_split_22 hq
    · refine xw_ast hC dL_split_23 (by decide) rfl (by
        intro j w hj hw
        have e : j = 4 := by omega
        subst e
        cases hw
        rfl) ?_
      show XWW p l e rL_split s m args below meth c 1 6 (XWq below args s D G ρ Post) D G ρ 6 25 [some (xR 0 0 0), some (xI x0), some (xI x1), some (xI x2), some (xR 26 0 0), none] [] M1
      refine xw_st1 hC h1 h6 (xs_iconst dL_split_25) ?_
      show XWW p l e rL_split s m args below meth c 1 6 (XWq below args s D G ρ Post) D G ρ 6 26 [some (xR 0 0 0), some (xI x0), some (xI x1), some (xI x2), some (xR 26 0 0), none] [xI 3] M1
      exact xw_iret ⟨hC.1, hC.2.1, hC.2.2.1, hC.2.2.2.1, hC.2.2.2.2.1, Nat.zero_le _, Nat.zero_le _⟩ hZ dL_split_26 hq
  )
/-- join -/
theorem twL_join : Cond.codeWith yL_join cL_join 5 (some .int) [(0, 10, 13, 21), (0, 10, 17, 13), (0, 10, 21, 15)] ∈ xT := xT_in 896 (by decide +kernel) rfl
abbrev wL_join : List Cond := Cond.codeWith yL_join cL_join 5 (some .int) [(0, 10, 13, 21), (0, 10, 17, 13), (0, 10, 21, 15)] :: xT
abbrev rL_join : Room := { frames := 8, cells := 1, slots := 6, locals := 149 }
def sL_join : XSp := fun av M Q => ∃ (x0 x1 : Int), av = [xR 0 0 0, xI x0, xI x1, xR 26 0 0] ∧ tEX7_join [xR 0 0 0, xI x0, xI x1] M (LQ [3, 1, 2] Q)
set_option maxRecDepth 100000 in
theorem kL_join : XCw yL_join wL_join rL_join sL_join := XCw.of (hh := [(0, 10, 13, 21), (0, 10, 17, 13), (0, 10, 21, 15)]) ⟨rfl, rfl⟩ (by decide) rfl (fun av M Post h => by
    obtain ⟨x0, x1, rfl, h⟩ := h
    simp [xen, xc1]) (fun av M Post h p l e s m args below meth c D G ρ hC hZ => by
  obtain ⟨x0, x1, rfl, h⟩ := h
  have h1 := hZ.2.2.2.2.2.1
  have h6 := hZ.2.2.2.2.2.2
  show XWW p l e rL_join s m args below meth c 0 0 (XWq below args s D G ρ Post) D G ρ 5 0 [some (xR 0 0 0), some (xI x0), some (xI x1), some (xR 26 0 0), none] [] M
  refine xw_st0 hC (xs_aload_n (i := 3) dL_join_0 rfl) ?_
  show XWW p l e rL_join s m args below meth c 0 0 (XWq below args s D G ρ Post) D G ρ 5 1 [some (xR 0 0 0), some (xI x0), some (xI x1), some (xR 26 0 0), none] [xR 26 0 0] M
  refine xw_st0 hC (xs_iconst dL_join_1) ?_
  show XWW p l e rL_join s m args below meth c 0 0 (XWq below args s D G ρ Post) D G ρ 5 2 [some (xR 0 0 0), some (xI x0), some (xI x1), some (xR 26 0 0), none] [xI 0, xR 26 0 0] M
  refine xw_st0 hC (xs_aload_n (i := 0) dL_join_2 rfl) ?_
  show XWW p l e rL_join s m args below meth c 0 0 (XWq below args s D G ρ Post) D G ρ 5 3 [some (xR 0 0 0), some (xI x0), some (xI x1), some (xR 26 0 0), none] [xR 0 0 0, xI 0, xR 26 0 0] M
  refine xw_st0 hC (xs_iload_n (i := 1) dL_join_3 rfl) ?_
  show XWW p l e rL_join s m args below meth c 0 0 (XWq below args s D G ρ Post) D G ρ 5 4 [some (xR 0 0 0), some (xI x0), some (xI x1), some (xR 26 0 0), none] [xI x0, xR 0 0 0, xI 0, xR 26 0 0] M
  refine xw_st0 hC (xs_iload_n (i := 2) dL_join_4 rfl) ?_
  show XWW p l e rL_join s m args below meth c 0 0 (XWq below args s D G ρ Post) D G ρ 5 5 [some (xR 0 0 0), some (xI x0), some (xI x1), some (xR 26 0 0), none] [xI x1, xI x0, xR 0 0 0, xI 0, xR 26 0 0] M
  have hH : ∀ k ∈ ([3, 1, 2] : List Int), XHd RL 5 [(0, 10, 13, 21), (0, 10, 17, 13), (0, 10, 21, 15)] k ((fun k => if k = 3 then 13 else if k = 1 then 17 else 21 : Int → Nat) k) := by
    intro k hk
    simp only [List.mem_cons, List.not_mem_nil, or_false] at hk
    rcases hk with rfl | rfl | rfl
    · exact ⟨by decide, [], ⟨0, 10, 13, 21⟩, [⟨0, 10, 17, 13⟩, ⟨0, 10, 21, 15⟩], rfl, fun z hz => absurd hz List.not_mem_nil, by decide, by decide, tw_798, rfl⟩
    · exact ⟨by decide, [⟨0, 10, 13, 21⟩], ⟨0, 10, 17, 13⟩, [⟨0, 10, 21, 15⟩], rfl, by
        intro z hz
        simp only [List.mem_cons, List.not_mem_nil, or_false] at hz
        subst hz
        exact ⟨by decide, 3, by decide, by decide, tw_798⟩, by decide, by decide, tw_760, rfl⟩
    · exact ⟨by decide, [⟨0, 10, 13, 21⟩, ⟨0, 10, 17, 13⟩], ⟨0, 10, 21, 15⟩, [], rfl, by
        intro z hz
        simp only [List.mem_cons, List.not_mem_nil, or_false] at hz
        rcases hz with rfl | rfl
        · exact ⟨by decide, 3, by decide, by decide, tw_798⟩
        · exact ⟨by decide, 1, by decide, by decide, tw_760⟩, by decide, by decide, tw_761, rfl⟩
  refine xw_try (n := 2) (hh := [(0, 10, 13, 21), (0, 10, 17, 13), (0, 10, 21, 15)]) (As := [xI x0, xI x1]) (st := [xI 0, xR 26 0 0]) (cd := [3, 1, 2]) (Post := Post) (hp := fun k => if k = 3 then 13 else if k = 1 then 17 else 21) kEX7_join ⟨⟨rfl, rfl, by decide, by decide⟩, ⟨by decide, by decide, by decide +kernel⟩, ⟨tw_897, tw_898, tw_899, tw_1, tw_900⟩, TX7, _, rfl⟩ dL_join_5 hC hZ hH rfl (by decide) h (fun v M1 hq => ?_) (fun k M1 hk hq => ?_)
  · refine xw_st1 hC h1 h6 (xs_i2lw dL_join_8) ?_
    show XWW p l e rL_join s m args below meth c 1 6 (XWq below args s D G ρ Post) D G ρ 5 9 [some (xR 0 0 0), some (xI x0), some (xI x1), some (xR 26 0 0), none] [xJ (w32 v), xI 0, xR 26 0 0] M1
    refine xw_st1 hC h1 h6 (xs_last dL_join_9) ⟨⟨rfl, rfl, rfl, rfl⟩, ?_⟩
    show XWW p l e rL_join s m args below meth c 1 6 (XWq below args s D G ρ Post) D G ρ 5 10 [some (xR 0 0 0), some (xI x0), some (xI x1), some (xR 26 0 0), none] [] (xup M1 26 0 0 0 (w32 v))
    refine xw_st1 hC h1 h6 (xs_goto (t := 25) dL_join_10 (by decide)) ?_
    show XWW p l e rL_join s m args below meth c 1 6 (XWq below args s D G ρ Post) D G ρ 5 25 [some (xR 0 0 0), some (xI x0), some (xI x1), some (xR 26 0 0), none] [] (xup M1 26 0 0 0 (w32 v))
    refine xw_st1 hC h1 h6 (xs_iconst dL_join_25) ?_
    show XWW p l e rL_join s m args below meth c 1 6 (XWq below args s D G ρ Post) D G ρ 5 26 [some (xR 0 0 0), some (xI x0), some (xI x1), some (xR 26 0 0), none] [xI 0] (xup M1 26 0 0 0 (w32 v))
    exact xw_iret ⟨hC.1, hC.2.1, hC.2.2.1, hC.2.2.2.1, hC.2.2.2.2.1, Nat.zero_le _, Nat.zero_le _⟩ hZ dL_join_26 hq
  · simp only [List.mem_cons, List.not_mem_nil, or_false] at hk
    rcases hk with rfl | rfl | rfl
    · refine xw_ast hC dL_join_13 (by decide) rfl (by
        intro j w hj hw
        have e : j = 3 := by omega
        subst e
        cases hw
        rfl) ?_
      show XWW p l e rL_join s m args below meth c 1 6 (XWq below args s D G ρ Post) D G ρ 5 15 [some (xR 0 0 0), some (xI x0), some (xI x1), some (xR 26 0 0), none] [] M1
      refine xw_st1 hC h1 h6 (xs_iconst dL_join_15) ?_
      show XWW p l e rL_join s m args below meth c 1 6 (XWq below args s D G ρ Post) D G ρ 5 16 [some (xR 0 0 0), some (xI x0), some (xI x1), some (xR 26 0 0), none] [xI 1] M1
      exact xw_iret ⟨hC.1, hC.2.1, hC.2.2.1, hC.2.2.2.1, hC.2.2.2.2.1, Nat.zero_le _, Nat.zero_le _⟩ hZ dL_join_16 hq
    · refine xw_ast hC dL_join_17 (by decide) rfl (by
        intro j w hj hw
        have e : j = 3 := by omega
        subst e
        cases hw
        rfl) ?_
      show XWW p l e rL_join s m args below meth c 1 6 (XWq below args s D G ρ Post) D G ρ 5 19 [some (xR 0 0 0), some (xI x0), some (xI x1), some (xR 26 0 0), none] [] M1
      refine xw_st1 hC h1 h6 (xs_iconst dL_join_19) ?_
      show XWW p l e rL_join s m args below meth c 1 6 (XWq below args s D G ρ Post) D G ρ 5 20 [some (xR 0 0 0), some (xI x0), some (xI x1), some (xR 26 0 0), none] [xI 2] M1
      exact xw_iret ⟨hC.1, hC.2.1, hC.2.2.1, hC.2.2.2.1, hC.2.2.2.2.1, Nat.zero_le _, Nat.zero_le _⟩ hZ dL_join_20 hq
    · refine xw_ast hC dL_join_21 (by decide) rfl (by
        intro j w hj hw
        have e : j = 3 := by omega
        subst e
        cases hw
        rfl) ?_
      show XWW p l e rL_join s m args below meth c 1 6 (XWq below args s D G ρ Post) D G ρ 5 23 [some (xR 0 0 0), some (xI x0), some (xI x1), some (xR 26 0 0), none] [] M1
      refine xw_st1 hC h1 h6 (xs_iconst dL_join_23) ?_
      show XWW p l e rL_join s m args below meth c 1 6 (XWq below args s D G ρ Post) D G ρ 5 24 [some (xR 0 0 0), some (xI x0), some (xI x1), some (xR 26 0 0), none] [xI 3] M1
      exact xw_iret ⟨hC.1, hC.2.1, hC.2.2.1, hC.2.2.2.1, hC.2.2.2.2.1, Nat.zero_le _, Nat.zero_le _⟩ hZ dL_join_24 hq
  )
/-- move -/
theorem twL_move : Cond.codeWith yL_move cL_move 5 (some .int) [(0, 10, 13, 21), (0, 10, 17, 15)] ∈ xT := xT_in 913 (by decide +kernel) rfl
abbrev wL_move : List Cond := Cond.codeWith yL_move cL_move 5 (some .int) [(0, 10, 13, 21), (0, 10, 17, 15)] :: xT
abbrev rL_move : Room := { frames := 8, cells := 1, slots := 6, locals := 149 }
def sL_move : XSp := fun av M Q => ∃ (x0 x1 : Int), av = [xR 0 0 0, xI x0, xI x1, xR 26 0 0] ∧ tEX7_move [xR 0 0 0, xI x0, xI x1] M (LQ [3, 2] Q)
set_option maxRecDepth 100000 in
theorem kL_move : XCw yL_move wL_move rL_move sL_move := XCw.of (hh := [(0, 10, 13, 21), (0, 10, 17, 15)]) ⟨rfl, rfl⟩ (by decide) rfl (fun av M Post h => by
    obtain ⟨x0, x1, rfl, h⟩ := h
    simp [xen, xc1]) (fun av M Post h p l e s m args below meth c D G ρ hC hZ => by
  obtain ⟨x0, x1, rfl, h⟩ := h
  have h1 := hZ.2.2.2.2.2.1
  have h6 := hZ.2.2.2.2.2.2
  show XWW p l e rL_move s m args below meth c 0 0 (XWq below args s D G ρ Post) D G ρ 5 0 [some (xR 0 0 0), some (xI x0), some (xI x1), some (xR 26 0 0), none] [] M
  refine xw_st0 hC (xs_aload_n (i := 3) dL_move_0 rfl) ?_
  show XWW p l e rL_move s m args below meth c 0 0 (XWq below args s D G ρ Post) D G ρ 5 1 [some (xR 0 0 0), some (xI x0), some (xI x1), some (xR 26 0 0), none] [xR 26 0 0] M
  refine xw_st0 hC (xs_iconst dL_move_1) ?_
  show XWW p l e rL_move s m args below meth c 0 0 (XWq below args s D G ρ Post) D G ρ 5 2 [some (xR 0 0 0), some (xI x0), some (xI x1), some (xR 26 0 0), none] [xI 0, xR 26 0 0] M
  refine xw_st0 hC (xs_aload_n (i := 0) dL_move_2 rfl) ?_
  show XWW p l e rL_move s m args below meth c 0 0 (XWq below args s D G ρ Post) D G ρ 5 3 [some (xR 0 0 0), some (xI x0), some (xI x1), some (xR 26 0 0), none] [xR 0 0 0, xI 0, xR 26 0 0] M
  refine xw_st0 hC (xs_iload_n (i := 1) dL_move_3 rfl) ?_
  show XWW p l e rL_move s m args below meth c 0 0 (XWq below args s D G ρ Post) D G ρ 5 4 [some (xR 0 0 0), some (xI x0), some (xI x1), some (xR 26 0 0), none] [xI x0, xR 0 0 0, xI 0, xR 26 0 0] M
  refine xw_st0 hC (xs_iload_n (i := 2) dL_move_4 rfl) ?_
  show XWW p l e rL_move s m args below meth c 0 0 (XWq below args s D G ρ Post) D G ρ 5 5 [some (xR 0 0 0), some (xI x0), some (xI x1), some (xR 26 0 0), none] [xI x1, xI x0, xR 0 0 0, xI 0, xR 26 0 0] M
  have hH : ∀ k ∈ ([3, 2] : List Int), XHd RL 5 [(0, 10, 13, 21), (0, 10, 17, 15)] k ((fun k => if k = 3 then 13 else 17 : Int → Nat) k) := by
    intro k hk
    simp only [List.mem_cons, List.not_mem_nil, or_false] at hk
    rcases hk with rfl | rfl
    · exact ⟨by decide, [], ⟨0, 10, 13, 21⟩, [⟨0, 10, 17, 15⟩], rfl, fun z hz => absurd hz List.not_mem_nil, by decide, by decide, tw_798, rfl⟩
    · exact ⟨by decide, [⟨0, 10, 13, 21⟩], ⟨0, 10, 17, 15⟩, [], rfl, by
        intro z hz
        simp only [List.mem_cons, List.not_mem_nil, or_false] at hz
        subst hz
        exact ⟨by decide, 3, by decide, by decide, tw_798⟩, by decide, by decide, tw_761, rfl⟩
  refine xw_try (n := 2) (hh := [(0, 10, 13, 21), (0, 10, 17, 15)]) (As := [xI x0, xI x1]) (st := [xI 0, xR 26 0 0]) (cd := [3, 2]) (Post := Post) (hp := fun k => if k = 3 then 13 else 17) kEX7_move ⟨⟨rfl, rfl, by decide, by decide⟩, ⟨by decide, by decide, by decide +kernel⟩, ⟨tw_914, tw_915, tw_916, tw_1, tw_917⟩, TX7, _, rfl⟩ dL_move_5 hC hZ hH rfl (by decide) h (fun v M1 hq => ?_) (fun k M1 hk hq => ?_)
  · refine xw_st1 hC h1 h6 (xs_i2lw dL_move_8) ?_
    show XWW p l e rL_move s m args below meth c 1 6 (XWq below args s D G ρ Post) D G ρ 5 9 [some (xR 0 0 0), some (xI x0), some (xI x1), some (xR 26 0 0), none] [xJ (w32 v), xI 0, xR 26 0 0] M1
    refine xw_st1 hC h1 h6 (xs_last dL_move_9) ⟨⟨rfl, rfl, rfl, rfl⟩, ?_⟩
    show XWW p l e rL_move s m args below meth c 1 6 (XWq below args s D G ρ Post) D G ρ 5 10 [some (xR 0 0 0), some (xI x0), some (xI x1), some (xR 26 0 0), none] [] (xup M1 26 0 0 0 (w32 v))
    refine xw_st1 hC h1 h6 (xs_goto (t := 21) dL_move_10 (by decide)) ?_
    show XWW p l e rL_move s m args below meth c 1 6 (XWq below args s D G ρ Post) D G ρ 5 21 [some (xR 0 0 0), some (xI x0), some (xI x1), some (xR 26 0 0), none] [] (xup M1 26 0 0 0 (w32 v))
    refine xw_st1 hC h1 h6 (xs_iconst dL_move_21) ?_
    show XWW p l e rL_move s m args below meth c 1 6 (XWq below args s D G ρ Post) D G ρ 5 22 [some (xR 0 0 0), some (xI x0), some (xI x1), some (xR 26 0 0), none] [xI 0] (xup M1 26 0 0 0 (w32 v))
    exact xw_iret ⟨hC.1, hC.2.1, hC.2.2.1, hC.2.2.2.1, hC.2.2.2.2.1, Nat.zero_le _, Nat.zero_le _⟩ hZ dL_move_22 hq
  · simp only [List.mem_cons, List.not_mem_nil, or_false] at hk
    rcases hk with rfl | rfl
    · refine xw_ast hC dL_move_13 (by decide) rfl (by
        intro j w hj hw
        have e : j = 3 := by omega
        subst e
        cases hw
        rfl) ?_
      show XWW p l e rL_move s m args below meth c 1 6 (XWq below args s D G ρ Post) D G ρ 5 15 [some (xR 0 0 0), some (xI x0), some (xI x1), some (xR 26 0 0), none] [] M1
      refine xw_st1 hC h1 h6 (xs_iconst dL_move_15) ?_
      show XWW p l e rL_move s m args below meth c 1 6 (XWq below args s D G ρ Post) D G ρ 5 16 [some (xR 0 0 0), some (xI x0), some (xI x1), some (xR 26 0 0), none] [xI 1] M1
      exact xw_iret ⟨hC.1, hC.2.1, hC.2.2.1, hC.2.2.2.1, hC.2.2.2.2.1, Nat.zero_le _, Nat.zero_le _⟩ hZ dL_move_16 hq
    · refine xw_ast hC dL_move_17 (by decide) rfl (by
        intro j w hj hw
        have e : j = 3 := by omega
        subst e
        cases hw
        rfl) ?_
      show XWW p l e rL_move s m args below meth c 1 6 (XWq below args s D G ρ Post) D G ρ 5 19 [some (xR 0 0 0), some (xI x0), some (xI x1), some (xR 26 0 0), none] [] M1
      refine xw_st1 hC h1 h6 (xs_iconst dL_move_19) ?_
      show XWW p l e rL_move s m args below meth c 1 6 (XWq below args s D G ρ Post) D G ρ 5 20 [some (xR 0 0 0), some (xI x0), some (xI x1), some (xR 26 0 0), none] [xI 2] M1
      exact xw_iret ⟨hC.1, hC.2.1, hC.2.2.1, hC.2.2.2.1, hC.2.2.2.2.1, Nat.zero_le _, Nat.zero_le _⟩ hZ dL_move_20 hq
  )
/-- wrap -/
theorem twL_wrap : Cond.codeWith yL_wrap cL_wrap 4 (some .int) [(0, 9, 12, 21), (0, 9, 15, 15)] ∈ xT := xT_in 920 (by decide +kernel) rfl
abbrev wL_wrap : List Cond := Cond.codeWith yL_wrap cL_wrap 4 (some .int) [(0, 9, 12, 21), (0, 9, 15, 15)] :: xT
abbrev rL_wrap : Room := { frames := 8, cells := 1, slots := 6, locals := 147 }
def sL_wrap : XSp := fun av M Q => ∃ (x0 : Int), av = [xR 0 0 0, xI x0, xR 26 0 0] ∧ tEX7_wrap [xR 0 0 0, xI x0] M (LQ [3, 2] Q)
set_option maxRecDepth 100000 in
theorem kL_wrap : XCw yL_wrap wL_wrap rL_wrap sL_wrap := XCw.of (hh := [(0, 9, 12, 21), (0, 9, 15, 15)]) ⟨rfl, rfl⟩ (by decide) rfl (fun av M Post h => by
    obtain ⟨x0, rfl, h⟩ := h
    simp [xen, xc1]) (fun av M Post h p l e s m args below meth c D G ρ hC hZ => by
  obtain ⟨x0, rfl, h⟩ := h
  have h1 := hZ.2.2.2.2.2.1
  have h6 := hZ.2.2.2.2.2.2
  show XWW p l e rL_wrap s m args below meth c 0 0 (XWq below args s D G ρ Post) D G ρ 4 0 [some (xR 0 0 0), some (xI x0), some (xR 26 0 0), none] [] M
  refine xw_st0 hC (xs_aload_n (i := 2) dL_wrap_0 rfl) ?_
  show XWW p l e rL_wrap s m args below meth c 0 0 (XWq below args s D G ρ Post) D G ρ 4 1 [some (xR 0 0 0), some (xI x0), some (xR 26 0 0), none] [xR 26 0 0] M
  refine xw_st0 hC (xs_iconst dL_wrap_1) ?_
  show XWW p l e rL_wrap s m args below meth c 0 0 (XWq below args s D G ρ Post) D G ρ 4 2 [some (xR 0 0 0), some (xI x0), some (xR 26 0 0), none] [xI 0, xR 26 0 0] M
  refine xw_st0 hC (xs_aload_n (i := 0) dL_wrap_2 rfl) ?_
  show XWW p l e rL_wrap s m args below meth c 0 0 (XWq below args s D G ρ Post) D G ρ 4 3 [some (xR 0 0 0), some (xI x0), some (xR 26 0 0), none] [xR 0 0 0, xI 0, xR 26 0 0] M
  refine xw_st0 hC (xs_iload_n (i := 1) dL_wrap_3 rfl) ?_
  show XWW p l e rL_wrap s m args below meth c 0 0 (XWq below args s D G ρ Post) D G ρ 4 4 [some (xR 0 0 0), some (xI x0), some (xR 26 0 0), none] [xI x0, xR 0 0 0, xI 0, xR 26 0 0] M
  have hH : ∀ k ∈ ([3, 2] : List Int), XHd RL 4 [(0, 9, 12, 21), (0, 9, 15, 15)] k ((fun k => if k = 3 then 12 else 15 : Int → Nat) k) := by
    intro k hk
    simp only [List.mem_cons, List.not_mem_nil, or_false] at hk
    rcases hk with rfl | rfl
    · exact ⟨by decide, [], ⟨0, 9, 12, 21⟩, [⟨0, 9, 15, 15⟩], rfl, fun z hz => absurd hz List.not_mem_nil, by decide, by decide, tw_798, rfl⟩
    · exact ⟨by decide, [⟨0, 9, 12, 21⟩], ⟨0, 9, 15, 15⟩, [], rfl, by
        intro z hz
        simp only [List.mem_cons, List.not_mem_nil, or_false] at hz
        subst hz
        exact ⟨by decide, 3, by decide, by decide, tw_798⟩, by decide, by decide, tw_761, rfl⟩
  refine xw_try (n := 1) (hh := [(0, 9, 12, 21), (0, 9, 15, 15)]) (As := [xI x0]) (st := [xI 0, xR 26 0 0]) (cd := [3, 2]) (Post := Post) (hp := fun k => if k = 3 then 12 else 15) kEX7_wrap ⟨⟨rfl, rfl, by decide, by decide⟩, ⟨by decide, by decide, by decide +kernel⟩, ⟨tw_921, tw_922, tw_923, tw_1, tw_924⟩, TX7, _, rfl⟩ dL_wrap_4 hC hZ hH rfl (by decide) h (fun v M1 hq => ?_) (fun k M1 hk hq => ?_)
  · refine xw_st1 hC h1 h6 (xs_i2lw dL_wrap_7) ?_
    show XWW p l e rL_wrap s m args below meth c 1 6 (XWq below args s D G ρ Post) D G ρ 4 8 [some (xR 0 0 0), some (xI x0), some (xR 26 0 0), none] [xJ (w32 v), xI 0, xR 26 0 0] M1
    refine xw_st1 hC h1 h6 (xs_last dL_wrap_8) ⟨⟨rfl, rfl, rfl, rfl⟩, ?_⟩
    show XWW p l e rL_wrap s m args below meth c 1 6 (XWq below args s D G ρ Post) D G ρ 4 9 [some (xR 0 0 0), some (xI x0), some (xR 26 0 0), none] [] (xup M1 26 0 0 0 (w32 v))
    refine xw_st1 hC h1 h6 (xs_goto (t := 18) dL_wrap_9 (by decide)) ?_
    show XWW p l e rL_wrap s m args below meth c 1 6 (XWq below args s D G ρ Post) D G ρ 4 18 [some (xR 0 0 0), some (xI x0), some (xR 26 0 0), none] [] (xup M1 26 0 0 0 (w32 v))
    refine xw_st1 hC h1 h6 (xs_iconst dL_wrap_18) ?_
    show XWW p l e rL_wrap s m args below meth c 1 6 (XWq below args s D G ρ Post) D G ρ 4 19 [some (xR 0 0 0), some (xI x0), some (xR 26 0 0), none] [xI 0] (xup M1 26 0 0 0 (w32 v))
    exact xw_iret ⟨hC.1, hC.2.1, hC.2.2.1, hC.2.2.2.1, hC.2.2.2.2.1, Nat.zero_le _, Nat.zero_le _⟩ hZ dL_wrap_19 hq
  · simp only [List.mem_cons, List.not_mem_nil, or_false] at hk
    rcases hk with rfl | rfl
    · refine xw_astn (i := 3) hC dL_wrap_12 rfl (by decide) rfl (by
        intro j w hj hw
        have e : j = 2 := by omega
        subst e
        cases hw
        rfl) ?_
      show XWW p l e rL_wrap s m args below meth c 1 6 (XWq below args s D G ρ Post) D G ρ 4 13 [some (xR 0 0 0), some (xI x0), some (xR 26 0 0), none] [] M1
      refine xw_st1 hC h1 h6 (xs_iconst dL_wrap_13) ?_
      show XWW p l e rL_wrap s m args below meth c 1 6 (XWq below args s D G ρ Post) D G ρ 4 14 [some (xR 0 0 0), some (xI x0), some (xR 26 0 0), none] [xI 1] M1
      exact xw_iret ⟨hC.1, hC.2.1, hC.2.2.1, hC.2.2.2.1, hC.2.2.2.2.1, Nat.zero_le _, Nat.zero_le _⟩ hZ dL_wrap_14 hq
    · refine xw_astn (i := 3) hC dL_wrap_15 rfl (by decide) rfl (by
        intro j w hj hw
        have e : j = 2 := by omega
        subst e
        cases hw
        rfl) ?_
      show XWW p l e rL_wrap s m args below meth c 1 6 (XWq below args s D G ρ Post) D G ρ 4 16 [some (xR 0 0 0), some (xI x0), some (xR 26 0 0), none] [] M1
      refine xw_st1 hC h1 h6 (xs_iconst dL_wrap_16) ?_
      show XWW p l e rL_wrap s m args below meth c 1 6 (XWq below args s D G ρ Post) D G ρ 4 17 [some (xR 0 0 0), some (xI x0), some (xR 26 0 0), none] [xI 2] M1
      exact xw_iret ⟨hC.1, hC.2.1, hC.2.2.1, hC.2.2.2.1, hC.2.2.2.2.1, Nat.zero_le _, Nat.zero_le _⟩ hZ dL_wrap_17 hq
  )
/-- pass -/
theorem twL_pass : Cond.codeWith yL_pass cL_pass 4 (some .int) [(0, 9, 12, 13), (0, 9, 15, 15)] ∈ xT := xT_in 928 (by decide +kernel) rfl
abbrev wL_pass : List Cond := Cond.codeWith yL_pass cL_pass 4 (some .int) [(0, 9, 12, 13), (0, 9, 15, 15)] :: xT
abbrev rL_pass : Room := { frames := 8, cells := 1, slots := 6, locals := 164 }
def sL_pass : XSp := fun av M Q => ∃ (x0 : Int), av = [xR 0 0 0, xI x0, xR 26 0 0] ∧ tEX7_pass [xR 0 0 0, xI x0] M (LQ [1, 2] Q)
set_option maxRecDepth 100000 in
theorem kL_pass : XCw yL_pass wL_pass rL_pass sL_pass := XCw.of (hh := [(0, 9, 12, 13), (0, 9, 15, 15)]) ⟨rfl, rfl⟩ (by decide) rfl (fun av M Post h => by
    obtain ⟨x0, rfl, h⟩ := h
    simp [xen, xc1]) (fun av M Post h p l e s m args below meth c D G ρ hC hZ => by
  obtain ⟨x0, rfl, h⟩ := h
  have h1 := hZ.2.2.2.2.2.1
  have h6 := hZ.2.2.2.2.2.2
  show XWW p l e rL_pass s m args below meth c 0 0 (XWq below args s D G ρ Post) D G ρ 4 0 [some (xR 0 0 0), some (xI x0), some (xR 26 0 0), none] [] M
  refine xw_st0 hC (xs_aload_n (i := 2) dL_pass_0 rfl) ?_
  show XWW p l e rL_pass s m args below meth c 0 0 (XWq below args s D G ρ Post) D G ρ 4 1 [some (xR 0 0 0), some (xI x0), some (xR 26 0 0), none] [xR 26 0 0] M
  refine xw_st0 hC (xs_iconst dL_pass_1) ?_
  show XWW p l e rL_pass s m args below meth c 0 0 (XWq below args s D G ρ Post) D G ρ 4 2 [some (xR 0 0 0), some (xI x0), some (xR 26 0 0), none] [xI 0, xR 26 0 0] M
  refine xw_st0 hC (xs_aload_n (i := 0) dL_pass_2 rfl) ?_
  show XWW p l e rL_pass s m args below meth c 0 0 (XWq below args s D G ρ Post) D G ρ 4 3 [some (xR 0 0 0), some (xI x0), some (xR 26 0 0), none] [xR 0 0 0, xI 0, xR 26 0 0] M
  refine xw_st0 hC (xs_iload_n (i := 1) dL_pass_3 rfl) ?_
  show XWW p l e rL_pass s m args below meth c 0 0 (XWq below args s D G ρ Post) D G ρ 4 4 [some (xR 0 0 0), some (xI x0), some (xR 26 0 0), none] [xI x0, xR 0 0 0, xI 0, xR 26 0 0] M
  have hH : ∀ k ∈ ([1, 2] : List Int), XHd RL 4 [(0, 9, 12, 13), (0, 9, 15, 15)] k ((fun k => if k = 1 then 12 else 15 : Int → Nat) k) := by
    intro k hk
    simp only [List.mem_cons, List.not_mem_nil, or_false] at hk
    rcases hk with rfl | rfl
    · exact ⟨by decide, [], ⟨0, 9, 12, 13⟩, [⟨0, 9, 15, 15⟩], rfl, fun z hz => absurd hz List.not_mem_nil, by decide, by decide, tw_760, rfl⟩
    · exact ⟨by decide, [⟨0, 9, 12, 13⟩], ⟨0, 9, 15, 15⟩, [], rfl, by
        intro z hz
        simp only [List.mem_cons, List.not_mem_nil, or_false] at hz
        subst hz
        exact ⟨by decide, 1, by decide, by decide, tw_760⟩, by decide, by decide, tw_761, rfl⟩
  refine xw_try (n := 1) (hh := [(0, 9, 12, 13), (0, 9, 15, 15)]) (As := [xI x0]) (st := [xI 0, xR 26 0 0]) (cd := [1, 2]) (Post := Post) (hp := fun k => if k = 1 then 12 else 15) kEX7_pass ⟨⟨rfl, rfl, by decide, by decide⟩, ⟨by decide, by decide, by decide +kernel⟩, ⟨tw_929, tw_930, tw_931, tw_1, tw_932⟩, TX7, _, rfl⟩ dL_pass_4 hC hZ hH rfl (by decide) h (fun v M1 hq => ?_) (fun k M1 hk hq => ?_)
  · refine xw_st1 hC h1 h6 (xs_i2lw dL_pass_7) ?_
    show XWW p l e rL_pass s m args below meth c 1 6 (XWq below args s D G ρ Post) D G ρ 4 8 [some (xR 0 0 0), some (xI x0), some (xR 26 0 0), none] [xJ (w32 v), xI 0, xR 26 0 0] M1
    refine xw_st1 hC h1 h6 (xs_last dL_pass_8) ⟨⟨rfl, rfl, rfl, rfl⟩, ?_⟩
    show XWW p l e rL_pass s m args below meth c 1 6 (XWq below args s D G ρ Post) D G ρ 4 9 [some (xR 0 0 0), some (xI x0), some (xR 26 0 0), none] [] (xup M1 26 0 0 0 (w32 v))
    refine xw_st1 hC h1 h6 (xs_goto (t := 18) dL_pass_9 (by decide)) ?_
    show XWW p l e rL_pass s m args below meth c 1 6 (XWq below args s D G ρ Post) D G ρ 4 18 [some (xR 0 0 0), some (xI x0), some (xR 26 0 0), none] [] (xup M1 26 0 0 0 (w32 v))
    refine xw_st1 hC h1 h6 (xs_iconst dL_pass_18) ?_
    show XWW p l e rL_pass s m args below meth c 1 6 (XWq below args s D G ρ Post) D G ρ 4 19 [some (xR 0 0 0), some (xI x0), some (xR 26 0 0), none] [xI 0] (xup M1 26 0 0 0 (w32 v))
    exact xw_iret ⟨hC.1, hC.2.1, hC.2.2.1, hC.2.2.2.1, hC.2.2.2.2.1, Nat.zero_le _, Nat.zero_le _⟩ hZ dL_pass_19 hq
  · simp only [List.mem_cons, List.not_mem_nil, or_false] at hk
    rcases hk with rfl | rfl
    · refine xw_astn (i := 3) hC dL_pass_12 rfl (by decide) rfl (by
        intro j w hj hw
        have e : j = 2 := by omega
        subst e
        cases hw
        rfl) ?_
      show XWW p l e rL_pass s m args below meth c 1 6 (XWq below args s D G ρ Post) D G ρ 4 13 [some (xR 0 0 0), some (xI x0), some (xR 26 0 0), none] [] M1
      refine xw_st1 hC h1 h6 (xs_iconst dL_pass_13) ?_
      show XWW p l e rL_pass s m args below meth c 1 6 (XWq below args s D G ρ Post) D G ρ 4 14 [some (xR 0 0 0), some (xI x0), some (xR 26 0 0), none] [xI 1] M1
      exact xw_iret ⟨hC.1, hC.2.1, hC.2.2.1, hC.2.2.2.1, hC.2.2.2.2.1, Nat.zero_le _, Nat.zero_le _⟩ hZ dL_pass_14 hq
    · refine xw_astn (i := 3) hC dL_pass_15 rfl (by decide) rfl (by
        intro j w hj hw
        have e : j = 2 := by omega
        subst e
        cases hw
        rfl) ?_
      show XWW p l e rL_pass s m args below meth c 1 6 (XWq below args s D G ρ Post) D G ρ 4 16 [some (xR 0 0 0), some (xI x0), some (xR 26 0 0), none] [] M1
      refine xw_st1 hC h1 h6 (xs_iconst dL_pass_16) ?_
      show XWW p l e rL_pass s m args below meth c 1 6 (XWq below args s D G ρ Post) D G ρ 4 17 [some (xR 0 0 0), some (xI x0), some (xR 26 0 0), none] [xI 2] M1
      exact xw_iret ⟨hC.1, hC.2.1, hC.2.2.1, hC.2.2.2.1, hC.2.2.2.2.1, Nat.zero_le _, Nat.zero_le _⟩ hZ dL_pass_17 hq
  )
/-- append -/
theorem twL_append : Cond.codeWith yL_append cL_append 4 (some .int) [(0, 9, 12, 13), (0, 9, 15, 15)] ∈ xT := xT_in 935 (by decide +kernel) rfl
abbrev wL_append : List Cond := Cond.codeWith yL_append cL_append 4 (some .int) [(0, 9, 12, 13), (0, 9, 15, 15)] :: xT
abbrev rL_append : Room := { frames := 8, cells := 1, slots := 6, locals := 125 }
def sL_append : XSp := fun av M Q => ∃ (x0 : Int), av = [xR 0 0 0, xI x0, xR 26 0 0] ∧ tEX7_append [xR 0 0 0, xI x0] M (LQ [1, 2] Q)
set_option maxRecDepth 100000 in
theorem kL_append : XCw yL_append wL_append rL_append sL_append := XCw.of (hh := [(0, 9, 12, 13), (0, 9, 15, 15)]) ⟨rfl, rfl⟩ (by decide) rfl (fun av M Post h => by
    obtain ⟨x0, rfl, h⟩ := h
    simp [xen, xc1]) (fun av M Post h p l e s m args below meth c D G ρ hC hZ => by
  obtain ⟨x0, rfl, h⟩ := h
  have h1 := hZ.2.2.2.2.2.1
  have h6 := hZ.2.2.2.2.2.2
  show XWW p l e rL_append s m args below meth c 0 0 (XWq below args s D G ρ Post) D G ρ 4 0 [some (xR 0 0 0), some (xI x0), some (xR 26 0 0), none] [] M
  refine xw_st0 hC (xs_aload_n (i := 2) dL_append_0 rfl) ?_
  show XWW p l e rL_append s m args below meth c 0 0 (XWq below args s D G ρ Post) D G ρ 4 1 [some (xR 0 0 0), some (xI x0), some (xR 26 0 0), none] [xR 26 0 0] M
  refine xw_st0 hC (xs_iconst dL_append_1) ?_
  show XWW p l e rL_append s m args below meth c 0 0 (XWq below args s D G ρ Post) D G ρ 4 2 [some (xR 0 0 0), some (xI x0), some (xR 26 0 0), none] [xI 0, xR 26 0 0] M
  refine xw_st0 hC (xs_aload_n (i := 0) dL_append_2 rfl) ?_
  show XWW p l e rL_append s m args below meth c 0 0 (XWq below args s D G ρ Post) D G ρ 4 3 [some (xR 0 0 0), some (xI x0), some (xR 26 0 0), none] [xR 0 0 0, xI 0, xR 26 0 0] M
  refine xw_st0 hC (xs_iload_n (i := 1) dL_append_3 rfl) ?_
  show XWW p l e rL_append s m args below meth c 0 0 (XWq below args s D G ρ Post) D G ρ 4 4 [some (xR 0 0 0), some (xI x0), some (xR 26 0 0), none] [xI x0, xR 0 0 0, xI 0, xR 26 0 0] M
  have hH : ∀ k ∈ ([1, 2] : List Int), XHd RL 4 [(0, 9, 12, 13), (0, 9, 15, 15)] k ((fun k => if k = 1 then 12 else 15 : Int → Nat) k) := by
    intro k hk
    simp only [List.mem_cons, List.not_mem_nil, or_false] at hk
    rcases hk with rfl | rfl
    · exact ⟨by decide, [], ⟨0, 9, 12, 13⟩, [⟨0, 9, 15, 15⟩], rfl, fun z hz => absurd hz List.not_mem_nil, by decide, by decide, tw_760, rfl⟩
    · exact ⟨by decide, [⟨0, 9, 12, 13⟩], ⟨0, 9, 15, 15⟩, [], rfl, by
        intro z hz
        simp only [List.mem_cons, List.not_mem_nil, or_false] at hz
        subst hz
        exact ⟨by decide, 1, by decide, by decide, tw_760⟩, by decide, by decide, tw_761, rfl⟩
  refine xw_try (n := 1) (hh := [(0, 9, 12, 13), (0, 9, 15, 15)]) (As := [xI x0]) (st := [xI 0, xR 26 0 0]) (cd := [1, 2]) (Post := Post) (hp := fun k => if k = 1 then 12 else 15) kEX7_append ⟨⟨rfl, rfl, by decide, by decide⟩, ⟨by decide, by decide, by decide +kernel⟩, ⟨tw_936, tw_937, tw_938, tw_1, tw_939⟩, TX7, _, rfl⟩ dL_append_4 hC hZ hH rfl (by decide) h (fun v M1 hq => ?_) (fun k M1 hk hq => ?_)
  · refine xw_st1 hC h1 h6 (xs_i2lw dL_append_7) ?_
    show XWW p l e rL_append s m args below meth c 1 6 (XWq below args s D G ρ Post) D G ρ 4 8 [some (xR 0 0 0), some (xI x0), some (xR 26 0 0), none] [xJ (w32 v), xI 0, xR 26 0 0] M1
    refine xw_st1 hC h1 h6 (xs_last dL_append_8) ⟨⟨rfl, rfl, rfl, rfl⟩, ?_⟩
    show XWW p l e rL_append s m args below meth c 1 6 (XWq below args s D G ρ Post) D G ρ 4 9 [some (xR 0 0 0), some (xI x0), some (xR 26 0 0), none] [] (xup M1 26 0 0 0 (w32 v))
    refine xw_st1 hC h1 h6 (xs_goto (t := 18) dL_append_9 (by decide)) ?_
    show XWW p l e rL_append s m args below meth c 1 6 (XWq below args s D G ρ Post) D G ρ 4 18 [some (xR 0 0 0), some (xI x0), some (xR 26 0 0), none] [] (xup M1 26 0 0 0 (w32 v))
    refine xw_st1 hC h1 h6 (xs_iconst dL_append_18) ?_
    show XWW p l e rL_append s m args below meth c 1 6 (XWq below args s D G ρ Post) D G ρ 4 19 [some (xR 0 0 0), some (xI x0), some (xR 26 0 0), none] [xI 0] (xup M1 26 0 0 0 (w32 v))
    exact xw_iret ⟨hC.1, hC.2.1, hC.2.2.1, hC.2.2.2.1, hC.2.2.2.2.1, Nat.zero_le _, Nat.zero_le _⟩ hZ dL_append_19 hq
  · simp only [List.mem_cons, List.not_mem_nil, or_false] at hk
    rcases hk with rfl | rfl
    · refine xw_astn (i := 3) hC dL_append_12 rfl (by decide) rfl (by
        intro j w hj hw
        have e : j = 2 := by omega
        subst e
        cases hw
        rfl) ?_
      show XWW p l e rL_append s m args below meth c 1 6 (XWq below args s D G ρ Post) D G ρ 4 13 [some (xR 0 0 0), some (xI x0), some (xR 26 0 0), none] [] M1
      refine xw_st1 hC h1 h6 (xs_iconst dL_append_13) ?_
      show XWW p l e rL_append s m args below meth c 1 6 (XWq below args s D G ρ Post) D G ρ 4 14 [some (xR 0 0 0), some (xI x0), some (xR 26 0 0), none] [xI 1] M1
      exact xw_iret ⟨hC.1, hC.2.1, hC.2.2.1, hC.2.2.2.1, hC.2.2.2.2.1, Nat.zero_le _, Nat.zero_le _⟩ hZ dL_append_14 hq
    · refine xw_astn (i := 3) hC dL_append_15 rfl (by decide) rfl (by
        intro j w hj hw
        have e : j = 2 := by omega
        subst e
        cases hw
        rfl) ?_
      show XWW p l e rL_append s m args below meth c 1 6 (XWq below args s D G ρ Post) D G ρ 4 16 [some (xR 0 0 0), some (xI x0), some (xR 26 0 0), none] [] M1
      refine xw_st1 hC h1 h6 (xs_iconst dL_append_16) ?_
      show XWW p l e rL_append s m args below meth c 1 6 (XWq below args s D G ρ Post) D G ρ 4 17 [some (xR 0 0 0), some (xI x0), some (xR 26 0 0), none] [xI 2] M1
      exact xw_iret ⟨hC.1, hC.2.1, hC.2.2.1, hC.2.2.2.1, hC.2.2.2.2.1, Nat.zero_le _, Nat.zero_le _⟩ hZ dL_append_17 hq
  )
/-- addSheet -/
theorem twL_addSheet : Cond.codeWith yL_addSheet cL_addSheet 3 (some .int) [(0, 8, 11, 13)] ∈ xT := xT_in 942 (by decide +kernel) rfl
abbrev wL_addSheet : List Cond := Cond.codeWith yL_addSheet cL_addSheet 3 (some .int) [(0, 8, 11, 13)] :: xT
abbrev rL_addSheet : Room := { frames := 7, cells := 1, slots := 6, locals := 146 }
def sL_addSheet : XSp := fun av M Q => av = [xR 0 0 0, xR 26 0 0] ∧ tEX7_addSheet [xR 0 0 0] M (LQ [1] Q)
set_option maxRecDepth 100000 in
theorem kL_addSheet : XCw yL_addSheet wL_addSheet rL_addSheet sL_addSheet := XCw.of (hh := [(0, 8, 11, 13)]) ⟨rfl, rfl⟩ (by decide) rfl (fun av M Post h => by
    obtain ⟨rfl, h⟩ := h
    simp [xen, xc1]) (fun av M Post h p l e s m args below meth c D G ρ hC hZ => by
  obtain ⟨rfl, h⟩ := h
  have h1 := hZ.2.2.2.2.2.1
  have h6 := hZ.2.2.2.2.2.2
  show XWW p l e rL_addSheet s m args below meth c 0 0 (XWq below args s D G ρ Post) D G ρ 3 0 [some (xR 0 0 0), some (xR 26 0 0), none] [] M
  refine xw_st0 hC (xs_aload_n (i := 1) dL_addSheet_0 rfl) ?_
  show XWW p l e rL_addSheet s m args below meth c 0 0 (XWq below args s D G ρ Post) D G ρ 3 1 [some (xR 0 0 0), some (xR 26 0 0), none] [xR 26 0 0] M
  refine xw_st0 hC (xs_iconst dL_addSheet_1) ?_
  show XWW p l e rL_addSheet s m args below meth c 0 0 (XWq below args s D G ρ Post) D G ρ 3 2 [some (xR 0 0 0), some (xR 26 0 0), none] [xI 0, xR 26 0 0] M
  refine xw_st0 hC (xs_aload_n (i := 0) dL_addSheet_2 rfl) ?_
  show XWW p l e rL_addSheet s m args below meth c 0 0 (XWq below args s D G ρ Post) D G ρ 3 3 [some (xR 0 0 0), some (xR 26 0 0), none] [xR 0 0 0, xI 0, xR 26 0 0] M
  have hH : ∀ k ∈ ([1] : List Int), XHd RL 3 [(0, 8, 11, 13)] k ((fun k => 11 : Int → Nat) k) := by
    intro k hk
    simp only [List.mem_cons, List.not_mem_nil, or_false] at hk
    subst hk
    · exact ⟨by decide, [], ⟨0, 8, 11, 13⟩, [], rfl, fun z hz => absurd hz List.not_mem_nil, by decide, by decide, tw_760, rfl⟩
  refine xw_try (n := 0) (hh := [(0, 8, 11, 13)]) (As := []) (st := [xI 0, xR 26 0 0]) (cd := [1]) (Post := Post) (hp := fun k => 11) kEX7_addSheet ⟨⟨rfl, rfl, by decide, by decide⟩, ⟨by decide, by decide, by decide +kernel⟩, ⟨tw_943, tw_944, tw_945, tw_1, tw_946⟩, TX7, _, rfl⟩ dL_addSheet_3 hC hZ hH rfl (by decide) h (fun v M1 hq => ?_) (fun k M1 hk hq => ?_)
  · refine xw_st1 hC h1 h6 (xs_i2lw dL_addSheet_6) ?_
    show XWW p l e rL_addSheet s m args below meth c 1 6 (XWq below args s D G ρ Post) D G ρ 3 7 [some (xR 0 0 0), some (xR 26 0 0), none] [xJ (w32 v), xI 0, xR 26 0 0] M1
    refine xw_st1 hC h1 h6 (xs_last dL_addSheet_7) ⟨⟨rfl, rfl, rfl, rfl⟩, ?_⟩
    show XWW p l e rL_addSheet s m args below meth c 1 6 (XWq below args s D G ρ Post) D G ρ 3 8 [some (xR 0 0 0), some (xR 26 0 0), none] [] (xup M1 26 0 0 0 (w32 v))
    refine xw_st1 hC h1 h6 (xs_goto (t := 14) dL_addSheet_8 (by decide)) ?_
    show XWW p l e rL_addSheet s m args below meth c 1 6 (XWq below args s D G ρ Post) D G ρ 3 14 [some (xR 0 0 0), some (xR 26 0 0), none] [] (xup M1 26 0 0 0 (w32 v))
    refine xw_st1 hC h1 h6 (xs_iconst dL_addSheet_14) ?_
    show XWW p l e rL_addSheet s m args below meth c 1 6 (XWq below args s D G ρ Post) D G ρ 3 15 [some (xR 0 0 0), some (xR 26 0 0), none] [xI 0] (xup M1 26 0 0 0 (w32 v))
    exact xw_iret ⟨hC.1, hC.2.1, hC.2.2.1, hC.2.2.2.1, hC.2.2.2.2.1, Nat.zero_le _, Nat.zero_le _⟩ hZ dL_addSheet_15 hq
  · simp only [List.mem_cons, List.not_mem_nil, or_false] at hk
    subst hk
    · refine xw_astn (i := 2) hC dL_addSheet_11 rfl (by decide) rfl (by
        intro j w hj hw
        have e : j = 1 := by omega
        subst e
        cases hw
        rfl) ?_
      show XWW p l e rL_addSheet s m args below meth c 1 6 (XWq below args s D G ρ Post) D G ρ 3 12 [some (xR 0 0 0), some (xR 26 0 0), none] [] M1
      refine xw_st1 hC h1 h6 (xs_iconst dL_addSheet_12) ?_
      show XWW p l e rL_addSheet s m args below meth c 1 6 (XWq below args s D G ρ Post) D G ρ 3 13 [some (xR 0 0 0), some (xR 26 0 0), none] [xI 1] M1
      exact xw_iret ⟨hC.1, hC.2.1, hC.2.2.1, hC.2.2.2.1, hC.2.2.2.2.1, Nat.zero_le _, Nat.zero_le _⟩ hZ dL_addSheet_13 hq
  )
/-- undo -/
theorem twL_undo : Cond.codeWith yL_undo cL_undo 3 (some .int) [(0, 8, 11, 15)] ∈ xT := xT_in 980 (by decide +kernel) rfl
abbrev wL_undo : List Cond := Cond.codeWith yL_undo cL_undo 3 (some .int) [(0, 8, 11, 15)] :: xT
abbrev rL_undo : Room := { frames := 8, cells := 1, slots := 6, locals := 145 }
def sL_undo : XSp := fun av M Q => av = [xR 0 0 0, xR 26 0 0] ∧ tEX7_undo [xR 0 0 0] M (LQ [2] Q)
set_option maxRecDepth 100000 in
theorem kL_undo : XCw yL_undo wL_undo rL_undo sL_undo := XCw.of (hh := [(0, 8, 11, 15)]) ⟨rfl, rfl⟩ (by decide) rfl (fun av M Post h => by
    obtain ⟨rfl, h⟩ := h
    simp [xen, xc1]) (fun av M Post h p l e s m args below meth c D G ρ hC hZ => by
  obtain ⟨rfl, h⟩ := h
  have h1 := hZ.2.2.2.2.2.1
  have h6 := hZ.2.2.2.2.2.2
  show XWW p l e rL_undo s m args below meth c 0 0 (XWq below args s D G ρ Post) D G ρ 3 0 [some (xR 0 0 0), some (xR 26 0 0), none] [] M
  refine xw_st0 hC (xs_aload_n (i := 1) dL_undo_0 rfl) ?_
  show XWW p l e rL_undo s m args below meth c 0 0 (XWq below args s D G ρ Post) D G ρ 3 1 [some (xR 0 0 0), some (xR 26 0 0), none] [xR 26 0 0] M
  refine xw_st0 hC (xs_iconst dL_undo_1) ?_
  show XWW p l e rL_undo s m args below meth c 0 0 (XWq below args s D G ρ Post) D G ρ 3 2 [some (xR 0 0 0), some (xR 26 0 0), none] [xI 0, xR 26 0 0] M
  refine xw_st0 hC (xs_aload_n (i := 0) dL_undo_2 rfl) ?_
  show XWW p l e rL_undo s m args below meth c 0 0 (XWq below args s D G ρ Post) D G ρ 3 3 [some (xR 0 0 0), some (xR 26 0 0), none] [xR 0 0 0, xI 0, xR 26 0 0] M
  have hH : ∀ k ∈ ([2] : List Int), XHd RL 3 [(0, 8, 11, 15)] k ((fun k => 11 : Int → Nat) k) := by
    intro k hk
    simp only [List.mem_cons, List.not_mem_nil, or_false] at hk
    subst hk
    · exact ⟨by decide, [], ⟨0, 8, 11, 15⟩, [], rfl, fun z hz => absurd hz List.not_mem_nil, by decide, by decide, tw_761, rfl⟩
  refine xw_try (n := 0) (hh := [(0, 8, 11, 15)]) (As := []) (st := [xI 0, xR 26 0 0]) (cd := [2]) (Post := Post) (hp := fun k => 11) kEX7_undo ⟨⟨rfl, rfl, by decide, by decide⟩, ⟨by decide, by decide, by decide +kernel⟩, ⟨tw_981, tw_982, tw_983, tw_1, tw_984⟩, TX7, _, rfl⟩ dL_undo_3 hC hZ hH rfl (by decide) h (fun v M1 hq => ?_) (fun k M1 hk hq => ?_)
  · refine xw_st1 hC h1 h6 (xs_i2lw dL_undo_6) ?_
    show XWW p l e rL_undo s m args below meth c 1 6 (XWq below args s D G ρ Post) D G ρ 3 7 [some (xR 0 0 0), some (xR 26 0 0), none] [xJ (w32 v), xI 0, xR 26 0 0] M1
    refine xw_st1 hC h1 h6 (xs_last dL_undo_7) ⟨⟨rfl, rfl, rfl, rfl⟩, ?_⟩
    show XWW p l e rL_undo s m args below meth c 1 6 (XWq below args s D G ρ Post) D G ρ 3 8 [some (xR 0 0 0), some (xR 26 0 0), none] [] (xup M1 26 0 0 0 (w32 v))
    refine xw_st1 hC h1 h6 (xs_goto (t := 14) dL_undo_8 (by decide)) ?_
    show XWW p l e rL_undo s m args below meth c 1 6 (XWq below args s D G ρ Post) D G ρ 3 14 [some (xR 0 0 0), some (xR 26 0 0), none] [] (xup M1 26 0 0 0 (w32 v))
    refine xw_st1 hC h1 h6 (xs_iconst dL_undo_14) ?_
    show XWW p l e rL_undo s m args below meth c 1 6 (XWq below args s D G ρ Post) D G ρ 3 15 [some (xR 0 0 0), some (xR 26 0 0), none] [xI 0] (xup M1 26 0 0 0 (w32 v))
    exact xw_iret ⟨hC.1, hC.2.1, hC.2.2.1, hC.2.2.2.1, hC.2.2.2.2.1, Nat.zero_le _, Nat.zero_le _⟩ hZ dL_undo_15 hq
  · simp only [List.mem_cons, List.not_mem_nil, or_false] at hk
    subst hk
    · refine xw_astn (i := 2) hC dL_undo_11 rfl (by decide) rfl (by
        intro j w hj hw
        have e : j = 1 := by omega
        subst e
        cases hw
        rfl) ?_
      show XWW p l e rL_undo s m args below meth c 1 6 (XWq below args s D G ρ Post) D G ρ 3 12 [some (xR 0 0 0), some (xR 26 0 0), none] [] M1
      refine xw_st1 hC h1 h6 (xs_iconst dL_undo_12) ?_
      show XWW p l e rL_undo s m args below meth c 1 6 (XWq below args s D G ρ Post) D G ρ 3 13 [some (xR 0 0 0), some (xR 26 0 0), none] [xI 1] M1
      exact xw_iret ⟨hC.1, hC.2.1, hC.2.2.1, hC.2.2.2.1, hC.2.2.2.2.1, Nat.zero_le _, Nat.zero_le _⟩ hZ dL_undo_13 hq
  )
/-- place -/
theorem twL_place : Cond.codeWith yL_place cL_place 5 (some .int) [(0, 10, 13, 21), (0, 10, 17, 13)] ∈ xT := xT_in 991 (by decide +kernel) rfl
abbrev wL_place : List Cond := Cond.codeWith yL_place cL_place 5 (some .int) [(0, 10, 13, 21), (0, 10, 17, 13)] :: xT
abbrev rL_place : Room := { frames := 8, cells := 1, slots := 6, locals := 126 }
def sL_place : XSp := fun av M Q => ∃ (x0 x1 : Int), av = [xR 0 0 0, xI x0, xI x1, xR 26 0 0] ∧ tEX7_place [xR 0 0 0, xI x0, xI x1] M (LQ [3, 1] Q)
set_option maxRecDepth 100000 in
theorem kL_place : XCw yL_place wL_place rL_place sL_place := XCw.of (hh := [(0, 10, 13, 21), (0, 10, 17, 13)]) ⟨rfl, rfl⟩ (by decide) rfl (fun av M Post h => by
    obtain ⟨x0, x1, rfl, h⟩ := h
    simp [xen, xc1]) (fun av M Post h p l e s m args below meth c D G ρ hC hZ => by
  obtain ⟨x0, x1, rfl, h⟩ := h
  have h1 := hZ.2.2.2.2.2.1
  have h6 := hZ.2.2.2.2.2.2
  show XWW p l e rL_place s m args below meth c 0 0 (XWq below args s D G ρ Post) D G ρ 5 0 [some (xR 0 0 0), some (xI x0), some (xI x1), some (xR 26 0 0), none] [] M
  refine xw_st0 hC (xs_aload_n (i := 3) dL_place_0 rfl) ?_
  show XWW p l e rL_place s m args below meth c 0 0 (XWq below args s D G ρ Post) D G ρ 5 1 [some (xR 0 0 0), some (xI x0), some (xI x1), some (xR 26 0 0), none] [xR 26 0 0] M
  refine xw_st0 hC (xs_iconst dL_place_1) ?_
  show XWW p l e rL_place s m args below meth c 0 0 (XWq below args s D G ρ Post) D G ρ 5 2 [some (xR 0 0 0), some (xI x0), some (xI x1), some (xR 26 0 0), none] [xI 0, xR 26 0 0] M
  refine xw_st0 hC (xs_aload_n (i := 0) dL_place_2 rfl) ?_
  show XWW p l e rL_place s m args below meth c 0 0 (XWq below args s D G ρ Post) D G ρ 5 3 [some (xR 0 0 0), some (xI x0), some (xI x1), some (xR 26 0 0), none] [xR 0 0 0, xI 0, xR 26 0 0] M
  refine xw_st0 hC (xs_iload_n (i := 1) dL_place_3 rfl) ?_
  show XWW p l e rL_place s m args below meth c 0 0 (XWq below args s D G ρ Post) D G ρ 5 4 [some (xR 0 0 0), some (xI x0), some (xI x1), some (xR 26 0 0), none] [xI x0, xR 0 0 0, xI 0, xR 26 0 0] M
  refine xw_st0 hC (xs_iload_n (i := 2) dL_place_4 rfl) ?_
  show XWW p l e rL_place s m args below meth c 0 0 (XWq below args s D G ρ Post) D G ρ 5 5 [some (xR 0 0 0), some (xI x0), some (xI x1), some (xR 26 0 0), none] [xI x1, xI x0, xR 0 0 0, xI 0, xR 26 0 0] M
  have hH : ∀ k ∈ ([3, 1] : List Int), XHd RL 5 [(0, 10, 13, 21), (0, 10, 17, 13)] k ((fun k => if k = 3 then 13 else 17 : Int → Nat) k) := by
    intro k hk
    simp only [List.mem_cons, List.not_mem_nil, or_false] at hk
    rcases hk with rfl | rfl
    · exact ⟨by decide, [], ⟨0, 10, 13, 21⟩, [⟨0, 10, 17, 13⟩], rfl, fun z hz => absurd hz List.not_mem_nil, by decide, by decide, tw_798, rfl⟩
    · exact ⟨by decide, [⟨0, 10, 13, 21⟩], ⟨0, 10, 17, 13⟩, [], rfl, by
        intro z hz
        simp only [List.mem_cons, List.not_mem_nil, or_false] at hz
        subst hz
        exact ⟨by decide, 3, by decide, by decide, tw_798⟩, by decide, by decide, tw_760, rfl⟩
  refine xw_try (n := 2) (hh := [(0, 10, 13, 21), (0, 10, 17, 13)]) (As := [xI x0, xI x1]) (st := [xI 0, xR 26 0 0]) (cd := [3, 1]) (Post := Post) (hp := fun k => if k = 3 then 13 else 17) kEX7_place ⟨⟨rfl, rfl, by decide, by decide⟩, ⟨by decide, by decide, by decide +kernel⟩, ⟨tw_992, tw_484, tw_485, tw_1, tw_486⟩, TX7, _, rfl⟩ dL_place_5 hC hZ hH rfl (by decide) h (fun v M1 hq => ?_) (fun k M1 hk hq => ?_)
  · refine xw_st1 hC h1 h6 (xs_i2lw dL_place_8) ?_
    show XWW p l e rL_place s m args below meth c 1 6 (XWq below args s D G ρ Post) D G ρ 5 9 [some (xR 0 0 0), some (xI x0), some (xI x1), some (xR 26 0 0), none] [xJ (w32 v), xI 0, xR 26 0 0] M1
    refine xw_st1 hC h1 h6 (xs_last dL_place_9) ⟨⟨rfl, rfl, rfl, rfl⟩, ?_⟩
    show XWW p l e rL_place s m args below meth c 1 6 (XWq below args s D G ρ Post) D G ρ 5 10 [some (xR 0 0 0), some (xI x0), some (xI x1), some (xR 26 0 0), none] [] (xup M1 26 0 0 0 (w32 v))
    refine xw_st1 hC h1 h6 (xs_goto (t := 21) dL_place_10 (by decide)) ?_
    show XWW p l e rL_place s m args below meth c 1 6 (XWq below args s D G ρ Post) D G ρ 5 21 [some (xR 0 0 0), some (xI x0), some (xI x1), some (xR 26 0 0), none] [] (xup M1 26 0 0 0 (w32 v))
    refine xw_st1 hC h1 h6 (xs_iconst dL_place_21) ?_
    show XWW p l e rL_place s m args below meth c 1 6 (XWq below args s D G ρ Post) D G ρ 5 22 [some (xR 0 0 0), some (xI x0), some (xI x1), some (xR 26 0 0), none] [xI 0] (xup M1 26 0 0 0 (w32 v))
    exact xw_iret ⟨hC.1, hC.2.1, hC.2.2.1, hC.2.2.2.1, hC.2.2.2.2.1, Nat.zero_le _, Nat.zero_le _⟩ hZ dL_place_22 hq
  · simp only [List.mem_cons, List.not_mem_nil, or_false] at hk
    rcases hk with rfl | rfl
    · refine xw_ast hC dL_place_13 (by decide) rfl (by
        intro j w hj hw
        have e : j = 3 := by omega
        subst e
        cases hw
        rfl) ?_
      show XWW p l e rL_place s m args below meth c 1 6 (XWq below args s D G ρ Post) D G ρ 5 15 [some (xR 0 0 0), some (xI x0), some (xI x1), some (xR 26 0 0), none] [] M1
      refine xw_st1 hC h1 h6 (xs_iconst dL_place_15) ?_
      show XWW p l e rL_place s m args below meth c 1 6 (XWq below args s D G ρ Post) D G ρ 5 16 [some (xR 0 0 0), some (xI x0), some (xI x1), some (xR 26 0 0), none] [xI 1] M1
      exact xw_iret ⟨hC.1, hC.2.1, hC.2.2.1, hC.2.2.2.1, hC.2.2.2.2.1, Nat.zero_le _, Nat.zero_le _⟩ hZ dL_place_16 hq
    · refine xw_ast hC dL_place_17 (by decide) rfl (by
        intro j w hj hw
        have e : j = 3 := by omega
        subst e
        cases hw
        rfl) ?_
      show XWW p l e rL_place s m args below meth c 1 6 (XWq below args s D G ρ Post) D G ρ 5 19 [some (xR 0 0 0), some (xI x0), some (xI x1), some (xR 26 0 0), none] [] M1
      refine xw_st1 hC h1 h6 (xs_iconst dL_place_19) ?_
      show XWW p l e rL_place s m args below meth c 1 6 (XWq below args s D G ρ Post) D G ρ 5 20 [some (xR 0 0 0), some (xI x0), some (xI x1), some (xR 26 0 0), none] [xI 2] M1
      exact xw_iret ⟨hC.1, hC.2.1, hC.2.2.1, hC.2.2.2.1, hC.2.2.2.2.1, Nat.zero_le _, Nat.zero_le _⟩ hZ dL_place_20 hq
  )
/-- unit -/
theorem twL_unit : Cond.codeWith yL_unit cL_unit 5 (some .int) [(0, 10, 13, 21), (0, 10, 17, 13)] ∈ xT := xT_in 995 (by decide +kernel) rfl
abbrev wL_unit : List Cond := Cond.codeWith yL_unit cL_unit 5 (some .int) [(0, 10, 13, 21), (0, 10, 17, 13)] :: xT
abbrev rL_unit : Room := { frames := 8, cells := 1, slots := 6, locals := 126 }
def sL_unit : XSp := fun av M Q => ∃ (x0 x1 : Int), av = [xR 0 0 0, xI x0, xI x1, xR 26 0 0] ∧ tEX7_unit [xR 0 0 0, xI x0, xI x1] M (LQ [3, 1] Q)
set_option maxRecDepth 100000 in
theorem kL_unit : XCw yL_unit wL_unit rL_unit sL_unit := XCw.of (hh := [(0, 10, 13, 21), (0, 10, 17, 13)]) ⟨rfl, rfl⟩ (by decide) rfl (fun av M Post h => by
    obtain ⟨x0, x1, rfl, h⟩ := h
    simp [xen, xc1]) (fun av M Post h p l e s m args below meth c D G ρ hC hZ => by
  obtain ⟨x0, x1, rfl, h⟩ := h
  have h1 := hZ.2.2.2.2.2.1
  have h6 := hZ.2.2.2.2.2.2
  show XWW p l e rL_unit s m args below meth c 0 0 (XWq below args s D G ρ Post) D G ρ 5 0 [some (xR 0 0 0), some (xI x0), some (xI x1), some (xR 26 0 0), none] [] M
  refine xw_st0 hC (xs_aload_n (i := 3) dL_unit_0 rfl) ?_
  show XWW p l e rL_unit s m args below meth c 0 0 (XWq below args s D G ρ Post) D G ρ 5 1 [some (xR 0 0 0), some (xI x0), some (xI x1), some (xR 26 0 0), none] [xR 26 0 0] M
  refine xw_st0 hC (xs_iconst dL_unit_1) ?_
  show XWW p l e rL_unit s m args below meth c 0 0 (XWq below args s D G ρ Post) D G ρ 5 2 [some (xR 0 0 0), some (xI x0), some (xI x1), some (xR 26 0 0), none] [xI 0, xR 26 0 0] M
  refine xw_st0 hC (xs_aload_n (i := 0) dL_unit_2 rfl) ?_
  show XWW p l e rL_unit s m args below meth c 0 0 (XWq below args s D G ρ Post) D G ρ 5 3 [some (xR 0 0 0), some (xI x0), some (xI x1), some (xR 26 0 0), none] [xR 0 0 0, xI 0, xR 26 0 0] M
  refine xw_st0 hC (xs_iload_n (i := 1) dL_unit_3 rfl) ?_
  show XWW p l e rL_unit s m args below meth c 0 0 (XWq below args s D G ρ Post) D G ρ 5 4 [some (xR 0 0 0), some (xI x0), some (xI x1), some (xR 26 0 0), none] [xI x0, xR 0 0 0, xI 0, xR 26 0 0] M
  refine xw_st0 hC (xs_iload_n (i := 2) dL_unit_4 rfl) ?_
  show XWW p l e rL_unit s m args below meth c 0 0 (XWq below args s D G ρ Post) D G ρ 5 5 [some (xR 0 0 0), some (xI x0), some (xI x1), some (xR 26 0 0), none] [xI x1, xI x0, xR 0 0 0, xI 0, xR 26 0 0] M
  have hH : ∀ k ∈ ([3, 1] : List Int), XHd RL 5 [(0, 10, 13, 21), (0, 10, 17, 13)] k ((fun k => if k = 3 then 13 else 17 : Int → Nat) k) := by
    intro k hk
    simp only [List.mem_cons, List.not_mem_nil, or_false] at hk
    rcases hk with rfl | rfl
    · exact ⟨by decide, [], ⟨0, 10, 13, 21⟩, [⟨0, 10, 17, 13⟩], rfl, fun z hz => absurd hz List.not_mem_nil, by decide, by decide, tw_798, rfl⟩
    · exact ⟨by decide, [⟨0, 10, 13, 21⟩], ⟨0, 10, 17, 13⟩, [], rfl, by
        intro z hz
        simp only [List.mem_cons, List.not_mem_nil, or_false] at hz
        subst hz
        exact ⟨by decide, 3, by decide, by decide, tw_798⟩, by decide, by decide, tw_760, rfl⟩
  refine xw_try (n := 2) (hh := [(0, 10, 13, 21), (0, 10, 17, 13)]) (As := [xI x0, xI x1]) (st := [xI 0, xR 26 0 0]) (cd := [3, 1]) (Post := Post) (hp := fun k => if k = 3 then 13 else 17) kEX7_unit ⟨⟨rfl, rfl, by decide, by decide⟩, ⟨by decide, by decide, by decide +kernel⟩, ⟨tw_996, tw_531, tw_532, tw_1, tw_533⟩, TX7, _, rfl⟩ dL_unit_5 hC hZ hH rfl (by decide) h (fun v M1 hq => ?_) (fun k M1 hk hq => ?_)
  · refine xw_st1 hC h1 h6 (xs_i2lw dL_unit_8) ?_
    show XWW p l e rL_unit s m args below meth c 1 6 (XWq below args s D G ρ Post) D G ρ 5 9 [some (xR 0 0 0), some (xI x0), some (xI x1), some (xR 26 0 0), none] [xJ (w32 v), xI 0, xR 26 0 0] M1
    refine xw_st1 hC h1 h6 (xs_last dL_unit_9) ⟨⟨rfl, rfl, rfl, rfl⟩, ?_⟩
    show XWW p l e rL_unit s m args below meth c 1 6 (XWq below args s D G ρ Post) D G ρ 5 10 [some (xR 0 0 0), some (xI x0), some (xI x1), some (xR 26 0 0), none] [] (xup M1 26 0 0 0 (w32 v))
    refine xw_st1 hC h1 h6 (xs_goto (t := 21) dL_unit_10 (by decide)) ?_
    show XWW p l e rL_unit s m args below meth c 1 6 (XWq below args s D G ρ Post) D G ρ 5 21 [some (xR 0 0 0), some (xI x0), some (xI x1), some (xR 26 0 0), none] [] (xup M1 26 0 0 0 (w32 v))
    refine xw_st1 hC h1 h6 (xs_iconst dL_unit_21) ?_
    show XWW p l e rL_unit s m args below meth c 1 6 (XWq below args s D G ρ Post) D G ρ 5 22 [some (xR 0 0 0), some (xI x0), some (xI x1), some (xR 26 0 0), none] [xI 0] (xup M1 26 0 0 0 (w32 v))
    exact xw_iret ⟨hC.1, hC.2.1, hC.2.2.1, hC.2.2.2.1, hC.2.2.2.2.1, Nat.zero_le _, Nat.zero_le _⟩ hZ dL_unit_22 hq
  · simp only [List.mem_cons, List.not_mem_nil, or_false] at hk
    rcases hk with rfl | rfl
    · refine xw_ast hC dL_unit_13 (by decide) rfl (by
        intro j w hj hw
        have e : j = 3 := by omega
        subst e
        cases hw
        rfl) ?_
      show XWW p l e rL_unit s m args below meth c 1 6 (XWq below args s D G ρ Post) D G ρ 5 15 [some (xR 0 0 0), some (xI x0), some (xI x1), some (xR 26 0 0), none] [] M1
      refine xw_st1 hC h1 h6 (xs_iconst dL_unit_15) ?_
      show XWW p l e rL_unit s m args below meth c 1 6 (XWq below args s D G ρ Post) D G ρ 5 16 [some (xR 0 0 0), some (xI x0), some (xI x1), some (xR 26 0 0), none] [xI 1] M1
      exact xw_iret ⟨hC.1, hC.2.1, hC.2.2.1, hC.2.2.2.1, hC.2.2.2.2.1, Nat.zero_le _, Nat.zero_le _⟩ hZ dL_unit_16 hq
    · refine xw_ast hC dL_unit_17 (by decide) rfl (by
        intro j w hj hw
        have e : j = 3 := by omega
        subst e
        cases hw
        rfl) ?_
      show XWW p l e rL_unit s m args below meth c 1 6 (XWq below args s D G ρ Post) D G ρ 5 19 [some (xR 0 0 0), some (xI x0), some (xI x1), some (xR 26 0 0), none] [] M1
      refine xw_st1 hC h1 h6 (xs_iconst dL_unit_19) ?_
      show XWW p l e rL_unit s m args below meth c 1 6 (XWq below args s D G ρ Post) D G ρ 5 20 [some (xR 0 0 0), some (xI x0), some (xI x1), some (xR 26 0 0), none] [xI 2] M1
      exact xw_iret ⟨hC.1, hC.2.1, hC.2.2.1, hC.2.2.2.1, hC.2.2.2.2.1, Nat.zero_le _, Nat.zero_le _⟩ hZ dL_unit_20 hq
  )
/-- kitchen -/
theorem twL_kitchen : Cond.codeWith yL_kitchen cL_kitchen 5 (some .int) [(0, 10, 13, 21), (0, 10, 17, 13)] ∈ xT := xT_in 999 (by decide +kernel) rfl
abbrev wL_kitchen : List Cond := Cond.codeWith yL_kitchen cL_kitchen 5 (some .int) [(0, 10, 13, 21), (0, 10, 17, 13)] :: xT
abbrev rL_kitchen : Room := { frames := 8, cells := 1, slots := 6, locals := 126 }
def sL_kitchen : XSp := fun av M Q => ∃ (x0 x1 : Int), av = [xR 0 0 0, xI x0, xI x1, xR 26 0 0] ∧ tEX7_kitchen [xR 0 0 0, xI x0, xI x1] M (LQ [3, 1] Q)
set_option maxRecDepth 100000 in
theorem kL_kitchen : XCw yL_kitchen wL_kitchen rL_kitchen sL_kitchen := XCw.of (hh := [(0, 10, 13, 21), (0, 10, 17, 13)]) ⟨rfl, rfl⟩ (by decide) rfl (fun av M Post h => by
    obtain ⟨x0, x1, rfl, h⟩ := h
    simp [xen, xc1]) (fun av M Post h p l e s m args below meth c D G ρ hC hZ => by
  obtain ⟨x0, x1, rfl, h⟩ := h
  have h1 := hZ.2.2.2.2.2.1
  have h6 := hZ.2.2.2.2.2.2
  show XWW p l e rL_kitchen s m args below meth c 0 0 (XWq below args s D G ρ Post) D G ρ 5 0 [some (xR 0 0 0), some (xI x0), some (xI x1), some (xR 26 0 0), none] [] M
  refine xw_st0 hC (xs_aload_n (i := 3) dL_kitchen_0 rfl) ?_
  show XWW p l e rL_kitchen s m args below meth c 0 0 (XWq below args s D G ρ Post) D G ρ 5 1 [some (xR 0 0 0), some (xI x0), some (xI x1), some (xR 26 0 0), none] [xR 26 0 0] M
  refine xw_st0 hC (xs_iconst dL_kitchen_1) ?_
  show XWW p l e rL_kitchen s m args below meth c 0 0 (XWq below args s D G ρ Post) D G ρ 5 2 [some (xR 0 0 0), some (xI x0), some (xI x1), some (xR 26 0 0), none] [xI 0, xR 26 0 0] M
  refine xw_st0 hC (xs_aload_n (i := 0) dL_kitchen_2 rfl) ?_
  show XWW p l e rL_kitchen s m args below meth c 0 0 (XWq below args s D G ρ Post) D G ρ 5 3 [some (xR 0 0 0), some (xI x0), some (xI x1), some (xR 26 0 0), none] [xR 0 0 0, xI 0, xR 26 0 0] M
  refine xw_st0 hC (xs_iload_n (i := 1) dL_kitchen_3 rfl) ?_
  show XWW p l e rL_kitchen s m args below meth c 0 0 (XWq below args s D G ρ Post) D G ρ 5 4 [some (xR 0 0 0), some (xI x0), some (xI x1), some (xR 26 0 0), none] [xI x0, xR 0 0 0, xI 0, xR 26 0 0] M
  refine xw_st0 hC (xs_iload_n (i := 2) dL_kitchen_4 rfl) ?_
  show XWW p l e rL_kitchen s m args below meth c 0 0 (XWq below args s D G ρ Post) D G ρ 5 5 [some (xR 0 0 0), some (xI x0), some (xI x1), some (xR 26 0 0), none] [xI x1, xI x0, xR 0 0 0, xI 0, xR 26 0 0] M
  have hH : ∀ k ∈ ([3, 1] : List Int), XHd RL 5 [(0, 10, 13, 21), (0, 10, 17, 13)] k ((fun k => if k = 3 then 13 else 17 : Int → Nat) k) := by
    intro k hk
    simp only [List.mem_cons, List.not_mem_nil, or_false] at hk
    rcases hk with rfl | rfl
    · exact ⟨by decide, [], ⟨0, 10, 13, 21⟩, [⟨0, 10, 17, 13⟩], rfl, fun z hz => absurd hz List.not_mem_nil, by decide, by decide, tw_798, rfl⟩
    · exact ⟨by decide, [⟨0, 10, 13, 21⟩], ⟨0, 10, 17, 13⟩, [], rfl, by
        intro z hz
        simp only [List.mem_cons, List.not_mem_nil, or_false] at hz
        subst hz
        exact ⟨by decide, 3, by decide, by decide, tw_798⟩, by decide, by decide, tw_760, rfl⟩
  refine xw_try (n := 2) (hh := [(0, 10, 13, 21), (0, 10, 17, 13)]) (As := [xI x0, xI x1]) (st := [xI 0, xR 26 0 0]) (cd := [3, 1]) (Post := Post) (hp := fun k => if k = 3 then 13 else 17) kEX7_kitchen ⟨⟨rfl, rfl, by decide, by decide⟩, ⟨by decide, by decide, by decide +kernel⟩, ⟨tw_1000, tw_581, tw_582, tw_1, tw_583⟩, TX7, _, rfl⟩ dL_kitchen_5 hC hZ hH rfl (by decide) h (fun v M1 hq => ?_) (fun k M1 hk hq => ?_)
  · refine xw_st1 hC h1 h6 (xs_i2lw dL_kitchen_8) ?_
    show XWW p l e rL_kitchen s m args below meth c 1 6 (XWq below args s D G ρ Post) D G ρ 5 9 [some (xR 0 0 0), some (xI x0), some (xI x1), some (xR 26 0 0), none] [xJ (w32 v), xI 0, xR 26 0 0] M1
    refine xw_st1 hC h1 h6 (xs_last dL_kitchen_9) ⟨⟨rfl, rfl, rfl, rfl⟩, ?_⟩
    show XWW p l e rL_kitchen s m args below meth c 1 6 (XWq below args s D G ρ Post) D G ρ 5 10 [some (xR 0 0 0), some (xI x0), some (xI x1), some (xR 26 0 0), none] [] (xup M1 26 0 0 0 (w32 v))
    refine xw_st1 hC h1 h6 (xs_goto (t := 21) dL_kitchen_10 (by decide)) ?_
    show XWW p l e rL_kitchen s m args below meth c 1 6 (XWq below args s D G ρ Post) D G ρ 5 21 [some (xR 0 0 0), some (xI x0), some (xI x1), some (xR 26 0 0), none] [] (xup M1 26 0 0 0 (w32 v))
    refine xw_st1 hC h1 h6 (xs_iconst dL_kitchen_21) ?_
    show XWW p l e rL_kitchen s m args below meth c 1 6 (XWq below args s D G ρ Post) D G ρ 5 22 [some (xR 0 0 0), some (xI x0), some (xI x1), some (xR 26 0 0), none] [xI 0] (xup M1 26 0 0 0 (w32 v))
    exact xw_iret ⟨hC.1, hC.2.1, hC.2.2.1, hC.2.2.2.1, hC.2.2.2.2.1, Nat.zero_le _, Nat.zero_le _⟩ hZ dL_kitchen_22 hq
  · simp only [List.mem_cons, List.not_mem_nil, or_false] at hk
    rcases hk with rfl | rfl
    · refine xw_ast hC dL_kitchen_13 (by decide) rfl (by
        intro j w hj hw
        have e : j = 3 := by omega
        subst e
        cases hw
        rfl) ?_
      show XWW p l e rL_kitchen s m args below meth c 1 6 (XWq below args s D G ρ Post) D G ρ 5 15 [some (xR 0 0 0), some (xI x0), some (xI x1), some (xR 26 0 0), none] [] M1
      refine xw_st1 hC h1 h6 (xs_iconst dL_kitchen_15) ?_
      show XWW p l e rL_kitchen s m args below meth c 1 6 (XWq below args s D G ρ Post) D G ρ 5 16 [some (xR 0 0 0), some (xI x0), some (xI x1), some (xR 26 0 0), none] [xI 1] M1
      exact xw_iret ⟨hC.1, hC.2.1, hC.2.2.1, hC.2.2.2.1, hC.2.2.2.2.1, Nat.zero_le _, Nat.zero_le _⟩ hZ dL_kitchen_16 hq
    · refine xw_ast hC dL_kitchen_17 (by decide) rfl (by
        intro j w hj hw
        have e : j = 3 := by omega
        subst e
        cases hw
        rfl) ?_
      show XWW p l e rL_kitchen s m args below meth c 1 6 (XWq below args s D G ρ Post) D G ρ 5 19 [some (xR 0 0 0), some (xI x0), some (xI x1), some (xR 26 0 0), none] [] M1
      refine xw_st1 hC h1 h6 (xs_iconst dL_kitchen_19) ?_
      show XWW p l e rL_kitchen s m args below meth c 1 6 (XWq below args s D G ρ Post) D G ρ 5 20 [some (xR 0 0 0), some (xI x0), some (xI x1), some (xR 26 0 0), none] [xI 2] M1
      exact xw_iret ⟨hC.1, hC.2.1, hC.2.2.1, hC.2.2.2.1, hC.2.2.2.2.1, Nat.zero_le _, Nat.zero_le _⟩ hZ dL_kitchen_20 hq
  )
/-- lorry -/
theorem twL_lorry : Cond.codeWith yL_lorry cL_lorry 5 (some .int) [(0, 10, 13, 21), (0, 10, 17, 13)] ∈ xT := xT_in 1003 (by decide +kernel) rfl
abbrev wL_lorry : List Cond := Cond.codeWith yL_lorry cL_lorry 5 (some .int) [(0, 10, 13, 21), (0, 10, 17, 13)] :: xT
abbrev rL_lorry : Room := { frames := 8, cells := 1, slots := 6, locals := 126 }
def sL_lorry : XSp := fun av M Q => ∃ (x0 x1 : Int), av = [xR 0 0 0, xI x0, xI x1, xR 26 0 0] ∧ tEX7_lorry [xR 0 0 0, xI x0, xI x1] M (LQ [3, 1] Q)
set_option maxRecDepth 100000 in
theorem kL_lorry : XCw yL_lorry wL_lorry rL_lorry sL_lorry := XCw.of (hh := [(0, 10, 13, 21), (0, 10, 17, 13)]) ⟨rfl, rfl⟩ (by decide) rfl (fun av M Post h => by
    obtain ⟨x0, x1, rfl, h⟩ := h
    simp [xen, xc1]) (fun av M Post h p l e s m args below meth c D G ρ hC hZ => by
  obtain ⟨x0, x1, rfl, h⟩ := h
  have h1 := hZ.2.2.2.2.2.1
  have h6 := hZ.2.2.2.2.2.2
  show XWW p l e rL_lorry s m args below meth c 0 0 (XWq below args s D G ρ Post) D G ρ 5 0 [some (xR 0 0 0), some (xI x0), some (xI x1), some (xR 26 0 0), none] [] M
  refine xw_st0 hC (xs_aload_n (i := 3) dL_lorry_0 rfl) ?_
  show XWW p l e rL_lorry s m args below meth c 0 0 (XWq below args s D G ρ Post) D G ρ 5 1 [some (xR 0 0 0), some (xI x0), some (xI x1), some (xR 26 0 0), none] [xR 26 0 0] M
  refine xw_st0 hC (xs_iconst dL_lorry_1) ?_
  show XWW p l e rL_lorry s m args below meth c 0 0 (XWq below args s D G ρ Post) D G ρ 5 2 [some (xR 0 0 0), some (xI x0), some (xI x1), some (xR 26 0 0), none] [xI 0, xR 26 0 0] M
  refine xw_st0 hC (xs_aload_n (i := 0) dL_lorry_2 rfl) ?_
  show XWW p l e rL_lorry s m args below meth c 0 0 (XWq below args s D G ρ Post) D G ρ 5 3 [some (xR 0 0 0), some (xI x0), some (xI x1), some (xR 26 0 0), none] [xR 0 0 0, xI 0, xR 26 0 0] M
  refine xw_st0 hC (xs_iload_n (i := 1) dL_lorry_3 rfl) ?_
  show XWW p l e rL_lorry s m args below meth c 0 0 (XWq below args s D G ρ Post) D G ρ 5 4 [some (xR 0 0 0), some (xI x0), some (xI x1), some (xR 26 0 0), none] [xI x0, xR 0 0 0, xI 0, xR 26 0 0] M
  refine xw_st0 hC (xs_iload_n (i := 2) dL_lorry_4 rfl) ?_
  show XWW p l e rL_lorry s m args below meth c 0 0 (XWq below args s D G ρ Post) D G ρ 5 5 [some (xR 0 0 0), some (xI x0), some (xI x1), some (xR 26 0 0), none] [xI x1, xI x0, xR 0 0 0, xI 0, xR 26 0 0] M
  have hH : ∀ k ∈ ([3, 1] : List Int), XHd RL 5 [(0, 10, 13, 21), (0, 10, 17, 13)] k ((fun k => if k = 3 then 13 else 17 : Int → Nat) k) := by
    intro k hk
    simp only [List.mem_cons, List.not_mem_nil, or_false] at hk
    rcases hk with rfl | rfl
    · exact ⟨by decide, [], ⟨0, 10, 13, 21⟩, [⟨0, 10, 17, 13⟩], rfl, fun z hz => absurd hz List.not_mem_nil, by decide, by decide, tw_798, rfl⟩
    · exact ⟨by decide, [⟨0, 10, 13, 21⟩], ⟨0, 10, 17, 13⟩, [], rfl, by
        intro z hz
        simp only [List.mem_cons, List.not_mem_nil, or_false] at hz
        subst hz
        exact ⟨by decide, 3, by decide, by decide, tw_798⟩, by decide, by decide, tw_760, rfl⟩
  refine xw_try (n := 2) (hh := [(0, 10, 13, 21), (0, 10, 17, 13)]) (As := [xI x0, xI x1]) (st := [xI 0, xR 26 0 0]) (cd := [3, 1]) (Post := Post) (hp := fun k => if k = 3 then 13 else 17) kEX7_lorry ⟨⟨rfl, rfl, by decide, by decide⟩, ⟨by decide, by decide, by decide +kernel⟩, ⟨tw_1004, tw_613, tw_614, tw_1, tw_615⟩, TX7, _, rfl⟩ dL_lorry_5 hC hZ hH rfl (by decide) h (fun v M1 hq => ?_) (fun k M1 hk hq => ?_)
  · refine xw_st1 hC h1 h6 (xs_i2lw dL_lorry_8) ?_
    show XWW p l e rL_lorry s m args below meth c 1 6 (XWq below args s D G ρ Post) D G ρ 5 9 [some (xR 0 0 0), some (xI x0), some (xI x1), some (xR 26 0 0), none] [xJ (w32 v), xI 0, xR 26 0 0] M1
    refine xw_st1 hC h1 h6 (xs_last dL_lorry_9) ⟨⟨rfl, rfl, rfl, rfl⟩, ?_⟩
    show XWW p l e rL_lorry s m args below meth c 1 6 (XWq below args s D G ρ Post) D G ρ 5 10 [some (xR 0 0 0), some (xI x0), some (xI x1), some (xR 26 0 0), none] [] (xup M1 26 0 0 0 (w32 v))
    refine xw_st1 hC h1 h6 (xs_goto (t := 21) dL_lorry_10 (by decide)) ?_
    show XWW p l e rL_lorry s m args below meth c 1 6 (XWq below args s D G ρ Post) D G ρ 5 21 [some (xR 0 0 0), some (xI x0), some (xI x1), some (xR 26 0 0), none] [] (xup M1 26 0 0 0 (w32 v))
    refine xw_st1 hC h1 h6 (xs_iconst dL_lorry_21) ?_
    show XWW p l e rL_lorry s m args below meth c 1 6 (XWq below args s D G ρ Post) D G ρ 5 22 [some (xR 0 0 0), some (xI x0), some (xI x1), some (xR 26 0 0), none] [xI 0] (xup M1 26 0 0 0 (w32 v))
    exact xw_iret ⟨hC.1, hC.2.1, hC.2.2.1, hC.2.2.2.1, hC.2.2.2.2.1, Nat.zero_le _, Nat.zero_le _⟩ hZ dL_lorry_22 hq
  · simp only [List.mem_cons, List.not_mem_nil, or_false] at hk
    rcases hk with rfl | rfl
    · refine xw_ast hC dL_lorry_13 (by decide) rfl (by
        intro j w hj hw
        have e : j = 3 := by omega
        subst e
        cases hw
        rfl) ?_
      show XWW p l e rL_lorry s m args below meth c 1 6 (XWq below args s D G ρ Post) D G ρ 5 15 [some (xR 0 0 0), some (xI x0), some (xI x1), some (xR 26 0 0), none] [] M1
      refine xw_st1 hC h1 h6 (xs_iconst dL_lorry_15) ?_
      show XWW p l e rL_lorry s m args below meth c 1 6 (XWq below args s D G ρ Post) D G ρ 5 16 [some (xR 0 0 0), some (xI x0), some (xI x1), some (xR 26 0 0), none] [xI 1] M1
      exact xw_iret ⟨hC.1, hC.2.1, hC.2.2.1, hC.2.2.2.1, hC.2.2.2.2.1, Nat.zero_le _, Nat.zero_le _⟩ hZ dL_lorry_16 hq
    · refine xw_ast hC dL_lorry_17 (by decide) rfl (by
        intro j w hj hw
        have e : j = 3 := by omega
        subst e
        cases hw
        rfl) ?_
      show XWW p l e rL_lorry s m args below meth c 1 6 (XWq below args s D G ρ Post) D G ρ 5 19 [some (xR 0 0 0), some (xI x0), some (xI x1), some (xR 26 0 0), none] [] M1
      refine xw_st1 hC h1 h6 (xs_iconst dL_lorry_19) ?_
      show XWW p l e rL_lorry s m args below meth c 1 6 (XWq below args s D G ρ Post) D G ρ 5 20 [some (xR 0 0 0), some (xI x0), some (xI x1), some (xR 26 0 0), none] [xI 2] M1
      exact xw_iret ⟨hC.1, hC.2.1, hC.2.2.1, hC.2.2.2.1, hC.2.2.2.2.1, Nat.zero_le _, Nat.zero_le _⟩ hZ dL_lorry_20 hq
  )
/-- count -/
theorem twL_count : Cond.codeWith yL_count cL_count 4 (some .int) [(0, 9, 12, 13)] ∈ xT := xT_in 1007 (by decide +kernel) rfl
abbrev wL_count : List Cond := Cond.codeWith yL_count cL_count 4 (some .int) [(0, 9, 12, 13)] :: xT
abbrev rL_count : Room := { frames := 8, cells := 1, slots := 6, locals := 125 }
def sL_count : XSp := fun av M Q => ∃ (x0 : Int), av = [xR 0 0 0, xI x0, xR 26 0 0] ∧ tEX7_count [xR 0 0 0, xI x0] M (LQ [1] Q)
set_option maxRecDepth 100000 in
theorem kL_count : XCw yL_count wL_count rL_count sL_count := XCw.of (hh := [(0, 9, 12, 13)]) ⟨rfl, rfl⟩ (by decide) rfl (fun av M Post h => by
    obtain ⟨x0, rfl, h⟩ := h
    simp [xen, xc1]) (fun av M Post h p l e s m args below meth c D G ρ hC hZ => by
  obtain ⟨x0, rfl, h⟩ := h
  have h1 := hZ.2.2.2.2.2.1
  have h6 := hZ.2.2.2.2.2.2
  show XWW p l e rL_count s m args below meth c 0 0 (XWq below args s D G ρ Post) D G ρ 4 0 [some (xR 0 0 0), some (xI x0), some (xR 26 0 0), none] [] M
  refine xw_st0 hC (xs_aload_n (i := 2) dL_count_0 rfl) ?_
  show XWW p l e rL_count s m args below meth c 0 0 (XWq below args s D G ρ Post) D G ρ 4 1 [some (xR 0 0 0), some (xI x0), some (xR 26 0 0), none] [xR 26 0 0] M
  refine xw_st0 hC (xs_iconst dL_count_1) ?_
  show XWW p l e rL_count s m args below meth c 0 0 (XWq below args s D G ρ Post) D G ρ 4 2 [some (xR 0 0 0), some (xI x0), some (xR 26 0 0), none] [xI 0, xR 26 0 0] M
  refine xw_st0 hC (xs_aload_n (i := 0) dL_count_2 rfl) ?_
  show XWW p l e rL_count s m args below meth c 0 0 (XWq below args s D G ρ Post) D G ρ 4 3 [some (xR 0 0 0), some (xI x0), some (xR 26 0 0), none] [xR 0 0 0, xI 0, xR 26 0 0] M
  refine xw_st0 hC (xs_iload_n (i := 1) dL_count_3 rfl) ?_
  show XWW p l e rL_count s m args below meth c 0 0 (XWq below args s D G ρ Post) D G ρ 4 4 [some (xR 0 0 0), some (xI x0), some (xR 26 0 0), none] [xI x0, xR 0 0 0, xI 0, xR 26 0 0] M
  have hH : ∀ k ∈ ([1] : List Int), XHd RL 4 [(0, 9, 12, 13)] k ((fun k => 12 : Int → Nat) k) := by
    intro k hk
    simp only [List.mem_cons, List.not_mem_nil, or_false] at hk
    subst hk
    · exact ⟨by decide, [], ⟨0, 9, 12, 13⟩, [], rfl, fun z hz => absurd hz List.not_mem_nil, by decide, by decide, tw_760, rfl⟩
  refine xw_try (n := 1) (hh := [(0, 9, 12, 13)]) (As := [xI x0]) (st := [xI 0, xR 26 0 0]) (cd := [1]) (Post := Post) (hp := fun k => 12) kEX7_count ⟨⟨rfl, rfl, by decide, by decide⟩, ⟨by decide, by decide, by decide +kernel⟩, ⟨tw_1008, tw_361, tw_362, tw_1, tw_363⟩, TX7, _, rfl⟩ dL_count_4 hC hZ hH rfl (by decide) h (fun v M1 hq => ?_) (fun k M1 hk hq => ?_)
  · refine xw_st1 hC h1 h6 (xs_i2lw dL_count_7) ?_
    show XWW p l e rL_count s m args below meth c 1 6 (XWq below args s D G ρ Post) D G ρ 4 8 [some (xR 0 0 0), some (xI x0), some (xR 26 0 0), none] [xJ (w32 v), xI 0, xR 26 0 0] M1
    refine xw_st1 hC h1 h6 (xs_last dL_count_8) ⟨⟨rfl, rfl, rfl, rfl⟩, ?_⟩
    show XWW p l e rL_count s m args below meth c 1 6 (XWq below args s D G ρ Post) D G ρ 4 9 [some (xR 0 0 0), some (xI x0), some (xR 26 0 0), none] [] (xup M1 26 0 0 0 (w32 v))
    refine xw_st1 hC h1 h6 (xs_goto (t := 15) dL_count_9 (by decide)) ?_
    show XWW p l e rL_count s m args below meth c 1 6 (XWq below args s D G ρ Post) D G ρ 4 15 [some (xR 0 0 0), some (xI x0), some (xR 26 0 0), none] [] (xup M1 26 0 0 0 (w32 v))
    refine xw_st1 hC h1 h6 (xs_iconst dL_count_15) ?_
    show XWW p l e rL_count s m args below meth c 1 6 (XWq below args s D G ρ Post) D G ρ 4 16 [some (xR 0 0 0), some (xI x0), some (xR 26 0 0), none] [xI 0] (xup M1 26 0 0 0 (w32 v))
    exact xw_iret ⟨hC.1, hC.2.1, hC.2.2.1, hC.2.2.2.1, hC.2.2.2.2.1, Nat.zero_le _, Nat.zero_le _⟩ hZ dL_count_16 hq
  · simp only [List.mem_cons, List.not_mem_nil, or_false] at hk
    subst hk
    · refine xw_astn (i := 3) hC dL_count_12 rfl (by decide) rfl (by
        intro j w hj hw
        have e : j = 2 := by omega
        subst e
        cases hw
        rfl) ?_
      show XWW p l e rL_count s m args below meth c 1 6 (XWq below args s D G ρ Post) D G ρ 4 13 [some (xR 0 0 0), some (xI x0), some (xR 26 0 0), none] [] M1
      refine xw_st1 hC h1 h6 (xs_iconst dL_count_13) ?_
      show XWW p l e rL_count s m args below meth c 1 6 (XWq below args s D G ρ Post) D G ρ 4 14 [some (xR 0 0 0), some (xI x0), some (xR 26 0 0), none] [xI 1] M1
      exact xw_iret ⟨hC.1, hC.2.1, hC.2.2.1, hC.2.2.2.1, hC.2.2.2.2.1, Nat.zero_le _, Nat.zero_le _⟩ hZ dL_count_14 hq
  )
/-- setting -/
theorem twL_setting : Cond.codeWith yL_setting cL_setting 4 (some .int) [(0, 9, 12, 21)] ∈ xT := xT_in 1011 (by decide +kernel) rfl
abbrev wL_setting : List Cond := Cond.codeWith yL_setting cL_setting 4 (some .int) [(0, 9, 12, 21)] :: xT
abbrev rL_setting : Room := { frames := 8, cells := 1, slots := 6, locals := 124 }
def sL_setting : XSp := fun av M Q => ∃ (x0 : Int), av = [xR 0 0 0, xI x0, xR 26 0 0] ∧ tEX7_setting [xR 0 0 0, xI x0] M (LQ [3] Q)
set_option maxRecDepth 100000 in
theorem kL_setting : XCw yL_setting wL_setting rL_setting sL_setting := XCw.of (hh := [(0, 9, 12, 21)]) ⟨rfl, rfl⟩ (by decide) rfl (fun av M Post h => by
    obtain ⟨x0, rfl, h⟩ := h
    simp [xen, xc1]) (fun av M Post h p l e s m args below meth c D G ρ hC hZ => by
  obtain ⟨x0, rfl, h⟩ := h
  have h1 := hZ.2.2.2.2.2.1
  have h6 := hZ.2.2.2.2.2.2
  show XWW p l e rL_setting s m args below meth c 0 0 (XWq below args s D G ρ Post) D G ρ 4 0 [some (xR 0 0 0), some (xI x0), some (xR 26 0 0), none] [] M
  refine xw_st0 hC (xs_aload_n (i := 2) dL_setting_0 rfl) ?_
  show XWW p l e rL_setting s m args below meth c 0 0 (XWq below args s D G ρ Post) D G ρ 4 1 [some (xR 0 0 0), some (xI x0), some (xR 26 0 0), none] [xR 26 0 0] M
  refine xw_st0 hC (xs_iconst dL_setting_1) ?_
  show XWW p l e rL_setting s m args below meth c 0 0 (XWq below args s D G ρ Post) D G ρ 4 2 [some (xR 0 0 0), some (xI x0), some (xR 26 0 0), none] [xI 0, xR 26 0 0] M
  refine xw_st0 hC (xs_aload_n (i := 0) dL_setting_2 rfl) ?_
  show XWW p l e rL_setting s m args below meth c 0 0 (XWq below args s D G ρ Post) D G ρ 4 3 [some (xR 0 0 0), some (xI x0), some (xR 26 0 0), none] [xR 0 0 0, xI 0, xR 26 0 0] M
  refine xw_st0 hC (xs_iload_n (i := 1) dL_setting_3 rfl) ?_
  show XWW p l e rL_setting s m args below meth c 0 0 (XWq below args s D G ρ Post) D G ρ 4 4 [some (xR 0 0 0), some (xI x0), some (xR 26 0 0), none] [xI x0, xR 0 0 0, xI 0, xR 26 0 0] M
  have hH : ∀ k ∈ ([3] : List Int), XHd RL 4 [(0, 9, 12, 21)] k ((fun k => 12 : Int → Nat) k) := by
    intro k hk
    simp only [List.mem_cons, List.not_mem_nil, or_false] at hk
    subst hk
    · exact ⟨by decide, [], ⟨0, 9, 12, 21⟩, [], rfl, fun z hz => absurd hz List.not_mem_nil, by decide, by decide, tw_798, rfl⟩
  refine xw_try (n := 1) (hh := [(0, 9, 12, 21)]) (As := [xI x0]) (st := [xI 0, xR 26 0 0]) (cd := [3]) (Post := Post) (hp := fun k => 12) kEX7_setting ⟨⟨rfl, rfl, by decide, by decide⟩, ⟨by decide, by decide, by decide +kernel⟩, ⟨tw_1012, tw_1013, tw_1014, tw_1, tw_1015⟩, TX7, _, rfl⟩ dL_setting_4 hC hZ hH rfl (by decide) h (fun v M1 hq => ?_) (fun k M1 hk hq => ?_)
  · refine xw_st1 hC h1 h6 (xs_i2lw dL_setting_7) ?_
    show XWW p l e rL_setting s m args below meth c 1 6 (XWq below args s D G ρ Post) D G ρ 4 8 [some (xR 0 0 0), some (xI x0), some (xR 26 0 0), none] [xJ (w32 v), xI 0, xR 26 0 0] M1
    refine xw_st1 hC h1 h6 (xs_last dL_setting_8) ⟨⟨rfl, rfl, rfl, rfl⟩, ?_⟩
    show XWW p l e rL_setting s m args below meth c 1 6 (XWq below args s D G ρ Post) D G ρ 4 9 [some (xR 0 0 0), some (xI x0), some (xR 26 0 0), none] [] (xup M1 26 0 0 0 (w32 v))
    refine xw_st1 hC h1 h6 (xs_goto (t := 15) dL_setting_9 (by decide)) ?_
    show XWW p l e rL_setting s m args below meth c 1 6 (XWq below args s D G ρ Post) D G ρ 4 15 [some (xR 0 0 0), some (xI x0), some (xR 26 0 0), none] [] (xup M1 26 0 0 0 (w32 v))
    refine xw_st1 hC h1 h6 (xs_iconst dL_setting_15) ?_
    show XWW p l e rL_setting s m args below meth c 1 6 (XWq below args s D G ρ Post) D G ρ 4 16 [some (xR 0 0 0), some (xI x0), some (xR 26 0 0), none] [xI 0] (xup M1 26 0 0 0 (w32 v))
    exact xw_iret ⟨hC.1, hC.2.1, hC.2.2.1, hC.2.2.2.1, hC.2.2.2.2.1, Nat.zero_le _, Nat.zero_le _⟩ hZ dL_setting_16 hq
  · simp only [List.mem_cons, List.not_mem_nil, or_false] at hk
    subst hk
    · refine xw_astn (i := 3) hC dL_setting_12 rfl (by decide) rfl (by
        intro j w hj hw
        have e : j = 2 := by omega
        subst e
        cases hw
        rfl) ?_
      show XWW p l e rL_setting s m args below meth c 1 6 (XWq below args s D G ρ Post) D G ρ 4 13 [some (xR 0 0 0), some (xI x0), some (xR 26 0 0), none] [] M1
      refine xw_st1 hC h1 h6 (xs_iconst dL_setting_13) ?_
      show XWW p l e rL_setting s m args below meth c 1 6 (XWq below args s D G ρ Post) D G ρ 4 14 [some (xR 0 0 0), some (xI x0), some (xR 26 0 0), none] [xI 1] M1
      exact xw_iret ⟨hC.1, hC.2.1, hC.2.2.1, hC.2.2.2.1, hC.2.2.2.2.1, Nat.zero_le _, Nat.zero_le _⟩ hZ dL_setting_14 hq
  )
/-- ifPassed -/
theorem twL_ifPassed : Cond.codeWith yL_ifPassed cL_ifPassed 5 (some .int) [(0, 10, 13, 13)] ∈ xT := xT_in 1018 (by decide +kernel) rfl
abbrev wL_ifPassed : List Cond := Cond.codeWith yL_ifPassed cL_ifPassed 5 (some .int) [(0, 10, 13, 13)] :: xT
abbrev rL_ifPassed : Room := { frames := 8, cells := 1, slots := 6, locals := 185 }
def sL_ifPassed : XSp := fun av M Q => ∃ (x0 x1 : Int), av = [xR 0 0 0, xI x0, xI x1, xR 26 0 0] ∧ tEX7_ifPassed [xR 0 0 0, xI x0, xI x1] M (LQ [1] Q)
set_option maxRecDepth 100000 in
theorem kL_ifPassed : XCw yL_ifPassed wL_ifPassed rL_ifPassed sL_ifPassed := XCw.of (hh := [(0, 10, 13, 13)]) ⟨rfl, rfl⟩ (by decide) rfl (fun av M Post h => by
    obtain ⟨x0, x1, rfl, h⟩ := h
    simp [xen, xc1]) (fun av M Post h p l e s m args below meth c D G ρ hC hZ => by
  obtain ⟨x0, x1, rfl, h⟩ := h
  have h1 := hZ.2.2.2.2.2.1
  have h6 := hZ.2.2.2.2.2.2
  show XWW p l e rL_ifPassed s m args below meth c 0 0 (XWq below args s D G ρ Post) D G ρ 5 0 [some (xR 0 0 0), some (xI x0), some (xI x1), some (xR 26 0 0), none] [] M
  refine xw_st0 hC (xs_aload_n (i := 3) dL_ifPassed_0 rfl) ?_
  show XWW p l e rL_ifPassed s m args below meth c 0 0 (XWq below args s D G ρ Post) D G ρ 5 1 [some (xR 0 0 0), some (xI x0), some (xI x1), some (xR 26 0 0), none] [xR 26 0 0] M
  refine xw_st0 hC (xs_iconst dL_ifPassed_1) ?_
  show XWW p l e rL_ifPassed s m args below meth c 0 0 (XWq below args s D G ρ Post) D G ρ 5 2 [some (xR 0 0 0), some (xI x0), some (xI x1), some (xR 26 0 0), none] [xI 0, xR 26 0 0] M
  refine xw_st0 hC (xs_aload_n (i := 0) dL_ifPassed_2 rfl) ?_
  show XWW p l e rL_ifPassed s m args below meth c 0 0 (XWq below args s D G ρ Post) D G ρ 5 3 [some (xR 0 0 0), some (xI x0), some (xI x1), some (xR 26 0 0), none] [xR 0 0 0, xI 0, xR 26 0 0] M
  refine xw_st0 hC (xs_iload_n (i := 1) dL_ifPassed_3 rfl) ?_
  show XWW p l e rL_ifPassed s m args below meth c 0 0 (XWq below args s D G ρ Post) D G ρ 5 4 [some (xR 0 0 0), some (xI x0), some (xI x1), some (xR 26 0 0), none] [xI x0, xR 0 0 0, xI 0, xR 26 0 0] M
  refine xw_st0 hC (xs_iload_n (i := 2) dL_ifPassed_4 rfl) ?_
  show XWW p l e rL_ifPassed s m args below meth c 0 0 (XWq below args s D G ρ Post) D G ρ 5 5 [some (xR 0 0 0), some (xI x0), some (xI x1), some (xR 26 0 0), none] [xI x1, xI x0, xR 0 0 0, xI 0, xR 26 0 0] M
  have hH : ∀ k ∈ ([1] : List Int), XHd RL 5 [(0, 10, 13, 13)] k ((fun k => 13 : Int → Nat) k) := by
    intro k hk
    simp only [List.mem_cons, List.not_mem_nil, or_false] at hk
    subst hk
    · exact ⟨by decide, [], ⟨0, 10, 13, 13⟩, [], rfl, fun z hz => absurd hz List.not_mem_nil, by decide, by decide, tw_760, rfl⟩
  refine xw_try (n := 2) (hh := [(0, 10, 13, 13)]) (As := [xI x0, xI x1]) (st := [xI 0, xR 26 0 0]) (cd := [1]) (Post := Post) (hp := fun k => 13) kEX7_ifPassed ⟨⟨rfl, rfl, by decide, by decide⟩, ⟨by decide, by decide, by decide +kernel⟩, ⟨tw_1019, tw_1020, tw_1021, tw_1, tw_1022⟩, TX7, _, rfl⟩ dL_ifPassed_5 hC hZ hH rfl (by decide) h (fun v M1 hq => ?_) (fun k M1 hk hq => ?_)
  · refine xw_st1 hC h1 h6 (xs_i2lw dL_ifPassed_8) ?_
    show XWW p l e rL_ifPassed s m args below meth c 1 6 (XWq below args s D G ρ Post) D G ρ 5 9 [some (xR 0 0 0), some (xI x0), some (xI x1), some (xR 26 0 0), none] [xJ (w32 v), xI 0, xR 26 0 0] M1
    refine xw_st1 hC h1 h6 (xs_last dL_ifPassed_9) ⟨⟨rfl, rfl, rfl, rfl⟩, ?_⟩
    show XWW p l e rL_ifPassed s m args below meth c 1 6 (XWq below args s D G ρ Post) D G ρ 5 10 [some (xR 0 0 0), some (xI x0), some (xI x1), some (xR 26 0 0), none] [] (xup M1 26 0 0 0 (w32 v))
    refine xw_st1 hC h1 h6 (xs_goto (t := 17) dL_ifPassed_10 (by decide)) ?_
    show XWW p l e rL_ifPassed s m args below meth c 1 6 (XWq below args s D G ρ Post) D G ρ 5 17 [some (xR 0 0 0), some (xI x0), some (xI x1), some (xR 26 0 0), none] [] (xup M1 26 0 0 0 (w32 v))
    refine xw_st1 hC h1 h6 (xs_iconst dL_ifPassed_17) ?_
    show XWW p l e rL_ifPassed s m args below meth c 1 6 (XWq below args s D G ρ Post) D G ρ 5 18 [some (xR 0 0 0), some (xI x0), some (xI x1), some (xR 26 0 0), none] [xI 0] (xup M1 26 0 0 0 (w32 v))
    exact xw_iret ⟨hC.1, hC.2.1, hC.2.2.1, hC.2.2.2.1, hC.2.2.2.2.1, Nat.zero_le _, Nat.zero_le _⟩ hZ dL_ifPassed_18 hq
  · simp only [List.mem_cons, List.not_mem_nil, or_false] at hk
    subst hk
    · refine xw_ast hC dL_ifPassed_13 (by decide) rfl (by
        intro j w hj hw
        have e : j = 3 := by omega
        subst e
        cases hw
        rfl) ?_
      show XWW p l e rL_ifPassed s m args below meth c 1 6 (XWq below args s D G ρ Post) D G ρ 5 15 [some (xR 0 0 0), some (xI x0), some (xI x1), some (xR 26 0 0), none] [] M1
      refine xw_st1 hC h1 h6 (xs_iconst dL_ifPassed_15) ?_
      show XWW p l e rL_ifPassed s m args below meth c 1 6 (XWq below args s D G ρ Post) D G ρ 5 16 [some (xR 0 0 0), some (xI x0), some (xI x1), some (xR 26 0 0), none] [xI 1] M1
      exact xw_iret ⟨hC.1, hC.2.1, hC.2.2.1, hC.2.2.2.1, hC.2.2.2.2.1, Nat.zero_le _, Nat.zero_le _⟩ hZ dL_ifPassed_16 hq
  )
/-- callsIn -/
theorem twL_callsIn : Cond.codeWith yL_callsIn cL_callsIn 5 (some .int) [(0, 10, 13, 13)] ∈ xT := xT_in 1025 (by decide +kernel) rfl
abbrev wL_callsIn : List Cond := Cond.codeWith yL_callsIn cL_callsIn 5 (some .int) [(0, 10, 13, 13)] :: xT
abbrev rL_callsIn : Room := { frames := 8, cells := 1, slots := 6, locals := 131 }
def sL_callsIn : XSp := fun av M Q => ∃ (x0 x1 : Int), av = [xR 0 0 0, xI x0, xI x1, xR 26 0 0] ∧ tEX7_callsIn [xR 0 0 0, xI x0, xI x1] M (LQ [1] Q)
set_option maxRecDepth 100000 in
theorem kL_callsIn : XCw yL_callsIn wL_callsIn rL_callsIn sL_callsIn := XCw.of (hh := [(0, 10, 13, 13)]) ⟨rfl, rfl⟩ (by decide) rfl (fun av M Post h => by
    obtain ⟨x0, x1, rfl, h⟩ := h
    simp [xen, xc1]) (fun av M Post h p l e s m args below meth c D G ρ hC hZ => by
  obtain ⟨x0, x1, rfl, h⟩ := h
  have h1 := hZ.2.2.2.2.2.1
  have h6 := hZ.2.2.2.2.2.2
  show XWW p l e rL_callsIn s m args below meth c 0 0 (XWq below args s D G ρ Post) D G ρ 5 0 [some (xR 0 0 0), some (xI x0), some (xI x1), some (xR 26 0 0), none] [] M
  refine xw_st0 hC (xs_aload_n (i := 3) dL_callsIn_0 rfl) ?_
  show XWW p l e rL_callsIn s m args below meth c 0 0 (XWq below args s D G ρ Post) D G ρ 5 1 [some (xR 0 0 0), some (xI x0), some (xI x1), some (xR 26 0 0), none] [xR 26 0 0] M
  refine xw_st0 hC (xs_iconst dL_callsIn_1) ?_
  show XWW p l e rL_callsIn s m args below meth c 0 0 (XWq below args s D G ρ Post) D G ρ 5 2 [some (xR 0 0 0), some (xI x0), some (xI x1), some (xR 26 0 0), none] [xI 0, xR 26 0 0] M
  refine xw_st0 hC (xs_aload_n (i := 0) dL_callsIn_2 rfl) ?_
  show XWW p l e rL_callsIn s m args below meth c 0 0 (XWq below args s D G ρ Post) D G ρ 5 3 [some (xR 0 0 0), some (xI x0), some (xI x1), some (xR 26 0 0), none] [xR 0 0 0, xI 0, xR 26 0 0] M
  refine xw_st0 hC (xs_iload_n (i := 1) dL_callsIn_3 rfl) ?_
  show XWW p l e rL_callsIn s m args below meth c 0 0 (XWq below args s D G ρ Post) D G ρ 5 4 [some (xR 0 0 0), some (xI x0), some (xI x1), some (xR 26 0 0), none] [xI x0, xR 0 0 0, xI 0, xR 26 0 0] M
  refine xw_st0 hC (xs_iload_n (i := 2) dL_callsIn_4 rfl) ?_
  show XWW p l e rL_callsIn s m args below meth c 0 0 (XWq below args s D G ρ Post) D G ρ 5 5 [some (xR 0 0 0), some (xI x0), some (xI x1), some (xR 26 0 0), none] [xI x1, xI x0, xR 0 0 0, xI 0, xR 26 0 0] M
  have hH : ∀ k ∈ ([1] : List Int), XHd RL 5 [(0, 10, 13, 13)] k ((fun k => 13 : Int → Nat) k) := by
    intro k hk
    simp only [List.mem_cons, List.not_mem_nil, or_false] at hk
    subst hk
    · exact ⟨by decide, [], ⟨0, 10, 13, 13⟩, [], rfl, fun z hz => absurd hz List.not_mem_nil, by decide, by decide, tw_760, rfl⟩
  refine xw_try (n := 2) (hh := [(0, 10, 13, 13)]) (As := [xI x0, xI x1]) (st := [xI 0, xR 26 0 0]) (cd := [1]) (Post := Post) (hp := fun k => 13) kEX7_callsIn ⟨⟨rfl, rfl, by decide, by decide⟩, ⟨by decide, by decide, by decide +kernel⟩, ⟨tw_1026, tw_736, tw_737, tw_1, tw_738⟩, TX7, _, rfl⟩ dL_callsIn_5 hC hZ hH rfl (by decide) h (fun v M1 hq => ?_) (fun k M1 hk hq => ?_)
  · refine xw_st1 hC h1 h6 (xs_i2lw dL_callsIn_8) ?_
    show XWW p l e rL_callsIn s m args below meth c 1 6 (XWq below args s D G ρ Post) D G ρ 5 9 [some (xR 0 0 0), some (xI x0), some (xI x1), some (xR 26 0 0), none] [xJ (w32 v), xI 0, xR 26 0 0] M1
    refine xw_st1 hC h1 h6 (xs_last dL_callsIn_9) ⟨⟨rfl, rfl, rfl, rfl⟩, ?_⟩
    show XWW p l e rL_callsIn s m args below meth c 1 6 (XWq below args s D G ρ Post) D G ρ 5 10 [some (xR 0 0 0), some (xI x0), some (xI x1), some (xR 26 0 0), none] [] (xup M1 26 0 0 0 (w32 v))
    refine xw_st1 hC h1 h6 (xs_goto (t := 17) dL_callsIn_10 (by decide)) ?_
    show XWW p l e rL_callsIn s m args below meth c 1 6 (XWq below args s D G ρ Post) D G ρ 5 17 [some (xR 0 0 0), some (xI x0), some (xI x1), some (xR 26 0 0), none] [] (xup M1 26 0 0 0 (w32 v))
    refine xw_st1 hC h1 h6 (xs_iconst dL_callsIn_17) ?_
    show XWW p l e rL_callsIn s m args below meth c 1 6 (XWq below args s D G ρ Post) D G ρ 5 18 [some (xR 0 0 0), some (xI x0), some (xI x1), some (xR 26 0 0), none] [xI 0] (xup M1 26 0 0 0 (w32 v))
    exact xw_iret ⟨hC.1, hC.2.1, hC.2.2.1, hC.2.2.2.1, hC.2.2.2.2.1, Nat.zero_le _, Nat.zero_le _⟩ hZ dL_callsIn_18 hq
  · simp only [List.mem_cons, List.not_mem_nil, or_false] at hk
    subst hk
    · refine xw_ast hC dL_callsIn_13 (by decide) rfl (by
        intro j w hj hw
        have e : j = 3 := by omega
        subst e
        cases hw
        rfl) ?_
      show XWW p l e rL_callsIn s m args below meth c 1 6 (XWq below args s D G ρ Post) D G ρ 5 15 [some (xR 0 0 0), some (xI x0), some (xI x1), some (xR 26 0 0), none] [] M1
      refine xw_st1 hC h1 h6 (xs_iconst dL_callsIn_15) ?_
      show XWW p l e rL_callsIn s m args below meth c 1 6 (XWq below args s D G ρ Post) D G ρ 5 16 [some (xR 0 0 0), some (xI x0), some (xI x1), some (xR 26 0 0), none] [xI 1] M1
      exact xw_iret ⟨hC.1, hC.2.1, hC.2.2.1, hC.2.2.2.1, hC.2.2.2.2.1, Nat.zero_le _, Nat.zero_le _⟩ hZ dL_callsIn_16 hq
  )
/-- canCook -/
theorem twL_canCook : Cond.codeWith yL_canCook cL_canCook 5 (some .int) [(0, 10, 13, 21), (0, 10, 17, 13)] ∈ xT := xT_in 1029 (by decide +kernel) rfl
abbrev wL_canCook : List Cond := Cond.codeWith yL_canCook cL_canCook 5 (some .int) [(0, 10, 13, 21), (0, 10, 17, 13)] :: xT
abbrev rL_canCook : Room := { frames := 8, cells := 1, slots := 6, locals := 126 }
def sL_canCook : XSp := fun av M Q => ∃ (x0 x1 : Int), av = [xR 0 0 0, xI x0, xI x1, xR 26 0 0] ∧ tEX7_canCook [xR 0 0 0, xI x0, xI x1] M (LQ [3, 1] Q)
set_option maxRecDepth 100000 in
theorem kL_canCook : XCw yL_canCook wL_canCook rL_canCook sL_canCook := XCw.of (hh := [(0, 10, 13, 21), (0, 10, 17, 13)]) ⟨rfl, rfl⟩ (by decide) rfl (fun av M Post h => by
    obtain ⟨x0, x1, rfl, h⟩ := h
    simp [xen, xc1]) (fun av M Post h p l e s m args below meth c D G ρ hC hZ => by
  obtain ⟨x0, x1, rfl, h⟩ := h
  have h1 := hZ.2.2.2.2.2.1
  have h6 := hZ.2.2.2.2.2.2
  show XWW p l e rL_canCook s m args below meth c 0 0 (XWq below args s D G ρ Post) D G ρ 5 0 [some (xR 0 0 0), some (xI x0), some (xI x1), some (xR 26 0 0), none] [] M
  refine xw_st0 hC (xs_aload_n (i := 3) dL_canCook_0 rfl) ?_
  show XWW p l e rL_canCook s m args below meth c 0 0 (XWq below args s D G ρ Post) D G ρ 5 1 [some (xR 0 0 0), some (xI x0), some (xI x1), some (xR 26 0 0), none] [xR 26 0 0] M
  refine xw_st0 hC (xs_iconst dL_canCook_1) ?_
  show XWW p l e rL_canCook s m args below meth c 0 0 (XWq below args s D G ρ Post) D G ρ 5 2 [some (xR 0 0 0), some (xI x0), some (xI x1), some (xR 26 0 0), none] [xI 0, xR 26 0 0] M
  refine xw_st0 hC (xs_aload_n (i := 0) dL_canCook_2 rfl) ?_
  show XWW p l e rL_canCook s m args below meth c 0 0 (XWq below args s D G ρ Post) D G ρ 5 3 [some (xR 0 0 0), some (xI x0), some (xI x1), some (xR 26 0 0), none] [xR 0 0 0, xI 0, xR 26 0 0] M
  refine xw_st0 hC (xs_iload_n (i := 1) dL_canCook_3 rfl) ?_
  show XWW p l e rL_canCook s m args below meth c 0 0 (XWq below args s D G ρ Post) D G ρ 5 4 [some (xR 0 0 0), some (xI x0), some (xI x1), some (xR 26 0 0), none] [xI x0, xR 0 0 0, xI 0, xR 26 0 0] M
  refine xw_st0 hC (xs_iload_n (i := 2) dL_canCook_4 rfl) ?_
  show XWW p l e rL_canCook s m args below meth c 0 0 (XWq below args s D G ρ Post) D G ρ 5 5 [some (xR 0 0 0), some (xI x0), some (xI x1), some (xR 26 0 0), none] [xI x1, xI x0, xR 0 0 0, xI 0, xR 26 0 0] M
  have hH : ∀ k ∈ ([3, 1] : List Int), XHd RL 5 [(0, 10, 13, 21), (0, 10, 17, 13)] k ((fun k => if k = 3 then 13 else 17 : Int → Nat) k) := by
    intro k hk
    simp only [List.mem_cons, List.not_mem_nil, or_false] at hk
    rcases hk with rfl | rfl
    · exact ⟨by decide, [], ⟨0, 10, 13, 21⟩, [⟨0, 10, 17, 13⟩], rfl, fun z hz => absurd hz List.not_mem_nil, by decide, by decide, tw_798, rfl⟩
    · exact ⟨by decide, [⟨0, 10, 13, 21⟩], ⟨0, 10, 17, 13⟩, [], rfl, by
        intro z hz
        simp only [List.mem_cons, List.not_mem_nil, or_false] at hz
        subst hz
        exact ⟨by decide, 3, by decide, by decide, tw_798⟩, by decide, by decide, tw_760, rfl⟩
  refine xw_try (n := 2) (hh := [(0, 10, 13, 21), (0, 10, 17, 13)]) (As := [xI x0, xI x1]) (st := [xI 0, xR 26 0 0]) (cd := [3, 1]) (Post := Post) (hp := fun k => if k = 3 then 13 else 17) kEX7_canCook ⟨⟨rfl, rfl, by decide, by decide⟩, ⟨by decide, by decide, by decide +kernel⟩, ⟨tw_1030, tw_596, tw_597, tw_1, tw_598⟩, TX7, _, rfl⟩ dL_canCook_5 hC hZ hH rfl (by decide) h (fun v M1 hq => ?_) (fun k M1 hk hq => ?_)
  · refine xw_st1 hC h1 h6 (xs_i2lw dL_canCook_8) ?_
    show XWW p l e rL_canCook s m args below meth c 1 6 (XWq below args s D G ρ Post) D G ρ 5 9 [some (xR 0 0 0), some (xI x0), some (xI x1), some (xR 26 0 0), none] [xJ (w32 v), xI 0, xR 26 0 0] M1
    refine xw_st1 hC h1 h6 (xs_last dL_canCook_9) ⟨⟨rfl, rfl, rfl, rfl⟩, ?_⟩
    show XWW p l e rL_canCook s m args below meth c 1 6 (XWq below args s D G ρ Post) D G ρ 5 10 [some (xR 0 0 0), some (xI x0), some (xI x1), some (xR 26 0 0), none] [] (xup M1 26 0 0 0 (w32 v))
    refine xw_st1 hC h1 h6 (xs_goto (t := 21) dL_canCook_10 (by decide)) ?_
    show XWW p l e rL_canCook s m args below meth c 1 6 (XWq below args s D G ρ Post) D G ρ 5 21 [some (xR 0 0 0), some (xI x0), some (xI x1), some (xR 26 0 0), none] [] (xup M1 26 0 0 0 (w32 v))
    refine xw_st1 hC h1 h6 (xs_iconst dL_canCook_21) ?_
    show XWW p l e rL_canCook s m args below meth c 1 6 (XWq below args s D G ρ Post) D G ρ 5 22 [some (xR 0 0 0), some (xI x0), some (xI x1), some (xR 26 0 0), none] [xI 0] (xup M1 26 0 0 0 (w32 v))
    exact xw_iret ⟨hC.1, hC.2.1, hC.2.2.1, hC.2.2.2.1, hC.2.2.2.2.1, Nat.zero_le _, Nat.zero_le _⟩ hZ dL_canCook_22 hq
  · simp only [List.mem_cons, List.not_mem_nil, or_false] at hk
    rcases hk with rfl | rfl
    · refine xw_ast hC dL_canCook_13 (by decide) rfl (by
        intro j w hj hw
        have e : j = 3 := by omega
        subst e
        cases hw
        rfl) ?_
      show XWW p l e rL_canCook s m args below meth c 1 6 (XWq below args s D G ρ Post) D G ρ 5 15 [some (xR 0 0 0), some (xI x0), some (xI x1), some (xR 26 0 0), none] [] M1
      refine xw_st1 hC h1 h6 (xs_iconst dL_canCook_15) ?_
      show XWW p l e rL_canCook s m args below meth c 1 6 (XWq below args s D G ρ Post) D G ρ 5 16 [some (xR 0 0 0), some (xI x0), some (xI x1), some (xR 26 0 0), none] [xI 1] M1
      exact xw_iret ⟨hC.1, hC.2.1, hC.2.2.1, hC.2.2.2.1, hC.2.2.2.2.1, Nat.zero_le _, Nat.zero_le _⟩ hZ dL_canCook_16 hq
    · refine xw_ast hC dL_canCook_17 (by decide) rfl (by
        intro j w hj hw
        have e : j = 3 := by omega
        subst e
        cases hw
        rfl) ?_
      show XWW p l e rL_canCook s m args below meth c 1 6 (XWq below args s D G ρ Post) D G ρ 5 19 [some (xR 0 0 0), some (xI x0), some (xI x1), some (xR 26 0 0), none] [] M1
      refine xw_st1 hC h1 h6 (xs_iconst dL_canCook_19) ?_
      show XWW p l e rL_canCook s m args below meth c 1 6 (XWq below args s D G ρ Post) D G ρ 5 20 [some (xR 0 0 0), some (xI x0), some (xI x1), some (xR 26 0 0), none] [xI 2] M1
      exact xw_iret ⟨hC.1, hC.2.1, hC.2.2.1, hC.2.2.2.1, hC.2.2.2.2.1, Nat.zero_le _, Nat.zero_le _⟩ hZ dL_canCook_20 hq
  )
/-- bestLorry -/
theorem twL_bestLorry : Cond.codeWith yL_bestLorry cL_bestLorry 4 (some .int) [(0, 9, 12, 21)] ∈ xT := xT_in 1033 (by decide +kernel) rfl
abbrev wL_bestLorry : List Cond := Cond.codeWith yL_bestLorry cL_bestLorry 4 (some .int) [(0, 9, 12, 21)] :: xT
abbrev rL_bestLorry : Room := { frames := 8, cells := 1, slots := 6, locals := 125 }
def sL_bestLorry : XSp := fun av M Q => ∃ (x0 : Int), av = [xR 0 0 0, xI x0, xR 26 0 0] ∧ tEX7_bestLorry [xR 0 0 0, xI x0] M (LQ [3] Q)
set_option maxRecDepth 100000 in
theorem kL_bestLorry : XCw yL_bestLorry wL_bestLorry rL_bestLorry sL_bestLorry := XCw.of (hh := [(0, 9, 12, 21)]) ⟨rfl, rfl⟩ (by decide) rfl (fun av M Post h => by
    obtain ⟨x0, rfl, h⟩ := h
    simp [xen, xc1]) (fun av M Post h p l e s m args below meth c D G ρ hC hZ => by
  obtain ⟨x0, rfl, h⟩ := h
  have h1 := hZ.2.2.2.2.2.1
  have h6 := hZ.2.2.2.2.2.2
  show XWW p l e rL_bestLorry s m args below meth c 0 0 (XWq below args s D G ρ Post) D G ρ 4 0 [some (xR 0 0 0), some (xI x0), some (xR 26 0 0), none] [] M
  refine xw_st0 hC (xs_aload_n (i := 2) dL_bestLorry_0 rfl) ?_
  show XWW p l e rL_bestLorry s m args below meth c 0 0 (XWq below args s D G ρ Post) D G ρ 4 1 [some (xR 0 0 0), some (xI x0), some (xR 26 0 0), none] [xR 26 0 0] M
  refine xw_st0 hC (xs_iconst dL_bestLorry_1) ?_
  show XWW p l e rL_bestLorry s m args below meth c 0 0 (XWq below args s D G ρ Post) D G ρ 4 2 [some (xR 0 0 0), some (xI x0), some (xR 26 0 0), none] [xI 0, xR 26 0 0] M
  refine xw_st0 hC (xs_aload_n (i := 0) dL_bestLorry_2 rfl) ?_
  show XWW p l e rL_bestLorry s m args below meth c 0 0 (XWq below args s D G ρ Post) D G ρ 4 3 [some (xR 0 0 0), some (xI x0), some (xR 26 0 0), none] [xR 0 0 0, xI 0, xR 26 0 0] M
  refine xw_st0 hC (xs_iload_n (i := 1) dL_bestLorry_3 rfl) ?_
  show XWW p l e rL_bestLorry s m args below meth c 0 0 (XWq below args s D G ρ Post) D G ρ 4 4 [some (xR 0 0 0), some (xI x0), some (xR 26 0 0), none] [xI x0, xR 0 0 0, xI 0, xR 26 0 0] M
  have hH : ∀ k ∈ ([3] : List Int), XHd RL 4 [(0, 9, 12, 21)] k ((fun k => 12 : Int → Nat) k) := by
    intro k hk
    simp only [List.mem_cons, List.not_mem_nil, or_false] at hk
    subst hk
    · exact ⟨by decide, [], ⟨0, 9, 12, 21⟩, [], rfl, fun z hz => absurd hz List.not_mem_nil, by decide, by decide, tw_798, rfl⟩
  refine xw_try (n := 1) (hh := [(0, 9, 12, 21)]) (As := [xI x0]) (st := [xI 0, xR 26 0 0]) (cd := [3]) (Post := Post) (hp := fun k => 12) kEX7_bestLorry ⟨⟨rfl, rfl, by decide, by decide⟩, ⟨by decide, by decide, by decide +kernel⟩, ⟨tw_1034, tw_539, tw_540, tw_1, tw_541⟩, TX7, _, rfl⟩ dL_bestLorry_4 hC hZ hH rfl (by decide) h (fun v M1 hq => ?_) (fun k M1 hk hq => ?_)
  · refine xw_st1 hC h1 h6 (xs_i2lw dL_bestLorry_7) ?_
    show XWW p l e rL_bestLorry s m args below meth c 1 6 (XWq below args s D G ρ Post) D G ρ 4 8 [some (xR 0 0 0), some (xI x0), some (xR 26 0 0), none] [xJ (w32 v), xI 0, xR 26 0 0] M1
    refine xw_st1 hC h1 h6 (xs_last dL_bestLorry_8) ⟨⟨rfl, rfl, rfl, rfl⟩, ?_⟩
    show XWW p l e rL_bestLorry s m args below meth c 1 6 (XWq below args s D G ρ Post) D G ρ 4 9 [some (xR 0 0 0), some (xI x0), some (xR 26 0 0), none] [] (xup M1 26 0 0 0 (w32 v))
    refine xw_st1 hC h1 h6 (xs_goto (t := 15) dL_bestLorry_9 (by decide)) ?_
    show XWW p l e rL_bestLorry s m args below meth c 1 6 (XWq below args s D G ρ Post) D G ρ 4 15 [some (xR 0 0 0), some (xI x0), some (xR 26 0 0), none] [] (xup M1 26 0 0 0 (w32 v))
    refine xw_st1 hC h1 h6 (xs_iconst dL_bestLorry_15) ?_
    show XWW p l e rL_bestLorry s m args below meth c 1 6 (XWq below args s D G ρ Post) D G ρ 4 16 [some (xR 0 0 0), some (xI x0), some (xR 26 0 0), none] [xI 0] (xup M1 26 0 0 0 (w32 v))
    exact xw_iret ⟨hC.1, hC.2.1, hC.2.2.1, hC.2.2.2.1, hC.2.2.2.2.1, Nat.zero_le _, Nat.zero_le _⟩ hZ dL_bestLorry_16 hq
  · simp only [List.mem_cons, List.not_mem_nil, or_false] at hk
    subst hk
    · refine xw_astn (i := 3) hC dL_bestLorry_12 rfl (by decide) rfl (by
        intro j w hj hw
        have e : j = 2 := by omega
        subst e
        cases hw
        rfl) ?_
      show XWW p l e rL_bestLorry s m args below meth c 1 6 (XWq below args s D G ρ Post) D G ρ 4 13 [some (xR 0 0 0), some (xI x0), some (xR 26 0 0), none] [] M1
      refine xw_st1 hC h1 h6 (xs_iconst dL_bestLorry_13) ?_
      show XWW p l e rL_bestLorry s m args below meth c 1 6 (XWq below args s D G ρ Post) D G ρ 4 14 [some (xR 0 0 0), some (xI x0), some (xR 26 0 0), none] [xI 1] M1
      exact xw_iret ⟨hC.1, hC.2.1, hC.2.2.1, hC.2.2.2.1, hC.2.2.2.2.1, Nat.zero_le _, Nat.zero_le _⟩ hZ dL_bestLorry_14 hq
  )
/-- enoughGrace -/
theorem twL_enoughGrace : Cond.codeWith yL_enoughGrace cL_enoughGrace 4 (some .int) [(0, 9, 12, 13)] ∈ xT := xT_in 1037 (by decide +kernel) rfl
abbrev wL_enoughGrace : List Cond := Cond.codeWith yL_enoughGrace cL_enoughGrace 4 (some .int) [(0, 9, 12, 13)] :: xT
abbrev rL_enoughGrace : Room := { frames := 8, cells := 1, slots := 6, locals := 186 }
def sL_enoughGrace : XSp := fun av M Q => ∃ (x0 : Int), av = [xR 0 0 0, xI x0, xR 26 0 0] ∧ tEX7_enoughGrace [xR 0 0 0, xI x0] M (LQ [1] Q)
set_option maxRecDepth 100000 in
theorem kL_enoughGrace : XCw yL_enoughGrace wL_enoughGrace rL_enoughGrace sL_enoughGrace := XCw.of (hh := [(0, 9, 12, 13)]) ⟨rfl, rfl⟩ (by decide) rfl (fun av M Post h => by
    obtain ⟨x0, rfl, h⟩ := h
    simp [xen, xc1]) (fun av M Post h p l e s m args below meth c D G ρ hC hZ => by
  obtain ⟨x0, rfl, h⟩ := h
  have h1 := hZ.2.2.2.2.2.1
  have h6 := hZ.2.2.2.2.2.2
  show XWW p l e rL_enoughGrace s m args below meth c 0 0 (XWq below args s D G ρ Post) D G ρ 4 0 [some (xR 0 0 0), some (xI x0), some (xR 26 0 0), none] [] M
  refine xw_st0 hC (xs_aload_n (i := 2) dL_enoughGrace_0 rfl) ?_
  show XWW p l e rL_enoughGrace s m args below meth c 0 0 (XWq below args s D G ρ Post) D G ρ 4 1 [some (xR 0 0 0), some (xI x0), some (xR 26 0 0), none] [xR 26 0 0] M
  refine xw_st0 hC (xs_iconst dL_enoughGrace_1) ?_
  show XWW p l e rL_enoughGrace s m args below meth c 0 0 (XWq below args s D G ρ Post) D G ρ 4 2 [some (xR 0 0 0), some (xI x0), some (xR 26 0 0), none] [xI 0, xR 26 0 0] M
  refine xw_st0 hC (xs_aload_n (i := 0) dL_enoughGrace_2 rfl) ?_
  show XWW p l e rL_enoughGrace s m args below meth c 0 0 (XWq below args s D G ρ Post) D G ρ 4 3 [some (xR 0 0 0), some (xI x0), some (xR 26 0 0), none] [xR 0 0 0, xI 0, xR 26 0 0] M
  refine xw_st0 hC (xs_iload_n (i := 1) dL_enoughGrace_3 rfl) ?_
  show XWW p l e rL_enoughGrace s m args below meth c 0 0 (XWq below args s D G ρ Post) D G ρ 4 4 [some (xR 0 0 0), some (xI x0), some (xR 26 0 0), none] [xI x0, xR 0 0 0, xI 0, xR 26 0 0] M
  have hH : ∀ k ∈ ([1] : List Int), XHd RL 4 [(0, 9, 12, 13)] k ((fun k => 12 : Int → Nat) k) := by
    intro k hk
    simp only [List.mem_cons, List.not_mem_nil, or_false] at hk
    subst hk
    · exact ⟨by decide, [], ⟨0, 9, 12, 13⟩, [], rfl, fun z hz => absurd hz List.not_mem_nil, by decide, by decide, tw_760, rfl⟩
  refine xw_try (n := 1) (hh := [(0, 9, 12, 13)]) (As := [xI x0]) (st := [xI 0, xR 26 0 0]) (cd := [1]) (Post := Post) (hp := fun k => 12) kEX7_enoughGrace ⟨⟨rfl, rfl, by decide, by decide⟩, ⟨by decide, by decide, by decide +kernel⟩, ⟨tw_1038, tw_1039, tw_1040, tw_1, tw_1041⟩, TX7, _, rfl⟩ dL_enoughGrace_4 hC hZ hH rfl (by decide) h (fun v M1 hq => ?_) (fun k M1 hk hq => ?_)
  · refine xw_st1 hC h1 h6 (xs_i2lw dL_enoughGrace_7) ?_
    show XWW p l e rL_enoughGrace s m args below meth c 1 6 (XWq below args s D G ρ Post) D G ρ 4 8 [some (xR 0 0 0), some (xI x0), some (xR 26 0 0), none] [xJ (w32 v), xI 0, xR 26 0 0] M1
    refine xw_st1 hC h1 h6 (xs_last dL_enoughGrace_8) ⟨⟨rfl, rfl, rfl, rfl⟩, ?_⟩
    show XWW p l e rL_enoughGrace s m args below meth c 1 6 (XWq below args s D G ρ Post) D G ρ 4 9 [some (xR 0 0 0), some (xI x0), some (xR 26 0 0), none] [] (xup M1 26 0 0 0 (w32 v))
    refine xw_st1 hC h1 h6 (xs_goto (t := 15) dL_enoughGrace_9 (by decide)) ?_
    show XWW p l e rL_enoughGrace s m args below meth c 1 6 (XWq below args s D G ρ Post) D G ρ 4 15 [some (xR 0 0 0), some (xI x0), some (xR 26 0 0), none] [] (xup M1 26 0 0 0 (w32 v))
    refine xw_st1 hC h1 h6 (xs_iconst dL_enoughGrace_15) ?_
    show XWW p l e rL_enoughGrace s m args below meth c 1 6 (XWq below args s D G ρ Post) D G ρ 4 16 [some (xR 0 0 0), some (xI x0), some (xR 26 0 0), none] [xI 0] (xup M1 26 0 0 0 (w32 v))
    exact xw_iret ⟨hC.1, hC.2.1, hC.2.2.1, hC.2.2.2.1, hC.2.2.2.2.1, Nat.zero_le _, Nat.zero_le _⟩ hZ dL_enoughGrace_16 hq
  · simp only [List.mem_cons, List.not_mem_nil, or_false] at hk
    subst hk
    · refine xw_astn (i := 3) hC dL_enoughGrace_12 rfl (by decide) rfl (by
        intro j w hj hw
        have e : j = 2 := by omega
        subst e
        cases hw
        rfl) ?_
      show XWW p l e rL_enoughGrace s m args below meth c 1 6 (XWq below args s D G ρ Post) D G ρ 4 13 [some (xR 0 0 0), some (xI x0), some (xR 26 0 0), none] [] M1
      refine xw_st1 hC h1 h6 (xs_iconst dL_enoughGrace_13) ?_
      show XWW p l e rL_enoughGrace s m args below meth c 1 6 (XWq below args s D G ρ Post) D G ρ 4 14 [some (xR 0 0 0), some (xI x0), some (xR 26 0 0), none] [xI 1] M1
      exact xw_iret ⟨hC.1, hC.2.1, hC.2.2.1, hC.2.2.2.1, hC.2.2.2.2.1, Nat.zero_le _, Nat.zero_le _⟩ hZ dL_enoughGrace_14 hq
  )
end XLx

