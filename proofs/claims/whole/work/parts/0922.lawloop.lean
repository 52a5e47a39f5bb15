section XLw2
/-! the law's loop -/
set_option maxRecDepth 100000 in
theorem lw_loop {p : Program} {l : Launch} {e : Env} {s : State} {m : MethodId} {below : List Frame} {meth : Method} {c : Code} {D : va_G} {G : Nat → ClassId} {ρ : XOb → Nat} {b Ln : Nat} {xs : Nat → Int32} (hC : XCX p room_1 s m #[Value.ref b] c 0 0 D G ρ cL_law 9 RL (Cond.initialized RL :: xT)) (hl : l.stackTraces = false) (hE : (XEw s ∧ XEs s ∧ XEz (XA ρ s.heap.size) s s.heap) ∧ XEc s) (hX : XSc s ρ b Ln xs) (hr : meth.sig.returnType = ret) (hlocks : meth.locks = false) (hA : ∀ o ∈ xobs, s.heap.size ≤ ρ o) : ∀ (n : Nat) (cells slots : Nat) (i : Int) (M : XM) (x5 x6 x7 x8 : Option XV), 0 ≤ i → i ≤ Ln → (Ln : Int) - i ≤ 6 * n + 5 → cells + n + 1 ≤ 601024 → slots + 6 * n + 6 ≤ 7293034 → RR M → XWW p l e room_1 s m #[Value.ref b] below meth c cells slots (lw_Z below #[Value.ref b] s) D G ρ 9 23 [some (xR 40 0 0), some (xR 0 0 0), some (xR 20 0 0), some (xR 26 0 0), some (xI i), x5, x6, x7, x8] [] M := by
  intro n
  induction n with
  | zero =>
    intro cells slots i M x5 x6 x7 x8 h0 hL hn hc hs h
    have c0 : cells ≤ room_1.cells := show cells ≤ 601024 by omega
    have s0 : slots ≤ room_1.slots := show slots ≤ 7293034 by omega
    have hLn := hX.2.2.2.2
    show XWW p l e room_1 s m #[Value.ref b] below meth c cells slots (lw_Z below #[Value.ref b] s) D G ρ 9 23 [some (xR 40 0 0), some (xR 0 0 0), some (xR 20 0 0), some (xR 26 0 0), some (xI i), x5, x6, x7, x8] [] M
    refine xl_st hC c0 s0 (xs_iload dL_law_23) ?_
    show XWW p l e room_1 s m #[Value.ref b] below meth c cells slots (lw_Z below #[Value.ref b] s) D G ρ 9 25 [some (xR 40 0 0), some (xR 0 0 0), some (xR 20 0 0), some (xR 26 0 0), some (xI i), x5, x6, x7, x8] [xI i] M
    refine xl_st hC c0 s0 (xs_aload_n (i := 0) dL_law_25 rfl) ?_
    show XWW p l e room_1 s m #[Value.ref b] below meth c cells slots (lw_Z below #[Value.ref b] s) D G ρ 9 26 [some (xR 40 0 0), some (xR 0 0 0), some (xR 20 0 0), some (xR 26 0 0), some (xI i), x5, x6, x7, x8] [xR 40 0 0, xI i] M
    refine xl_len hC hX dL_law_26 ?_
    show XWW p l e room_1 s m #[Value.ref b] below meth c cells slots (lw_Z below #[Value.ref b] s) D G ρ 9 27 [some (xR 40 0 0), some (xR 0 0 0), some (xR 20 0 0), some (xR 26 0 0), some (xI i), x5, x6, x7, x8] [xI (Ln : Int), xI i] M
    refine xl_st hC c0 s0 (xs_bipush dL_law_27 rfl) ?_
    show XWW p l e room_1 s m #[Value.ref b] below meth c cells slots (lw_Z below #[Value.ref b] s) D G ρ 9 29 [some (xR 40 0 0), some (xR 0 0 0), some (xR 20 0 0), some (xR 26 0 0), some (xI i), x5, x6, x7, x8] [xI 6, xI (Ln : Int), xI i] M
    refine xl_st hC c0 s0 (xs_isub dL_law_29) ?_
    show XWW p l e room_1 s m #[Value.ref b] below meth c cells slots (lw_Z below #[Value.ref b] s) D G ρ 9 30 [some (xR 40 0 0), some (xR 0 0 0), some (xR 20 0 0), some (xR 26 0 0), some (xI i), x5, x6, x7, x8] [xI ((Ln : Int) - 6), xI i] M
    refine xl_st hC c0 s0 (xs_icmp_gt (t := 2187) dL_law_30 (by decide)) ⟨⟨⟨by omega, by omega⟩, ⟨by omega, by omega⟩⟩, fun _ => ?_, fun q => absurd (show (Ln : Int) - 6 < i by omega) q⟩
    show XWW p l e room_1 s m #[Value.ref b] below meth c cells slots (lw_Z below #[Value.ref b] s) D G ρ 9 2187 [some (xR 40 0 0), some (xR 0 0 0), some (xR 20 0 0), some (xR 26 0 0), some (xI i), x5, x6, x7, x8] [] M
    refine xl_st hC c0 s0 (xs_iconst dL_law_2187) ?_
    show XWW p l e room_1 s m #[Value.ref b] below meth c cells slots (lw_Z below #[Value.ref b] s) D G ρ 9 2188 [some (xR 40 0 0), some (xR 0 0 0), some (xR 20 0 0), some (xR 26 0 0), some (xI i), x5, x6, x7, x8] [xI 1] M
    exact xl_end hC hr hlocks hA c0 s0 dL_law_2188
  | succ n ih =>
    intro cells slots i M x5 x6 x7 x8 h0 hL hn hc hs h
    have c0 : cells ≤ room_1.cells := show cells ≤ 601024 by omega
    have s0 : slots ≤ room_1.slots := show slots ≤ 7293034 by omega
    have hLn := hX.2.2.2.2
    show XWW p l e room_1 s m #[Value.ref b] below meth c cells slots (lw_Z below #[Value.ref b] s) D G ρ 9 23 [some (xR 40 0 0), some (xR 0 0 0), some (xR 20 0 0), some (xR 26 0 0), some (xI i), x5, x6, x7, x8] [] M
    refine xl_st hC c0 s0 (xs_iload dL_law_23) ?_
    show XWW p l e room_1 s m #[Value.ref b] below meth c cells slots (lw_Z below #[Value.ref b] s) D G ρ 9 25 [some (xR 40 0 0), some (xR 0 0 0), some (xR 20 0 0), some (xR 26 0 0), some (xI i), x5, x6, x7, x8] [xI i] M
    refine xl_st hC c0 s0 (xs_aload_n (i := 0) dL_law_25 rfl) ?_
    show XWW p l e room_1 s m #[Value.ref b] below meth c cells slots (lw_Z below #[Value.ref b] s) D G ρ 9 26 [some (xR 40 0 0), some (xR 0 0 0), some (xR 20 0 0), some (xR 26 0 0), some (xI i), x5, x6, x7, x8] [xR 40 0 0, xI i] M
    refine xl_len hC hX dL_law_26 ?_
    show XWW p l e room_1 s m #[Value.ref b] below meth c cells slots (lw_Z below #[Value.ref b] s) D G ρ 9 27 [some (xR 40 0 0), some (xR 0 0 0), some (xR 20 0 0), some (xR 26 0 0), some (xI i), x5, x6, x7, x8] [xI (Ln : Int), xI i] M
    refine xl_st hC c0 s0 (xs_bipush dL_law_27 rfl) ?_
    show XWW p l e room_1 s m #[Value.ref b] below meth c cells slots (lw_Z below #[Value.ref b] s) D G ρ 9 29 [some (xR 40 0 0), some (xR 0 0 0), some (xR 20 0 0), some (xR 26 0 0), some (xI i), x5, x6, x7, x8] [xI 6, xI (Ln : Int), xI i] M
    refine xl_st hC c0 s0 (xs_isub dL_law_29) ?_
    show XWW p l e room_1 s m #[Value.ref b] below meth c cells slots (lw_Z below #[Value.ref b] s) D G ρ 9 30 [some (xR 40 0 0), some (xR 0 0 0), some (xR 20 0 0), some (xR 26 0 0), some (xI i), x5, x6, x7, x8] [xI ((Ln : Int) - 6), xI i] M
    by_cases hi : (Ln : Int) - 6 < i
    · refine xl_st hC c0 s0 (xs_icmp_gt (t := 2187) dL_law_30 (by decide)) ⟨⟨⟨by omega, by omega⟩, ⟨by omega, by omega⟩⟩, fun _ => ?_, fun q => absurd hi q⟩
      show XWW p l e room_1 s m #[Value.ref b] below meth c cells slots (lw_Z below #[Value.ref b] s) D G ρ 9 2187 [some (xR 40 0 0), some (xR 0 0 0), some (xR 20 0 0), some (xR 26 0 0), some (xI i), x5, x6, x7, x8] [] M
      refine xl_st hC c0 s0 (xs_iconst dL_law_2187) ?_
      show XWW p l e room_1 s m #[Value.ref b] below meth c cells slots (lw_Z below #[Value.ref b] s) D G ρ 9 2188 [some (xR 40 0 0), some (xR 0 0 0), some (xR 20 0 0), some (xR 26 0 0), some (xI i), x5, x6, x7, x8] [xI 1] M
      exact xl_end hC hr hlocks hA c0 s0 dL_law_2188
    · refine xl_st hC c0 s0 (xs_icmp_gt (t := 2187) dL_law_30 (by decide)) ⟨⟨⟨by omega, by omega⟩, ⟨by omega, by omega⟩⟩, fun q => absurd q hi, fun _ => ?_⟩
      show XWW p l e room_1 s m #[Value.ref b] below meth c cells slots (lw_Z below #[Value.ref b] s) D G ρ 9 33 [some (xR 40 0 0), some (xR 0 0 0), some (xR 20 0 0), some (xR 26 0 0), some (xI i), x5, x6, x7, x8] [] M
      refine xl_st hC c0 s0 (xs_aload_n (i := 0) dL_law_33 rfl) ?_
      show XWW p l e room_1 s m #[Value.ref b] below meth c cells slots (lw_Z below #[Value.ref b] s) D G ρ 9 34 [some (xR 40 0 0), some (xR 0 0 0), some (xR 20 0 0), some (xR 26 0 0), some (xI i), x5, x6, x7, x8] [xR 40 0 0] M
      refine xl_st hC c0 s0 (xs_iload dL_law_34) ?_
      show XWW p l e room_1 s m #[Value.ref b] below meth c cells slots (lw_Z below #[Value.ref b] s) D G ρ 9 36 [some (xR 40 0 0), some (xR 0 0 0), some (xR 20 0 0), some (xR 26 0 0), some (xI i), x5, x6, x7, x8] [xI i, xR 40 0 0] M
      refine xl_sld hC hX (by omega) (by omega) dL_law_36 ?_
      show XWW p l e room_1 s m #[Value.ref b] below meth c cells slots (lw_Z below #[Value.ref b] s) D G ρ 9 37 [some (xR 40 0 0), some (xR 0 0 0), some (xR 20 0 0), some (xR 26 0 0), some (xI i), x5, x6, x7, x8] [xI (SLx xs i)] M
      refine xl_st hC c0 s0 (xs_bipush dL_law_37 rfl) ?_
      show XWW p l e room_1 s m #[Value.ref b] below meth c cells slots (lw_Z below #[Value.ref b] s) D G ρ 9 39 [some (xR 40 0 0), some (xR 0 0 0), some (xR 20 0 0), some (xR 26 0 0), some (xI i), x5, x6, x7, x8] [xI 63, xI (SLx xs i)] M
      refine xl_st hC c0 s0 (xs_iand (w := 64) 6 rfl (by decide) dL_law_39) ⟨rfl, ?_⟩
      show XWW p l e room_1 s m #[Value.ref b] below meth c cells slots (lw_Z below #[Value.ref b] s) D G ρ 9 40 [some (xR 40 0 0), some (xR 0 0 0), some (xR 20 0 0), some (xR 26 0 0), some (xI i), x5, x6, x7, x8] [xI (SLx xs i % 64)] M
      have next : ∀ (y5 y6 y7 y8 : Option XV) (N : XM), RR N → XWW p l e room_1 s m #[Value.ref b] below meth c (cells + 1) (slots + 6) (lw_Z below #[Value.ref b] s) D G ρ 9 2181 [some (xR 40 0 0), some (xR 0 0 0), some (xR 20 0 0), some (xR 26 0 0), some (xI i), y5, y6, y7, y8] [] N := by
        intro y5 y6 y7 y8 N hN
        have c1 : cells + 1 ≤ room_1.cells := show cells + 1 ≤ 601024 by omega
        have s1 : slots + 6 ≤ room_1.slots := show slots + 6 ≤ 7293034 by omega
        refine xl_st hC c1 s1 (xs_iinc dL_law_2181 (by decide)) ?_
        show XWW p l e room_1 s m #[Value.ref b] below meth c (cells + 1) (slots + 6) (lw_Z below #[Value.ref b] s) D G ρ 9 2184 [some (xR 40 0 0), some (xR 0 0 0), some (xR 20 0 0), some (xR 26 0 0), some (xI (i + 6)), y5, y6, y7, y8] [] N
        refine xl_st hC c1 s1 (xs_goto (t := 23) dL_law_2184 (by decide)) ?_
        show XWW p l e room_1 s m #[Value.ref b] below meth c (cells + 1) (slots + 6) (lw_Z below #[Value.ref b] s) D G ρ 9 23 [some (xR 40 0 0), some (xR 0 0 0), some (xR 20 0 0), some (xR 26 0 0), some (xI (i + 6)), y5, y6, y7, y8] [] N
        exact ih (cells + 1) (slots + 6) (i + 6) N y5 y6 y7 y8 (by omega) (by omega) (by omega) (by omega) (by omega) hN
      have hc1 : cells + 1 ≤ 601024 := by omega
      have hs1 : slots + 6 ≤ 7293034 := by omega
      have hi6 : i + 6 ≤ Ln := by omega
      refine xl_st hC c0 s0 (xs_tsw (t := 2181) (ts := [188, 256, 312, 368, 436, 516, 596, 688, 756, 824, 928, 1008, 1076, 1144, 1200, 1256, 1312, 1325, 1338, 1382, 1426, 1494, 1562, 1630, 1698, 1754, 1810, 1878, 1946, 2014, 2070, 2126, 2167]) dL_law_40 (by decide) (by decide) (fun j hj => by rcases (show j = 0 ∨ j = 1 ∨ j = 2 ∨ j = 3 ∨ j = 4 ∨ j = 5 ∨ j = 6 ∨ j = 7 ∨ j = 8 ∨ j = 9 ∨ j = 10 ∨ j = 11 ∨ j = 12 ∨ j = 13 ∨ j = 14 ∨ j = 15 ∨ j = 16 ∨ j = 17 ∨ j = 18 ∨ j = 19 ∨ j = 20 ∨ j = 21 ∨ j = 22 ∨ j = 23 ∨ j = 24 ∨ j = 25 ∨ j = 26 ∨ j = 27 ∨ j = 28 ∨ j = 29 ∨ j = 30 ∨ j = 31 ∨ j = 32 by simp only [List.length_cons, List.length_nil] at hj; omega) with rfl | rfl | rfl | rfl | rfl | rfl | rfl | rfl | rfl | rfl | rfl | rfl | rfl | rfl | rfl | rfl | rfl | rfl | rfl | rfl | rfl | rfl | rfl | rfl | rfl | rfl | rfl | rfl | rfl | rfl | rfl | rfl | rfl <;> exact ⟨_, _, rfl, rfl, by decide⟩)) ⟨⟨by omega, by omega⟩, ⟨fun _ => cs_addPlace hC hl hE hX hc1 hs1 h0 hi6 h next, fun _ => cs_addKitchen hC hl hE hX hc1 hs1 h0 hi6 h next, fun _ => cs_addLorry hC hl hE hX hc1 hs1 h0 hi6 h next, fun _ => cs_set hC hl hE hX hc1 hs1 h0 hi6 h next, fun _ => cs_stock hC hl hE hX hc1 hs1 h0 hi6 h next, fun _ => cs_cook hC hl hE hX hc1 hs1 h0 hi6 h next, fun _ => cs_load hC hl hE hX hc1 hs1 h0 hi6 h next, fun _ => cs_unload hC hl hE hX hc1 hs1 h0 hi6 h next, fun _ => cs_drive hC hl hE hX hc1 hs1 h0 hi6 h next, fun _ => cs_addUnit hC hl hE hX hc1 hs1 h0 hi6 h next, fun _ => cs_split hC hl hE hX hc1 hs1 h0 hi6 h next, fun _ => cs_join hC hl hE hX hc1 hs1 h0 hi6 h next, fun _ => cs_move hC hl hE hX hc1 hs1 h0 hi6 h next, fun _ => cs_wrap hC hl hE hX hc1 hs1 h0 hi6 h next, fun _ => cs_pass hC hl hE hX hc1 hs1 h0 hi6 h next, fun _ => cs_append hC hl hE hX hc1 hs1 h0 hi6 h next, fun _ => cs_clearBuffer hC hl hE hX hc1 hs1 h0 hi6 h next, fun _ => cs_firstError hC hl hE hX hc1 hs1 h0 hi6 h next, fun _ => cs_addSheet hC hl hE hX hc1 hs1 h0 hi6 h next, fun _ => cs_undo hC hl hE hX hc1 hs1 h0 hi6 h next, fun _ => cs_place hC hl hE hX hc1 hs1 h0 hi6 h next, fun _ => cs_unit hC hl hE hX hc1 hs1 h0 hi6 h next, fun _ => cs_kitchen hC hl hE hX hc1 hs1 h0 hi6 h next, fun _ => cs_lorry hC hl hE hX hc1 hs1 h0 hi6 h next, fun _ => cs_count hC hl hE hX hc1 hs1 h0 hi6 h next, fun _ => cs_setting hC hl hE hX hc1 hs1 h0 hi6 h next, fun _ => cs_ifPassed hC hl hE hX hc1 hs1 h0 hi6 h next, fun _ => cs_callsIn hC hl hE hX hc1 hs1 h0 hi6 h next, fun _ => cs_canCook hC hl hE hX hc1 hs1 h0 hi6 h next, fun _ => cs_bestLorry hC hl hE hX hc1 hs1 h0 hi6 h next, fun _ => cs_enoughGrace hC hl hE hX hc1 hs1 h0 hi6 h next, fun _ => cs_servedShare hC hl hE hX hc1 hs1 h0 hi6 h next, fun _ => cs_digest hC hl hE hX hc1 hs1 h0 hi6 h next, trivial⟩, fun _ => ?_⟩
      exact xl_widen (Nat.le_succ _) (Nat.le_add_right _ 6) (next _ _ _ _ M h)
end XLw2

