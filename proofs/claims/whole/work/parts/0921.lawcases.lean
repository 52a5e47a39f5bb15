section XLz
/-! the cases of the law's switch -/
theorem xl_widen {p : Program} {l : Launch} {e : Env} {s : State} {m : MethodId} {args : Array Value} {below : List Frame} {meth : Method} {c : Code} {R : Room} {Q : State → Prop} {D : va_G} {G : Nat → ClassId} {ρ : XOb → Nat} {nL cells slots c1 s1 pc : Nat} {L : XLs} {st : List XV} {M : XM} (hc : cells ≤ c1) (hs : slots ≤ s1) (h : XWW p l e R s m args below meth c c1 s1 Q D G ρ nL pc L st M) : XWW p l e R s m args below meth c cells slots Q D G ρ nL pc L st M := fun H locs ls hP hS hl => W.widen (k := c1) (n := s1) hc hs (h H locs ls hP hS hl)
set_option maxRecDepth 100000 in
theorem cs_addPlace {p : Program} {l : Launch} {e : Env} {s : State} {m : MethodId} {below : List Frame} {meth : Method} {c : Code} {D : va_G} {G : Nat → ClassId} {ρ : XOb → Nat} {b Ln : Nat} {xs : Nat → Int32} {cells slots : Nat} (hC : XCX p room_1 s m #[Value.ref b] c 0 0 D G ρ cL_law 9 RL (Cond.initialized RL :: xT)) (hl : l.stackTraces = false) (hE : (XEw s ∧ XEs s ∧ XEz (XA ρ s.heap.size) s s.heap) ∧ XEc s) (hX : XSc s ρ b Ln xs) (hc : cells + 1 ≤ 601024) (hs : slots + 6 ≤ 7293034) {i : Int} (h0 : 0 ≤ i) (h6 : i + 6 ≤ Ln) {M : XM} (h : RR M) {x5 x6 x7 x8 : Option XV} (next : ∀ (y5 y6 y7 y8 : Option XV) (N : XM), RR N → XWW p l e room_1 s m #[Value.ref b] below meth c (cells + 1) (slots + 6) (lw_Z below #[Value.ref b] s) D G ρ 9 2181 [some (xR 40 0 0), some (xR 0 0 0), some (xR 20 0 0), some (xR 26 0 0), some (xI i), y5, y6, y7, y8] [] N) : XWW p l e room_1 s m #[Value.ref b] below meth c cells slots (lw_Z below #[Value.ref b] s) D G ρ 9 188 [some (xR 40 0 0), some (xR 0 0 0), some (xR 20 0 0), some (xR 26 0 0), some (xI i), x5, x6, x7, x8] [] M := by
  have c0 : cells ≤ room_1.cells := Nat.le_trans (Nat.le_succ _) hc
  have s0 : slots ≤ room_1.slots := Nat.le_trans (Nat.le_add_right _ 6) hs
  have hZ : ∀ (k : Int) (rv : List XV) (N : XM), 0 ≤ k → k ≤ 3 → LE k rv N → (fun (k : Int) (rv : List XV) (N : XM) => XWW p l e room_1 s m #[Value.ref b] below meth c (cells + 1) (slots + 6) (lw_Z below #[Value.ref b] s) D G ρ 9 223 [some (xR 40 0 0), some (xR 0 0 0), some (xR 20 0 0), some (xR 26 0 0), some (xI i), some (xI k), x6, x7, x8] (rv ++ []) N) k rv N := by
    intro k rv N k0 k3 hLE
    obtain ⟨v, rfl, hR, h5, h26⟩ := hLE
    show XWW p l e room_1 s m #[Value.ref b] below meth c (cells + 1) (slots + 6) (lw_Z below #[Value.ref b] s) D G ρ 9 223 [some (xR 40 0 0), some (xR 0 0 0), some (xR 20 0 0), some (xR 26 0 0), some (xI i), some (xI k), x6, x7, x8] [xI v] N
    refine xl_st hC hc hs (xs_istore dL_law_223 (by decide)) ?_
    show XWW p l e room_1 s m #[Value.ref b] below meth c (cells + 1) (slots + 6) (lw_Z below #[Value.ref b] s) D G ρ 9 225 [some (xR 40 0 0), some (xR 0 0 0), some (xR 20 0 0), some (xR 26 0 0), some (xI i), some (xI k), some (xI v), x7, x8] [] N
    refine xl_st hC hc hs (xs_aload_n (i := 2) dL_law_225 rfl) ?_
    show XWW p l e room_1 s m #[Value.ref b] below meth c (cells + 1) (slots + 6) (lw_Z below #[Value.ref b] s) D G ρ 9 226 [some (xR 40 0 0), some (xR 0 0 0), some (xR 20 0 0), some (xR 26 0 0), some (xI i), some (xI k), some (xI v), x7, x8] [xR 20 0 0] N
    refine xl_st hC hc hs (xs_V0 kX8_thrown ⟨⟨rfl, rfl, by decide, by decide⟩, ⟨by decide, by decide, by decide +kernel⟩, ⟨tw_1091, tw_1092, tw_1093, tw_9, tw_1094⟩, 8, TX8, _, rfl, fun G ρ f i k => ⟨_, rfl⟩⟩ dL_law_226) ⟨⟨rfl, xvz_20, by decide⟩, ⟨rfl, xvz_20⟩, ?_⟩
    show XWW p l e room_1 s m #[Value.ref b] below meth c (cells + 1) (slots + 6) (lw_Z below #[Value.ref b] s) D G ρ 9 229 [some (xR 40 0 0), some (xR 0 0 0), some (xR 20 0 0), some (xR 26 0 0), some (xI i), some (xI k), some (xI v), x7, x8] [xI (N 20 0 0 5)] N
    refine xl_st hC hc hs (xs_iload dL_law_229) ?_
    show XWW p l e room_1 s m #[Value.ref b] below meth c (cells + 1) (slots + 6) (lw_Z below #[Value.ref b] s) D G ρ 9 231 [some (xR 40 0 0), some (xR 0 0 0), some (xR 20 0 0), some (xR 26 0 0), some (xI i), some (xI k), some (xI v), x7, x8] [xI k, xI (N 20 0 0 5)] N
    refine xl_st hC hc hs (xs_icmp_eq (t := 236) dL_law_231 (by decide)) ⟨⟨by rw [h5]; exact ⟨by omega, by omega⟩, ⟨by omega, by omega⟩⟩, fun _ => ?_, fun q => absurd h5 q⟩
    show XWW p l e room_1 s m #[Value.ref b] below meth c (cells + 1) (slots + 6) (lw_Z below #[Value.ref b] s) D G ρ 9 236 [some (xR 40 0 0), some (xR 0 0 0), some (xR 20 0 0), some (xR 26 0 0), some (xI i), some (xI k), some (xI v), x7, x8] [] N
    refine xl_st hC hc hs (xs_iload dL_law_236) ?_
    show XWW p l e room_1 s m #[Value.ref b] below meth c (cells + 1) (slots + 6) (lw_Z below #[Value.ref b] s) D G ρ 9 238 [some (xR 40 0 0), some (xR 0 0 0), some (xR 20 0 0), some (xR 26 0 0), some (xI i), some (xI k), some (xI v), x7, x8] [xI k] N
    refine xl_st hC hc hs (xs_if_ne (t := 253) dL_law_238 (by decide)) ⟨⟨by omega, by omega⟩, fun _ => ?_, fun q => ?_⟩
    · show XWW p l e room_1 s m #[Value.ref b] below meth c (cells + 1) (slots + 6) (lw_Z below #[Value.ref b] s) D G ρ 9 253 [some (xR 40 0 0), some (xR 0 0 0), some (xR 20 0 0), some (xR 26 0 0), some (xI i), some (xI k), some (xI v), x7, x8] [] N
      refine xl_st hC hc hs (xs_goto (t := 2181) dL_law_253 (by decide)) ?_
      show XWW p l e room_1 s m #[Value.ref b] below meth c (cells + 1) (slots + 6) (lw_Z below #[Value.ref b] s) D G ρ 9 2181 [some (xR 40 0 0), some (xR 0 0 0), some (xR 20 0 0), some (xR 26 0 0), some (xI i), some (xI k), some (xI v), x7, x8] [] N
      exact next _ _ _ _ N hR
    · show XWW p l e room_1 s m #[Value.ref b] below meth c (cells + 1) (slots + 6) (lw_Z below #[Value.ref b] s) D G ρ 9 241 [some (xR 40 0 0), some (xR 0 0 0), some (xR 20 0 0), some (xR 26 0 0), some (xI i), some (xI k), some (xI v), x7, x8] [] N
      refine xl_st hC hc hs (xs_aload_n (i := 3) dL_law_241 rfl) ?_
      show XWW p l e room_1 s m #[Value.ref b] below meth c (cells + 1) (slots + 6) (lw_Z below #[Value.ref b] s) D G ρ 9 242 [some (xR 40 0 0), some (xR 0 0 0), some (xR 20 0 0), some (xR 26 0 0), some (xI i), some (xI k), some (xI v), x7, x8] [xR 26 0 0] N
      refine xl_st hC hc hs (xs_iconst dL_law_242) ?_
      show XWW p l e room_1 s m #[Value.ref b] below meth c (cells + 1) (slots + 6) (lw_Z below #[Value.ref b] s) D G ρ 9 243 [some (xR 40 0 0), some (xR 0 0 0), some (xR 20 0 0), some (xR 26 0 0), some (xI i), some (xI k), some (xI v), x7, x8] [xI 0, xR 26 0 0] N
      refine xl_st hC hc hs (xs_lald dL_law_243) ⟨⟨rfl, rfl, rfl, rfl⟩, ?_⟩
      show XWW p l e room_1 s m #[Value.ref b] below meth c (cells + 1) (slots + 6) (lw_Z below #[Value.ref b] s) D G ρ 9 244 [some (xR 40 0 0), some (xR 0 0 0), some (xR 20 0 0), some (xR 26 0 0), some (xI i), some (xI k), some (xI v), x7, x8] [xJ (N 26 0 0 0)] N
      refine xl_st hC hc hs (xs_iload dL_law_244) ?_
      show XWW p l e room_1 s m #[Value.ref b] below meth c (cells + 1) (slots + 6) (lw_Z below #[Value.ref b] s) D G ρ 9 246 [some (xR 40 0 0), some (xR 0 0 0), some (xR 20 0 0), some (xR 26 0 0), some (xI i), some (xI k), some (xI v), x7, x8] [xI v, xJ (N 26 0 0 0)] N
      refine xl_st hC hc hs (xs_i2lw dL_law_246) ?_
      show XWW p l e room_1 s m #[Value.ref b] below meth c (cells + 1) (slots + 6) (lw_Z below #[Value.ref b] s) D G ρ 9 247 [some (xR 40 0 0), some (xR 0 0 0), some (xR 20 0 0), some (xR 26 0 0), some (xI i), some (xI k), some (xI v), x7, x8] [xJ (w32 v), xJ (N 26 0 0 0)] N
      refine xl_st hC hc hs (xs_lcmp dL_law_247) ⟨h26 q, ?_⟩
      show XWW p l e room_1 s m #[Value.ref b] below meth c (cells + 1) (slots + 6) (lw_Z below #[Value.ref b] s) D G ρ 9 248 [some (xR 40 0 0), some (xR 0 0 0), some (xR 20 0 0), some (xR 26 0 0), some (xI i), some (xI k), some (xI v), x7, x8] [xI 0] N
      refine xl_st hC hc hs (xs_if_eq (t := 253) dL_law_248 (by decide)) ⟨x_r0, fun _ => ?_, fun q => absurd rfl q⟩
      show XWW p l e room_1 s m #[Value.ref b] below meth c (cells + 1) (slots + 6) (lw_Z below #[Value.ref b] s) D G ρ 9 253 [some (xR 40 0 0), some (xR 0 0 0), some (xR 20 0 0), some (xR 26 0 0), some (xI i), some (xI k), some (xI v), x7, x8] [] N
      refine xl_st hC hc hs (xs_goto (t := 2181) dL_law_253 (by decide)) ?_
      show XWW p l e room_1 s m #[Value.ref b] below meth c (cells + 1) (slots + 6) (lw_Z below #[Value.ref b] s) D G ρ 9 2181 [some (xR 40 0 0), some (xR 0 0 0), some (xR 20 0 0), some (xR 26 0 0), some (xI i), some (xI k), some (xI v), x7, x8] [] N
      exact next _ _ _ _ N hR
  show XWW p l e room_1 s m #[Value.ref b] below meth c cells slots (lw_Z below #[Value.ref b] s) D G ρ 9 188 [some (xR 40 0 0), some (xR 0 0 0), some (xR 20 0 0), some (xR 26 0 0), some (xI i), x5, x6, x7, x8] [] M
  refine xl_st hC c0 s0 (xs_aload_n (i := 1) dL_law_188 rfl) ?_
  show XWW p l e room_1 s m #[Value.ref b] below meth c cells slots (lw_Z below #[Value.ref b] s) D G ρ 9 189 [some (xR 40 0 0), some (xR 0 0 0), some (xR 20 0 0), some (xR 26 0 0), some (xI i), x5, x6, x7, x8] [xR 0 0 0] M
  refine xl_st hC c0 s0 (xs_aload_n (i := 0) dL_law_189 rfl) ?_
  show XWW p l e room_1 s m #[Value.ref b] below meth c cells slots (lw_Z below #[Value.ref b] s) D G ρ 9 190 [some (xR 40 0 0), some (xR 0 0 0), some (xR 20 0 0), some (xR 26 0 0), some (xI i), x5, x6, x7, x8] [xR 40 0 0, xR 0 0 0] M
  refine xl_st hC c0 s0 (xs_iload dL_law_190) ?_
  show XWW p l e room_1 s m #[Value.ref b] below meth c cells slots (lw_Z below #[Value.ref b] s) D G ρ 9 192 [some (xR 40 0 0), some (xR 0 0 0), some (xR 20 0 0), some (xR 26 0 0), some (xI i), x5, x6, x7, x8] [xI i, xR 40 0 0, xR 0 0 0] M
  refine xl_st hC c0 s0 (xs_iconst dL_law_192) ?_
  show XWW p l e room_1 s m #[Value.ref b] below meth c cells slots (lw_Z below #[Value.ref b] s) D G ρ 9 193 [some (xR 40 0 0), some (xR 0 0 0), some (xR 20 0 0), some (xR 26 0 0), some (xI i), x5, x6, x7, x8] [xI 1, xI i, xR 40 0 0, xR 0 0 0] M
  refine xl_st hC c0 s0 (xs_iadd dL_law_193) ?_
  show XWW p l e room_1 s m #[Value.ref b] below meth c cells slots (lw_Z below #[Value.ref b] s) D G ρ 9 194 [some (xR 40 0 0), some (xR 0 0 0), some (xR 20 0 0), some (xR 26 0 0), some (xI i), x5, x6, x7, x8] [xI (i + 1), xR 40 0 0, xR 0 0 0] M
  refine xl_sld hC hX (by omega) (by omega) dL_law_194 ?_
  show XWW p l e room_1 s m #[Value.ref b] below meth c cells slots (lw_Z below #[Value.ref b] s) D G ρ 9 195 [some (xR 40 0 0), some (xR 0 0 0), some (xR 20 0 0), some (xR 26 0 0), some (xI i), x5, x6, x7, x8] [xI (SLx xs (i + 1)), xR 0 0 0] M
  refine xl_st hC c0 s0 (xs_aload_n (i := 0) dL_law_195 rfl) ?_
  show XWW p l e room_1 s m #[Value.ref b] below meth c cells slots (lw_Z below #[Value.ref b] s) D G ρ 9 196 [some (xR 40 0 0), some (xR 0 0 0), some (xR 20 0 0), some (xR 26 0 0), some (xI i), x5, x6, x7, x8] [xR 40 0 0, xI (SLx xs (i + 1)), xR 0 0 0] M
  refine xl_st hC c0 s0 (xs_iload dL_law_196) ?_
  show XWW p l e room_1 s m #[Value.ref b] below meth c cells slots (lw_Z below #[Value.ref b] s) D G ρ 9 198 [some (xR 40 0 0), some (xR 0 0 0), some (xR 20 0 0), some (xR 26 0 0), some (xI i), x5, x6, x7, x8] [xI i, xR 40 0 0, xI (SLx xs (i + 1)), xR 0 0 0] M
  refine xl_st hC c0 s0 (xs_iconst dL_law_198) ?_
  show XWW p l e room_1 s m #[Value.ref b] below meth c cells slots (lw_Z below #[Value.ref b] s) D G ρ 9 199 [some (xR 40 0 0), some (xR 0 0 0), some (xR 20 0 0), some (xR 26 0 0), some (xI i), x5, x6, x7, x8] [xI 2, xI i, xR 40 0 0, xI (SLx xs (i + 1)), xR 0 0 0] M
  refine xl_st hC c0 s0 (xs_iadd dL_law_199) ?_
  show XWW p l e room_1 s m #[Value.ref b] below meth c cells slots (lw_Z below #[Value.ref b] s) D G ρ 9 200 [some (xR 40 0 0), some (xR 0 0 0), some (xR 20 0 0), some (xR 26 0 0), some (xI i), x5, x6, x7, x8] [xI (i + 2), xR 40 0 0, xI (SLx xs (i + 1)), xR 0 0 0] M
  refine xl_sld hC hX (by omega) (by omega) dL_law_200 ?_
  show XWW p l e room_1 s m #[Value.ref b] below meth c cells slots (lw_Z below #[Value.ref b] s) D G ρ 9 201 [some (xR 40 0 0), some (xR 0 0 0), some (xR 20 0 0), some (xR 26 0 0), some (xI i), x5, x6, x7, x8] [xI (SLx xs (i + 2)), xI (SLx xs (i + 1)), xR 0 0 0] M
  refine xl_st hC c0 s0 (xs_aload_n (i := 3) dL_law_201 rfl) ?_
  show XWW p l e room_1 s m #[Value.ref b] below meth c cells slots (lw_Z below #[Value.ref b] s) D G ρ 9 202 [some (xR 40 0 0), some (xR 0 0 0), some (xR 20 0 0), some (xR 26 0 0), some (xI i), x5, x6, x7, x8] [xR 26 0 0, xI (SLx xs (i + 2)), xI (SLx xs (i + 1)), xR 0 0 0] M
  refine xl_call (n := 4) (As := [xR 0 0 0, xI (SLx xs (i + 1)), xI (SLx xs (i + 2)), xR 26 0 0]) (st := []) kL_addPlace ⟨⟨rfl, rfl, by decide, by decide⟩, ⟨by decide, by decide, by decide +kernel⟩, tw_757, tw_758, tw_0, twL_addPlace⟩ dL_law_202 hC hl hE hc hs rfl (by decide) ⟨(SLx xs (i + 1)), (SLx xs (i + 2)), rfl, lc_addPlace hZ h (SL_in _ _) (SL_in _ _)⟩ (fun rv N1 hq => ?_)
  obtain ⟨k, rfl, ⟨k0, k3⟩, href⟩ := hq
  show XWW p l e room_1 s m #[Value.ref b] below meth c (cells + 1) (slots + 6) (lw_Z below #[Value.ref b] s) D G ρ 9 205 [some (xR 40 0 0), some (xR 0 0 0), some (xR 20 0 0), some (xR 26 0 0), some (xI i), x5, x6, x7, x8] [xI k] N1
  refine xl_st hC hc hs (xs_istore dL_law_205 (by decide)) ?_
  show XWW p l e room_1 s m #[Value.ref b] below meth c (cells + 1) (slots + 6) (lw_Z below #[Value.ref b] s) D G ρ 9 207 [some (xR 40 0 0), some (xR 0 0 0), some (xR 20 0 0), some (xR 26 0 0), some (xI i), some (xI k), x6, x7, x8] [] N1
  refine xl_st hC hc hs (xs_aload_n (i := 2) dL_law_207 rfl) ?_
  show XWW p l e room_1 s m #[Value.ref b] below meth c (cells + 1) (slots + 6) (lw_Z below #[Value.ref b] s) D G ρ 9 208 [some (xR 40 0 0), some (xR 0 0 0), some (xR 20 0 0), some (xR 26 0 0), some (xI i), some (xI k), x6, x7, x8] [xR 20 0 0] N1
  refine xl_st hC hc hs (xs_aload_n (i := 0) dL_law_208 rfl) ?_
  show XWW p l e room_1 s m #[Value.ref b] below meth c (cells + 1) (slots + 6) (lw_Z below #[Value.ref b] s) D G ρ 9 209 [some (xR 40 0 0), some (xR 0 0 0), some (xR 20 0 0), some (xR 26 0 0), some (xI i), some (xI k), x6, x7, x8] [xR 40 0 0, xR 20 0 0] N1
  refine xl_st hC hc hs (xs_iload dL_law_209) ?_
  show XWW p l e room_1 s m #[Value.ref b] below meth c (cells + 1) (slots + 6) (lw_Z below #[Value.ref b] s) D G ρ 9 211 [some (xR 40 0 0), some (xR 0 0 0), some (xR 20 0 0), some (xR 26 0 0), some (xI i), some (xI k), x6, x7, x8] [xI i, xR 40 0 0, xR 20 0 0] N1
  refine xl_st hC hc hs (xs_iconst dL_law_211) ?_
  show XWW p l e room_1 s m #[Value.ref b] below meth c (cells + 1) (slots + 6) (lw_Z below #[Value.ref b] s) D G ρ 9 212 [some (xR 40 0 0), some (xR 0 0 0), some (xR 20 0 0), some (xR 26 0 0), some (xI i), some (xI k), x6, x7, x8] [xI 1, xI i, xR 40 0 0, xR 20 0 0] N1
  refine xl_st hC hc hs (xs_iadd dL_law_212) ?_
  show XWW p l e room_1 s m #[Value.ref b] below meth c (cells + 1) (slots + 6) (lw_Z below #[Value.ref b] s) D G ρ 9 213 [some (xR 40 0 0), some (xR 0 0 0), some (xR 20 0 0), some (xR 26 0 0), some (xI i), some (xI k), x6, x7, x8] [xI (i + 1), xR 40 0 0, xR 20 0 0] N1
  refine xl_sld hC hX (by omega) (by omega) dL_law_213 ?_
  show XWW p l e room_1 s m #[Value.ref b] below meth c (cells + 1) (slots + 6) (lw_Z below #[Value.ref b] s) D G ρ 9 214 [some (xR 40 0 0), some (xR 0 0 0), some (xR 20 0 0), some (xR 26 0 0), some (xI i), some (xI k), x6, x7, x8] [xI (SLx xs (i + 1)), xR 20 0 0] N1
  refine xl_st hC hc hs (xs_aload_n (i := 0) dL_law_214 rfl) ?_
  show XWW p l e room_1 s m #[Value.ref b] below meth c (cells + 1) (slots + 6) (lw_Z below #[Value.ref b] s) D G ρ 9 215 [some (xR 40 0 0), some (xR 0 0 0), some (xR 20 0 0), some (xR 26 0 0), some (xI i), some (xI k), x6, x7, x8] [xR 40 0 0, xI (SLx xs (i + 1)), xR 20 0 0] N1
  refine xl_st hC hc hs (xs_iload dL_law_215) ?_
  show XWW p l e room_1 s m #[Value.ref b] below meth c (cells + 1) (slots + 6) (lw_Z below #[Value.ref b] s) D G ρ 9 217 [some (xR 40 0 0), some (xR 0 0 0), some (xR 20 0 0), some (xR 26 0 0), some (xI i), some (xI k), x6, x7, x8] [xI i, xR 40 0 0, xI (SLx xs (i + 1)), xR 20 0 0] N1
  refine xl_st hC hc hs (xs_iconst dL_law_217) ?_
  show XWW p l e room_1 s m #[Value.ref b] below meth c (cells + 1) (slots + 6) (lw_Z below #[Value.ref b] s) D G ρ 9 218 [some (xR 40 0 0), some (xR 0 0 0), some (xR 20 0 0), some (xR 26 0 0), some (xI i), some (xI k), x6, x7, x8] [xI 2, xI i, xR 40 0 0, xI (SLx xs (i + 1)), xR 20 0 0] N1
  refine xl_st hC hc hs (xs_iadd dL_law_218) ?_
  show XWW p l e room_1 s m #[Value.ref b] below meth c (cells + 1) (slots + 6) (lw_Z below #[Value.ref b] s) D G ρ 9 219 [some (xR 40 0 0), some (xR 0 0 0), some (xR 20 0 0), some (xR 26 0 0), some (xI i), some (xI k), x6, x7, x8] [xI (i + 2), xR 40 0 0, xI (SLx xs (i + 1)), xR 20 0 0] N1
  refine xl_sld hC hX (by omega) (by omega) dL_law_219 ?_
  show XWW p l e room_1 s m #[Value.ref b] below meth c (cells + 1) (slots + 6) (lw_Z below #[Value.ref b] s) D G ρ 9 220 [some (xR 40 0 0), some (xR 0 0 0), some (xR 20 0 0), some (xR 26 0 0), some (xI i), some (xI k), x6, x7, x8] [xI (SLx xs (i + 2)), xI (SLx xs (i + 1)), xR 20 0 0] N1
  refine xl_st hC hc hs (xs_V2 kX8_addPlace ⟨⟨rfl, rfl, by decide, by decide⟩, ⟨by decide, by decide, by decide +kernel⟩, ⟨tw_1095, tw_1096, tw_1097, tw_9, tw_1098⟩, 8, TX8, _, rfl, fun G ρ f i k => ⟨_, rfl⟩⟩ dL_law_220) ⟨⟨rfl, xvz_20, by decide⟩, href⟩
set_option maxRecDepth 100000 in
theorem cs_addKitchen {p : Program} {l : Launch} {e : Env} {s : State} {m : MethodId} {below : List Frame} {meth : Method} {c : Code} {D : va_G} {G : Nat → ClassId} {ρ : XOb → Nat} {b Ln : Nat} {xs : Nat → Int32} {cells slots : Nat} (hC : XCX p room_1 s m #[Value.ref b] c 0 0 D G ρ cL_law 9 RL (Cond.initialized RL :: xT)) (hl : l.stackTraces = false) (hE : (XEw s ∧ XEs s ∧ XEz (XA ρ s.heap.size) s s.heap) ∧ XEc s) (hX : XSc s ρ b Ln xs) (hc : cells + 1 ≤ 601024) (hs : slots + 6 ≤ 7293034) {i : Int} (h0 : 0 ≤ i) (h6 : i + 6 ≤ Ln) {M : XM} (h : RR M) {x5 x6 x7 x8 : Option XV} (next : ∀ (y5 y6 y7 y8 : Option XV) (N : XM), RR N → XWW p l e room_1 s m #[Value.ref b] below meth c (cells + 1) (slots + 6) (lw_Z below #[Value.ref b] s) D G ρ 9 2181 [some (xR 40 0 0), some (xR 0 0 0), some (xR 20 0 0), some (xR 26 0 0), some (xI i), y5, y6, y7, y8] [] N) : XWW p l e room_1 s m #[Value.ref b] below meth c cells slots (lw_Z below #[Value.ref b] s) D G ρ 9 256 [some (xR 40 0 0), some (xR 0 0 0), some (xR 20 0 0), some (xR 26 0 0), some (xI i), x5, x6, x7, x8] [] M := by
  have c0 : cells ≤ room_1.cells := Nat.le_trans (Nat.le_succ _) hc
  have s0 : slots ≤ room_1.slots := Nat.le_trans (Nat.le_add_right _ 6) hs
  have hZ : ∀ (k : Int) (rv : List XV) (N : XM), 0 ≤ k → k ≤ 3 → LE k rv N → (fun (k : Int) (rv : List XV) (N : XM) => XWW p l e room_1 s m #[Value.ref b] below meth c (cells + 1) (slots + 6) (lw_Z below #[Value.ref b] s) D G ρ 9 279 [some (xR 40 0 0), some (xR 0 0 0), some (xR 20 0 0), some (xR 26 0 0), some (xI i), some (xI k), x6, x7, x8] (rv ++ []) N) k rv N := by
    intro k rv N k0 k3 hLE
    obtain ⟨v, rfl, hR, h5, h26⟩ := hLE
    show XWW p l e room_1 s m #[Value.ref b] below meth c (cells + 1) (slots + 6) (lw_Z below #[Value.ref b] s) D G ρ 9 279 [some (xR 40 0 0), some (xR 0 0 0), some (xR 20 0 0), some (xR 26 0 0), some (xI i), some (xI k), x6, x7, x8] [xI v] N
    refine xl_st hC hc hs (xs_istore dL_law_279 (by decide)) ?_
    show XWW p l e room_1 s m #[Value.ref b] below meth c (cells + 1) (slots + 6) (lw_Z below #[Value.ref b] s) D G ρ 9 281 [some (xR 40 0 0), some (xR 0 0 0), some (xR 20 0 0), some (xR 26 0 0), some (xI i), some (xI k), some (xI v), x7, x8] [] N
    refine xl_st hC hc hs (xs_aload_n (i := 2) dL_law_281 rfl) ?_
    show XWW p l e room_1 s m #[Value.ref b] below meth c (cells + 1) (slots + 6) (lw_Z below #[Value.ref b] s) D G ρ 9 282 [some (xR 40 0 0), some (xR 0 0 0), some (xR 20 0 0), some (xR 26 0 0), some (xI i), some (xI k), some (xI v), x7, x8] [xR 20 0 0] N
    refine xl_st hC hc hs (xs_V0 kX8_thrown ⟨⟨rfl, rfl, by decide, by decide⟩, ⟨by decide, by decide, by decide +kernel⟩, ⟨tw_1091, tw_1092, tw_1093, tw_9, tw_1094⟩, 8, TX8, _, rfl, fun G ρ f i k => ⟨_, rfl⟩⟩ dL_law_282) ⟨⟨rfl, xvz_20, by decide⟩, ⟨rfl, xvz_20⟩, ?_⟩
    show XWW p l e room_1 s m #[Value.ref b] below meth c (cells + 1) (slots + 6) (lw_Z below #[Value.ref b] s) D G ρ 9 285 [some (xR 40 0 0), some (xR 0 0 0), some (xR 20 0 0), some (xR 26 0 0), some (xI i), some (xI k), some (xI v), x7, x8] [xI (N 20 0 0 5)] N
    refine xl_st hC hc hs (xs_iload dL_law_285) ?_
    show XWW p l e room_1 s m #[Value.ref b] below meth c (cells + 1) (slots + 6) (lw_Z below #[Value.ref b] s) D G ρ 9 287 [some (xR 40 0 0), some (xR 0 0 0), some (xR 20 0 0), some (xR 26 0 0), some (xI i), some (xI k), some (xI v), x7, x8] [xI k, xI (N 20 0 0 5)] N
    refine xl_st hC hc hs (xs_icmp_eq (t := 292) dL_law_287 (by decide)) ⟨⟨by rw [h5]; exact ⟨by omega, by omega⟩, ⟨by omega, by omega⟩⟩, fun _ => ?_, fun q => absurd h5 q⟩
    show XWW p l e room_1 s m #[Value.ref b] below meth c (cells + 1) (slots + 6) (lw_Z below #[Value.ref b] s) D G ρ 9 292 [some (xR 40 0 0), some (xR 0 0 0), some (xR 20 0 0), some (xR 26 0 0), some (xI i), some (xI k), some (xI v), x7, x8] [] N
    refine xl_st hC hc hs (xs_iload dL_law_292) ?_
    show XWW p l e room_1 s m #[Value.ref b] below meth c (cells + 1) (slots + 6) (lw_Z below #[Value.ref b] s) D G ρ 9 294 [some (xR 40 0 0), some (xR 0 0 0), some (xR 20 0 0), some (xR 26 0 0), some (xI i), some (xI k), some (xI v), x7, x8] [xI k] N
    refine xl_st hC hc hs (xs_if_ne (t := 309) dL_law_294 (by decide)) ⟨⟨by omega, by omega⟩, fun _ => ?_, fun q => ?_⟩
    · show XWW p l e room_1 s m #[Value.ref b] below meth c (cells + 1) (slots + 6) (lw_Z below #[Value.ref b] s) D G ρ 9 309 [some (xR 40 0 0), some (xR 0 0 0), some (xR 20 0 0), some (xR 26 0 0), some (xI i), some (xI k), some (xI v), x7, x8] [] N
      refine xl_st hC hc hs (xs_goto (t := 2181) dL_law_309 (by decide)) ?_
      show XWW p l e room_1 s m #[Value.ref b] below meth c (cells + 1) (slots + 6) (lw_Z below #[Value.ref b] s) D G ρ 9 2181 [some (xR 40 0 0), some (xR 0 0 0), some (xR 20 0 0), some (xR 26 0 0), some (xI i), some (xI k), some (xI v), x7, x8] [] N
      exact next _ _ _ _ N hR
    · show XWW p l e room_1 s m #[Value.ref b] below meth c (cells + 1) (slots + 6) (lw_Z below #[Value.ref b] s) D G ρ 9 297 [some (xR 40 0 0), some (xR 0 0 0), some (xR 20 0 0), some (xR 26 0 0), some (xI i), some (xI k), some (xI v), x7, x8] [] N
      refine xl_st hC hc hs (xs_aload_n (i := 3) dL_law_297 rfl) ?_
      show XWW p l e room_1 s m #[Value.ref b] below meth c (cells + 1) (slots + 6) (lw_Z below #[Value.ref b] s) D G ρ 9 298 [some (xR 40 0 0), some (xR 0 0 0), some (xR 20 0 0), some (xR 26 0 0), some (xI i), some (xI k), some (xI v), x7, x8] [xR 26 0 0] N
      refine xl_st hC hc hs (xs_iconst dL_law_298) ?_
      show XWW p l e room_1 s m #[Value.ref b] below meth c (cells + 1) (slots + 6) (lw_Z below #[Value.ref b] s) D G ρ 9 299 [some (xR 40 0 0), some (xR 0 0 0), some (xR 20 0 0), some (xR 26 0 0), some (xI i), some (xI k), some (xI v), x7, x8] [xI 0, xR 26 0 0] N
      refine xl_st hC hc hs (xs_lald dL_law_299) ⟨⟨rfl, rfl, rfl, rfl⟩, ?_⟩
      show XWW p l e room_1 s m #[Value.ref b] below meth c (cells + 1) (slots + 6) (lw_Z below #[Value.ref b] s) D G ρ 9 300 [some (xR 40 0 0), some (xR 0 0 0), some (xR 20 0 0), some (xR 26 0 0), some (xI i), some (xI k), some (xI v), x7, x8] [xJ (N 26 0 0 0)] N
      refine xl_st hC hc hs (xs_iload dL_law_300) ?_
      show XWW p l e room_1 s m #[Value.ref b] below meth c (cells + 1) (slots + 6) (lw_Z below #[Value.ref b] s) D G ρ 9 302 [some (xR 40 0 0), some (xR 0 0 0), some (xR 20 0 0), some (xR 26 0 0), some (xI i), some (xI k), some (xI v), x7, x8] [xI v, xJ (N 26 0 0 0)] N
      refine xl_st hC hc hs (xs_i2lw dL_law_302) ?_
      show XWW p l e room_1 s m #[Value.ref b] below meth c (cells + 1) (slots + 6) (lw_Z below #[Value.ref b] s) D G ρ 9 303 [some (xR 40 0 0), some (xR 0 0 0), some (xR 20 0 0), some (xR 26 0 0), some (xI i), some (xI k), some (xI v), x7, x8] [xJ (w32 v), xJ (N 26 0 0 0)] N
      refine xl_st hC hc hs (xs_lcmp dL_law_303) ⟨h26 q, ?_⟩
      show XWW p l e room_1 s m #[Value.ref b] below meth c (cells + 1) (slots + 6) (lw_Z below #[Value.ref b] s) D G ρ 9 304 [some (xR 40 0 0), some (xR 0 0 0), some (xR 20 0 0), some (xR 26 0 0), some (xI i), some (xI k), some (xI v), x7, x8] [xI 0] N
      refine xl_st hC hc hs (xs_if_eq (t := 309) dL_law_304 (by decide)) ⟨x_r0, fun _ => ?_, fun q => absurd rfl q⟩
      show XWW p l e room_1 s m #[Value.ref b] below meth c (cells + 1) (slots + 6) (lw_Z below #[Value.ref b] s) D G ρ 9 309 [some (xR 40 0 0), some (xR 0 0 0), some (xR 20 0 0), some (xR 26 0 0), some (xI i), some (xI k), some (xI v), x7, x8] [] N
      refine xl_st hC hc hs (xs_goto (t := 2181) dL_law_309 (by decide)) ?_
      show XWW p l e room_1 s m #[Value.ref b] below meth c (cells + 1) (slots + 6) (lw_Z below #[Value.ref b] s) D G ρ 9 2181 [some (xR 40 0 0), some (xR 0 0 0), some (xR 20 0 0), some (xR 26 0 0), some (xI i), some (xI k), some (xI v), x7, x8] [] N
      exact next _ _ _ _ N hR
  show XWW p l e room_1 s m #[Value.ref b] below meth c cells slots (lw_Z below #[Value.ref b] s) D G ρ 9 256 [some (xR 40 0 0), some (xR 0 0 0), some (xR 20 0 0), some (xR 26 0 0), some (xI i), x5, x6, x7, x8] [] M
  refine xl_st hC c0 s0 (xs_aload_n (i := 1) dL_law_256 rfl) ?_
  show XWW p l e room_1 s m #[Value.ref b] below meth c cells slots (lw_Z below #[Value.ref b] s) D G ρ 9 257 [some (xR 40 0 0), some (xR 0 0 0), some (xR 20 0 0), some (xR 26 0 0), some (xI i), x5, x6, x7, x8] [xR 0 0 0] M
  refine xl_st hC c0 s0 (xs_aload_n (i := 0) dL_law_257 rfl) ?_
  show XWW p l e room_1 s m #[Value.ref b] below meth c cells slots (lw_Z below #[Value.ref b] s) D G ρ 9 258 [some (xR 40 0 0), some (xR 0 0 0), some (xR 20 0 0), some (xR 26 0 0), some (xI i), x5, x6, x7, x8] [xR 40 0 0, xR 0 0 0] M
  refine xl_st hC c0 s0 (xs_iload dL_law_258) ?_
  show XWW p l e room_1 s m #[Value.ref b] below meth c cells slots (lw_Z below #[Value.ref b] s) D G ρ 9 260 [some (xR 40 0 0), some (xR 0 0 0), some (xR 20 0 0), some (xR 26 0 0), some (xI i), x5, x6, x7, x8] [xI i, xR 40 0 0, xR 0 0 0] M
  refine xl_st hC c0 s0 (xs_iconst dL_law_260) ?_
  show XWW p l e room_1 s m #[Value.ref b] below meth c cells slots (lw_Z below #[Value.ref b] s) D G ρ 9 261 [some (xR 40 0 0), some (xR 0 0 0), some (xR 20 0 0), some (xR 26 0 0), some (xI i), x5, x6, x7, x8] [xI 1, xI i, xR 40 0 0, xR 0 0 0] M
  refine xl_st hC c0 s0 (xs_iadd dL_law_261) ?_
  show XWW p l e room_1 s m #[Value.ref b] below meth c cells slots (lw_Z below #[Value.ref b] s) D G ρ 9 262 [some (xR 40 0 0), some (xR 0 0 0), some (xR 20 0 0), some (xR 26 0 0), some (xI i), x5, x6, x7, x8] [xI (i + 1), xR 40 0 0, xR 0 0 0] M
  refine xl_sld hC hX (by omega) (by omega) dL_law_262 ?_
  show XWW p l e room_1 s m #[Value.ref b] below meth c cells slots (lw_Z below #[Value.ref b] s) D G ρ 9 263 [some (xR 40 0 0), some (xR 0 0 0), some (xR 20 0 0), some (xR 26 0 0), some (xI i), x5, x6, x7, x8] [xI (SLx xs (i + 1)), xR 0 0 0] M
  refine xl_st hC c0 s0 (xs_aload_n (i := 3) dL_law_263 rfl) ?_
  show XWW p l e room_1 s m #[Value.ref b] below meth c cells slots (lw_Z below #[Value.ref b] s) D G ρ 9 264 [some (xR 40 0 0), some (xR 0 0 0), some (xR 20 0 0), some (xR 26 0 0), some (xI i), x5, x6, x7, x8] [xR 26 0 0, xI (SLx xs (i + 1)), xR 0 0 0] M
  refine xl_call (n := 3) (As := [xR 0 0 0, xI (SLx xs (i + 1)), xR 26 0 0]) (st := []) kL_addKitchen ⟨⟨rfl, rfl, by decide, by decide⟩, ⟨by decide, by decide, by decide +kernel⟩, tw_795, tw_796, tw_0, twL_addKitchen⟩ dL_law_264 hC hl hE hc hs rfl (by decide) ⟨(SLx xs (i + 1)), rfl, lc_addKitchen hZ h (SL_in _ _)⟩ (fun rv N1 hq => ?_)
  obtain ⟨k, rfl, ⟨k0, k3⟩, href⟩ := hq
  show XWW p l e room_1 s m #[Value.ref b] below meth c (cells + 1) (slots + 6) (lw_Z below #[Value.ref b] s) D G ρ 9 267 [some (xR 40 0 0), some (xR 0 0 0), some (xR 20 0 0), some (xR 26 0 0), some (xI i), x5, x6, x7, x8] [xI k] N1
  refine xl_st hC hc hs (xs_istore dL_law_267 (by decide)) ?_
  show XWW p l e room_1 s m #[Value.ref b] below meth c (cells + 1) (slots + 6) (lw_Z below #[Value.ref b] s) D G ρ 9 269 [some (xR 40 0 0), some (xR 0 0 0), some (xR 20 0 0), some (xR 26 0 0), some (xI i), some (xI k), x6, x7, x8] [] N1
  refine xl_st hC hc hs (xs_aload_n (i := 2) dL_law_269 rfl) ?_
  show XWW p l e room_1 s m #[Value.ref b] below meth c (cells + 1) (slots + 6) (lw_Z below #[Value.ref b] s) D G ρ 9 270 [some (xR 40 0 0), some (xR 0 0 0), some (xR 20 0 0), some (xR 26 0 0), some (xI i), some (xI k), x6, x7, x8] [xR 20 0 0] N1
  refine xl_st hC hc hs (xs_aload_n (i := 0) dL_law_270 rfl) ?_
  show XWW p l e room_1 s m #[Value.ref b] below meth c (cells + 1) (slots + 6) (lw_Z below #[Value.ref b] s) D G ρ 9 271 [some (xR 40 0 0), some (xR 0 0 0), some (xR 20 0 0), some (xR 26 0 0), some (xI i), some (xI k), x6, x7, x8] [xR 40 0 0, xR 20 0 0] N1
  refine xl_st hC hc hs (xs_iload dL_law_271) ?_
  show XWW p l e room_1 s m #[Value.ref b] below meth c (cells + 1) (slots + 6) (lw_Z below #[Value.ref b] s) D G ρ 9 273 [some (xR 40 0 0), some (xR 0 0 0), some (xR 20 0 0), some (xR 26 0 0), some (xI i), some (xI k), x6, x7, x8] [xI i, xR 40 0 0, xR 20 0 0] N1
  refine xl_st hC hc hs (xs_iconst dL_law_273) ?_
  show XWW p l e room_1 s m #[Value.ref b] below meth c (cells + 1) (slots + 6) (lw_Z below #[Value.ref b] s) D G ρ 9 274 [some (xR 40 0 0), some (xR 0 0 0), some (xR 20 0 0), some (xR 26 0 0), some (xI i), some (xI k), x6, x7, x8] [xI 1, xI i, xR 40 0 0, xR 20 0 0] N1
  refine xl_st hC hc hs (xs_iadd dL_law_274) ?_
  show XWW p l e room_1 s m #[Value.ref b] below meth c (cells + 1) (slots + 6) (lw_Z below #[Value.ref b] s) D G ρ 9 275 [some (xR 40 0 0), some (xR 0 0 0), some (xR 20 0 0), some (xR 26 0 0), some (xI i), some (xI k), x6, x7, x8] [xI (i + 1), xR 40 0 0, xR 20 0 0] N1
  refine xl_sld hC hX (by omega) (by omega) dL_law_275 ?_
  show XWW p l e room_1 s m #[Value.ref b] below meth c (cells + 1) (slots + 6) (lw_Z below #[Value.ref b] s) D G ρ 9 276 [some (xR 40 0 0), some (xR 0 0 0), some (xR 20 0 0), some (xR 26 0 0), some (xI i), some (xI k), x6, x7, x8] [xI (SLx xs (i + 1)), xR 20 0 0] N1
  refine xl_st hC hc hs (xs_V1 kX8_addKitchen ⟨⟨rfl, rfl, by decide, by decide⟩, ⟨by decide, by decide, by decide +kernel⟩, ⟨tw_1106, tw_1107, tw_1108, tw_9, tw_1109⟩, 8, TX8, _, rfl, fun G ρ f i k => ⟨_, rfl⟩⟩ dL_law_276) ⟨⟨rfl, xvz_20, by decide⟩, href⟩
set_option maxRecDepth 100000 in
theorem cs_addLorry {p : Program} {l : Launch} {e : Env} {s : State} {m : MethodId} {below : List Frame} {meth : Method} {c : Code} {D : va_G} {G : Nat → ClassId} {ρ : XOb → Nat} {b Ln : Nat} {xs : Nat → Int32} {cells slots : Nat} (hC : XCX p room_1 s m #[Value.ref b] c 0 0 D G ρ cL_law 9 RL (Cond.initialized RL :: xT)) (hl : l.stackTraces = false) (hE : (XEw s ∧ XEs s ∧ XEz (XA ρ s.heap.size) s s.heap) ∧ XEc s) (hX : XSc s ρ b Ln xs) (hc : cells + 1 ≤ 601024) (hs : slots + 6 ≤ 7293034) {i : Int} (h0 : 0 ≤ i) (h6 : i + 6 ≤ Ln) {M : XM} (h : RR M) {x5 x6 x7 x8 : Option XV} (next : ∀ (y5 y6 y7 y8 : Option XV) (N : XM), RR N → XWW p l e room_1 s m #[Value.ref b] below meth c (cells + 1) (slots + 6) (lw_Z below #[Value.ref b] s) D G ρ 9 2181 [some (xR 40 0 0), some (xR 0 0 0), some (xR 20 0 0), some (xR 26 0 0), some (xI i), y5, y6, y7, y8] [] N) : XWW p l e room_1 s m #[Value.ref b] below meth c cells slots (lw_Z below #[Value.ref b] s) D G ρ 9 312 [some (xR 40 0 0), some (xR 0 0 0), some (xR 20 0 0), some (xR 26 0 0), some (xI i), x5, x6, x7, x8] [] M := by
  have c0 : cells ≤ room_1.cells := Nat.le_trans (Nat.le_succ _) hc
  have s0 : slots ≤ room_1.slots := Nat.le_trans (Nat.le_add_right _ 6) hs
  have hZ : ∀ (k : Int) (rv : List XV) (N : XM), 0 ≤ k → k ≤ 3 → LE k rv N → (fun (k : Int) (rv : List XV) (N : XM) => XWW p l e room_1 s m #[Value.ref b] below meth c (cells + 1) (slots + 6) (lw_Z below #[Value.ref b] s) D G ρ 9 335 [some (xR 40 0 0), some (xR 0 0 0), some (xR 20 0 0), some (xR 26 0 0), some (xI i), some (xI k), x6, x7, x8] (rv ++ []) N) k rv N := by
    intro k rv N k0 k3 hLE
    obtain ⟨v, rfl, hR, h5, h26⟩ := hLE
    show XWW p l e room_1 s m #[Value.ref b] below meth c (cells + 1) (slots + 6) (lw_Z below #[Value.ref b] s) D G ρ 9 335 [some (xR 40 0 0), some (xR 0 0 0), some (xR 20 0 0), some (xR 26 0 0), some (xI i), some (xI k), x6, x7, x8] [xI v] N
    refine xl_st hC hc hs (xs_istore dL_law_335 (by decide)) ?_
    show XWW p l e room_1 s m #[Value.ref b] below meth c (cells + 1) (slots + 6) (lw_Z below #[Value.ref b] s) D G ρ 9 337 [some (xR 40 0 0), some (xR 0 0 0), some (xR 20 0 0), some (xR 26 0 0), some (xI i), some (xI k), some (xI v), x7, x8] [] N
    refine xl_st hC hc hs (xs_aload_n (i := 2) dL_law_337 rfl) ?_
    show XWW p l e room_1 s m #[Value.ref b] below meth c (cells + 1) (slots + 6) (lw_Z below #[Value.ref b] s) D G ρ 9 338 [some (xR 40 0 0), some (xR 0 0 0), some (xR 20 0 0), some (xR 26 0 0), some (xI i), some (xI k), some (xI v), x7, x8] [xR 20 0 0] N
    refine xl_st hC hc hs (xs_V0 kX8_thrown ⟨⟨rfl, rfl, by decide, by decide⟩, ⟨by decide, by decide, by decide +kernel⟩, ⟨tw_1091, tw_1092, tw_1093, tw_9, tw_1094⟩, 8, TX8, _, rfl, fun G ρ f i k => ⟨_, rfl⟩⟩ dL_law_338) ⟨⟨rfl, xvz_20, by decide⟩, ⟨rfl, xvz_20⟩, ?_⟩
    show XWW p l e room_1 s m #[Value.ref b] below meth c (cells + 1) (slots + 6) (lw_Z below #[Value.ref b] s) D G ρ 9 341 [some (xR 40 0 0), some (xR 0 0 0), some (xR 20 0 0), some (xR 26 0 0), some (xI i), some (xI k), some (xI v), x7, x8] [xI (N 20 0 0 5)] N
    refine xl_st hC hc hs (xs_iload dL_law_341) ?_
    show XWW p l e room_1 s m #[Value.ref b] below meth c (cells + 1) (slots + 6) (lw_Z below #[Value.ref b] s) D G ρ 9 343 [some (xR 40 0 0), some (xR 0 0 0), some (xR 20 0 0), some (xR 26 0 0), some (xI i), some (xI k), some (xI v), x7, x8] [xI k, xI (N 20 0 0 5)] N
    refine xl_st hC hc hs (xs_icmp_eq (t := 348) dL_law_343 (by decide)) ⟨⟨by rw [h5]; exact ⟨by omega, by omega⟩, ⟨by omega, by omega⟩⟩, fun _ => ?_, fun q => absurd h5 q⟩
    show XWW p l e room_1 s m #[Value.ref b] below meth c (cells + 1) (slots + 6) (lw_Z below #[Value.ref b] s) D G ρ 9 348 [some (xR 40 0 0), some (xR 0 0 0), some (xR 20 0 0), some (xR 26 0 0), some (xI i), some (xI k), some (xI v), x7, x8] [] N
    refine xl_st hC hc hs (xs_iload dL_law_348) ?_
    show XWW p l e room_1 s m #[Value.ref b] below meth c (cells + 1) (slots + 6) (lw_Z below #[Value.ref b] s) D G ρ 9 350 [some (xR 40 0 0), some (xR 0 0 0), some (xR 20 0 0), some (xR 26 0 0), some (xI i), some (xI k), some (xI v), x7, x8] [xI k] N
    refine xl_st hC hc hs (xs_if_ne (t := 365) dL_law_350 (by decide)) ⟨⟨by omega, by omega⟩, fun _ => ?_, fun q => ?_⟩
    · show XWW p l e room_1 s m #[Value.ref b] below meth c (cells + 1) (slots + 6) (lw_Z below #[Value.ref b] s) D G ρ 9 365 [some (xR 40 0 0), some (xR 0 0 0), some (xR 20 0 0), some (xR 26 0 0), some (xI i), some (xI k), some (xI v), x7, x8] [] N
      refine xl_st hC hc hs (xs_goto (t := 2181) dL_law_365 (by decide)) ?_
      show XWW p l e room_1 s m #[Value.ref b] below meth c (cells + 1) (slots + 6) (lw_Z below #[Value.ref b] s) D G ρ 9 2181 [some (xR 40 0 0), some (xR 0 0 0), some (xR 20 0 0), some (xR 26 0 0), some (xI i), some (xI k), some (xI v), x7, x8] [] N
      exact next _ _ _ _ N hR
    · show XWW p l e room_1 s m #[Value.ref b] below meth c (cells + 1) (slots + 6) (lw_Z below #[Value.ref b] s) D G ρ 9 353 [some (xR 40 0 0), some (xR 0 0 0), some (xR 20 0 0), some (xR 26 0 0), some (xI i), some (xI k), some (xI v), x7, x8] [] N
      refine xl_st hC hc hs (xs_aload_n (i := 3) dL_law_353 rfl) ?_
      show XWW p l e room_1 s m #[Value.ref b] below meth c (cells + 1) (slots + 6) (lw_Z below #[Value.ref b] s) D G ρ 9 354 [some (xR 40 0 0), some (xR 0 0 0), some (xR 20 0 0), some (xR 26 0 0), some (xI i), some (xI k), some (xI v), x7, x8] [xR 26 0 0] N
      refine xl_st hC hc hs (xs_iconst dL_law_354) ?_
      show XWW p l e room_1 s m #[Value.ref b] below meth c (cells + 1) (slots + 6) (lw_Z below #[Value.ref b] s) D G ρ 9 355 [some (xR 40 0 0), some (xR 0 0 0), some (xR 20 0 0), some (xR 26 0 0), some (xI i), some (xI k), some (xI v), x7, x8] [xI 0, xR 26 0 0] N
      refine xl_st hC hc hs (xs_lald dL_law_355) ⟨⟨rfl, rfl, rfl, rfl⟩, ?_⟩
      show XWW p l e room_1 s m #[Value.ref b] below meth c (cells + 1) (slots + 6) (lw_Z below #[Value.ref b] s) D G ρ 9 356 [some (xR 40 0 0), some (xR 0 0 0), some (xR 20 0 0), some (xR 26 0 0), some (xI i), some (xI k), some (xI v), x7, x8] [xJ (N 26 0 0 0)] N
      refine xl_st hC hc hs (xs_iload dL_law_356) ?_
      show XWW p l e room_1 s m #[Value.ref b] below meth c (cells + 1) (slots + 6) (lw_Z below #[Value.ref b] s) D G ρ 9 358 [some (xR 40 0 0), some (xR 0 0 0), some (xR 20 0 0), some (xR 26 0 0), some (xI i), some (xI k), some (xI v), x7, x8] [xI v, xJ (N 26 0 0 0)] N
      refine xl_st hC hc hs (xs_i2lw dL_law_358) ?_
      show XWW p l e room_1 s m #[Value.ref b] below meth c (cells + 1) (slots + 6) (lw_Z below #[Value.ref b] s) D G ρ 9 359 [some (xR 40 0 0), some (xR 0 0 0), some (xR 20 0 0), some (xR 26 0 0), some (xI i), some (xI k), some (xI v), x7, x8] [xJ (w32 v), xJ (N 26 0 0 0)] N
      refine xl_st hC hc hs (xs_lcmp dL_law_359) ⟨h26 q, ?_⟩
      show XWW p l e room_1 s m #[Value.ref b] below meth c (cells + 1) (slots + 6) (lw_Z below #[Value.ref b] s) D G ρ 9 360 [some (xR 40 0 0), some (xR 0 0 0), some (xR 20 0 0), some (xR 26 0 0), some (xI i), some (xI k), some (xI v), x7, x8] [xI 0] N
      refine xl_st hC hc hs (xs_if_eq (t := 365) dL_law_360 (by decide)) ⟨x_r0, fun _ => ?_, fun q => absurd rfl q⟩
      show XWW p l e room_1 s m #[Value.ref b] below meth c (cells + 1) (slots + 6) (lw_Z below #[Value.ref b] s) D G ρ 9 365 [some (xR 40 0 0), some (xR 0 0 0), some (xR 20 0 0), some (xR 26 0 0), some (xI i), some (xI k), some (xI v), x7, x8] [] N
      refine xl_st hC hc hs (xs_goto (t := 2181) dL_law_365 (by decide)) ?_
      show XWW p l e room_1 s m #[Value.ref b] below meth c (cells + 1) (slots + 6) (lw_Z below #[Value.ref b] s) D G ρ 9 2181 [some (xR 40 0 0), some (xR 0 0 0), some (xR 20 0 0), some (xR 26 0 0), some (xI i), some (xI k), some (xI v), x7, x8] [] N
      exact next _ _ _ _ N hR
  show XWW p l e room_1 s m #[Value.ref b] below meth c cells slots (lw_Z below #[Value.ref b] s) D G ρ 9 312 [some (xR 40 0 0), some (xR 0 0 0), some (xR 20 0 0), some (xR 26 0 0), some (xI i), x5, x6, x7, x8] [] M
  refine xl_st hC c0 s0 (xs_aload_n (i := 1) dL_law_312 rfl) ?_
  show XWW p l e room_1 s m #[Value.ref b] below meth c cells slots (lw_Z below #[Value.ref b] s) D G ρ 9 313 [some (xR 40 0 0), some (xR 0 0 0), some (xR 20 0 0), some (xR 26 0 0), some (xI i), x5, x6, x7, x8] [xR 0 0 0] M
  refine xl_st hC c0 s0 (xs_aload_n (i := 0) dL_law_313 rfl) ?_
  show XWW p l e room_1 s m #[Value.ref b] below meth c cells slots (lw_Z below #[Value.ref b] s) D G ρ 9 314 [some (xR 40 0 0), some (xR 0 0 0), some (xR 20 0 0), some (xR 26 0 0), some (xI i), x5, x6, x7, x8] [xR 40 0 0, xR 0 0 0] M
  refine xl_st hC c0 s0 (xs_iload dL_law_314) ?_
  show XWW p l e room_1 s m #[Value.ref b] below meth c cells slots (lw_Z below #[Value.ref b] s) D G ρ 9 316 [some (xR 40 0 0), some (xR 0 0 0), some (xR 20 0 0), some (xR 26 0 0), some (xI i), x5, x6, x7, x8] [xI i, xR 40 0 0, xR 0 0 0] M
  refine xl_st hC c0 s0 (xs_iconst dL_law_316) ?_
  show XWW p l e room_1 s m #[Value.ref b] below meth c cells slots (lw_Z below #[Value.ref b] s) D G ρ 9 317 [some (xR 40 0 0), some (xR 0 0 0), some (xR 20 0 0), some (xR 26 0 0), some (xI i), x5, x6, x7, x8] [xI 1, xI i, xR 40 0 0, xR 0 0 0] M
  refine xl_st hC c0 s0 (xs_iadd dL_law_317) ?_
  show XWW p l e room_1 s m #[Value.ref b] below meth c cells slots (lw_Z below #[Value.ref b] s) D G ρ 9 318 [some (xR 40 0 0), some (xR 0 0 0), some (xR 20 0 0), some (xR 26 0 0), some (xI i), x5, x6, x7, x8] [xI (i + 1), xR 40 0 0, xR 0 0 0] M
  refine xl_sld hC hX (by omega) (by omega) dL_law_318 ?_
  show XWW p l e room_1 s m #[Value.ref b] below meth c cells slots (lw_Z below #[Value.ref b] s) D G ρ 9 319 [some (xR 40 0 0), some (xR 0 0 0), some (xR 20 0 0), some (xR 26 0 0), some (xI i), x5, x6, x7, x8] [xI (SLx xs (i + 1)), xR 0 0 0] M
  refine xl_st hC c0 s0 (xs_aload_n (i := 3) dL_law_319 rfl) ?_
  show XWW p l e room_1 s m #[Value.ref b] below meth c cells slots (lw_Z below #[Value.ref b] s) D G ρ 9 320 [some (xR 40 0 0), some (xR 0 0 0), some (xR 20 0 0), some (xR 26 0 0), some (xI i), x5, x6, x7, x8] [xR 26 0 0, xI (SLx xs (i + 1)), xR 0 0 0] M
  refine xl_call (n := 3) (As := [xR 0 0 0, xI (SLx xs (i + 1)), xR 26 0 0]) (st := []) kL_addLorry ⟨⟨rfl, rfl, by decide, by decide⟩, ⟨by decide, by decide, by decide +kernel⟩, tw_807, tw_808, tw_0, twL_addLorry⟩ dL_law_320 hC hl hE hc hs rfl (by decide) ⟨(SLx xs (i + 1)), rfl, lc_addLorry hZ h (SL_in _ _)⟩ (fun rv N1 hq => ?_)
  obtain ⟨k, rfl, ⟨k0, k3⟩, href⟩ := hq
  show XWW p l e room_1 s m #[Value.ref b] below meth c (cells + 1) (slots + 6) (lw_Z below #[Value.ref b] s) D G ρ 9 323 [some (xR 40 0 0), some (xR 0 0 0), some (xR 20 0 0), some (xR 26 0 0), some (xI i), x5, x6, x7, x8] [xI k] N1
  refine xl_st hC hc hs (xs_istore dL_law_323 (by decide)) ?_
  show XWW p l e room_1 s m #[Value.ref b] below meth c (cells + 1) (slots + 6) (lw_Z below #[Value.ref b] s) D G ρ 9 325 [some (xR 40 0 0), some (xR 0 0 0), some (xR 20 0 0), some (xR 26 0 0), some (xI i), some (xI k), x6, x7, x8] [] N1
  refine xl_st hC hc hs (xs_aload_n (i := 2) dL_law_325 rfl) ?_
  show XWW p l e room_1 s m #[Value.ref b] below meth c (cells + 1) (slots + 6) (lw_Z below #[Value.ref b] s) D G ρ 9 326 [some (xR 40 0 0), some (xR 0 0 0), some (xR 20 0 0), some (xR 26 0 0), some (xI i), some (xI k), x6, x7, x8] [xR 20 0 0] N1
  refine xl_st hC hc hs (xs_aload_n (i := 0) dL_law_326 rfl) ?_
  show XWW p l e room_1 s m #[Value.ref b] below meth c (cells + 1) (slots + 6) (lw_Z below #[Value.ref b] s) D G ρ 9 327 [some (xR 40 0 0), some (xR 0 0 0), some (xR 20 0 0), some (xR 26 0 0), some (xI i), some (xI k), x6, x7, x8] [xR 40 0 0, xR 20 0 0] N1
  refine xl_st hC hc hs (xs_iload dL_law_327) ?_
  show XWW p l e room_1 s m #[Value.ref b] below meth c (cells + 1) (slots + 6) (lw_Z below #[Value.ref b] s) D G ρ 9 329 [some (xR 40 0 0), some (xR 0 0 0), some (xR 20 0 0), some (xR 26 0 0), some (xI i), some (xI k), x6, x7, x8] [xI i, xR 40 0 0, xR 20 0 0] N1
  refine xl_st hC hc hs (xs_iconst dL_law_329) ?_
  show XWW p l e room_1 s m #[Value.ref b] below meth c (cells + 1) (slots + 6) (lw_Z below #[Value.ref b] s) D G ρ 9 330 [some (xR 40 0 0), some (xR 0 0 0), some (xR 20 0 0), some (xR 26 0 0), some (xI i), some (xI k), x6, x7, x8] [xI 1, xI i, xR 40 0 0, xR 20 0 0] N1
  refine xl_st hC hc hs (xs_iadd dL_law_330) ?_
  show XWW p l e room_1 s m #[Value.ref b] below meth c (cells + 1) (slots + 6) (lw_Z below #[Value.ref b] s) D G ρ 9 331 [some (xR 40 0 0), some (xR 0 0 0), some (xR 20 0 0), some (xR 26 0 0), some (xI i), some (xI k), x6, x7, x8] [xI (i + 1), xR 40 0 0, xR 20 0 0] N1
  refine xl_sld hC hX (by omega) (by omega) dL_law_331 ?_
  show XWW p l e room_1 s m #[Value.ref b] below meth c (cells + 1) (slots + 6) (lw_Z below #[Value.ref b] s) D G ρ 9 332 [some (xR 40 0 0), some (xR 0 0 0), some (xR 20 0 0), some (xR 26 0 0), some (xI i), some (xI k), x6, x7, x8] [xI (SLx xs (i + 1)), xR 20 0 0] N1
  refine xl_st hC hc hs (xs_V1 kX8_addLorry ⟨⟨rfl, rfl, by decide, by decide⟩, ⟨by decide, by decide, by decide +kernel⟩, ⟨tw_1114, tw_1115, tw_1116, tw_9, tw_1117⟩, 8, TX8, _, rfl, fun G ρ f i k => ⟨_, rfl⟩⟩ dL_law_332) ⟨⟨rfl, xvz_20, by decide⟩, href⟩
set_option maxRecDepth 100000 in
theorem cs_set {p : Program} {l : Launch} {e : Env} {s : State} {m : MethodId} {below : List Frame} {meth : Method} {c : Code} {D : va_G} {G : Nat → ClassId} {ρ : XOb → Nat} {b Ln : Nat} {xs : Nat → Int32} {cells slots : Nat} (hC : XCX p room_1 s m #[Value.ref b] c 0 0 D G ρ cL_law 9 RL (Cond.initialized RL :: xT)) (hl : l.stackTraces = false) (hE : (XEw s ∧ XEs s ∧ XEz (XA ρ s.heap.size) s s.heap) ∧ XEc s) (hX : XSc s ρ b Ln xs) (hc : cells + 1 ≤ 601024) (hs : slots + 6 ≤ 7293034) {i : Int} (h0 : 0 ≤ i) (h6 : i + 6 ≤ Ln) {M : XM} (h : RR M) {x5 x6 x7 x8 : Option XV} (next : ∀ (y5 y6 y7 y8 : Option XV) (N : XM), RR N → XWW p l e room_1 s m #[Value.ref b] below meth c (cells + 1) (slots + 6) (lw_Z below #[Value.ref b] s) D G ρ 9 2181 [some (xR 40 0 0), some (xR 0 0 0), some (xR 20 0 0), some (xR 26 0 0), some (xI i), y5, y6, y7, y8] [] N) : XWW p l e room_1 s m #[Value.ref b] below meth c cells slots (lw_Z below #[Value.ref b] s) D G ρ 9 368 [some (xR 40 0 0), some (xR 0 0 0), some (xR 20 0 0), some (xR 26 0 0), some (xI i), x5, x6, x7, x8] [] M := by
  have c0 : cells ≤ room_1.cells := Nat.le_trans (Nat.le_succ _) hc
  have s0 : slots ≤ room_1.slots := Nat.le_trans (Nat.le_add_right _ 6) hs
  have hZ : ∀ (k : Int) (rv : List XV) (N : XM), 0 ≤ k → k ≤ 3 → LE k rv N → (fun (k : Int) (rv : List XV) (N : XM) => XWW p l e room_1 s m #[Value.ref b] below meth c (cells + 1) (slots + 6) (lw_Z below #[Value.ref b] s) D G ρ 9 403 [some (xR 40 0 0), some (xR 0 0 0), some (xR 20 0 0), some (xR 26 0 0), some (xI i), some (xI k), x6, x7, x8] (rv ++ []) N) k rv N := by
    intro k rv N k0 k3 hLE
    obtain ⟨v, rfl, hR, h5, h26⟩ := hLE
    show XWW p l e room_1 s m #[Value.ref b] below meth c (cells + 1) (slots + 6) (lw_Z below #[Value.ref b] s) D G ρ 9 403 [some (xR 40 0 0), some (xR 0 0 0), some (xR 20 0 0), some (xR 26 0 0), some (xI i), some (xI k), x6, x7, x8] [xI v] N
    refine xl_st hC hc hs (xs_istore dL_law_403 (by decide)) ?_
    show XWW p l e room_1 s m #[Value.ref b] below meth c (cells + 1) (slots + 6) (lw_Z below #[Value.ref b] s) D G ρ 9 405 [some (xR 40 0 0), some (xR 0 0 0), some (xR 20 0 0), some (xR 26 0 0), some (xI i), some (xI k), some (xI v), x7, x8] [] N
    refine xl_st hC hc hs (xs_aload_n (i := 2) dL_law_405 rfl) ?_
    show XWW p l e room_1 s m #[Value.ref b] below meth c (cells + 1) (slots + 6) (lw_Z below #[Value.ref b] s) D G ρ 9 406 [some (xR 40 0 0), some (xR 0 0 0), some (xR 20 0 0), some (xR 26 0 0), some (xI i), some (xI k), some (xI v), x7, x8] [xR 20 0 0] N
    refine xl_st hC hc hs (xs_V0 kX8_thrown ⟨⟨rfl, rfl, by decide, by decide⟩, ⟨by decide, by decide, by decide +kernel⟩, ⟨tw_1091, tw_1092, tw_1093, tw_9, tw_1094⟩, 8, TX8, _, rfl, fun G ρ f i k => ⟨_, rfl⟩⟩ dL_law_406) ⟨⟨rfl, xvz_20, by decide⟩, ⟨rfl, xvz_20⟩, ?_⟩
    show XWW p l e room_1 s m #[Value.ref b] below meth c (cells + 1) (slots + 6) (lw_Z below #[Value.ref b] s) D G ρ 9 409 [some (xR 40 0 0), some (xR 0 0 0), some (xR 20 0 0), some (xR 26 0 0), some (xI i), some (xI k), some (xI v), x7, x8] [xI (N 20 0 0 5)] N
    refine xl_st hC hc hs (xs_iload dL_law_409) ?_
    show XWW p l e room_1 s m #[Value.ref b] below meth c (cells + 1) (slots + 6) (lw_Z below #[Value.ref b] s) D G ρ 9 411 [some (xR 40 0 0), some (xR 0 0 0), some (xR 20 0 0), some (xR 26 0 0), some (xI i), some (xI k), some (xI v), x7, x8] [xI k, xI (N 20 0 0 5)] N
    refine xl_st hC hc hs (xs_icmp_eq (t := 416) dL_law_411 (by decide)) ⟨⟨by rw [h5]; exact ⟨by omega, by omega⟩, ⟨by omega, by omega⟩⟩, fun _ => ?_, fun q => absurd h5 q⟩
    show XWW p l e room_1 s m #[Value.ref b] below meth c (cells + 1) (slots + 6) (lw_Z below #[Value.ref b] s) D G ρ 9 416 [some (xR 40 0 0), some (xR 0 0 0), some (xR 20 0 0), some (xR 26 0 0), some (xI i), some (xI k), some (xI v), x7, x8] [] N
    refine xl_st hC hc hs (xs_iload dL_law_416) ?_
    show XWW p l e room_1 s m #[Value.ref b] below meth c (cells + 1) (slots + 6) (lw_Z below #[Value.ref b] s) D G ρ 9 418 [some (xR 40 0 0), some (xR 0 0 0), some (xR 20 0 0), some (xR 26 0 0), some (xI i), some (xI k), some (xI v), x7, x8] [xI k] N
    refine xl_st hC hc hs (xs_if_ne (t := 433) dL_law_418 (by decide)) ⟨⟨by omega, by omega⟩, fun _ => ?_, fun q => ?_⟩
    · show XWW p l e room_1 s m #[Value.ref b] below meth c (cells + 1) (slots + 6) (lw_Z below #[Value.ref b] s) D G ρ 9 433 [some (xR 40 0 0), some (xR 0 0 0), some (xR 20 0 0), some (xR 26 0 0), some (xI i), some (xI k), some (xI v), x7, x8] [] N
      refine xl_st hC hc hs (xs_goto (t := 2181) dL_law_433 (by decide)) ?_
      show XWW p l e room_1 s m #[Value.ref b] below meth c (cells + 1) (slots + 6) (lw_Z below #[Value.ref b] s) D G ρ 9 2181 [some (xR 40 0 0), some (xR 0 0 0), some (xR 20 0 0), some (xR 26 0 0), some (xI i), some (xI k), some (xI v), x7, x8] [] N
      exact next _ _ _ _ N hR
    · show XWW p l e room_1 s m #[Value.ref b] below meth c (cells + 1) (slots + 6) (lw_Z below #[Value.ref b] s) D G ρ 9 421 [some (xR 40 0 0), some (xR 0 0 0), some (xR 20 0 0), some (xR 26 0 0), some (xI i), some (xI k), some (xI v), x7, x8] [] N
      refine xl_st hC hc hs (xs_aload_n (i := 3) dL_law_421 rfl) ?_
      show XWW p l e room_1 s m #[Value.ref b] below meth c (cells + 1) (slots + 6) (lw_Z below #[Value.ref b] s) D G ρ 9 422 [some (xR 40 0 0), some (xR 0 0 0), some (xR 20 0 0), some (xR 26 0 0), some (xI i), some (xI k), some (xI v), x7, x8] [xR 26 0 0] N
      refine xl_st hC hc hs (xs_iconst dL_law_422) ?_
      show XWW p l e room_1 s m #[Value.ref b] below meth c (cells + 1) (slots + 6) (lw_Z below #[Value.ref b] s) D G ρ 9 423 [some (xR 40 0 0), some (xR 0 0 0), some (xR 20 0 0), some (xR 26 0 0), some (xI i), some (xI k), some (xI v), x7, x8] [xI 0, xR 26 0 0] N
      refine xl_st hC hc hs (xs_lald dL_law_423) ⟨⟨rfl, rfl, rfl, rfl⟩, ?_⟩
      show XWW p l e room_1 s m #[Value.ref b] below meth c (cells + 1) (slots + 6) (lw_Z below #[Value.ref b] s) D G ρ 9 424 [some (xR 40 0 0), some (xR 0 0 0), some (xR 20 0 0), some (xR 26 0 0), some (xI i), some (xI k), some (xI v), x7, x8] [xJ (N 26 0 0 0)] N
      refine xl_st hC hc hs (xs_iload dL_law_424) ?_
      show XWW p l e room_1 s m #[Value.ref b] below meth c (cells + 1) (slots + 6) (lw_Z below #[Value.ref b] s) D G ρ 9 426 [some (xR 40 0 0), some (xR 0 0 0), some (xR 20 0 0), some (xR 26 0 0), some (xI i), some (xI k), some (xI v), x7, x8] [xI v, xJ (N 26 0 0 0)] N
      refine xl_st hC hc hs (xs_i2lw dL_law_426) ?_
      show XWW p l e room_1 s m #[Value.ref b] below meth c (cells + 1) (slots + 6) (lw_Z below #[Value.ref b] s) D G ρ 9 427 [some (xR 40 0 0), some (xR 0 0 0), some (xR 20 0 0), some (xR 26 0 0), some (xI i), some (xI k), some (xI v), x7, x8] [xJ (w32 v), xJ (N 26 0 0 0)] N
      refine xl_st hC hc hs (xs_lcmp dL_law_427) ⟨h26 q, ?_⟩
      show XWW p l e room_1 s m #[Value.ref b] below meth c (cells + 1) (slots + 6) (lw_Z below #[Value.ref b] s) D G ρ 9 428 [some (xR 40 0 0), some (xR 0 0 0), some (xR 20 0 0), some (xR 26 0 0), some (xI i), some (xI k), some (xI v), x7, x8] [xI 0] N
      refine xl_st hC hc hs (xs_if_eq (t := 433) dL_law_428 (by decide)) ⟨x_r0, fun _ => ?_, fun q => absurd rfl q⟩
      show XWW p l e room_1 s m #[Value.ref b] below meth c (cells + 1) (slots + 6) (lw_Z below #[Value.ref b] s) D G ρ 9 433 [some (xR 40 0 0), some (xR 0 0 0), some (xR 20 0 0), some (xR 26 0 0), some (xI i), some (xI k), some (xI v), x7, x8] [] N
      refine xl_st hC hc hs (xs_goto (t := 2181) dL_law_433 (by decide)) ?_
      show XWW p l e room_1 s m #[Value.ref b] below meth c (cells + 1) (slots + 6) (lw_Z below #[Value.ref b] s) D G ρ 9 2181 [some (xR 40 0 0), some (xR 0 0 0), some (xR 20 0 0), some (xR 26 0 0), some (xI i), some (xI k), some (xI v), x7, x8] [] N
      exact next _ _ _ _ N hR
  show XWW p l e room_1 s m #[Value.ref b] below meth c cells slots (lw_Z below #[Value.ref b] s) D G ρ 9 368 [some (xR 40 0 0), some (xR 0 0 0), some (xR 20 0 0), some (xR 26 0 0), some (xI i), x5, x6, x7, x8] [] M
  refine xl_st hC c0 s0 (xs_aload_n (i := 1) dL_law_368 rfl) ?_
  show XWW p l e room_1 s m #[Value.ref b] below meth c cells slots (lw_Z below #[Value.ref b] s) D G ρ 9 369 [some (xR 40 0 0), some (xR 0 0 0), some (xR 20 0 0), some (xR 26 0 0), some (xI i), x5, x6, x7, x8] [xR 0 0 0] M
  refine xl_st hC c0 s0 (xs_aload_n (i := 0) dL_law_369 rfl) ?_
  show XWW p l e room_1 s m #[Value.ref b] below meth c cells slots (lw_Z below #[Value.ref b] s) D G ρ 9 370 [some (xR 40 0 0), some (xR 0 0 0), some (xR 20 0 0), some (xR 26 0 0), some (xI i), x5, x6, x7, x8] [xR 40 0 0, xR 0 0 0] M
  refine xl_st hC c0 s0 (xs_iload dL_law_370) ?_
  show XWW p l e room_1 s m #[Value.ref b] below meth c cells slots (lw_Z below #[Value.ref b] s) D G ρ 9 372 [some (xR 40 0 0), some (xR 0 0 0), some (xR 20 0 0), some (xR 26 0 0), some (xI i), x5, x6, x7, x8] [xI i, xR 40 0 0, xR 0 0 0] M
  refine xl_st hC c0 s0 (xs_iconst dL_law_372) ?_
  show XWW p l e room_1 s m #[Value.ref b] below meth c cells slots (lw_Z below #[Value.ref b] s) D G ρ 9 373 [some (xR 40 0 0), some (xR 0 0 0), some (xR 20 0 0), some (xR 26 0 0), some (xI i), x5, x6, x7, x8] [xI 1, xI i, xR 40 0 0, xR 0 0 0] M
  refine xl_st hC c0 s0 (xs_iadd dL_law_373) ?_
  show XWW p l e room_1 s m #[Value.ref b] below meth c cells slots (lw_Z below #[Value.ref b] s) D G ρ 9 374 [some (xR 40 0 0), some (xR 0 0 0), some (xR 20 0 0), some (xR 26 0 0), some (xI i), x5, x6, x7, x8] [xI (i + 1), xR 40 0 0, xR 0 0 0] M
  refine xl_sld hC hX (by omega) (by omega) dL_law_374 ?_
  show XWW p l e room_1 s m #[Value.ref b] below meth c cells slots (lw_Z below #[Value.ref b] s) D G ρ 9 375 [some (xR 40 0 0), some (xR 0 0 0), some (xR 20 0 0), some (xR 26 0 0), some (xI i), x5, x6, x7, x8] [xI (SLx xs (i + 1)), xR 0 0 0] M
  refine xl_st hC c0 s0 (xs_aload_n (i := 0) dL_law_375 rfl) ?_
  show XWW p l e room_1 s m #[Value.ref b] below meth c cells slots (lw_Z below #[Value.ref b] s) D G ρ 9 376 [some (xR 40 0 0), some (xR 0 0 0), some (xR 20 0 0), some (xR 26 0 0), some (xI i), x5, x6, x7, x8] [xR 40 0 0, xI (SLx xs (i + 1)), xR 0 0 0] M
  refine xl_st hC c0 s0 (xs_iload dL_law_376) ?_
  show XWW p l e room_1 s m #[Value.ref b] below meth c cells slots (lw_Z below #[Value.ref b] s) D G ρ 9 378 [some (xR 40 0 0), some (xR 0 0 0), some (xR 20 0 0), some (xR 26 0 0), some (xI i), x5, x6, x7, x8] [xI i, xR 40 0 0, xI (SLx xs (i + 1)), xR 0 0 0] M
  refine xl_st hC c0 s0 (xs_iconst dL_law_378) ?_
  show XWW p l e room_1 s m #[Value.ref b] below meth c cells slots (lw_Z below #[Value.ref b] s) D G ρ 9 379 [some (xR 40 0 0), some (xR 0 0 0), some (xR 20 0 0), some (xR 26 0 0), some (xI i), x5, x6, x7, x8] [xI 2, xI i, xR 40 0 0, xI (SLx xs (i + 1)), xR 0 0 0] M
  refine xl_st hC c0 s0 (xs_iadd dL_law_379) ?_
  show XWW p l e room_1 s m #[Value.ref b] below meth c cells slots (lw_Z below #[Value.ref b] s) D G ρ 9 380 [some (xR 40 0 0), some (xR 0 0 0), some (xR 20 0 0), some (xR 26 0 0), some (xI i), x5, x6, x7, x8] [xI (i + 2), xR 40 0 0, xI (SLx xs (i + 1)), xR 0 0 0] M
  refine xl_sld hC hX (by omega) (by omega) dL_law_380 ?_
  show XWW p l e room_1 s m #[Value.ref b] below meth c cells slots (lw_Z below #[Value.ref b] s) D G ρ 9 381 [some (xR 40 0 0), some (xR 0 0 0), some (xR 20 0 0), some (xR 26 0 0), some (xI i), x5, x6, x7, x8] [xI (SLx xs (i + 2)), xI (SLx xs (i + 1)), xR 0 0 0] M
  refine xl_st hC c0 s0 (xs_aload_n (i := 3) dL_law_381 rfl) ?_
  show XWW p l e room_1 s m #[Value.ref b] below meth c cells slots (lw_Z below #[Value.ref b] s) D G ρ 9 382 [some (xR 40 0 0), some (xR 0 0 0), some (xR 20 0 0), some (xR 26 0 0), some (xI i), x5, x6, x7, x8] [xR 26 0 0, xI (SLx xs (i + 2)), xI (SLx xs (i + 1)), xR 0 0 0] M
  refine xl_call (n := 4) (As := [xR 0 0 0, xI (SLx xs (i + 1)), xI (SLx xs (i + 2)), xR 26 0 0]) (st := []) kL_set ⟨⟨rfl, rfl, by decide, by decide⟩, ⟨by decide, by decide, by decide +kernel⟩, tw_818, tw_819, tw_0, twL_set⟩ dL_law_382 hC hl hE hc hs rfl (by decide) ⟨(SLx xs (i + 1)), (SLx xs (i + 2)), rfl, lc_set hZ h (SL_in _ _) (SL_in _ _)⟩ (fun rv N1 hq => ?_)
  obtain ⟨k, rfl, ⟨k0, k3⟩, href⟩ := hq
  show XWW p l e room_1 s m #[Value.ref b] below meth c (cells + 1) (slots + 6) (lw_Z below #[Value.ref b] s) D G ρ 9 385 [some (xR 40 0 0), some (xR 0 0 0), some (xR 20 0 0), some (xR 26 0 0), some (xI i), x5, x6, x7, x8] [xI k] N1
  refine xl_st hC hc hs (xs_istore dL_law_385 (by decide)) ?_
  show XWW p l e room_1 s m #[Value.ref b] below meth c (cells + 1) (slots + 6) (lw_Z below #[Value.ref b] s) D G ρ 9 387 [some (xR 40 0 0), some (xR 0 0 0), some (xR 20 0 0), some (xR 26 0 0), some (xI i), some (xI k), x6, x7, x8] [] N1
  refine xl_st hC hc hs (xs_aload_n (i := 2) dL_law_387 rfl) ?_
  show XWW p l e room_1 s m #[Value.ref b] below meth c (cells + 1) (slots + 6) (lw_Z below #[Value.ref b] s) D G ρ 9 388 [some (xR 40 0 0), some (xR 0 0 0), some (xR 20 0 0), some (xR 26 0 0), some (xI i), some (xI k), x6, x7, x8] [xR 20 0 0] N1
  refine xl_st hC hc hs (xs_aload_n (i := 0) dL_law_388 rfl) ?_
  show XWW p l e room_1 s m #[Value.ref b] below meth c (cells + 1) (slots + 6) (lw_Z below #[Value.ref b] s) D G ρ 9 389 [some (xR 40 0 0), some (xR 0 0 0), some (xR 20 0 0), some (xR 26 0 0), some (xI i), some (xI k), x6, x7, x8] [xR 40 0 0, xR 20 0 0] N1
  refine xl_st hC hc hs (xs_iload dL_law_389) ?_
  show XWW p l e room_1 s m #[Value.ref b] below meth c (cells + 1) (slots + 6) (lw_Z below #[Value.ref b] s) D G ρ 9 391 [some (xR 40 0 0), some (xR 0 0 0), some (xR 20 0 0), some (xR 26 0 0), some (xI i), some (xI k), x6, x7, x8] [xI i, xR 40 0 0, xR 20 0 0] N1
  refine xl_st hC hc hs (xs_iconst dL_law_391) ?_
  show XWW p l e room_1 s m #[Value.ref b] below meth c (cells + 1) (slots + 6) (lw_Z below #[Value.ref b] s) D G ρ 9 392 [some (xR 40 0 0), some (xR 0 0 0), some (xR 20 0 0), some (xR 26 0 0), some (xI i), some (xI k), x6, x7, x8] [xI 1, xI i, xR 40 0 0, xR 20 0 0] N1
  refine xl_st hC hc hs (xs_iadd dL_law_392) ?_
  show XWW p l e room_1 s m #[Value.ref b] below meth c (cells + 1) (slots + 6) (lw_Z below #[Value.ref b] s) D G ρ 9 393 [some (xR 40 0 0), some (xR 0 0 0), some (xR 20 0 0), some (xR 26 0 0), some (xI i), some (xI k), x6, x7, x8] [xI (i + 1), xR 40 0 0, xR 20 0 0] N1
  refine xl_sld hC hX (by omega) (by omega) dL_law_393 ?_
  show XWW p l e room_1 s m #[Value.ref b] below meth c (cells + 1) (slots + 6) (lw_Z below #[Value.ref b] s) D G ρ 9 394 [some (xR 40 0 0), some (xR 0 0 0), some (xR 20 0 0), some (xR 26 0 0), some (xI i), some (xI k), x6, x7, x8] [xI (SLx xs (i + 1)), xR 20 0 0] N1
  refine xl_st hC hc hs (xs_aload_n (i := 0) dL_law_394 rfl) ?_
  show XWW p l e room_1 s m #[Value.ref b] below meth c (cells + 1) (slots + 6) (lw_Z below #[Value.ref b] s) D G ρ 9 395 [some (xR 40 0 0), some (xR 0 0 0), some (xR 20 0 0), some (xR 26 0 0), some (xI i), some (xI k), x6, x7, x8] [xR 40 0 0, xI (SLx xs (i + 1)), xR 20 0 0] N1
  refine xl_st hC hc hs (xs_iload dL_law_395) ?_
  show XWW p l e room_1 s m #[Value.ref b] below meth c (cells + 1) (slots + 6) (lw_Z below #[Value.ref b] s) D G ρ 9 397 [some (xR 40 0 0), some (xR 0 0 0), some (xR 20 0 0), some (xR 26 0 0), some (xI i), some (xI k), x6, x7, x8] [xI i, xR 40 0 0, xI (SLx xs (i + 1)), xR 20 0 0] N1
  refine xl_st hC hc hs (xs_iconst dL_law_397) ?_
  show XWW p l e room_1 s m #[Value.ref b] below meth c (cells + 1) (slots + 6) (lw_Z below #[Value.ref b] s) D G ρ 9 398 [some (xR 40 0 0), some (xR 0 0 0), some (xR 20 0 0), some (xR 26 0 0), some (xI i), some (xI k), x6, x7, x8] [xI 2, xI i, xR 40 0 0, xI (SLx xs (i + 1)), xR 20 0 0] N1
  refine xl_st hC hc hs (xs_iadd dL_law_398) ?_
  show XWW p l e room_1 s m #[Value.ref b] below meth c (cells + 1) (slots + 6) (lw_Z below #[Value.ref b] s) D G ρ 9 399 [some (xR 40 0 0), some (xR 0 0 0), some (xR 20 0 0), some (xR 26 0 0), some (xI i), some (xI k), x6, x7, x8] [xI (i + 2), xR 40 0 0, xI (SLx xs (i + 1)), xR 20 0 0] N1
  refine xl_sld hC hX (by omega) (by omega) dL_law_399 ?_
  show XWW p l e room_1 s m #[Value.ref b] below meth c (cells + 1) (slots + 6) (lw_Z below #[Value.ref b] s) D G ρ 9 400 [some (xR 40 0 0), some (xR 0 0 0), some (xR 20 0 0), some (xR 26 0 0), some (xI i), some (xI k), x6, x7, x8] [xI (SLx xs (i + 2)), xI (SLx xs (i + 1)), xR 20 0 0] N1
  refine xl_st hC hc hs (xs_V2 kX8_set ⟨⟨rfl, rfl, by decide, by decide⟩, ⟨by decide, by decide, by decide +kernel⟩, ⟨tw_1118, tw_1119, tw_1120, tw_9, tw_1121⟩, 8, TX8, _, rfl, fun G ρ f i k => ⟨_, rfl⟩⟩ dL_law_400) ⟨⟨rfl, xvz_20, by decide⟩, href⟩
set_option maxRecDepth 100000 in
theorem cs_stock {p : Program} {l : Launch} {e : Env} {s : State} {m : MethodId} {below : List Frame} {meth : Method} {c : Code} {D : va_G} {G : Nat → ClassId} {ρ : XOb → Nat} {b Ln : Nat} {xs : Nat → Int32} {cells slots : Nat} (hC : XCX p room_1 s m #[Value.ref b] c 0 0 D G ρ cL_law 9 RL (Cond.initialized RL :: xT)) (hl : l.stackTraces = false) (hE : (XEw s ∧ XEs s ∧ XEz (XA ρ s.heap.size) s s.heap) ∧ XEc s) (hX : XSc s ρ b Ln xs) (hc : cells + 1 ≤ 601024) (hs : slots + 6 ≤ 7293034) {i : Int} (h0 : 0 ≤ i) (h6 : i + 6 ≤ Ln) {M : XM} (h : RR M) {x5 x6 x7 x8 : Option XV} (next : ∀ (y5 y6 y7 y8 : Option XV) (N : XM), RR N → XWW p l e room_1 s m #[Value.ref b] below meth c (cells + 1) (slots + 6) (lw_Z below #[Value.ref b] s) D G ρ 9 2181 [some (xR 40 0 0), some (xR 0 0 0), some (xR 20 0 0), some (xR 26 0 0), some (xI i), y5, y6, y7, y8] [] N) : XWW p l e room_1 s m #[Value.ref b] below meth c cells slots (lw_Z below #[Value.ref b] s) D G ρ 9 436 [some (xR 40 0 0), some (xR 0 0 0), some (xR 20 0 0), some (xR 26 0 0), some (xI i), x5, x6, x7, x8] [] M := by
  have c0 : cells ≤ room_1.cells := Nat.le_trans (Nat.le_succ _) hc
  have s0 : slots ≤ room_1.slots := Nat.le_trans (Nat.le_add_right _ 6) hs
  have hZ : ∀ (k : Int) (rv : List XV) (N : XM), 0 ≤ k → k ≤ 3 → LE k rv N → (fun (k : Int) (rv : List XV) (N : XM) => XWW p l e room_1 s m #[Value.ref b] below meth c (cells + 1) (slots + 6) (lw_Z below #[Value.ref b] s) D G ρ 9 483 [some (xR 40 0 0), some (xR 0 0 0), some (xR 20 0 0), some (xR 26 0 0), some (xI i), some (xI k), x6, x7, x8] (rv ++ []) N) k rv N := by
    intro k rv N k0 k3 hLE
    obtain ⟨v, rfl, hR, h5, h26⟩ := hLE
    show XWW p l e room_1 s m #[Value.ref b] below meth c (cells + 1) (slots + 6) (lw_Z below #[Value.ref b] s) D G ρ 9 483 [some (xR 40 0 0), some (xR 0 0 0), some (xR 20 0 0), some (xR 26 0 0), some (xI i), some (xI k), x6, x7, x8] [xI v] N
    refine xl_st hC hc hs (xs_istore dL_law_483 (by decide)) ?_
    show XWW p l e room_1 s m #[Value.ref b] below meth c (cells + 1) (slots + 6) (lw_Z below #[Value.ref b] s) D G ρ 9 485 [some (xR 40 0 0), some (xR 0 0 0), some (xR 20 0 0), some (xR 26 0 0), some (xI i), some (xI k), some (xI v), x7, x8] [] N
    refine xl_st hC hc hs (xs_aload_n (i := 2) dL_law_485 rfl) ?_
    show XWW p l e room_1 s m #[Value.ref b] below meth c (cells + 1) (slots + 6) (lw_Z below #[Value.ref b] s) D G ρ 9 486 [some (xR 40 0 0), some (xR 0 0 0), some (xR 20 0 0), some (xR 26 0 0), some (xI i), some (xI k), some (xI v), x7, x8] [xR 20 0 0] N
    refine xl_st hC hc hs (xs_V0 kX8_thrown ⟨⟨rfl, rfl, by decide, by decide⟩, ⟨by decide, by decide, by decide +kernel⟩, ⟨tw_1091, tw_1092, tw_1093, tw_9, tw_1094⟩, 8, TX8, _, rfl, fun G ρ f i k => ⟨_, rfl⟩⟩ dL_law_486) ⟨⟨rfl, xvz_20, by decide⟩, ⟨rfl, xvz_20⟩, ?_⟩
    show XWW p l e room_1 s m #[Value.ref b] below meth c (cells + 1) (slots + 6) (lw_Z below #[Value.ref b] s) D G ρ 9 489 [some (xR 40 0 0), some (xR 0 0 0), some (xR 20 0 0), some (xR 26 0 0), some (xI i), some (xI k), some (xI v), x7, x8] [xI (N 20 0 0 5)] N
    refine xl_st hC hc hs (xs_iload dL_law_489) ?_
    show XWW p l e room_1 s m #[Value.ref b] below meth c (cells + 1) (slots + 6) (lw_Z below #[Value.ref b] s) D G ρ 9 491 [some (xR 40 0 0), some (xR 0 0 0), some (xR 20 0 0), some (xR 26 0 0), some (xI i), some (xI k), some (xI v), x7, x8] [xI k, xI (N 20 0 0 5)] N
    refine xl_st hC hc hs (xs_icmp_eq (t := 496) dL_law_491 (by decide)) ⟨⟨by rw [h5]; exact ⟨by omega, by omega⟩, ⟨by omega, by omega⟩⟩, fun _ => ?_, fun q => absurd h5 q⟩
    show XWW p l e room_1 s m #[Value.ref b] below meth c (cells + 1) (slots + 6) (lw_Z below #[Value.ref b] s) D G ρ 9 496 [some (xR 40 0 0), some (xR 0 0 0), some (xR 20 0 0), some (xR 26 0 0), some (xI i), some (xI k), some (xI v), x7, x8] [] N
    refine xl_st hC hc hs (xs_iload dL_law_496) ?_
    show XWW p l e room_1 s m #[Value.ref b] below meth c (cells + 1) (slots + 6) (lw_Z below #[Value.ref b] s) D G ρ 9 498 [some (xR 40 0 0), some (xR 0 0 0), some (xR 20 0 0), some (xR 26 0 0), some (xI i), some (xI k), some (xI v), x7, x8] [xI k] N
    refine xl_st hC hc hs (xs_if_ne (t := 513) dL_law_498 (by decide)) ⟨⟨by omega, by omega⟩, fun _ => ?_, fun q => ?_⟩
    · show XWW p l e room_1 s m #[Value.ref b] below meth c (cells + 1) (slots + 6) (lw_Z below #[Value.ref b] s) D G ρ 9 513 [some (xR 40 0 0), some (xR 0 0 0), some (xR 20 0 0), some (xR 26 0 0), some (xI i), some (xI k), some (xI v), x7, x8] [] N
      refine xl_st hC hc hs (xs_goto (t := 2181) dL_law_513 (by decide)) ?_
      show XWW p l e room_1 s m #[Value.ref b] below meth c (cells + 1) (slots + 6) (lw_Z below #[Value.ref b] s) D G ρ 9 2181 [some (xR 40 0 0), some (xR 0 0 0), some (xR 20 0 0), some (xR 26 0 0), some (xI i), some (xI k), some (xI v), x7, x8] [] N
      exact next _ _ _ _ N hR
    · show XWW p l e room_1 s m #[Value.ref b] below meth c (cells + 1) (slots + 6) (lw_Z below #[Value.ref b] s) D G ρ 9 501 [some (xR 40 0 0), some (xR 0 0 0), some (xR 20 0 0), some (xR 26 0 0), some (xI i), some (xI k), some (xI v), x7, x8] [] N
      refine xl_st hC hc hs (xs_aload_n (i := 3) dL_law_501 rfl) ?_
      show XWW p l e room_1 s m #[Value.ref b] below meth c (cells + 1) (slots + 6) (lw_Z below #[Value.ref b] s) D G ρ 9 502 [some (xR 40 0 0), some (xR 0 0 0), some (xR 20 0 0), some (xR 26 0 0), some (xI i), some (xI k), some (xI v), x7, x8] [xR 26 0 0] N
      refine xl_st hC hc hs (xs_iconst dL_law_502) ?_
      show XWW p l e room_1 s m #[Value.ref b] below meth c (cells + 1) (slots + 6) (lw_Z below #[Value.ref b] s) D G ρ 9 503 [some (xR 40 0 0), some (xR 0 0 0), some (xR 20 0 0), some (xR 26 0 0), some (xI i), some (xI k), some (xI v), x7, x8] [xI 0, xR 26 0 0] N
      refine xl_st hC hc hs (xs_lald dL_law_503) ⟨⟨rfl, rfl, rfl, rfl⟩, ?_⟩
      show XWW p l e room_1 s m #[Value.ref b] below meth c (cells + 1) (slots + 6) (lw_Z below #[Value.ref b] s) D G ρ 9 504 [some (xR 40 0 0), some (xR 0 0 0), some (xR 20 0 0), some (xR 26 0 0), some (xI i), some (xI k), some (xI v), x7, x8] [xJ (N 26 0 0 0)] N
      refine xl_st hC hc hs (xs_iload dL_law_504) ?_
      show XWW p l e room_1 s m #[Value.ref b] below meth c (cells + 1) (slots + 6) (lw_Z below #[Value.ref b] s) D G ρ 9 506 [some (xR 40 0 0), some (xR 0 0 0), some (xR 20 0 0), some (xR 26 0 0), some (xI i), some (xI k), some (xI v), x7, x8] [xI v, xJ (N 26 0 0 0)] N
      refine xl_st hC hc hs (xs_i2lw dL_law_506) ?_
      show XWW p l e room_1 s m #[Value.ref b] below meth c (cells + 1) (slots + 6) (lw_Z below #[Value.ref b] s) D G ρ 9 507 [some (xR 40 0 0), some (xR 0 0 0), some (xR 20 0 0), some (xR 26 0 0), some (xI i), some (xI k), some (xI v), x7, x8] [xJ (w32 v), xJ (N 26 0 0 0)] N
      refine xl_st hC hc hs (xs_lcmp dL_law_507) ⟨h26 q, ?_⟩
      show XWW p l e room_1 s m #[Value.ref b] below meth c (cells + 1) (slots + 6) (lw_Z below #[Value.ref b] s) D G ρ 9 508 [some (xR 40 0 0), some (xR 0 0 0), some (xR 20 0 0), some (xR 26 0 0), some (xI i), some (xI k), some (xI v), x7, x8] [xI 0] N
      refine xl_st hC hc hs (xs_if_eq (t := 513) dL_law_508 (by decide)) ⟨x_r0, fun _ => ?_, fun q => absurd rfl q⟩
      show XWW p l e room_1 s m #[Value.ref b] below meth c (cells + 1) (slots + 6) (lw_Z below #[Value.ref b] s) D G ρ 9 513 [some (xR 40 0 0), some (xR 0 0 0), some (xR 20 0 0), some (xR 26 0 0), some (xI i), some (xI k), some (xI v), x7, x8] [] N
      refine xl_st hC hc hs (xs_goto (t := 2181) dL_law_513 (by decide)) ?_
      show XWW p l e room_1 s m #[Value.ref b] below meth c (cells + 1) (slots + 6) (lw_Z below #[Value.ref b] s) D G ρ 9 2181 [some (xR 40 0 0), some (xR 0 0 0), some (xR 20 0 0), some (xR 26 0 0), some (xI i), some (xI k), some (xI v), x7, x8] [] N
      exact next _ _ _ _ N hR
  show XWW p l e room_1 s m #[Value.ref b] below meth c cells slots (lw_Z below #[Value.ref b] s) D G ρ 9 436 [some (xR 40 0 0), some (xR 0 0 0), some (xR 20 0 0), some (xR 26 0 0), some (xI i), x5, x6, x7, x8] [] M
  refine xl_st hC c0 s0 (xs_aload_n (i := 1) dL_law_436 rfl) ?_
  show XWW p l e room_1 s m #[Value.ref b] below meth c cells slots (lw_Z below #[Value.ref b] s) D G ρ 9 437 [some (xR 40 0 0), some (xR 0 0 0), some (xR 20 0 0), some (xR 26 0 0), some (xI i), x5, x6, x7, x8] [xR 0 0 0] M
  refine xl_st hC c0 s0 (xs_aload_n (i := 0) dL_law_437 rfl) ?_
  show XWW p l e room_1 s m #[Value.ref b] below meth c cells slots (lw_Z below #[Value.ref b] s) D G ρ 9 438 [some (xR 40 0 0), some (xR 0 0 0), some (xR 20 0 0), some (xR 26 0 0), some (xI i), x5, x6, x7, x8] [xR 40 0 0, xR 0 0 0] M
  refine xl_st hC c0 s0 (xs_iload dL_law_438) ?_
  show XWW p l e room_1 s m #[Value.ref b] below meth c cells slots (lw_Z below #[Value.ref b] s) D G ρ 9 440 [some (xR 40 0 0), some (xR 0 0 0), some (xR 20 0 0), some (xR 26 0 0), some (xI i), x5, x6, x7, x8] [xI i, xR 40 0 0, xR 0 0 0] M
  refine xl_st hC c0 s0 (xs_iconst dL_law_440) ?_
  show XWW p l e room_1 s m #[Value.ref b] below meth c cells slots (lw_Z below #[Value.ref b] s) D G ρ 9 441 [some (xR 40 0 0), some (xR 0 0 0), some (xR 20 0 0), some (xR 26 0 0), some (xI i), x5, x6, x7, x8] [xI 1, xI i, xR 40 0 0, xR 0 0 0] M
  refine xl_st hC c0 s0 (xs_iadd dL_law_441) ?_
  show XWW p l e room_1 s m #[Value.ref b] below meth c cells slots (lw_Z below #[Value.ref b] s) D G ρ 9 442 [some (xR 40 0 0), some (xR 0 0 0), some (xR 20 0 0), some (xR 26 0 0), some (xI i), x5, x6, x7, x8] [xI (i + 1), xR 40 0 0, xR 0 0 0] M
  refine xl_sld hC hX (by omega) (by omega) dL_law_442 ?_
  show XWW p l e room_1 s m #[Value.ref b] below meth c cells slots (lw_Z below #[Value.ref b] s) D G ρ 9 443 [some (xR 40 0 0), some (xR 0 0 0), some (xR 20 0 0), some (xR 26 0 0), some (xI i), x5, x6, x7, x8] [xI (SLx xs (i + 1)), xR 0 0 0] M
  refine xl_st hC c0 s0 (xs_aload_n (i := 0) dL_law_443 rfl) ?_
  show XWW p l e room_1 s m #[Value.ref b] below meth c cells slots (lw_Z below #[Value.ref b] s) D G ρ 9 444 [some (xR 40 0 0), some (xR 0 0 0), some (xR 20 0 0), some (xR 26 0 0), some (xI i), x5, x6, x7, x8] [xR 40 0 0, xI (SLx xs (i + 1)), xR 0 0 0] M
  refine xl_st hC c0 s0 (xs_iload dL_law_444) ?_
  show XWW p l e room_1 s m #[Value.ref b] below meth c cells slots (lw_Z below #[Value.ref b] s) D G ρ 9 446 [some (xR 40 0 0), some (xR 0 0 0), some (xR 20 0 0), some (xR 26 0 0), some (xI i), x5, x6, x7, x8] [xI i, xR 40 0 0, xI (SLx xs (i + 1)), xR 0 0 0] M
  refine xl_st hC c0 s0 (xs_iconst dL_law_446) ?_
  show XWW p l e room_1 s m #[Value.ref b] below meth c cells slots (lw_Z below #[Value.ref b] s) D G ρ 9 447 [some (xR 40 0 0), some (xR 0 0 0), some (xR 20 0 0), some (xR 26 0 0), some (xI i), x5, x6, x7, x8] [xI 2, xI i, xR 40 0 0, xI (SLx xs (i + 1)), xR 0 0 0] M
  refine xl_st hC c0 s0 (xs_iadd dL_law_447) ?_
  show XWW p l e room_1 s m #[Value.ref b] below meth c cells slots (lw_Z below #[Value.ref b] s) D G ρ 9 448 [some (xR 40 0 0), some (xR 0 0 0), some (xR 20 0 0), some (xR 26 0 0), some (xI i), x5, x6, x7, x8] [xI (i + 2), xR 40 0 0, xI (SLx xs (i + 1)), xR 0 0 0] M
  refine xl_sld hC hX (by omega) (by omega) dL_law_448 ?_
  show XWW p l e room_1 s m #[Value.ref b] below meth c cells slots (lw_Z below #[Value.ref b] s) D G ρ 9 449 [some (xR 40 0 0), some (xR 0 0 0), some (xR 20 0 0), some (xR 26 0 0), some (xI i), x5, x6, x7, x8] [xI (SLx xs (i + 2)), xI (SLx xs (i + 1)), xR 0 0 0] M
  refine xl_st hC c0 s0 (xs_aload_n (i := 0) dL_law_449 rfl) ?_
  show XWW p l e room_1 s m #[Value.ref b] below meth c cells slots (lw_Z below #[Value.ref b] s) D G ρ 9 450 [some (xR 40 0 0), some (xR 0 0 0), some (xR 20 0 0), some (xR 26 0 0), some (xI i), x5, x6, x7, x8] [xR 40 0 0, xI (SLx xs (i + 2)), xI (SLx xs (i + 1)), xR 0 0 0] M
  refine xl_st hC c0 s0 (xs_iload dL_law_450) ?_
  show XWW p l e room_1 s m #[Value.ref b] below meth c cells slots (lw_Z below #[Value.ref b] s) D G ρ 9 452 [some (xR 40 0 0), some (xR 0 0 0), some (xR 20 0 0), some (xR 26 0 0), some (xI i), x5, x6, x7, x8] [xI i, xR 40 0 0, xI (SLx xs (i + 2)), xI (SLx xs (i + 1)), xR 0 0 0] M
  refine xl_st hC c0 s0 (xs_iconst dL_law_452) ?_
  show XWW p l e room_1 s m #[Value.ref b] below meth c cells slots (lw_Z below #[Value.ref b] s) D G ρ 9 453 [some (xR 40 0 0), some (xR 0 0 0), some (xR 20 0 0), some (xR 26 0 0), some (xI i), x5, x6, x7, x8] [xI 3, xI i, xR 40 0 0, xI (SLx xs (i + 2)), xI (SLx xs (i + 1)), xR 0 0 0] M
  refine xl_st hC c0 s0 (xs_iadd dL_law_453) ?_
  show XWW p l e room_1 s m #[Value.ref b] below meth c cells slots (lw_Z below #[Value.ref b] s) D G ρ 9 454 [some (xR 40 0 0), some (xR 0 0 0), some (xR 20 0 0), some (xR 26 0 0), some (xI i), x5, x6, x7, x8] [xI (i + 3), xR 40 0 0, xI (SLx xs (i + 2)), xI (SLx xs (i + 1)), xR 0 0 0] M
  refine xl_sld hC hX (by omega) (by omega) dL_law_454 ?_
  show XWW p l e room_1 s m #[Value.ref b] below meth c cells slots (lw_Z below #[Value.ref b] s) D G ρ 9 455 [some (xR 40 0 0), some (xR 0 0 0), some (xR 20 0 0), some (xR 26 0 0), some (xI i), x5, x6, x7, x8] [xI (SLx xs (i + 3)), xI (SLx xs (i + 2)), xI (SLx xs (i + 1)), xR 0 0 0] M
  refine xl_st hC c0 s0 (xs_aload_n (i := 3) dL_law_455 rfl) ?_
  show XWW p l e room_1 s m #[Value.ref b] below meth c cells slots (lw_Z below #[Value.ref b] s) D G ρ 9 456 [some (xR 40 0 0), some (xR 0 0 0), some (xR 20 0 0), some (xR 26 0 0), some (xI i), x5, x6, x7, x8] [xR 26 0 0, xI (SLx xs (i + 3)), xI (SLx xs (i + 2)), xI (SLx xs (i + 1)), xR 0 0 0] M
  refine xl_call (n := 5) (As := [xR 0 0 0, xI (SLx xs (i + 1)), xI (SLx xs (i + 2)), xI (SLx xs (i + 3)), xR 26 0 0]) (st := []) kL_stock ⟨⟨rfl, rfl, by decide, by decide⟩, ⟨by decide, by decide, by decide +kernel⟩, tw_829, tw_830, tw_0, twL_stock⟩ dL_law_456 hC hl hE hc hs rfl (by decide) ⟨(SLx xs (i + 1)), (SLx xs (i + 2)), (SLx xs (i + 3)), rfl, lc_stock hZ h (SL_in _ _) (SL_in _ _) (SL_in _ _)⟩ (fun rv N1 hq => ?_)
  obtain ⟨k, rfl, ⟨k0, k3⟩, href⟩ := hq
  show XWW p l e room_1 s m #[Value.ref b] below meth c (cells + 1) (slots + 6) (lw_Z below #[Value.ref b] s) D G ρ 9 459 [some (xR 40 0 0), some (xR 0 0 0), some (xR 20 0 0), some (xR 26 0 0), some (xI i), x5, x6, x7, x8] [xI k] N1
  refine xl_st hC hc hs (xs_istore dL_law_459 (by decide)) ?_
  show XWW p l e room_1 s m #[Value.ref b] below meth c (cells + 1) (slots + 6) (lw_Z below #[Value.ref b] s) D G ρ 9 461 [some (xR 40 0 0), some (xR 0 0 0), some (xR 20 0 0), some (xR 26 0 0), some (xI i), some (xI k), x6, x7, x8] [] N1
  refine xl_st hC hc hs (xs_aload_n (i := 2) dL_law_461 rfl) ?_
  show XWW p l e room_1 s m #[Value.ref b] below meth c (cells + 1) (slots + 6) (lw_Z below #[Value.ref b] s) D G ρ 9 462 [some (xR 40 0 0), some (xR 0 0 0), some (xR 20 0 0), some (xR 26 0 0), some (xI i), some (xI k), x6, x7, x8] [xR 20 0 0] N1
  refine xl_st hC hc hs (xs_aload_n (i := 0) dL_law_462 rfl) ?_
  show XWW p l e room_1 s m #[Value.ref b] below meth c (cells + 1) (slots + 6) (lw_Z below #[Value.ref b] s) D G ρ 9 463 [some (xR 40 0 0), some (xR 0 0 0), some (xR 20 0 0), some (xR 26 0 0), some (xI i), some (xI k), x6, x7, x8] [xR 40 0 0, xR 20 0 0] N1
  refine xl_st hC hc hs (xs_iload dL_law_463) ?_
  show XWW p l e room_1 s m #[Value.ref b] below meth c (cells + 1) (slots + 6) (lw_Z below #[Value.ref b] s) D G ρ 9 465 [some (xR 40 0 0), some (xR 0 0 0), some (xR 20 0 0), some (xR 26 0 0), some (xI i), some (xI k), x6, x7, x8] [xI i, xR 40 0 0, xR 20 0 0] N1
  refine xl_st hC hc hs (xs_iconst dL_law_465) ?_
  show XWW p l e room_1 s m #[Value.ref b] below meth c (cells + 1) (slots + 6) (lw_Z below #[Value.ref b] s) D G ρ 9 466 [some (xR 40 0 0), some (xR 0 0 0), some (xR 20 0 0), some (xR 26 0 0), some (xI i), some (xI k), x6, x7, x8] [xI 1, xI i, xR 40 0 0, xR 20 0 0] N1
  refine xl_st hC hc hs (xs_iadd dL_law_466) ?_
  show XWW p l e room_1 s m #[Value.ref b] below meth c (cells + 1) (slots + 6) (lw_Z below #[Value.ref b] s) D G ρ 9 467 [some (xR 40 0 0), some (xR 0 0 0), some (xR 20 0 0), some (xR 26 0 0), some (xI i), some (xI k), x6, x7, x8] [xI (i + 1), xR 40 0 0, xR 20 0 0] N1
  refine xl_sld hC hX (by omega) (by omega) dL_law_467 ?_
  show XWW p l e room_1 s m #[Value.ref b] below meth c (cells + 1) (slots + 6) (lw_Z below #[Value.ref b] s) D G ρ 9 468 [some (xR 40 0 0), some (xR 0 0 0), some (xR 20 0 0), some (xR 26 0 0), some (xI i), some (xI k), x6, x7, x8] [xI (SLx xs (i + 1)), xR 20 0 0] N1
  refine xl_st hC hc hs (xs_aload_n (i := 0) dL_law_468 rfl) ?_
  show XWW p l e room_1 s m #[Value.ref b] below meth c (cells + 1) (slots + 6) (lw_Z below #[Value.ref b] s) D G ρ 9 469 [some (xR 40 0 0), some (xR 0 0 0), some (xR 20 0 0), some (xR 26 0 0), some (xI i), some (xI k), x6, x7, x8] [xR 40 0 0, xI (SLx xs (i + 1)), xR 20 0 0] N1
  refine xl_st hC hc hs (xs_iload dL_law_469) ?_
  show XWW p l e room_1 s m #[Value.ref b] below meth c (cells + 1) (slots + 6) (lw_Z below #[Value.ref b] s) D G ρ 9 471 [some (xR 40 0 0), some (xR 0 0 0), some (xR 20 0 0), some (xR 26 0 0), some (xI i), some (xI k), x6, x7, x8] [xI i, xR 40 0 0, xI (SLx xs (i + 1)), xR 20 0 0] N1
  refine xl_st hC hc hs (xs_iconst dL_law_471) ?_
  show XWW p l e room_1 s m #[Value.ref b] below meth c (cells + 1) (slots + 6) (lw_Z below #[Value.ref b] s) D G ρ 9 472 [some (xR 40 0 0), some (xR 0 0 0), some (xR 20 0 0), some (xR 26 0 0), some (xI i), some (xI k), x6, x7, x8] [xI 2, xI i, xR 40 0 0, xI (SLx xs (i + 1)), xR 20 0 0] N1
  refine xl_st hC hc hs (xs_iadd dL_law_472) ?_
  show XWW p l e room_1 s m #[Value.ref b] below meth c (cells + 1) (slots + 6) (lw_Z below #[Value.ref b] s) D G ρ 9 473 [some (xR 40 0 0), some (xR 0 0 0), some (xR 20 0 0), some (xR 26 0 0), some (xI i), some (xI k), x6, x7, x8] [xI (i + 2), xR 40 0 0, xI (SLx xs (i + 1)), xR 20 0 0] N1
  refine xl_sld hC hX (by omega) (by omega) dL_law_473 ?_
  show XWW p l e room_1 s m #[Value.ref b] below meth c (cells + 1) (slots + 6) (lw_Z below #[Value.ref b] s) D G ρ 9 474 [some (xR 40 0 0), some (xR 0 0 0), some (xR 20 0 0), some (xR 26 0 0), some (xI i), some (xI k), x6, x7, x8] [xI (SLx xs (i + 2)), xI (SLx xs (i + 1)), xR 20 0 0] N1
  refine xl_st hC hc hs (xs_aload_n (i := 0) dL_law_474 rfl) ?_
  show XWW p l e room_1 s m #[Value.ref b] below meth c (cells + 1) (slots + 6) (lw_Z below #[Value.ref b] s) D G ρ 9 475 [some (xR 40 0 0), some (xR 0 0 0), some (xR 20 0 0), some (xR 26 0 0), some (xI i), some (xI k), x6, x7, x8] [xR 40 0 0, xI (SLx xs (i + 2)), xI (SLx xs (i + 1)), xR 20 0 0] N1
  refine xl_st hC hc hs (xs_iload dL_law_475) ?_
  show XWW p l e room_1 s m #[Value.ref b] below meth c (cells + 1) (slots + 6) (lw_Z below #[Value.ref b] s) D G ρ 9 477 [some (xR 40 0 0), some (xR 0 0 0), some (xR 20 0 0), some (xR 26 0 0), some (xI i), some (xI k), x6, x7, x8] [xI i, xR 40 0 0, xI (SLx xs (i + 2)), xI (SLx xs (i + 1)), xR 20 0 0] N1
  refine xl_st hC hc hs (xs_iconst dL_law_477) ?_
  show XWW p l e room_1 s m #[Value.ref b] below meth c (cells + 1) (slots + 6) (lw_Z below #[Value.ref b] s) D G ρ 9 478 [some (xR 40 0 0), some (xR 0 0 0), some (xR 20 0 0), some (xR 26 0 0), some (xI i), some (xI k), x6, x7, x8] [xI 3, xI i, xR 40 0 0, xI (SLx xs (i + 2)), xI (SLx xs (i + 1)), xR 20 0 0] N1
  refine xl_st hC hc hs (xs_iadd dL_law_478) ?_
  show XWW p l e room_1 s m #[Value.ref b] below meth c (cells + 1) (slots + 6) (lw_Z below #[Value.ref b] s) D G ρ 9 479 [some (xR 40 0 0), some (xR 0 0 0), some (xR 20 0 0), some (xR 26 0 0), some (xI i), some (xI k), x6, x7, x8] [xI (i + 3), xR 40 0 0, xI (SLx xs (i + 2)), xI (SLx xs (i + 1)), xR 20 0 0] N1
  refine xl_sld hC hX (by omega) (by omega) dL_law_479 ?_
  show XWW p l e room_1 s m #[Value.ref b] below meth c (cells + 1) (slots + 6) (lw_Z below #[Value.ref b] s) D G ρ 9 480 [some (xR 40 0 0), some (xR 0 0 0), some (xR 20 0 0), some (xR 26 0 0), some (xI i), some (xI k), x6, x7, x8] [xI (SLx xs (i + 3)), xI (SLx xs (i + 2)), xI (SLx xs (i + 1)), xR 20 0 0] N1
  refine xl_st hC hc hs (xs_V3 kX8_stock ⟨⟨rfl, rfl, by decide, by decide⟩, ⟨by decide, by decide, by decide +kernel⟩, ⟨tw_1128, tw_1129, tw_1130, tw_9, tw_1131⟩, 8, TX8, _, rfl, fun G ρ f i k => ⟨_, rfl⟩⟩ dL_law_480) ⟨⟨rfl, xvz_20, by decide⟩, href⟩
set_option maxRecDepth 100000 in
theorem cs_cook {p : Program} {l : Launch} {e : Env} {s : State} {m : MethodId} {below : List Frame} {meth : Method} {c : Code} {D : va_G} {G : Nat → ClassId} {ρ : XOb → Nat} {b Ln : Nat} {xs : Nat → Int32} {cells slots : Nat} (hC : XCX p room_1 s m #[Value.ref b] c 0 0 D G ρ cL_law 9 RL (Cond.initialized RL :: xT)) (hl : l.stackTraces = false) (hE : (XEw s ∧ XEs s ∧ XEz (XA ρ s.heap.size) s s.heap) ∧ XEc s) (hX : XSc s ρ b Ln xs) (hc : cells + 1 ≤ 601024) (hs : slots + 6 ≤ 7293034) {i : Int} (h0 : 0 ≤ i) (h6 : i + 6 ≤ Ln) {M : XM} (h : RR M) {x5 x6 x7 x8 : Option XV} (next : ∀ (y5 y6 y7 y8 : Option XV) (N : XM), RR N → XWW p l e room_1 s m #[Value.ref b] below meth c (cells + 1) (slots + 6) (lw_Z below #[Value.ref b] s) D G ρ 9 2181 [some (xR 40 0 0), some (xR 0 0 0), some (xR 20 0 0), some (xR 26 0 0), some (xI i), y5, y6, y7, y8] [] N) : XWW p l e room_1 s m #[Value.ref b] below meth c cells slots (lw_Z below #[Value.ref b] s) D G ρ 9 516 [some (xR 40 0 0), some (xR 0 0 0), some (xR 20 0 0), some (xR 26 0 0), some (xI i), x5, x6, x7, x8] [] M := by
  have c0 : cells ≤ room_1.cells := Nat.le_trans (Nat.le_succ _) hc
  have s0 : slots ≤ room_1.slots := Nat.le_trans (Nat.le_add_right _ 6) hs
  have hZ : ∀ (k : Int) (rv : List XV) (N : XM), 0 ≤ k → k ≤ 3 → LE k rv N → (fun (k : Int) (rv : List XV) (N : XM) => XWW p l e room_1 s m #[Value.ref b] below meth c (cells + 1) (slots + 6) (lw_Z below #[Value.ref b] s) D G ρ 9 563 [some (xR 40 0 0), some (xR 0 0 0), some (xR 20 0 0), some (xR 26 0 0), some (xI i), some (xI k), x6, x7, x8] (rv ++ []) N) k rv N := by
    intro k rv N k0 k3 hLE
    obtain ⟨v, rfl, hR, h5, h26⟩ := hLE
    show XWW p l e room_1 s m #[Value.ref b] below meth c (cells + 1) (slots + 6) (lw_Z below #[Value.ref b] s) D G ρ 9 563 [some (xR 40 0 0), some (xR 0 0 0), some (xR 20 0 0), some (xR 26 0 0), some (xI i), some (xI k), x6, x7, x8] [xI v] N
    refine xl_st hC hc hs (xs_istore dL_law_563 (by decide)) ?_
    show XWW p l e room_1 s m #[Value.ref b] below meth c (cells + 1) (slots + 6) (lw_Z below #[Value.ref b] s) D G ρ 9 565 [some (xR 40 0 0), some (xR 0 0 0), some (xR 20 0 0), some (xR 26 0 0), some (xI i), some (xI k), some (xI v), x7, x8] [] N
    refine xl_st hC hc hs (xs_aload_n (i := 2) dL_law_565 rfl) ?_
    show XWW p l e room_1 s m #[Value.ref b] below meth c (cells + 1) (slots + 6) (lw_Z below #[Value.ref b] s) D G ρ 9 566 [some (xR 40 0 0), some (xR 0 0 0), some (xR 20 0 0), some (xR 26 0 0), some (xI i), some (xI k), some (xI v), x7, x8] [xR 20 0 0] N
    refine xl_st hC hc hs (xs_V0 kX8_thrown ⟨⟨rfl, rfl, by decide, by decide⟩, ⟨by decide, by decide, by decide +kernel⟩, ⟨tw_1091, tw_1092, tw_1093, tw_9, tw_1094⟩, 8, TX8, _, rfl, fun G ρ f i k => ⟨_, rfl⟩⟩ dL_law_566) ⟨⟨rfl, xvz_20, by decide⟩, ⟨rfl, xvz_20⟩, ?_⟩
    show XWW p l e room_1 s m #[Value.ref b] below meth c (cells + 1) (slots + 6) (lw_Z below #[Value.ref b] s) D G ρ 9 569 [some (xR 40 0 0), some (xR 0 0 0), some (xR 20 0 0), some (xR 26 0 0), some (xI i), some (xI k), some (xI v), x7, x8] [xI (N 20 0 0 5)] N
    refine xl_st hC hc hs (xs_iload dL_law_569) ?_
    show XWW p l e room_1 s m #[Value.ref b] below meth c (cells + 1) (slots + 6) (lw_Z below #[Value.ref b] s) D G ρ 9 571 [some (xR 40 0 0), some (xR 0 0 0), some (xR 20 0 0), some (xR 26 0 0), some (xI i), some (xI k), some (xI v), x7, x8] [xI k, xI (N 20 0 0 5)] N
    refine xl_st hC hc hs (xs_icmp_eq (t := 576) dL_law_571 (by decide)) ⟨⟨by rw [h5]; exact ⟨by omega, by omega⟩, ⟨by omega, by omega⟩⟩, fun _ => ?_, fun q => absurd h5 q⟩
    show XWW p l e room_1 s m #[Value.ref b] below meth c (cells + 1) (slots + 6) (lw_Z below #[Value.ref b] s) D G ρ 9 576 [some (xR 40 0 0), some (xR 0 0 0), some (xR 20 0 0), some (xR 26 0 0), some (xI i), some (xI k), some (xI v), x7, x8] [] N
    refine xl_st hC hc hs (xs_iload dL_law_576) ?_
    show XWW p l e room_1 s m #[Value.ref b] below meth c (cells + 1) (slots + 6) (lw_Z below #[Value.ref b] s) D G ρ 9 578 [some (xR 40 0 0), some (xR 0 0 0), some (xR 20 0 0), some (xR 26 0 0), some (xI i), some (xI k), some (xI v), x7, x8] [xI k] N
    refine xl_st hC hc hs (xs_if_ne (t := 593) dL_law_578 (by decide)) ⟨⟨by omega, by omega⟩, fun _ => ?_, fun q => ?_⟩
    · show XWW p l e room_1 s m #[Value.ref b] below meth c (cells + 1) (slots + 6) (lw_Z below #[Value.ref b] s) D G ρ 9 593 [some (xR 40 0 0), some (xR 0 0 0), some (xR 20 0 0), some (xR 26 0 0), some (xI i), some (xI k), some (xI v), x7, x8] [] N
      refine xl_st hC hc hs (xs_goto (t := 2181) dL_law_593 (by decide)) ?_
      show XWW p l e room_1 s m #[Value.ref b] below meth c (cells + 1) (slots + 6) (lw_Z below #[Value.ref b] s) D G ρ 9 2181 [some (xR 40 0 0), some (xR 0 0 0), some (xR 20 0 0), some (xR 26 0 0), some (xI i), some (xI k), some (xI v), x7, x8] [] N
      exact next _ _ _ _ N hR
    · show XWW p l e room_1 s m #[Value.ref b] below meth c (cells + 1) (slots + 6) (lw_Z below #[Value.ref b] s) D G ρ 9 581 [some (xR 40 0 0), some (xR 0 0 0), some (xR 20 0 0), some (xR 26 0 0), some (xI i), some (xI k), some (xI v), x7, x8] [] N
      refine xl_st hC hc hs (xs_aload_n (i := 3) dL_law_581 rfl) ?_
      show XWW p l e room_1 s m #[Value.ref b] below meth c (cells + 1) (slots + 6) (lw_Z below #[Value.ref b] s) D G ρ 9 582 [some (xR 40 0 0), some (xR 0 0 0), some (xR 20 0 0), some (xR 26 0 0), some (xI i), some (xI k), some (xI v), x7, x8] [xR 26 0 0] N
      refine xl_st hC hc hs (xs_iconst dL_law_582) ?_
      show XWW p l e room_1 s m #[Value.ref b] below meth c (cells + 1) (slots + 6) (lw_Z below #[Value.ref b] s) D G ρ 9 583 [some (xR 40 0 0), some (xR 0 0 0), some (xR 20 0 0), some (xR 26 0 0), some (xI i), some (xI k), some (xI v), x7, x8] [xI 0, xR 26 0 0] N
      refine xl_st hC hc hs (xs_lald dL_law_583) ⟨⟨rfl, rfl, rfl, rfl⟩, ?_⟩
      show XWW p l e room_1 s m #[Value.ref b] below meth c (cells + 1) (slots + 6) (lw_Z below #[Value.ref b] s) D G ρ 9 584 [some (xR 40 0 0), some (xR 0 0 0), some (xR 20 0 0), some (xR 26 0 0), some (xI i), some (xI k), some (xI v), x7, x8] [xJ (N 26 0 0 0)] N
      refine xl_st hC hc hs (xs_iload dL_law_584) ?_
      show XWW p l e room_1 s m #[Value.ref b] below meth c (cells + 1) (slots + 6) (lw_Z below #[Value.ref b] s) D G ρ 9 586 [some (xR 40 0 0), some (xR 0 0 0), some (xR 20 0 0), some (xR 26 0 0), some (xI i), some (xI k), some (xI v), x7, x8] [xI v, xJ (N 26 0 0 0)] N
      refine xl_st hC hc hs (xs_i2lw dL_law_586) ?_
      show XWW p l e room_1 s m #[Value.ref b] below meth c (cells + 1) (slots + 6) (lw_Z below #[Value.ref b] s) D G ρ 9 587 [some (xR 40 0 0), some (xR 0 0 0), some (xR 20 0 0), some (xR 26 0 0), some (xI i), some (xI k), some (xI v), x7, x8] [xJ (w32 v), xJ (N 26 0 0 0)] N
      refine xl_st hC hc hs (xs_lcmp dL_law_587) ⟨h26 q, ?_⟩
      show XWW p l e room_1 s m #[Value.ref b] below meth c (cells + 1) (slots + 6) (lw_Z below #[Value.ref b] s) D G ρ 9 588 [some (xR 40 0 0), some (xR 0 0 0), some (xR 20 0 0), some (xR 26 0 0), some (xI i), some (xI k), some (xI v), x7, x8] [xI 0] N
      refine xl_st hC hc hs (xs_if_eq (t := 593) dL_law_588 (by decide)) ⟨x_r0, fun _ => ?_, fun q => absurd rfl q⟩
      show XWW p l e room_1 s m #[Value.ref b] below meth c (cells + 1) (slots + 6) (lw_Z below #[Value.ref b] s) D G ρ 9 593 [some (xR 40 0 0), some (xR 0 0 0), some (xR 20 0 0), some (xR 26 0 0), some (xI i), some (xI k), some (xI v), x7, x8] [] N
      refine xl_st hC hc hs (xs_goto (t := 2181) dL_law_593 (by decide)) ?_
      show XWW p l e room_1 s m #[Value.ref b] below meth c (cells + 1) (slots + 6) (lw_Z below #[Value.ref b] s) D G ρ 9 2181 [some (xR 40 0 0), some (xR 0 0 0), some (xR 20 0 0), some (xR 26 0 0), some (xI i), some (xI k), some (xI v), x7, x8] [] N
      exact next _ _ _ _ N hR
  show XWW p l e room_1 s m #[Value.ref b] below meth c cells slots (lw_Z below #[Value.ref b] s) D G ρ 9 516 [some (xR 40 0 0), some (xR 0 0 0), some (xR 20 0 0), some (xR 26 0 0), some (xI i), x5, x6, x7, x8] [] M
  refine xl_st hC c0 s0 (xs_aload_n (i := 1) dL_law_516 rfl) ?_
  show XWW p l e room_1 s m #[Value.ref b] below meth c cells slots (lw_Z below #[Value.ref b] s) D G ρ 9 517 [some (xR 40 0 0), some (xR 0 0 0), some (xR 20 0 0), some (xR 26 0 0), some (xI i), x5, x6, x7, x8] [xR 0 0 0] M
  refine xl_st hC c0 s0 (xs_aload_n (i := 0) dL_law_517 rfl) ?_
  show XWW p l e room_1 s m #[Value.ref b] below meth c cells slots (lw_Z below #[Value.ref b] s) D G ρ 9 518 [some (xR 40 0 0), some (xR 0 0 0), some (xR 20 0 0), some (xR 26 0 0), some (xI i), x5, x6, x7, x8] [xR 40 0 0, xR 0 0 0] M
  refine xl_st hC c0 s0 (xs_iload dL_law_518) ?_
  show XWW p l e room_1 s m #[Value.ref b] below meth c cells slots (lw_Z below #[Value.ref b] s) D G ρ 9 520 [some (xR 40 0 0), some (xR 0 0 0), some (xR 20 0 0), some (xR 26 0 0), some (xI i), x5, x6, x7, x8] [xI i, xR 40 0 0, xR 0 0 0] M
  refine xl_st hC c0 s0 (xs_iconst dL_law_520) ?_
  show XWW p l e room_1 s m #[Value.ref b] below meth c cells slots (lw_Z below #[Value.ref b] s) D G ρ 9 521 [some (xR 40 0 0), some (xR 0 0 0), some (xR 20 0 0), some (xR 26 0 0), some (xI i), x5, x6, x7, x8] [xI 1, xI i, xR 40 0 0, xR 0 0 0] M
  refine xl_st hC c0 s0 (xs_iadd dL_law_521) ?_
  show XWW p l e room_1 s m #[Value.ref b] below meth c cells slots (lw_Z below #[Value.ref b] s) D G ρ 9 522 [some (xR 40 0 0), some (xR 0 0 0), some (xR 20 0 0), some (xR 26 0 0), some (xI i), x5, x6, x7, x8] [xI (i + 1), xR 40 0 0, xR 0 0 0] M
  refine xl_sld hC hX (by omega) (by omega) dL_law_522 ?_
  show XWW p l e room_1 s m #[Value.ref b] below meth c cells slots (lw_Z below #[Value.ref b] s) D G ρ 9 523 [some (xR 40 0 0), some (xR 0 0 0), some (xR 20 0 0), some (xR 26 0 0), some (xI i), x5, x6, x7, x8] [xI (SLx xs (i + 1)), xR 0 0 0] M
  refine xl_st hC c0 s0 (xs_aload_n (i := 0) dL_law_523 rfl) ?_
  show XWW p l e room_1 s m #[Value.ref b] below meth c cells slots (lw_Z below #[Value.ref b] s) D G ρ 9 524 [some (xR 40 0 0), some (xR 0 0 0), some (xR 20 0 0), some (xR 26 0 0), some (xI i), x5, x6, x7, x8] [xR 40 0 0, xI (SLx xs (i + 1)), xR 0 0 0] M
  refine xl_st hC c0 s0 (xs_iload dL_law_524) ?_
  show XWW p l e room_1 s m #[Value.ref b] below meth c cells slots (lw_Z below #[Value.ref b] s) D G ρ 9 526 [some (xR 40 0 0), some (xR 0 0 0), some (xR 20 0 0), some (xR 26 0 0), some (xI i), x5, x6, x7, x8] [xI i, xR 40 0 0, xI (SLx xs (i + 1)), xR 0 0 0] M
  refine xl_st hC c0 s0 (xs_iconst dL_law_526) ?_
  show XWW p l e room_1 s m #[Value.ref b] below meth c cells slots (lw_Z below #[Value.ref b] s) D G ρ 9 527 [some (xR 40 0 0), some (xR 0 0 0), some (xR 20 0 0), some (xR 26 0 0), some (xI i), x5, x6, x7, x8] [xI 2, xI i, xR 40 0 0, xI (SLx xs (i + 1)), xR 0 0 0] M
  refine xl_st hC c0 s0 (xs_iadd dL_law_527) ?_
  show XWW p l e room_1 s m #[Value.ref b] below meth c cells slots (lw_Z below #[Value.ref b] s) D G ρ 9 528 [some (xR 40 0 0), some (xR 0 0 0), some (xR 20 0 0), some (xR 26 0 0), some (xI i), x5, x6, x7, x8] [xI (i + 2), xR 40 0 0, xI (SLx xs (i + 1)), xR 0 0 0] M
  refine xl_sld hC hX (by omega) (by omega) dL_law_528 ?_
  show XWW p l e room_1 s m #[Value.ref b] below meth c cells slots (lw_Z below #[Value.ref b] s) D G ρ 9 529 [some (xR 40 0 0), some (xR 0 0 0), some (xR 20 0 0), some (xR 26 0 0), some (xI i), x5, x6, x7, x8] [xI (SLx xs (i + 2)), xI (SLx xs (i + 1)), xR 0 0 0] M
  refine xl_st hC c0 s0 (xs_aload_n (i := 0) dL_law_529 rfl) ?_
  show XWW p l e room_1 s m #[Value.ref b] below meth c cells slots (lw_Z below #[Value.ref b] s) D G ρ 9 530 [some (xR 40 0 0), some (xR 0 0 0), some (xR 20 0 0), some (xR 26 0 0), some (xI i), x5, x6, x7, x8] [xR 40 0 0, xI (SLx xs (i + 2)), xI (SLx xs (i + 1)), xR 0 0 0] M
  refine xl_st hC c0 s0 (xs_iload dL_law_530) ?_
  show XWW p l e room_1 s m #[Value.ref b] below meth c cells slots (lw_Z below #[Value.ref b] s) D G ρ 9 532 [some (xR 40 0 0), some (xR 0 0 0), some (xR 20 0 0), some (xR 26 0 0), some (xI i), x5, x6, x7, x8] [xI i, xR 40 0 0, xI (SLx xs (i + 2)), xI (SLx xs (i + 1)), xR 0 0 0] M
  refine xl_st hC c0 s0 (xs_iconst dL_law_532) ?_
  show XWW p l e room_1 s m #[Value.ref b] below meth c cells slots (lw_Z below #[Value.ref b] s) D G ρ 9 533 [some (xR 40 0 0), some (xR 0 0 0), some (xR 20 0 0), some (xR 26 0 0), some (xI i), x5, x6, x7, x8] [xI 3, xI i, xR 40 0 0, xI (SLx xs (i + 2)), xI (SLx xs (i + 1)), xR 0 0 0] M
  refine xl_st hC c0 s0 (xs_iadd dL_law_533) ?_
  show XWW p l e room_1 s m #[Value.ref b] below meth c cells slots (lw_Z below #[Value.ref b] s) D G ρ 9 534 [some (xR 40 0 0), some (xR 0 0 0), some (xR 20 0 0), some (xR 26 0 0), some (xI i), x5, x6, x7, x8] [xI (i + 3), xR 40 0 0, xI (SLx xs (i + 2)), xI (SLx xs (i + 1)), xR 0 0 0] M
  refine xl_sld hC hX (by omega) (by omega) dL_law_534 ?_
  show XWW p l e room_1 s m #[Value.ref b] below meth c cells slots (lw_Z below #[Value.ref b] s) D G ρ 9 535 [some (xR 40 0 0), some (xR 0 0 0), some (xR 20 0 0), some (xR 26 0 0), some (xI i), x5, x6, x7, x8] [xI (SLx xs (i + 3)), xI (SLx xs (i + 2)), xI (SLx xs (i + 1)), xR 0 0 0] M
  refine xl_st hC c0 s0 (xs_aload_n (i := 3) dL_law_535 rfl) ?_
  show XWW p l e room_1 s m #[Value.ref b] below meth c cells slots (lw_Z below #[Value.ref b] s) D G ρ 9 536 [some (xR 40 0 0), some (xR 0 0 0), some (xR 20 0 0), some (xR 26 0 0), some (xI i), x5, x6, x7, x8] [xR 26 0 0, xI (SLx xs (i + 3)), xI (SLx xs (i + 2)), xI (SLx xs (i + 1)), xR 0 0 0] M
  refine xl_call (n := 5) (As := [xR 0 0 0, xI (SLx xs (i + 1)), xI (SLx xs (i + 2)), xI (SLx xs (i + 3)), xR 26 0 0]) (st := []) kL_cook ⟨⟨rfl, rfl, by decide, by decide⟩, ⟨by decide, by decide, by decide +kernel⟩, tw_836, tw_837, tw_0, twL_cook⟩ dL_law_536 hC hl hE hc hs rfl (by decide) ⟨(SLx xs (i + 1)), (SLx xs (i + 2)), (SLx xs (i + 3)), rfl, lc_cook hZ h (SL_in _ _) (SL_in _ _) (SL_in _ _)⟩ (fun rv N1 hq => ?_)
  obtain ⟨k, rfl, ⟨k0, k3⟩, href⟩ := hq
  show XWW p l e room_1 s m #[Value.ref b] below meth c (cells + 1) (slots + 6) (lw_Z below #[Value.ref b] s) D G ρ 9 539 [some (xR 40 0 0), some (xR 0 0 0), some (xR 20 0 0), some (xR 26 0 0), some (xI i), x5, x6, x7, x8] [xI k] N1
  refine xl_st hC hc hs (xs_istore dL_law_539 (by decide)) ?_
  show XWW p l e room_1 s m #[Value.ref b] below meth c (cells + 1) (slots + 6) (lw_Z below #[Value.ref b] s) D G ρ 9 541 [some (xR 40 0 0), some (xR 0 0 0), some (xR 20 0 0), some (xR 26 0 0), some (xI i), some (xI k), x6, x7, x8] [] N1
  refine xl_st hC hc hs (xs_aload_n (i := 2) dL_law_541 rfl) ?_
  show XWW p l e room_1 s m #[Value.ref b] below meth c (cells + 1) (slots + 6) (lw_Z below #[Value.ref b] s) D G ρ 9 542 [some (xR 40 0 0), some (xR 0 0 0), some (xR 20 0 0), some (xR 26 0 0), some (xI i), some (xI k), x6, x7, x8] [xR 20 0 0] N1
  refine xl_st hC hc hs (xs_aload_n (i := 0) dL_law_542 rfl) ?_
  show XWW p l e room_1 s m #[Value.ref b] below meth c (cells + 1) (slots + 6) (lw_Z below #[Value.ref b] s) D G ρ 9 543 [some (xR 40 0 0), some (xR 0 0 0), some (xR 20 0 0), some (xR 26 0 0), some (xI i), some (xI k), x6, x7, x8] [xR 40 0 0, xR 20 0 0] N1
  refine xl_st hC hc hs (xs_iload dL_law_543) ?_
  show XWW p l e room_1 s m #[Value.ref b] below meth c (cells + 1) (slots + 6) (lw_Z below #[Value.ref b] s) D G ρ 9 545 [some (xR 40 0 0), some (xR 0 0 0), some (xR 20 0 0), some (xR 26 0 0), some (xI i), some (xI k), x6, x7, x8] [xI i, xR 40 0 0, xR 20 0 0] N1
  refine xl_st hC hc hs (xs_iconst dL_law_545) ?_
  show XWW p l e room_1 s m #[Value.ref b] below meth c (cells + 1) (slots + 6) (lw_Z below #[Value.ref b] s) D G ρ 9 546 [some (xR 40 0 0), some (xR 0 0 0), some (xR 20 0 0), some (xR 26 0 0), some (xI i), some (xI k), x6, x7, x8] [xI 1, xI i, xR 40 0 0, xR 20 0 0] N1
  refine xl_st hC hc hs (xs_iadd dL_law_546) ?_
  show XWW p l e room_1 s m #[Value.ref b] below meth c (cells + 1) (slots + 6) (lw_Z below #[Value.ref b] s) D G ρ 9 547 [some (xR 40 0 0), some (xR 0 0 0), some (xR 20 0 0), some (xR 26 0 0), some (xI i), some (xI k), x6, x7, x8] [xI (i + 1), xR 40 0 0, xR 20 0 0] N1
  refine xl_sld hC hX (by omega) (by omega) dL_law_547 ?_
  show XWW p l e room_1 s m #[Value.ref b] below meth c (cells + 1) (slots + 6) (lw_Z below #[Value.ref b] s) D G ρ 9 548 [some (xR 40 0 0), some (xR 0 0 0), some (xR 20 0 0), some (xR 26 0 0), some (xI i), some (xI k), x6, x7, x8] [xI (SLx xs (i + 1)), xR 20 0 0] N1
  refine xl_st hC hc hs (xs_aload_n (i := 0) dL_law_548 rfl) ?_
  show XWW p l e room_1 s m #[Value.ref b] below meth c (cells + 1) (slots + 6) (lw_Z below #[Value.ref b] s) D G ρ 9 549 [some (xR 40 0 0), some (xR 0 0 0), some (xR 20 0 0), some (xR 26 0 0), some (xI i), some (xI k), x6, x7, x8] [xR 40 0 0, xI (SLx xs (i + 1)), xR 20 0 0] N1
  refine xl_st hC hc hs (xs_iload dL_law_549) ?_
  show XWW p l e room_1 s m #[Value.ref b] below meth c (cells + 1) (slots + 6) (lw_Z below #[Value.ref b] s) D G ρ 9 551 [some (xR 40 0 0), some (xR 0 0 0), some (xR 20 0 0), some (xR 26 0 0), some (xI i), some (xI k), x6, x7, x8] [xI i, xR 40 0 0, xI (SLx xs (i + 1)), xR 20 0 0] N1
  refine xl_st hC hc hs (xs_iconst dL_law_551) ?_
  show XWW p l e room_1 s m #[Value.ref b] below meth c (cells + 1) (slots + 6) (lw_Z below #[Value.ref b] s) D G ρ 9 552 [some (xR 40 0 0), some (xR 0 0 0), some (xR 20 0 0), some (xR 26 0 0), some (xI i), some (xI k), x6, x7, x8] [xI 2, xI i, xR 40 0 0, xI (SLx xs (i + 1)), xR 20 0 0] N1
  refine xl_st hC hc hs (xs_iadd dL_law_552) ?_
  show XWW p l e room_1 s m #[Value.ref b] below meth c (cells + 1) (slots + 6) (lw_Z below #[Value.ref b] s) D G ρ 9 553 [some (xR 40 0 0), some (xR 0 0 0), some (xR 20 0 0), some (xR 26 0 0), some (xI i), some (xI k), x6, x7, x8] [xI (i + 2), xR 40 0 0, xI (SLx xs (i + 1)), xR 20 0 0] N1
  refine xl_sld hC hX (by omega) (by omega) dL_law_553 ?_
  show XWW p l e room_1 s m #[Value.ref b] below meth c (cells + 1) (slots + 6) (lw_Z below #[Value.ref b] s) D G ρ 9 554 [some (xR 40 0 0), some (xR 0 0 0), some (xR 20 0 0), some (xR 26 0 0), some (xI i), some (xI k), x6, x7, x8] [xI (SLx xs (i + 2)), xI (SLx xs (i + 1)), xR 20 0 0] N1
  refine xl_st hC hc hs (xs_aload_n (i := 0) dL_law_554 rfl) ?_
  show XWW p l e room_1 s m #[Value.ref b] below meth c (cells + 1) (slots + 6) (lw_Z below #[Value.ref b] s) D G ρ 9 555 [some (xR 40 0 0), some (xR 0 0 0), some (xR 20 0 0), some (xR 26 0 0), some (xI i), some (xI k), x6, x7, x8] [xR 40 0 0, xI (SLx xs (i + 2)), xI (SLx xs (i + 1)), xR 20 0 0] N1
  refine xl_st hC hc hs (xs_iload dL_law_555) ?_
  show XWW p l e room_1 s m #[Value.ref b] below meth c (cells + 1) (slots + 6) (lw_Z below #[Value.ref b] s) D G ρ 9 557 [some (xR 40 0 0), some (xR 0 0 0), some (xR 20 0 0), some (xR 26 0 0), some (xI i), some (xI k), x6, x7, x8] [xI i, xR 40 0 0, xI (SLx xs (i + 2)), xI (SLx xs (i + 1)), xR 20 0 0] N1
  refine xl_st hC hc hs (xs_iconst dL_law_557) ?_
  show XWW p l e room_1 s m #[Value.ref b] below meth c (cells + 1) (slots + 6) (lw_Z below #[Value.ref b] s) D G ρ 9 558 [some (xR 40 0 0), some (xR 0 0 0), some (xR 20 0 0), some (xR 26 0 0), some (xI i), some (xI k), x6, x7, x8] [xI 3, xI i, xR 40 0 0, xI (SLx xs (i + 2)), xI (SLx xs (i + 1)), xR 20 0 0] N1
  refine xl_st hC hc hs (xs_iadd dL_law_558) ?_
  show XWW p l e room_1 s m #[Value.ref b] below meth c (cells + 1) (slots + 6) (lw_Z below #[Value.ref b] s) D G ρ 9 559 [some (xR 40 0 0), some (xR 0 0 0), some (xR 20 0 0), some (xR 26 0 0), some (xI i), some (xI k), x6, x7, x8] [xI (i + 3), xR 40 0 0, xI (SLx xs (i + 2)), xI (SLx xs (i + 1)), xR 20 0 0] N1
  refine xl_sld hC hX (by omega) (by omega) dL_law_559 ?_
  show XWW p l e room_1 s m #[Value.ref b] below meth c (cells + 1) (slots + 6) (lw_Z below #[Value.ref b] s) D G ρ 9 560 [some (xR 40 0 0), some (xR 0 0 0), some (xR 20 0 0), some (xR 26 0 0), some (xI i), some (xI k), x6, x7, x8] [xI (SLx xs (i + 3)), xI (SLx xs (i + 2)), xI (SLx xs (i + 1)), xR 20 0 0] N1
  refine xl_st hC hc hs (xs_V3 kX8_cook ⟨⟨rfl, rfl, by decide, by decide⟩, ⟨by decide, by decide, by decide +kernel⟩, ⟨tw_1139, tw_1140, tw_1141, tw_9, tw_1142⟩, 8, TX8, _, rfl, fun G ρ f i k => ⟨_, rfl⟩⟩ dL_law_560) ⟨⟨rfl, xvz_20, by decide⟩, href⟩
set_option maxRecDepth 100000 in
theorem cs_load {p : Program} {l : Launch} {e : Env} {s : State} {m : MethodId} {below : List Frame} {meth : Method} {c : Code} {D : va_G} {G : Nat → ClassId} {ρ : XOb → Nat} {b Ln : Nat} {xs : Nat → Int32} {cells slots : Nat} (hC : XCX p room_1 s m #[Value.ref b] c 0 0 D G ρ cL_law 9 RL (Cond.initialized RL :: xT)) (hl : l.stackTraces = false) (hE : (XEw s ∧ XEs s ∧ XEz (XA ρ s.heap.size) s s.heap) ∧ XEc s) (hX : XSc s ρ b Ln xs) (hc : cells + 1 ≤ 601024) (hs : slots + 6 ≤ 7293034) {i : Int} (h0 : 0 ≤ i) (h6 : i + 6 ≤ Ln) {M : XM} (h : RR M) {x5 x6 x7 x8 : Option XV} (next : ∀ (y5 y6 y7 y8 : Option XV) (N : XM), RR N → XWW p l e room_1 s m #[Value.ref b] below meth c (cells + 1) (slots + 6) (lw_Z below #[Value.ref b] s) D G ρ 9 2181 [some (xR 40 0 0), some (xR 0 0 0), some (xR 20 0 0), some (xR 26 0 0), some (xI i), y5, y6, y7, y8] [] N) : XWW p l e room_1 s m #[Value.ref b] below meth c cells slots (lw_Z below #[Value.ref b] s) D G ρ 9 596 [some (xR 40 0 0), some (xR 0 0 0), some (xR 20 0 0), some (xR 26 0 0), some (xI i), x5, x6, x7, x8] [] M := by
  have c0 : cells ≤ room_1.cells := Nat.le_trans (Nat.le_succ _) hc
  have s0 : slots ≤ room_1.slots := Nat.le_trans (Nat.le_add_right _ 6) hs
  have hZ : ∀ (k : Int) (rv : List XV) (N : XM), 0 ≤ k → k ≤ 3 → LE k rv N → (fun (k : Int) (rv : List XV) (N : XM) => XWW p l e room_1 s m #[Value.ref b] below meth c (cells + 1) (slots + 6) (lw_Z below #[Value.ref b] s) D G ρ 9 655 [some (xR 40 0 0), some (xR 0 0 0), some (xR 20 0 0), some (xR 26 0 0), some (xI i), some (xI k), x6, x7, x8] (rv ++ []) N) k rv N := by
    intro k rv N k0 k3 hLE
    obtain ⟨v, rfl, hR, h5, h26⟩ := hLE
    show XWW p l e room_1 s m #[Value.ref b] below meth c (cells + 1) (slots + 6) (lw_Z below #[Value.ref b] s) D G ρ 9 655 [some (xR 40 0 0), some (xR 0 0 0), some (xR 20 0 0), some (xR 26 0 0), some (xI i), some (xI k), x6, x7, x8] [xI v] N
    refine xl_st hC hc hs (xs_istore dL_law_655 (by decide)) ?_
    show XWW p l e room_1 s m #[Value.ref b] below meth c (cells + 1) (slots + 6) (lw_Z below #[Value.ref b] s) D G ρ 9 657 [some (xR 40 0 0), some (xR 0 0 0), some (xR 20 0 0), some (xR 26 0 0), some (xI i), some (xI k), some (xI v), x7, x8] [] N
    refine xl_st hC hc hs (xs_aload_n (i := 2) dL_law_657 rfl) ?_
    show XWW p l e room_1 s m #[Value.ref b] below meth c (cells + 1) (slots + 6) (lw_Z below #[Value.ref b] s) D G ρ 9 658 [some (xR 40 0 0), some (xR 0 0 0), some (xR 20 0 0), some (xR 26 0 0), some (xI i), some (xI k), some (xI v), x7, x8] [xR 20 0 0] N
    refine xl_st hC hc hs (xs_V0 kX8_thrown ⟨⟨rfl, rfl, by decide, by decide⟩, ⟨by decide, by decide, by decide +kernel⟩, ⟨tw_1091, tw_1092, tw_1093, tw_9, tw_1094⟩, 8, TX8, _, rfl, fun G ρ f i k => ⟨_, rfl⟩⟩ dL_law_658) ⟨⟨rfl, xvz_20, by decide⟩, ⟨rfl, xvz_20⟩, ?_⟩
    show XWW p l e room_1 s m #[Value.ref b] below meth c (cells + 1) (slots + 6) (lw_Z below #[Value.ref b] s) D G ρ 9 661 [some (xR 40 0 0), some (xR 0 0 0), some (xR 20 0 0), some (xR 26 0 0), some (xI i), some (xI k), some (xI v), x7, x8] [xI (N 20 0 0 5)] N
    refine xl_st hC hc hs (xs_iload dL_law_661) ?_
    show XWW p l e room_1 s m #[Value.ref b] below meth c (cells + 1) (slots + 6) (lw_Z below #[Value.ref b] s) D G ρ 9 663 [some (xR 40 0 0), some (xR 0 0 0), some (xR 20 0 0), some (xR 26 0 0), some (xI i), some (xI k), some (xI v), x7, x8] [xI k, xI (N 20 0 0 5)] N
    refine xl_st hC hc hs (xs_icmp_eq (t := 668) dL_law_663 (by decide)) ⟨⟨by rw [h5]; exact ⟨by omega, by omega⟩, ⟨by omega, by omega⟩⟩, fun _ => ?_, fun q => absurd h5 q⟩
    show XWW p l e room_1 s m #[Value.ref b] below meth c (cells + 1) (slots + 6) (lw_Z below #[Value.ref b] s) D G ρ 9 668 [some (xR 40 0 0), some (xR 0 0 0), some (xR 20 0 0), some (xR 26 0 0), some (xI i), some (xI k), some (xI v), x7, x8] [] N
    refine xl_st hC hc hs (xs_iload dL_law_668) ?_
    show XWW p l e room_1 s m #[Value.ref b] below meth c (cells + 1) (slots + 6) (lw_Z below #[Value.ref b] s) D G ρ 9 670 [some (xR 40 0 0), some (xR 0 0 0), some (xR 20 0 0), some (xR 26 0 0), some (xI i), some (xI k), some (xI v), x7, x8] [xI k] N
    refine xl_st hC hc hs (xs_if_ne (t := 685) dL_law_670 (by decide)) ⟨⟨by omega, by omega⟩, fun _ => ?_, fun q => ?_⟩
    · show XWW p l e room_1 s m #[Value.ref b] below meth c (cells + 1) (slots + 6) (lw_Z below #[Value.ref b] s) D G ρ 9 685 [some (xR 40 0 0), some (xR 0 0 0), some (xR 20 0 0), some (xR 26 0 0), some (xI i), some (xI k), some (xI v), x7, x8] [] N
      refine xl_st hC hc hs (xs_goto (t := 2181) dL_law_685 (by decide)) ?_
      show XWW p l e room_1 s m #[Value.ref b] below meth c (cells + 1) (slots + 6) (lw_Z below #[Value.ref b] s) D G ρ 9 2181 [some (xR 40 0 0), some (xR 0 0 0), some (xR 20 0 0), some (xR 26 0 0), some (xI i), some (xI k), some (xI v), x7, x8] [] N
      exact next _ _ _ _ N hR
    · show XWW p l e room_1 s m #[Value.ref b] below meth c (cells + 1) (slots + 6) (lw_Z below #[Value.ref b] s) D G ρ 9 673 [some (xR 40 0 0), some (xR 0 0 0), some (xR 20 0 0), some (xR 26 0 0), some (xI i), some (xI k), some (xI v), x7, x8] [] N
      refine xl_st hC hc hs (xs_aload_n (i := 3) dL_law_673 rfl) ?_
      show XWW p l e room_1 s m #[Value.ref b] below meth c (cells + 1) (slots + 6) (lw_Z below #[Value.ref b] s) D G ρ 9 674 [some (xR 40 0 0), some (xR 0 0 0), some (xR 20 0 0), some (xR 26 0 0), some (xI i), some (xI k), some (xI v), x7, x8] [xR 26 0 0] N
      refine xl_st hC hc hs (xs_iconst dL_law_674) ?_
      show XWW p l e room_1 s m #[Value.ref b] below meth c (cells + 1) (slots + 6) (lw_Z below #[Value.ref b] s) D G ρ 9 675 [some (xR 40 0 0), some (xR 0 0 0), some (xR 20 0 0), some (xR 26 0 0), some (xI i), some (xI k), some (xI v), x7, x8] [xI 0, xR 26 0 0] N
      refine xl_st hC hc hs (xs_lald dL_law_675) ⟨⟨rfl, rfl, rfl, rfl⟩, ?_⟩
      show XWW p l e room_1 s m #[Value.ref b] below meth c (cells + 1) (slots + 6) (lw_Z below #[Value.ref b] s) D G ρ 9 676 [some (xR 40 0 0), some (xR 0 0 0), some (xR 20 0 0), some (xR 26 0 0), some (xI i), some (xI k), some (xI v), x7, x8] [xJ (N 26 0 0 0)] N
      refine xl_st hC hc hs (xs_iload dL_law_676) ?_
      show XWW p l e room_1 s m #[Value.ref b] below meth c (cells + 1) (slots + 6) (lw_Z below #[Value.ref b] s) D G ρ 9 678 [some (xR 40 0 0), some (xR 0 0 0), some (xR 20 0 0), some (xR 26 0 0), some (xI i), some (xI k), some (xI v), x7, x8] [xI v, xJ (N 26 0 0 0)] N
      refine xl_st hC hc hs (xs_i2lw dL_law_678) ?_
      show XWW p l e room_1 s m #[Value.ref b] below meth c (cells + 1) (slots + 6) (lw_Z below #[Value.ref b] s) D G ρ 9 679 [some (xR 40 0 0), some (xR 0 0 0), some (xR 20 0 0), some (xR 26 0 0), some (xI i), some (xI k), some (xI v), x7, x8] [xJ (w32 v), xJ (N 26 0 0 0)] N
      refine xl_st hC hc hs (xs_lcmp dL_law_679) ⟨h26 q, ?_⟩
      show XWW p l e room_1 s m #[Value.ref b] below meth c (cells + 1) (slots + 6) (lw_Z below #[Value.ref b] s) D G ρ 9 680 [some (xR 40 0 0), some (xR 0 0 0), some (xR 20 0 0), some (xR 26 0 0), some (xI i), some (xI k), some (xI v), x7, x8] [xI 0] N
      refine xl_st hC hc hs (xs_if_eq (t := 685) dL_law_680 (by decide)) ⟨x_r0, fun _ => ?_, fun q => absurd rfl q⟩
      show XWW p l e room_1 s m #[Value.ref b] below meth c (cells + 1) (slots + 6) (lw_Z below #[Value.ref b] s) D G ρ 9 685 [some (xR 40 0 0), some (xR 0 0 0), some (xR 20 0 0), some (xR 26 0 0), some (xI i), some (xI k), some (xI v), x7, x8] [] N
      refine xl_st hC hc hs (xs_goto (t := 2181) dL_law_685 (by decide)) ?_
      show XWW p l e room_1 s m #[Value.ref b] below meth c (cells + 1) (slots + 6) (lw_Z below #[Value.ref b] s) D G ρ 9 2181 [some (xR 40 0 0), some (xR 0 0 0), some (xR 20 0 0), some (xR 26 0 0), some (xI i), some (xI k), some (xI v), x7, x8] [] N
      exact next _ _ _ _ N hR
  show XWW p l e room_1 s m #[Value.ref b] below meth c cells slots (lw_Z below #[Value.ref b] s) D G ρ 9 596 [some (xR 40 0 0), some (xR 0 0 0), some (xR 20 0 0), some (xR 26 0 0), some (xI i), x5, x6, x7, x8] [] M
  refine xl_st hC c0 s0 (xs_aload_n (i := 1) dL_law_596 rfl) ?_
  show XWW p l e room_1 s m #[Value.ref b] below meth c cells slots (lw_Z below #[Value.ref b] s) D G ρ 9 597 [some (xR 40 0 0), some (xR 0 0 0), some (xR 20 0 0), some (xR 26 0 0), some (xI i), x5, x6, x7, x8] [xR 0 0 0] M
  refine xl_st hC c0 s0 (xs_aload_n (i := 0) dL_law_597 rfl) ?_
  show XWW p l e room_1 s m #[Value.ref b] below meth c cells slots (lw_Z below #[Value.ref b] s) D G ρ 9 598 [some (xR 40 0 0), some (xR 0 0 0), some (xR 20 0 0), some (xR 26 0 0), some (xI i), x5, x6, x7, x8] [xR 40 0 0, xR 0 0 0] M
  refine xl_st hC c0 s0 (xs_iload dL_law_598) ?_
  show XWW p l e room_1 s m #[Value.ref b] below meth c cells slots (lw_Z below #[Value.ref b] s) D G ρ 9 600 [some (xR 40 0 0), some (xR 0 0 0), some (xR 20 0 0), some (xR 26 0 0), some (xI i), x5, x6, x7, x8] [xI i, xR 40 0 0, xR 0 0 0] M
  refine xl_st hC c0 s0 (xs_iconst dL_law_600) ?_
  show XWW p l e room_1 s m #[Value.ref b] below meth c cells slots (lw_Z below #[Value.ref b] s) D G ρ 9 601 [some (xR 40 0 0), some (xR 0 0 0), some (xR 20 0 0), some (xR 26 0 0), some (xI i), x5, x6, x7, x8] [xI 1, xI i, xR 40 0 0, xR 0 0 0] M
  refine xl_st hC c0 s0 (xs_iadd dL_law_601) ?_
  show XWW p l e room_1 s m #[Value.ref b] below meth c cells slots (lw_Z below #[Value.ref b] s) D G ρ 9 602 [some (xR 40 0 0), some (xR 0 0 0), some (xR 20 0 0), some (xR 26 0 0), some (xI i), x5, x6, x7, x8] [xI (i + 1), xR 40 0 0, xR 0 0 0] M
  refine xl_sld hC hX (by omega) (by omega) dL_law_602 ?_
  show XWW p l e room_1 s m #[Value.ref b] below meth c cells slots (lw_Z below #[Value.ref b] s) D G ρ 9 603 [some (xR 40 0 0), some (xR 0 0 0), some (xR 20 0 0), some (xR 26 0 0), some (xI i), x5, x6, x7, x8] [xI (SLx xs (i + 1)), xR 0 0 0] M
  refine xl_st hC c0 s0 (xs_aload_n (i := 0) dL_law_603 rfl) ?_
  show XWW p l e room_1 s m #[Value.ref b] below meth c cells slots (lw_Z below #[Value.ref b] s) D G ρ 9 604 [some (xR 40 0 0), some (xR 0 0 0), some (xR 20 0 0), some (xR 26 0 0), some (xI i), x5, x6, x7, x8] [xR 40 0 0, xI (SLx xs (i + 1)), xR 0 0 0] M
  refine xl_st hC c0 s0 (xs_iload dL_law_604) ?_
  show XWW p l e room_1 s m #[Value.ref b] below meth c cells slots (lw_Z below #[Value.ref b] s) D G ρ 9 606 [some (xR 40 0 0), some (xR 0 0 0), some (xR 20 0 0), some (xR 26 0 0), some (xI i), x5, x6, x7, x8] [xI i, xR 40 0 0, xI (SLx xs (i + 1)), xR 0 0 0] M
  refine xl_st hC c0 s0 (xs_iconst dL_law_606) ?_
  show XWW p l e room_1 s m #[Value.ref b] below meth c cells slots (lw_Z below #[Value.ref b] s) D G ρ 9 607 [some (xR 40 0 0), some (xR 0 0 0), some (xR 20 0 0), some (xR 26 0 0), some (xI i), x5, x6, x7, x8] [xI 2, xI i, xR 40 0 0, xI (SLx xs (i + 1)), xR 0 0 0] M
  refine xl_st hC c0 s0 (xs_iadd dL_law_607) ?_
  show XWW p l e room_1 s m #[Value.ref b] below meth c cells slots (lw_Z below #[Value.ref b] s) D G ρ 9 608 [some (xR 40 0 0), some (xR 0 0 0), some (xR 20 0 0), some (xR 26 0 0), some (xI i), x5, x6, x7, x8] [xI (i + 2), xR 40 0 0, xI (SLx xs (i + 1)), xR 0 0 0] M
  refine xl_sld hC hX (by omega) (by omega) dL_law_608 ?_
  show XWW p l e room_1 s m #[Value.ref b] below meth c cells slots (lw_Z below #[Value.ref b] s) D G ρ 9 609 [some (xR 40 0 0), some (xR 0 0 0), some (xR 20 0 0), some (xR 26 0 0), some (xI i), x5, x6, x7, x8] [xI (SLx xs (i + 2)), xI (SLx xs (i + 1)), xR 0 0 0] M
  refine xl_st hC c0 s0 (xs_aload_n (i := 0) dL_law_609 rfl) ?_
  show XWW p l e room_1 s m #[Value.ref b] below meth c cells slots (lw_Z below #[Value.ref b] s) D G ρ 9 610 [some (xR 40 0 0), some (xR 0 0 0), some (xR 20 0 0), some (xR 26 0 0), some (xI i), x5, x6, x7, x8] [xR 40 0 0, xI (SLx xs (i + 2)), xI (SLx xs (i + 1)), xR 0 0 0] M
  refine xl_st hC c0 s0 (xs_iload dL_law_610) ?_
  show XWW p l e room_1 s m #[Value.ref b] below meth c cells slots (lw_Z below #[Value.ref b] s) D G ρ 9 612 [some (xR 40 0 0), some (xR 0 0 0), some (xR 20 0 0), some (xR 26 0 0), some (xI i), x5, x6, x7, x8] [xI i, xR 40 0 0, xI (SLx xs (i + 2)), xI (SLx xs (i + 1)), xR 0 0 0] M
  refine xl_st hC c0 s0 (xs_iconst dL_law_612) ?_
  show XWW p l e room_1 s m #[Value.ref b] below meth c cells slots (lw_Z below #[Value.ref b] s) D G ρ 9 613 [some (xR 40 0 0), some (xR 0 0 0), some (xR 20 0 0), some (xR 26 0 0), some (xI i), x5, x6, x7, x8] [xI 3, xI i, xR 40 0 0, xI (SLx xs (i + 2)), xI (SLx xs (i + 1)), xR 0 0 0] M
  refine xl_st hC c0 s0 (xs_iadd dL_law_613) ?_
  show XWW p l e room_1 s m #[Value.ref b] below meth c cells slots (lw_Z below #[Value.ref b] s) D G ρ 9 614 [some (xR 40 0 0), some (xR 0 0 0), some (xR 20 0 0), some (xR 26 0 0), some (xI i), x5, x6, x7, x8] [xI (i + 3), xR 40 0 0, xI (SLx xs (i + 2)), xI (SLx xs (i + 1)), xR 0 0 0] M
  refine xl_sld hC hX (by omega) (by omega) dL_law_614 ?_
  show XWW p l e room_1 s m #[Value.ref b] below meth c cells slots (lw_Z below #[Value.ref b] s) D G ρ 9 615 [some (xR 40 0 0), some (xR 0 0 0), some (xR 20 0 0), some (xR 26 0 0), some (xI i), x5, x6, x7, x8] [xI (SLx xs (i + 3)), xI (SLx xs (i + 2)), xI (SLx xs (i + 1)), xR 0 0 0] M
  refine xl_st hC c0 s0 (xs_aload_n (i := 0) dL_law_615 rfl) ?_
  show XWW p l e room_1 s m #[Value.ref b] below meth c cells slots (lw_Z below #[Value.ref b] s) D G ρ 9 616 [some (xR 40 0 0), some (xR 0 0 0), some (xR 20 0 0), some (xR 26 0 0), some (xI i), x5, x6, x7, x8] [xR 40 0 0, xI (SLx xs (i + 3)), xI (SLx xs (i + 2)), xI (SLx xs (i + 1)), xR 0 0 0] M
  refine xl_st hC c0 s0 (xs_iload dL_law_616) ?_
  show XWW p l e room_1 s m #[Value.ref b] below meth c cells slots (lw_Z below #[Value.ref b] s) D G ρ 9 618 [some (xR 40 0 0), some (xR 0 0 0), some (xR 20 0 0), some (xR 26 0 0), some (xI i), x5, x6, x7, x8] [xI i, xR 40 0 0, xI (SLx xs (i + 3)), xI (SLx xs (i + 2)), xI (SLx xs (i + 1)), xR 0 0 0] M
  refine xl_st hC c0 s0 (xs_iconst dL_law_618) ?_
  show XWW p l e room_1 s m #[Value.ref b] below meth c cells slots (lw_Z below #[Value.ref b] s) D G ρ 9 619 [some (xR 40 0 0), some (xR 0 0 0), some (xR 20 0 0), some (xR 26 0 0), some (xI i), x5, x6, x7, x8] [xI 4, xI i, xR 40 0 0, xI (SLx xs (i + 3)), xI (SLx xs (i + 2)), xI (SLx xs (i + 1)), xR 0 0 0] M
  refine xl_st hC c0 s0 (xs_iadd dL_law_619) ?_
  show XWW p l e room_1 s m #[Value.ref b] below meth c cells slots (lw_Z below #[Value.ref b] s) D G ρ 9 620 [some (xR 40 0 0), some (xR 0 0 0), some (xR 20 0 0), some (xR 26 0 0), some (xI i), x5, x6, x7, x8] [xI (i + 4), xR 40 0 0, xI (SLx xs (i + 3)), xI (SLx xs (i + 2)), xI (SLx xs (i + 1)), xR 0 0 0] M
  refine xl_sld hC hX (by omega) (by omega) dL_law_620 ?_
  show XWW p l e room_1 s m #[Value.ref b] below meth c cells slots (lw_Z below #[Value.ref b] s) D G ρ 9 621 [some (xR 40 0 0), some (xR 0 0 0), some (xR 20 0 0), some (xR 26 0 0), some (xI i), x5, x6, x7, x8] [xI (SLx xs (i + 4)), xI (SLx xs (i + 3)), xI (SLx xs (i + 2)), xI (SLx xs (i + 1)), xR 0 0 0] M
  refine xl_st hC c0 s0 (xs_aload_n (i := 3) dL_law_621 rfl) ?_
  show XWW p l e room_1 s m #[Value.ref b] below meth c cells slots (lw_Z below #[Value.ref b] s) D G ρ 9 622 [some (xR 40 0 0), some (xR 0 0 0), some (xR 20 0 0), some (xR 26 0 0), some (xI i), x5, x6, x7, x8] [xR 26 0 0, xI (SLx xs (i + 4)), xI (SLx xs (i + 3)), xI (SLx xs (i + 2)), xI (SLx xs (i + 1)), xR 0 0 0] M
  refine xl_call (n := 6) (As := [xR 0 0 0, xI (SLx xs (i + 1)), xI (SLx xs (i + 2)), xI (SLx xs (i + 3)), xI (SLx xs (i + 4)), xR 26 0 0]) (st := []) kL_load ⟨⟨rfl, rfl, by decide, by decide⟩, ⟨by decide, by decide, by decide +kernel⟩, tw_848, tw_849, tw_0, twL_load⟩ dL_law_622 hC hl hE hc hs rfl (by decide) ⟨(SLx xs (i + 1)), (SLx xs (i + 2)), (SLx xs (i + 3)), (SLx xs (i + 4)), rfl, lc_load hZ h (SL_in _ _) (SL_in _ _) (SL_in _ _) (SL_in _ _)⟩ (fun rv N1 hq => ?_)
  obtain ⟨k, rfl, ⟨k0, k3⟩, href⟩ := hq
  show XWW p l e room_1 s m #[Value.ref b] below meth c (cells + 1) (slots + 6) (lw_Z below #[Value.ref b] s) D G ρ 9 625 [some (xR 40 0 0), some (xR 0 0 0), some (xR 20 0 0), some (xR 26 0 0), some (xI i), x5, x6, x7, x8] [xI k] N1
  refine xl_st hC hc hs (xs_istore dL_law_625 (by decide)) ?_
  show XWW p l e room_1 s m #[Value.ref b] below meth c (cells + 1) (slots + 6) (lw_Z below #[Value.ref b] s) D G ρ 9 627 [some (xR 40 0 0), some (xR 0 0 0), some (xR 20 0 0), some (xR 26 0 0), some (xI i), some (xI k), x6, x7, x8] [] N1
  refine xl_st hC hc hs (xs_aload_n (i := 2) dL_law_627 rfl) ?_
  show XWW p l e room_1 s m #[Value.ref b] below meth c (cells + 1) (slots + 6) (lw_Z below #[Value.ref b] s) D G ρ 9 628 [some (xR 40 0 0), some (xR 0 0 0), some (xR 20 0 0), some (xR 26 0 0), some (xI i), some (xI k), x6, x7, x8] [xR 20 0 0] N1
  refine xl_st hC hc hs (xs_aload_n (i := 0) dL_law_628 rfl) ?_
  show XWW p l e room_1 s m #[Value.ref b] below meth c (cells + 1) (slots + 6) (lw_Z below #[Value.ref b] s) D G ρ 9 629 [some (xR 40 0 0), some (xR 0 0 0), some (xR 20 0 0), some (xR 26 0 0), some (xI i), some (xI k), x6, x7, x8] [xR 40 0 0, xR 20 0 0] N1
  refine xl_st hC hc hs (xs_iload dL_law_629) ?_
  show XWW p l e room_1 s m #[Value.ref b] below meth c (cells + 1) (slots + 6) (lw_Z below #[Value.ref b] s) D G ρ 9 631 [some (xR 40 0 0), some (xR 0 0 0), some (xR 20 0 0), some (xR 26 0 0), some (xI i), some (xI k), x6, x7, x8] [xI i, xR 40 0 0, xR 20 0 0] N1
  refine xl_st hC hc hs (xs_iconst dL_law_631) ?_
  show XWW p l e room_1 s m #[Value.ref b] below meth c (cells + 1) (slots + 6) (lw_Z below #[Value.ref b] s) D G ρ 9 632 [some (xR 40 0 0), some (xR 0 0 0), some (xR 20 0 0), some (xR 26 0 0), some (xI i), some (xI k), x6, x7, x8] [xI 1, xI i, xR 40 0 0, xR 20 0 0] N1
  refine xl_st hC hc hs (xs_iadd dL_law_632) ?_
  show XWW p l e room_1 s m #[Value.ref b] below meth c (cells + 1) (slots + 6) (lw_Z below #[Value.ref b] s) D G ρ 9 633 [some (xR 40 0 0), some (xR 0 0 0), some (xR 20 0 0), some (xR 26 0 0), some (xI i), some (xI k), x6, x7, x8] [xI (i + 1), xR 40 0 0, xR 20 0 0] N1
  refine xl_sld hC hX (by omega) (by omega) dL_law_633 ?_
  show XWW p l e room_1 s m #[Value.ref b] below meth c (cells + 1) (slots + 6) (lw_Z below #[Value.ref b] s) D G ρ 9 634 [some (xR 40 0 0), some (xR 0 0 0), some (xR 20 0 0), some (xR 26 0 0), some (xI i), some (xI k), x6, x7, x8] [xI (SLx xs (i + 1)), xR 20 0 0] N1
  refine xl_st hC hc hs (xs_aload_n (i := 0) dL_law_634 rfl) ?_
  show XWW p l e room_1 s m #[Value.ref b] below meth c (cells + 1) (slots + 6) (lw_Z below #[Value.ref b] s) D G ρ 9 635 [some (xR 40 0 0), some (xR 0 0 0), some (xR 20 0 0), some (xR 26 0 0), some (xI i), some (xI k), x6, x7, x8] [xR 40 0 0, xI (SLx xs (i + 1)), xR 20 0 0] N1
  refine xl_st hC hc hs (xs_iload dL_law_635) ?_
  show XWW p l e room_1 s m #[Value.ref b] below meth c (cells + 1) (slots + 6) (lw_Z below #[Value.ref b] s) D G ρ 9 637 [some (xR 40 0 0), some (xR 0 0 0), some (xR 20 0 0), some (xR 26 0 0), some (xI i), some (xI k), x6, x7, x8] [xI i, xR 40 0 0, xI (SLx xs (i + 1)), xR 20 0 0] N1
  refine xl_st hC hc hs (xs_iconst dL_law_637) ?_
  show XWW p l e room_1 s m #[Value.ref b] below meth c (cells + 1) (slots + 6) (lw_Z below #[Value.ref b] s) D G ρ 9 638 [some (xR 40 0 0), some (xR 0 0 0), some (xR 20 0 0), some (xR 26 0 0), some (xI i), some (xI k), x6, x7, x8] [xI 2, xI i, xR 40 0 0, xI (SLx xs (i + 1)), xR 20 0 0] N1
  refine xl_st hC hc hs (xs_iadd dL_law_638) ?_
  show XWW p l e room_1 s m #[Value.ref b] below meth c (cells + 1) (slots + 6) (lw_Z below #[Value.ref b] s) D G ρ 9 639 [some (xR 40 0 0), some (xR 0 0 0), some (xR 20 0 0), some (xR 26 0 0), some (xI i), some (xI k), x6, x7, x8] [xI (i + 2), xR 40 0 0, xI (SLx xs (i + 1)), xR 20 0 0] N1
  refine xl_sld hC hX (by omega) (by omega) dL_law_639 ?_
  show XWW p l e room_1 s m #[Value.ref b] below meth c (cells + 1) (slots + 6) (lw_Z below #[Value.ref b] s) D G ρ 9 640 [some (xR 40 0 0), some (xR 0 0 0), some (xR 20 0 0), some (xR 26 0 0), some (xI i), some (xI k), x6, x7, x8] [xI (SLx xs (i + 2)), xI (SLx xs (i + 1)), xR 20 0 0] N1
  refine xl_st hC hc hs (xs_aload_n (i := 0) dL_law_640 rfl) ?_
  show XWW p l e room_1 s m #[Value.ref b] below meth c (cells + 1) (slots + 6) (lw_Z below #[Value.ref b] s) D G ρ 9 641 [some (xR 40 0 0), some (xR 0 0 0), some (xR 20 0 0), some (xR 26 0 0), some (xI i), some (xI k), x6, x7, x8] [xR 40 0 0, xI (SLx xs (i + 2)), xI (SLx xs (i + 1)), xR 20 0 0] N1
  refine xl_st hC hc hs (xs_iload dL_law_641) ?_
  show XWW p l e room_1 s m #[Value.ref b] below meth c (cells + 1) (slots + 6) (lw_Z below #[Value.ref b] s) D G ρ 9 643 [some (xR 40 0 0), some (xR 0 0 0), some (xR 20 0 0), some (xR 26 0 0), some (xI i), some (xI k), x6, x7, x8] [xI i, xR 40 0 0, xI (SLx xs (i + 2)), xI (SLx xs (i + 1)), xR 20 0 0] N1
  refine xl_st hC hc hs (xs_iconst dL_law_643) ?_
  show XWW p l e room_1 s m #[Value.ref b] below meth c (cells + 1) (slots + 6) (lw_Z below #[Value.ref b] s) D G ρ 9 644 [some (xR 40 0 0), some (xR 0 0 0), some (xR 20 0 0), some (xR 26 0 0), some (xI i), some (xI k), x6, x7, x8] [xI 3, xI i, xR 40 0 0, xI (SLx xs (i + 2)), xI (SLx xs (i + 1)), xR 20 0 0] N1
  refine xl_st hC hc hs (xs_iadd dL_law_644) ?_
  show XWW p l e room_1 s m #[Value.ref b] below meth c (cells + 1) (slots + 6) (lw_Z below #[Value.ref b] s) D G ρ 9 645 [some (xR 40 0 0), some (xR 0 0 0), some (xR 20 0 0), some (xR 26 0 0), some (xI i), some (xI k), x6, x7, x8] [xI (i + 3), xR 40 0 0, xI (SLx xs (i + 2)), xI (SLx xs (i + 1)), xR 20 0 0] N1
  refine xl_sld hC hX (by omega) (by omega) dL_law_645 ?_
  show XWW p l e room_1 s m #[Value.ref b] below meth c (cells + 1) (slots + 6) (lw_Z below #[Value.ref b] s) D G ρ 9 646 [some (xR 40 0 0), some (xR 0 0 0), some (xR 20 0 0), some (xR 26 0 0), some (xI i), some (xI k), x6, x7, x8] [xI (SLx xs (i + 3)), xI (SLx xs (i + 2)), xI (SLx xs (i + 1)), xR 20 0 0] N1
  refine xl_st hC hc hs (xs_aload_n (i := 0) dL_law_646 rfl) ?_
  show XWW p l e room_1 s m #[Value.ref b] below meth c (cells + 1) (slots + 6) (lw_Z below #[Value.ref b] s) D G ρ 9 647 [some (xR 40 0 0), some (xR 0 0 0), some (xR 20 0 0), some (xR 26 0 0), some (xI i), some (xI k), x6, x7, x8] [xR 40 0 0, xI (SLx xs (i + 3)), xI (SLx xs (i + 2)), xI (SLx xs (i + 1)), xR 20 0 0] N1
  refine xl_st hC hc hs (xs_iload dL_law_647) ?_
  show XWW p l e room_1 s m #[Value.ref b] below meth c (cells + 1) (slots + 6) (lw_Z below #[Value.ref b] s) D G ρ 9 649 [some (xR 40 0 0), some (xR 0 0 0), some (xR 20 0 0), some (xR 26 0 0), some (xI i), some (xI k), x6, x7, x8] [xI i, xR 40 0 0, xI (SLx xs (i + 3)), xI (SLx xs (i + 2)), xI (SLx xs (i + 1)), xR 20 0 0] N1
  refine xl_st hC hc hs (xs_iconst dL_law_649) ?_
  show XWW p l e room_1 s m #[Value.ref b] below meth c (cells + 1) (slots + 6) (lw_Z below #[Value.ref b] s) D G ρ 9 650 [some (xR 40 0 0), some (xR 0 0 0), some (xR 20 0 0), some (xR 26 0 0), some (xI i), some (xI k), x6, x7, x8] [xI 4, xI i, xR 40 0 0, xI (SLx xs (i + 3)), xI (SLx xs (i + 2)), xI (SLx xs (i + 1)), xR 20 0 0] N1
  refine xl_st hC hc hs (xs_iadd dL_law_650) ?_
  show XWW p l e room_1 s m #[Value.ref b] below meth c (cells + 1) (slots + 6) (lw_Z below #[Value.ref b] s) D G ρ 9 651 [some (xR 40 0 0), some (xR 0 0 0), some (xR 20 0 0), some (xR 26 0 0), some (xI i), some (xI k), x6, x7, x8] [xI (i + 4), xR 40 0 0, xI (SLx xs (i + 3)), xI (SLx xs (i + 2)), xI (SLx xs (i + 1)), xR 20 0 0] N1
  refine xl_sld hC hX (by omega) (by omega) dL_law_651 ?_
  show XWW p l e room_1 s m #[Value.ref b] below meth c (cells + 1) (slots + 6) (lw_Z below #[Value.ref b] s) D G ρ 9 652 [some (xR 40 0 0), some (xR 0 0 0), some (xR 20 0 0), some (xR 26 0 0), some (xI i), some (xI k), x6, x7, x8] [xI (SLx xs (i + 4)), xI (SLx xs (i + 3)), xI (SLx xs (i + 2)), xI (SLx xs (i + 1)), xR 20 0 0] N1
  refine xl_st hC hc hs (xs_V4 kX8_load ⟨⟨rfl, rfl, by decide, by decide⟩, ⟨by decide, by decide, by decide +kernel⟩, ⟨tw_1150, tw_1151, tw_1152, tw_9, tw_1153⟩, 8, TX8, _, rfl, fun G ρ f i k => ⟨_, rfl⟩⟩ dL_law_652) ⟨⟨rfl, xvz_20, by decide⟩, href⟩
set_option maxRecDepth 100000 in
theorem cs_unload {p : Program} {l : Launch} {e : Env} {s : State} {m : MethodId} {below : List Frame} {meth : Method} {c : Code} {D : va_G} {G : Nat → ClassId} {ρ : XOb → Nat} {b Ln : Nat} {xs : Nat → Int32} {cells slots : Nat} (hC : XCX p room_1 s m #[Value.ref b] c 0 0 D G ρ cL_law 9 RL (Cond.initialized RL :: xT)) (hl : l.stackTraces = false) (hE : (XEw s ∧ XEs s ∧ XEz (XA ρ s.heap.size) s s.heap) ∧ XEc s) (hX : XSc s ρ b Ln xs) (hc : cells + 1 ≤ 601024) (hs : slots + 6 ≤ 7293034) {i : Int} (h0 : 0 ≤ i) (h6 : i + 6 ≤ Ln) {M : XM} (h : RR M) {x5 x6 x7 x8 : Option XV} (next : ∀ (y5 y6 y7 y8 : Option XV) (N : XM), RR N → XWW p l e room_1 s m #[Value.ref b] below meth c (cells + 1) (slots + 6) (lw_Z below #[Value.ref b] s) D G ρ 9 2181 [some (xR 40 0 0), some (xR 0 0 0), some (xR 20 0 0), some (xR 26 0 0), some (xI i), y5, y6, y7, y8] [] N) : XWW p l e room_1 s m #[Value.ref b] below meth c cells slots (lw_Z below #[Value.ref b] s) D G ρ 9 688 [some (xR 40 0 0), some (xR 0 0 0), some (xR 20 0 0), some (xR 26 0 0), some (xI i), x5, x6, x7, x8] [] M := by
  have c0 : cells ≤ room_1.cells := Nat.le_trans (Nat.le_succ _) hc
  have s0 : slots ≤ room_1.slots := Nat.le_trans (Nat.le_add_right _ 6) hs
  have hZ : ∀ (k : Int) (rv : List XV) (N : XM), 0 ≤ k → k ≤ 3 → LE k rv N → (fun (k : Int) (rv : List XV) (N : XM) => XWW p l e room_1 s m #[Value.ref b] below meth c (cells + 1) (slots + 6) (lw_Z below #[Value.ref b] s) D G ρ 9 723 [some (xR 40 0 0), some (xR 0 0 0), some (xR 20 0 0), some (xR 26 0 0), some (xI i), some (xI k), x6, x7, x8] (rv ++ []) N) k rv N := by
    intro k rv N k0 k3 hLE
    obtain ⟨v, rfl, hR, h5, h26⟩ := hLE
    show XWW p l e room_1 s m #[Value.ref b] below meth c (cells + 1) (slots + 6) (lw_Z below #[Value.ref b] s) D G ρ 9 723 [some (xR 40 0 0), some (xR 0 0 0), some (xR 20 0 0), some (xR 26 0 0), some (xI i), some (xI k), x6, x7, x8] [xI v] N
    refine xl_st hC hc hs (xs_istore dL_law_723 (by decide)) ?_
    show XWW p l e room_1 s m #[Value.ref b] below meth c (cells + 1) (slots + 6) (lw_Z below #[Value.ref b] s) D G ρ 9 725 [some (xR 40 0 0), some (xR 0 0 0), some (xR 20 0 0), some (xR 26 0 0), some (xI i), some (xI k), some (xI v), x7, x8] [] N
    refine xl_st hC hc hs (xs_aload_n (i := 2) dL_law_725 rfl) ?_
    show XWW p l e room_1 s m #[Value.ref b] below meth c (cells + 1) (slots + 6) (lw_Z below #[Value.ref b] s) D G ρ 9 726 [some (xR 40 0 0), some (xR 0 0 0), some (xR 20 0 0), some (xR 26 0 0), some (xI i), some (xI k), some (xI v), x7, x8] [xR 20 0 0] N
    refine xl_st hC hc hs (xs_V0 kX8_thrown ⟨⟨rfl, rfl, by decide, by decide⟩, ⟨by decide, by decide, by decide +kernel⟩, ⟨tw_1091, tw_1092, tw_1093, tw_9, tw_1094⟩, 8, TX8, _, rfl, fun G ρ f i k => ⟨_, rfl⟩⟩ dL_law_726) ⟨⟨rfl, xvz_20, by decide⟩, ⟨rfl, xvz_20⟩, ?_⟩
    show XWW p l e room_1 s m #[Value.ref b] below meth c (cells + 1) (slots + 6) (lw_Z below #[Value.ref b] s) D G ρ 9 729 [some (xR 40 0 0), some (xR 0 0 0), some (xR 20 0 0), some (xR 26 0 0), some (xI i), some (xI k), some (xI v), x7, x8] [xI (N 20 0 0 5)] N
    refine xl_st hC hc hs (xs_iload dL_law_729) ?_
    show XWW p l e room_1 s m #[Value.ref b] below meth c (cells + 1) (slots + 6) (lw_Z below #[Value.ref b] s) D G ρ 9 731 [some (xR 40 0 0), some (xR 0 0 0), some (xR 20 0 0), some (xR 26 0 0), some (xI i), some (xI k), some (xI v), x7, x8] [xI k, xI (N 20 0 0 5)] N
    refine xl_st hC hc hs (xs_icmp_eq (t := 736) dL_law_731 (by decide)) ⟨⟨by rw [h5]; exact ⟨by omega, by omega⟩, ⟨by omega, by omega⟩⟩, fun _ => ?_, fun q => absurd h5 q⟩
    show XWW p l e room_1 s m #[Value.ref b] below meth c (cells + 1) (slots + 6) (lw_Z below #[Value.ref b] s) D G ρ 9 736 [some (xR 40 0 0), some (xR 0 0 0), some (xR 20 0 0), some (xR 26 0 0), some (xI i), some (xI k), some (xI v), x7, x8] [] N
    refine xl_st hC hc hs (xs_iload dL_law_736) ?_
    show XWW p l e room_1 s m #[Value.ref b] below meth c (cells + 1) (slots + 6) (lw_Z below #[Value.ref b] s) D G ρ 9 738 [some (xR 40 0 0), some (xR 0 0 0), some (xR 20 0 0), some (xR 26 0 0), some (xI i), some (xI k), some (xI v), x7, x8] [xI k] N
    refine xl_st hC hc hs (xs_if_ne (t := 753) dL_law_738 (by decide)) ⟨⟨by omega, by omega⟩, fun _ => ?_, fun q => ?_⟩
    · show XWW p l e room_1 s m #[Value.ref b] below meth c (cells + 1) (slots + 6) (lw_Z below #[Value.ref b] s) D G ρ 9 753 [some (xR 40 0 0), some (xR 0 0 0), some (xR 20 0 0), some (xR 26 0 0), some (xI i), some (xI k), some (xI v), x7, x8] [] N
      refine xl_st hC hc hs (xs_goto (t := 2181) dL_law_753 (by decide)) ?_
      show XWW p l e room_1 s m #[Value.ref b] below meth c (cells + 1) (slots + 6) (lw_Z below #[Value.ref b] s) D G ρ 9 2181 [some (xR 40 0 0), some (xR 0 0 0), some (xR 20 0 0), some (xR 26 0 0), some (xI i), some (xI k), some (xI v), x7, x8] [] N
      exact next _ _ _ _ N hR
    · show XWW p l e room_1 s m #[Value.ref b] below meth c (cells + 1) (slots + 6) (lw_Z below #[Value.ref b] s) D G ρ 9 741 [some (xR 40 0 0), some (xR 0 0 0), some (xR 20 0 0), some (xR 26 0 0), some (xI i), some (xI k), some (xI v), x7, x8] [] N
      refine xl_st hC hc hs (xs_aload_n (i := 3) dL_law_741 rfl) ?_
      show XWW p l e room_1 s m #[Value.ref b] below meth c (cells + 1) (slots + 6) (lw_Z below #[Value.ref b] s) D G ρ 9 742 [some (xR 40 0 0), some (xR 0 0 0), some (xR 20 0 0), some (xR 26 0 0), some (xI i), some (xI k), some (xI v), x7, x8] [xR 26 0 0] N
      refine xl_st hC hc hs (xs_iconst dL_law_742) ?_
      show XWW p l e room_1 s m #[Value.ref b] below meth c (cells + 1) (slots + 6) (lw_Z below #[Value.ref b] s) D G ρ 9 743 [some (xR 40 0 0), some (xR 0 0 0), some (xR 20 0 0), some (xR 26 0 0), some (xI i), some (xI k), some (xI v), x7, x8] [xI 0, xR 26 0 0] N
      refine xl_st hC hc hs (xs_lald dL_law_743) ⟨⟨rfl, rfl, rfl, rfl⟩, ?_⟩
      show XWW p l e room_1 s m #[Value.ref b] below meth c (cells + 1) (slots + 6) (lw_Z below #[Value.ref b] s) D G ρ 9 744 [some (xR 40 0 0), some (xR 0 0 0), some (xR 20 0 0), some (xR 26 0 0), some (xI i), some (xI k), some (xI v), x7, x8] [xJ (N 26 0 0 0)] N
      refine xl_st hC hc hs (xs_iload dL_law_744) ?_
      show XWW p l e room_1 s m #[Value.ref b] below meth c (cells + 1) (slots + 6) (lw_Z below #[Value.ref b] s) D G ρ 9 746 [some (xR 40 0 0), some (xR 0 0 0), some (xR 20 0 0), some (xR 26 0 0), some (xI i), some (xI k), some (xI v), x7, x8] [xI v, xJ (N 26 0 0 0)] N
      refine xl_st hC hc hs (xs_i2lw dL_law_746) ?_
      show XWW p l e room_1 s m #[Value.ref b] below meth c (cells + 1) (slots + 6) (lw_Z below #[Value.ref b] s) D G ρ 9 747 [some (xR 40 0 0), some (xR 0 0 0), some (xR 20 0 0), some (xR 26 0 0), some (xI i), some (xI k), some (xI v), x7, x8] [xJ (w32 v), xJ (N 26 0 0 0)] N
      refine xl_st hC hc hs (xs_lcmp dL_law_747) ⟨h26 q, ?_⟩
      show XWW p l e room_1 s m #[Value.ref b] below meth c (cells + 1) (slots + 6) (lw_Z below #[Value.ref b] s) D G ρ 9 748 [some (xR 40 0 0), some (xR 0 0 0), some (xR 20 0 0), some (xR 26 0 0), some (xI i), some (xI k), some (xI v), x7, x8] [xI 0] N
      refine xl_st hC hc hs (xs_if_eq (t := 753) dL_law_748 (by decide)) ⟨x_r0, fun _ => ?_, fun q => absurd rfl q⟩
      show XWW p l e room_1 s m #[Value.ref b] below meth c (cells + 1) (slots + 6) (lw_Z below #[Value.ref b] s) D G ρ 9 753 [some (xR 40 0 0), some (xR 0 0 0), some (xR 20 0 0), some (xR 26 0 0), some (xI i), some (xI k), some (xI v), x7, x8] [] N
      refine xl_st hC hc hs (xs_goto (t := 2181) dL_law_753 (by decide)) ?_
      show XWW p l e room_1 s m #[Value.ref b] below meth c (cells + 1) (slots + 6) (lw_Z below #[Value.ref b] s) D G ρ 9 2181 [some (xR 40 0 0), some (xR 0 0 0), some (xR 20 0 0), some (xR 26 0 0), some (xI i), some (xI k), some (xI v), x7, x8] [] N
      exact next _ _ _ _ N hR
  show XWW p l e room_1 s m #[Value.ref b] below meth c cells slots (lw_Z below #[Value.ref b] s) D G ρ 9 688 [some (xR 40 0 0), some (xR 0 0 0), some (xR 20 0 0), some (xR 26 0 0), some (xI i), x5, x6, x7, x8] [] M
  refine xl_st hC c0 s0 (xs_aload_n (i := 1) dL_law_688 rfl) ?_
  show XWW p l e room_1 s m #[Value.ref b] below meth c cells slots (lw_Z below #[Value.ref b] s) D G ρ 9 689 [some (xR 40 0 0), some (xR 0 0 0), some (xR 20 0 0), some (xR 26 0 0), some (xI i), x5, x6, x7, x8] [xR 0 0 0] M
  refine xl_st hC c0 s0 (xs_aload_n (i := 0) dL_law_689 rfl) ?_
  show XWW p l e room_1 s m #[Value.ref b] below meth c cells slots (lw_Z below #[Value.ref b] s) D G ρ 9 690 [some (xR 40 0 0), some (xR 0 0 0), some (xR 20 0 0), some (xR 26 0 0), some (xI i), x5, x6, x7, x8] [xR 40 0 0, xR 0 0 0] M
  refine xl_st hC c0 s0 (xs_iload dL_law_690) ?_
  show XWW p l e room_1 s m #[Value.ref b] below meth c cells slots (lw_Z below #[Value.ref b] s) D G ρ 9 692 [some (xR 40 0 0), some (xR 0 0 0), some (xR 20 0 0), some (xR 26 0 0), some (xI i), x5, x6, x7, x8] [xI i, xR 40 0 0, xR 0 0 0] M
  refine xl_st hC c0 s0 (xs_iconst dL_law_692) ?_
  show XWW p l e room_1 s m #[Value.ref b] below meth c cells slots (lw_Z below #[Value.ref b] s) D G ρ 9 693 [some (xR 40 0 0), some (xR 0 0 0), some (xR 20 0 0), some (xR 26 0 0), some (xI i), x5, x6, x7, x8] [xI 1, xI i, xR 40 0 0, xR 0 0 0] M
  refine xl_st hC c0 s0 (xs_iadd dL_law_693) ?_
  show XWW p l e room_1 s m #[Value.ref b] below meth c cells slots (lw_Z below #[Value.ref b] s) D G ρ 9 694 [some (xR 40 0 0), some (xR 0 0 0), some (xR 20 0 0), some (xR 26 0 0), some (xI i), x5, x6, x7, x8] [xI (i + 1), xR 40 0 0, xR 0 0 0] M
  refine xl_sld hC hX (by omega) (by omega) dL_law_694 ?_
  show XWW p l e room_1 s m #[Value.ref b] below meth c cells slots (lw_Z below #[Value.ref b] s) D G ρ 9 695 [some (xR 40 0 0), some (xR 0 0 0), some (xR 20 0 0), some (xR 26 0 0), some (xI i), x5, x6, x7, x8] [xI (SLx xs (i + 1)), xR 0 0 0] M
  refine xl_st hC c0 s0 (xs_aload_n (i := 0) dL_law_695 rfl) ?_
  show XWW p l e room_1 s m #[Value.ref b] below meth c cells slots (lw_Z below #[Value.ref b] s) D G ρ 9 696 [some (xR 40 0 0), some (xR 0 0 0), some (xR 20 0 0), some (xR 26 0 0), some (xI i), x5, x6, x7, x8] [xR 40 0 0, xI (SLx xs (i + 1)), xR 0 0 0] M
  refine xl_st hC c0 s0 (xs_iload dL_law_696) ?_
  show XWW p l e room_1 s m #[Value.ref b] below meth c cells slots (lw_Z below #[Value.ref b] s) D G ρ 9 698 [some (xR 40 0 0), some (xR 0 0 0), some (xR 20 0 0), some (xR 26 0 0), some (xI i), x5, x6, x7, x8] [xI i, xR 40 0 0, xI (SLx xs (i + 1)), xR 0 0 0] M
  refine xl_st hC c0 s0 (xs_iconst dL_law_698) ?_
  show XWW p l e room_1 s m #[Value.ref b] below meth c cells slots (lw_Z below #[Value.ref b] s) D G ρ 9 699 [some (xR 40 0 0), some (xR 0 0 0), some (xR 20 0 0), some (xR 26 0 0), some (xI i), x5, x6, x7, x8] [xI 2, xI i, xR 40 0 0, xI (SLx xs (i + 1)), xR 0 0 0] M
  refine xl_st hC c0 s0 (xs_iadd dL_law_699) ?_
  show XWW p l e room_1 s m #[Value.ref b] below meth c cells slots (lw_Z below #[Value.ref b] s) D G ρ 9 700 [some (xR 40 0 0), some (xR 0 0 0), some (xR 20 0 0), some (xR 26 0 0), some (xI i), x5, x6, x7, x8] [xI (i + 2), xR 40 0 0, xI (SLx xs (i + 1)), xR 0 0 0] M
  refine xl_sld hC hX (by omega) (by omega) dL_law_700 ?_
  show XWW p l e room_1 s m #[Value.ref b] below meth c cells slots (lw_Z below #[Value.ref b] s) D G ρ 9 701 [some (xR 40 0 0), some (xR 0 0 0), some (xR 20 0 0), some (xR 26 0 0), some (xI i), x5, x6, x7, x8] [xI (SLx xs (i + 2)), xI (SLx xs (i + 1)), xR 0 0 0] M
  refine xl_st hC c0 s0 (xs_aload_n (i := 3) dL_law_701 rfl) ?_
  show XWW p l e room_1 s m #[Value.ref b] below meth c cells slots (lw_Z below #[Value.ref b] s) D G ρ 9 702 [some (xR 40 0 0), some (xR 0 0 0), some (xR 20 0 0), some (xR 26 0 0), some (xI i), x5, x6, x7, x8] [xR 26 0 0, xI (SLx xs (i + 2)), xI (SLx xs (i + 1)), xR 0 0 0] M
  refine xl_call (n := 4) (As := [xR 0 0 0, xI (SLx xs (i + 1)), xI (SLx xs (i + 2)), xR 26 0 0]) (st := []) kL_unload ⟨⟨rfl, rfl, by decide, by decide⟩, ⟨by decide, by decide, by decide +kernel⟩, tw_861, tw_862, tw_0, twL_unload⟩ dL_law_702 hC hl hE hc hs rfl (by decide) ⟨(SLx xs (i + 1)), (SLx xs (i + 2)), rfl, lc_unload hZ h (SL_in _ _) (SL_in _ _)⟩ (fun rv N1 hq => ?_)
  obtain ⟨k, rfl, ⟨k0, k3⟩, href⟩ := hq
  show XWW p l e room_1 s m #[Value.ref b] below meth c (cells + 1) (slots + 6) (lw_Z below #[Value.ref b] s) D G ρ 9 705 [some (xR 40 0 0), some (xR 0 0 0), some (xR 20 0 0), some (xR 26 0 0), some (xI i), x5, x6, x7, x8] [xI k] N1
  refine xl_st hC hc hs (xs_istore dL_law_705 (by decide)) ?_
  show XWW p l e room_1 s m #[Value.ref b] below meth c (cells + 1) (slots + 6) (lw_Z below #[Value.ref b] s) D G ρ 9 707 [some (xR 40 0 0), some (xR 0 0 0), some (xR 20 0 0), some (xR 26 0 0), some (xI i), some (xI k), x6, x7, x8] [] N1
  refine xl_st hC hc hs (xs_aload_n (i := 2) dL_law_707 rfl) ?_
  show XWW p l e room_1 s m #[Value.ref b] below meth c (cells + 1) (slots + 6) (lw_Z below #[Value.ref b] s) D G ρ 9 708 [some (xR 40 0 0), some (xR 0 0 0), some (xR 20 0 0), some (xR 26 0 0), some (xI i), some (xI k), x6, x7, x8] [xR 20 0 0] N1
  refine xl_st hC hc hs (xs_aload_n (i := 0) dL_law_708 rfl) ?_
  show XWW p l e room_1 s m #[Value.ref b] below meth c (cells + 1) (slots + 6) (lw_Z below #[Value.ref b] s) D G ρ 9 709 [some (xR 40 0 0), some (xR 0 0 0), some (xR 20 0 0), some (xR 26 0 0), some (xI i), some (xI k), x6, x7, x8] [xR 40 0 0, xR 20 0 0] N1
  refine xl_st hC hc hs (xs_iload dL_law_709) ?_
  show XWW p l e room_1 s m #[Value.ref b] below meth c (cells + 1) (slots + 6) (lw_Z below #[Value.ref b] s) D G ρ 9 711 [some (xR 40 0 0), some (xR 0 0 0), some (xR 20 0 0), some (xR 26 0 0), some (xI i), some (xI k), x6, x7, x8] [xI i, xR 40 0 0, xR 20 0 0] N1
  refine xl_st hC hc hs (xs_iconst dL_law_711) ?_
  show XWW p l e room_1 s m #[Value.ref b] below meth c (cells + 1) (slots + 6) (lw_Z below #[Value.ref b] s) D G ρ 9 712 [some (xR 40 0 0), some (xR 0 0 0), some (xR 20 0 0), some (xR 26 0 0), some (xI i), some (xI k), x6, x7, x8] [xI 1, xI i, xR 40 0 0, xR 20 0 0] N1
  refine xl_st hC hc hs (xs_iadd dL_law_712) ?_
  show XWW p l e room_1 s m #[Value.ref b] below meth c (cells + 1) (slots + 6) (lw_Z below #[Value.ref b] s) D G ρ 9 713 [some (xR 40 0 0), some (xR 0 0 0), some (xR 20 0 0), some (xR 26 0 0), some (xI i), some (xI k), x6, x7, x8] [xI (i + 1), xR 40 0 0, xR 20 0 0] N1
  refine xl_sld hC hX (by omega) (by omega) dL_law_713 ?_
  show XWW p l e room_1 s m #[Value.ref b] below meth c (cells + 1) (slots + 6) (lw_Z below #[Value.ref b] s) D G ρ 9 714 [some (xR 40 0 0), some (xR 0 0 0), some (xR 20 0 0), some (xR 26 0 0), some (xI i), some (xI k), x6, x7, x8] [xI (SLx xs (i + 1)), xR 20 0 0] N1
  refine xl_st hC hc hs (xs_aload_n (i := 0) dL_law_714 rfl) ?_
  show XWW p l e room_1 s m #[Value.ref b] below meth c (cells + 1) (slots + 6) (lw_Z below #[Value.ref b] s) D G ρ 9 715 [some (xR 40 0 0), some (xR 0 0 0), some (xR 20 0 0), some (xR 26 0 0), some (xI i), some (xI k), x6, x7, x8] [xR 40 0 0, xI (SLx xs (i + 1)), xR 20 0 0] N1
  refine xl_st hC hc hs (xs_iload dL_law_715) ?_
  show XWW p l e room_1 s m #[Value.ref b] below meth c (cells + 1) (slots + 6) (lw_Z below #[Value.ref b] s) D G ρ 9 717 [some (xR 40 0 0), some (xR 0 0 0), some (xR 20 0 0), some (xR 26 0 0), some (xI i), some (xI k), x6, x7, x8] [xI i, xR 40 0 0, xI (SLx xs (i + 1)), xR 20 0 0] N1
  refine xl_st hC hc hs (xs_iconst dL_law_717) ?_
  show XWW p l e room_1 s m #[Value.ref b] below meth c (cells + 1) (slots + 6) (lw_Z below #[Value.ref b] s) D G ρ 9 718 [some (xR 40 0 0), some (xR 0 0 0), some (xR 20 0 0), some (xR 26 0 0), some (xI i), some (xI k), x6, x7, x8] [xI 2, xI i, xR 40 0 0, xI (SLx xs (i + 1)), xR 20 0 0] N1
  refine xl_st hC hc hs (xs_iadd dL_law_718) ?_
  show XWW p l e room_1 s m #[Value.ref b] below meth c (cells + 1) (slots + 6) (lw_Z below #[Value.ref b] s) D G ρ 9 719 [some (xR 40 0 0), some (xR 0 0 0), some (xR 20 0 0), some (xR 26 0 0), some (xI i), some (xI k), x6, x7, x8] [xI (i + 2), xR 40 0 0, xI (SLx xs (i + 1)), xR 20 0 0] N1
  refine xl_sld hC hX (by omega) (by omega) dL_law_719 ?_
  show XWW p l e room_1 s m #[Value.ref b] below meth c (cells + 1) (slots + 6) (lw_Z below #[Value.ref b] s) D G ρ 9 720 [some (xR 40 0 0), some (xR 0 0 0), some (xR 20 0 0), some (xR 26 0 0), some (xI i), some (xI k), x6, x7, x8] [xI (SLx xs (i + 2)), xI (SLx xs (i + 1)), xR 20 0 0] N1
  refine xl_st hC hc hs (xs_V2 kX8_unload ⟨⟨rfl, rfl, by decide, by decide⟩, ⟨by decide, by decide, by decide +kernel⟩, ⟨tw_1181, tw_1182, tw_1183, tw_9, tw_1184⟩, 8, TX8, _, rfl, fun G ρ f i k => ⟨_, rfl⟩⟩ dL_law_720) ⟨⟨rfl, xvz_20, by decide⟩, href⟩
set_option maxRecDepth 100000 in
theorem cs_drive {p : Program} {l : Launch} {e : Env} {s : State} {m : MethodId} {below : List Frame} {meth : Method} {c : Code} {D : va_G} {G : Nat → ClassId} {ρ : XOb → Nat} {b Ln : Nat} {xs : Nat → Int32} {cells slots : Nat} (hC : XCX p room_1 s m #[Value.ref b] c 0 0 D G ρ cL_law 9 RL (Cond.initialized RL :: xT)) (hl : l.stackTraces = false) (hE : (XEw s ∧ XEs s ∧ XEz (XA ρ s.heap.size) s s.heap) ∧ XEc s) (hX : XSc s ρ b Ln xs) (hc : cells + 1 ≤ 601024) (hs : slots + 6 ≤ 7293034) {i : Int} (h0 : 0 ≤ i) (h6 : i + 6 ≤ Ln) {M : XM} (h : RR M) {x5 x6 x7 x8 : Option XV} (next : ∀ (y5 y6 y7 y8 : Option XV) (N : XM), RR N → XWW p l e room_1 s m #[Value.ref b] below meth c (cells + 1) (slots + 6) (lw_Z below #[Value.ref b] s) D G ρ 9 2181 [some (xR 40 0 0), some (xR 0 0 0), some (xR 20 0 0), some (xR 26 0 0), some (xI i), y5, y6, y7, y8] [] N) : XWW p l e room_1 s m #[Value.ref b] below meth c cells slots (lw_Z below #[Value.ref b] s) D G ρ 9 756 [some (xR 40 0 0), some (xR 0 0 0), some (xR 20 0 0), some (xR 26 0 0), some (xI i), x5, x6, x7, x8] [] M := by
  have c0 : cells ≤ room_1.cells := Nat.le_trans (Nat.le_succ _) hc
  have s0 : slots ≤ room_1.slots := Nat.le_trans (Nat.le_add_right _ 6) hs
  have hZ : ∀ (k : Int) (rv : List XV) (N : XM), 0 ≤ k → k ≤ 3 → LE k rv N → (fun (k : Int) (rv : List XV) (N : XM) => XWW p l e room_1 s m #[Value.ref b] below meth c (cells + 1) (slots + 6) (lw_Z below #[Value.ref b] s) D G ρ 9 791 [some (xR 40 0 0), some (xR 0 0 0), some (xR 20 0 0), some (xR 26 0 0), some (xI i), some (xI k), x6, x7, x8] (rv ++ []) N) k rv N := by
    intro k rv N k0 k3 hLE
    obtain ⟨v, rfl, hR, h5, h26⟩ := hLE
    show XWW p l e room_1 s m #[Value.ref b] below meth c (cells + 1) (slots + 6) (lw_Z below #[Value.ref b] s) D G ρ 9 791 [some (xR 40 0 0), some (xR 0 0 0), some (xR 20 0 0), some (xR 26 0 0), some (xI i), some (xI k), x6, x7, x8] [xI v] N
    refine xl_st hC hc hs (xs_istore dL_law_791 (by decide)) ?_
    show XWW p l e room_1 s m #[Value.ref b] below meth c (cells + 1) (slots + 6) (lw_Z below #[Value.ref b] s) D G ρ 9 793 [some (xR 40 0 0), some (xR 0 0 0), some (xR 20 0 0), some (xR 26 0 0), some (xI i), some (xI k), some (xI v), x7, x8] [] N
    refine xl_st hC hc hs (xs_aload_n (i := 2) dL_law_793 rfl) ?_
    show XWW p l e room_1 s m #[Value.ref b] below meth c (cells + 1) (slots + 6) (lw_Z below #[Value.ref b] s) D G ρ 9 794 [some (xR 40 0 0), some (xR 0 0 0), some (xR 20 0 0), some (xR 26 0 0), some (xI i), some (xI k), some (xI v), x7, x8] [xR 20 0 0] N
    refine xl_st hC hc hs (xs_V0 kX8_thrown ⟨⟨rfl, rfl, by decide, by decide⟩, ⟨by decide, by decide, by decide +kernel⟩, ⟨tw_1091, tw_1092, tw_1093, tw_9, tw_1094⟩, 8, TX8, _, rfl, fun G ρ f i k => ⟨_, rfl⟩⟩ dL_law_794) ⟨⟨rfl, xvz_20, by decide⟩, ⟨rfl, xvz_20⟩, ?_⟩
    show XWW p l e room_1 s m #[Value.ref b] below meth c (cells + 1) (slots + 6) (lw_Z below #[Value.ref b] s) D G ρ 9 797 [some (xR 40 0 0), some (xR 0 0 0), some (xR 20 0 0), some (xR 26 0 0), some (xI i), some (xI k), some (xI v), x7, x8] [xI (N 20 0 0 5)] N
    refine xl_st hC hc hs (xs_iload dL_law_797) ?_
    show XWW p l e room_1 s m #[Value.ref b] below meth c (cells + 1) (slots + 6) (lw_Z below #[Value.ref b] s) D G ρ 9 799 [some (xR 40 0 0), some (xR 0 0 0), some (xR 20 0 0), some (xR 26 0 0), some (xI i), some (xI k), some (xI v), x7, x8] [xI k, xI (N 20 0 0 5)] N
    refine xl_st hC hc hs (xs_icmp_eq (t := 804) dL_law_799 (by decide)) ⟨⟨by rw [h5]; exact ⟨by omega, by omega⟩, ⟨by omega, by omega⟩⟩, fun _ => ?_, fun q => absurd h5 q⟩
    show XWW p l e room_1 s m #[Value.ref b] below meth c (cells + 1) (slots + 6) (lw_Z below #[Value.ref b] s) D G ρ 9 804 [some (xR 40 0 0), some (xR 0 0 0), some (xR 20 0 0), some (xR 26 0 0), some (xI i), some (xI k), some (xI v), x7, x8] [] N
    refine xl_st hC hc hs (xs_iload dL_law_804) ?_
    show XWW p l e room_1 s m #[Value.ref b] below meth c (cells + 1) (slots + 6) (lw_Z below #[Value.ref b] s) D G ρ 9 806 [some (xR 40 0 0), some (xR 0 0 0), some (xR 20 0 0), some (xR 26 0 0), some (xI i), some (xI k), some (xI v), x7, x8] [xI k] N
    refine xl_st hC hc hs (xs_if_ne (t := 821) dL_law_806 (by decide)) ⟨⟨by omega, by omega⟩, fun _ => ?_, fun q => ?_⟩
    · show XWW p l e room_1 s m #[Value.ref b] below meth c (cells + 1) (slots + 6) (lw_Z below #[Value.ref b] s) D G ρ 9 821 [some (xR 40 0 0), some (xR 0 0 0), some (xR 20 0 0), some (xR 26 0 0), some (xI i), some (xI k), some (xI v), x7, x8] [] N
      refine xl_st hC hc hs (xs_goto (t := 2181) dL_law_821 (by decide)) ?_
      show XWW p l e room_1 s m #[Value.ref b] below meth c (cells + 1) (slots + 6) (lw_Z below #[Value.ref b] s) D G ρ 9 2181 [some (xR 40 0 0), some (xR 0 0 0), some (xR 20 0 0), some (xR 26 0 0), some (xI i), some (xI k), some (xI v), x7, x8] [] N
      exact next _ _ _ _ N hR
    · show XWW p l e room_1 s m #[Value.ref b] below meth c (cells + 1) (slots + 6) (lw_Z below #[Value.ref b] s) D G ρ 9 809 [some (xR 40 0 0), some (xR 0 0 0), some (xR 20 0 0), some (xR 26 0 0), some (xI i), some (xI k), some (xI v), x7, x8] [] N
      refine xl_st hC hc hs (xs_aload_n (i := 3) dL_law_809 rfl) ?_
      show XWW p l e room_1 s m #[Value.ref b] below meth c (cells + 1) (slots + 6) (lw_Z below #[Value.ref b] s) D G ρ 9 810 [some (xR 40 0 0), some (xR 0 0 0), some (xR 20 0 0), some (xR 26 0 0), some (xI i), some (xI k), some (xI v), x7, x8] [xR 26 0 0] N
      refine xl_st hC hc hs (xs_iconst dL_law_810) ?_
      show XWW p l e room_1 s m #[Value.ref b] below meth c (cells + 1) (slots + 6) (lw_Z below #[Value.ref b] s) D G ρ 9 811 [some (xR 40 0 0), some (xR 0 0 0), some (xR 20 0 0), some (xR 26 0 0), some (xI i), some (xI k), some (xI v), x7, x8] [xI 0, xR 26 0 0] N
      refine xl_st hC hc hs (xs_lald dL_law_811) ⟨⟨rfl, rfl, rfl, rfl⟩, ?_⟩
      show XWW p l e room_1 s m #[Value.ref b] below meth c (cells + 1) (slots + 6) (lw_Z below #[Value.ref b] s) D G ρ 9 812 [some (xR 40 0 0), some (xR 0 0 0), some (xR 20 0 0), some (xR 26 0 0), some (xI i), some (xI k), some (xI v), x7, x8] [xJ (N 26 0 0 0)] N
      refine xl_st hC hc hs (xs_iload dL_law_812) ?_
      show XWW p l e room_1 s m #[Value.ref b] below meth c (cells + 1) (slots + 6) (lw_Z below #[Value.ref b] s) D G ρ 9 814 [some (xR 40 0 0), some (xR 0 0 0), some (xR 20 0 0), some (xR 26 0 0), some (xI i), some (xI k), some (xI v), x7, x8] [xI v, xJ (N 26 0 0 0)] N
      refine xl_st hC hc hs (xs_i2lw dL_law_814) ?_
      show XWW p l e room_1 s m #[Value.ref b] below meth c (cells + 1) (slots + 6) (lw_Z below #[Value.ref b] s) D G ρ 9 815 [some (xR 40 0 0), some (xR 0 0 0), some (xR 20 0 0), some (xR 26 0 0), some (xI i), some (xI k), some (xI v), x7, x8] [xJ (w32 v), xJ (N 26 0 0 0)] N
      refine xl_st hC hc hs (xs_lcmp dL_law_815) ⟨h26 q, ?_⟩
      show XWW p l e room_1 s m #[Value.ref b] below meth c (cells + 1) (slots + 6) (lw_Z below #[Value.ref b] s) D G ρ 9 816 [some (xR 40 0 0), some (xR 0 0 0), some (xR 20 0 0), some (xR 26 0 0), some (xI i), some (xI k), some (xI v), x7, x8] [xI 0] N
      refine xl_st hC hc hs (xs_if_eq (t := 821) dL_law_816 (by decide)) ⟨x_r0, fun _ => ?_, fun q => absurd rfl q⟩
      show XWW p l e room_1 s m #[Value.ref b] below meth c (cells + 1) (slots + 6) (lw_Z below #[Value.ref b] s) D G ρ 9 821 [some (xR 40 0 0), some (xR 0 0 0), some (xR 20 0 0), some (xR 26 0 0), some (xI i), some (xI k), some (xI v), x7, x8] [] N
      refine xl_st hC hc hs (xs_goto (t := 2181) dL_law_821 (by decide)) ?_
      show XWW p l e room_1 s m #[Value.ref b] below meth c (cells + 1) (slots + 6) (lw_Z below #[Value.ref b] s) D G ρ 9 2181 [some (xR 40 0 0), some (xR 0 0 0), some (xR 20 0 0), some (xR 26 0 0), some (xI i), some (xI k), some (xI v), x7, x8] [] N
      exact next _ _ _ _ N hR
  show XWW p l e room_1 s m #[Value.ref b] below meth c cells slots (lw_Z below #[Value.ref b] s) D G ρ 9 756 [some (xR 40 0 0), some (xR 0 0 0), some (xR 20 0 0), some (xR 26 0 0), some (xI i), x5, x6, x7, x8] [] M
  refine xl_st hC c0 s0 (xs_aload_n (i := 1) dL_law_756 rfl) ?_
  show XWW p l e room_1 s m #[Value.ref b] below meth c cells slots (lw_Z below #[Value.ref b] s) D G ρ 9 757 [some (xR 40 0 0), some (xR 0 0 0), some (xR 20 0 0), some (xR 26 0 0), some (xI i), x5, x6, x7, x8] [xR 0 0 0] M
  refine xl_st hC c0 s0 (xs_aload_n (i := 0) dL_law_757 rfl) ?_
  show XWW p l e room_1 s m #[Value.ref b] below meth c cells slots (lw_Z below #[Value.ref b] s) D G ρ 9 758 [some (xR 40 0 0), some (xR 0 0 0), some (xR 20 0 0), some (xR 26 0 0), some (xI i), x5, x6, x7, x8] [xR 40 0 0, xR 0 0 0] M
  refine xl_st hC c0 s0 (xs_iload dL_law_758) ?_
  show XWW p l e room_1 s m #[Value.ref b] below meth c cells slots (lw_Z below #[Value.ref b] s) D G ρ 9 760 [some (xR 40 0 0), some (xR 0 0 0), some (xR 20 0 0), some (xR 26 0 0), some (xI i), x5, x6, x7, x8] [xI i, xR 40 0 0, xR 0 0 0] M
  refine xl_st hC c0 s0 (xs_iconst dL_law_760) ?_
  show XWW p l e room_1 s m #[Value.ref b] below meth c cells slots (lw_Z below #[Value.ref b] s) D G ρ 9 761 [some (xR 40 0 0), some (xR 0 0 0), some (xR 20 0 0), some (xR 26 0 0), some (xI i), x5, x6, x7, x8] [xI 1, xI i, xR 40 0 0, xR 0 0 0] M
  refine xl_st hC c0 s0 (xs_iadd dL_law_761) ?_
  show XWW p l e room_1 s m #[Value.ref b] below meth c cells slots (lw_Z below #[Value.ref b] s) D G ρ 9 762 [some (xR 40 0 0), some (xR 0 0 0), some (xR 20 0 0), some (xR 26 0 0), some (xI i), x5, x6, x7, x8] [xI (i + 1), xR 40 0 0, xR 0 0 0] M
  refine xl_sld hC hX (by omega) (by omega) dL_law_762 ?_
  show XWW p l e room_1 s m #[Value.ref b] below meth c cells slots (lw_Z below #[Value.ref b] s) D G ρ 9 763 [some (xR 40 0 0), some (xR 0 0 0), some (xR 20 0 0), some (xR 26 0 0), some (xI i), x5, x6, x7, x8] [xI (SLx xs (i + 1)), xR 0 0 0] M
  refine xl_st hC c0 s0 (xs_aload_n (i := 0) dL_law_763 rfl) ?_
  show XWW p l e room_1 s m #[Value.ref b] below meth c cells slots (lw_Z below #[Value.ref b] s) D G ρ 9 764 [some (xR 40 0 0), some (xR 0 0 0), some (xR 20 0 0), some (xR 26 0 0), some (xI i), x5, x6, x7, x8] [xR 40 0 0, xI (SLx xs (i + 1)), xR 0 0 0] M
  refine xl_st hC c0 s0 (xs_iload dL_law_764) ?_
  show XWW p l e room_1 s m #[Value.ref b] below meth c cells slots (lw_Z below #[Value.ref b] s) D G ρ 9 766 [some (xR 40 0 0), some (xR 0 0 0), some (xR 20 0 0), some (xR 26 0 0), some (xI i), x5, x6, x7, x8] [xI i, xR 40 0 0, xI (SLx xs (i + 1)), xR 0 0 0] M
  refine xl_st hC c0 s0 (xs_iconst dL_law_766) ?_
  show XWW p l e room_1 s m #[Value.ref b] below meth c cells slots (lw_Z below #[Value.ref b] s) D G ρ 9 767 [some (xR 40 0 0), some (xR 0 0 0), some (xR 20 0 0), some (xR 26 0 0), some (xI i), x5, x6, x7, x8] [xI 2, xI i, xR 40 0 0, xI (SLx xs (i + 1)), xR 0 0 0] M
  refine xl_st hC c0 s0 (xs_iadd dL_law_767) ?_
  show XWW p l e room_1 s m #[Value.ref b] below meth c cells slots (lw_Z below #[Value.ref b] s) D G ρ 9 768 [some (xR 40 0 0), some (xR 0 0 0), some (xR 20 0 0), some (xR 26 0 0), some (xI i), x5, x6, x7, x8] [xI (i + 2), xR 40 0 0, xI (SLx xs (i + 1)), xR 0 0 0] M
  refine xl_sld hC hX (by omega) (by omega) dL_law_768 ?_
  show XWW p l e room_1 s m #[Value.ref b] below meth c cells slots (lw_Z below #[Value.ref b] s) D G ρ 9 769 [some (xR 40 0 0), some (xR 0 0 0), some (xR 20 0 0), some (xR 26 0 0), some (xI i), x5, x6, x7, x8] [xI (SLx xs (i + 2)), xI (SLx xs (i + 1)), xR 0 0 0] M
  refine xl_st hC c0 s0 (xs_aload_n (i := 3) dL_law_769 rfl) ?_
  show XWW p l e room_1 s m #[Value.ref b] below meth c cells slots (lw_Z below #[Value.ref b] s) D G ρ 9 770 [some (xR 40 0 0), some (xR 0 0 0), some (xR 20 0 0), some (xR 26 0 0), some (xI i), x5, x6, x7, x8] [xR 26 0 0, xI (SLx xs (i + 2)), xI (SLx xs (i + 1)), xR 0 0 0] M
  refine xl_call (n := 4) (As := [xR 0 0 0, xI (SLx xs (i + 1)), xI (SLx xs (i + 2)), xR 26 0 0]) (st := []) kL_drive ⟨⟨rfl, rfl, by decide, by decide⟩, ⟨by decide, by decide, by decide +kernel⟩, tw_868, tw_869, tw_0, twL_drive⟩ dL_law_770 hC hl hE hc hs rfl (by decide) ⟨(SLx xs (i + 1)), (SLx xs (i + 2)), rfl, lc_drive hZ h (SL_in _ _) (SL_in _ _)⟩ (fun rv N1 hq => ?_)
  obtain ⟨k, rfl, ⟨k0, k3⟩, href⟩ := hq
  show XWW p l e room_1 s m #[Value.ref b] below meth c (cells + 1) (slots + 6) (lw_Z below #[Value.ref b] s) D G ρ 9 773 [some (xR 40 0 0), some (xR 0 0 0), some (xR 20 0 0), some (xR 26 0 0), some (xI i), x5, x6, x7, x8] [xI k] N1
  refine xl_st hC hc hs (xs_istore dL_law_773 (by decide)) ?_
  show XWW p l e room_1 s m #[Value.ref b] below meth c (cells + 1) (slots + 6) (lw_Z below #[Value.ref b] s) D G ρ 9 775 [some (xR 40 0 0), some (xR 0 0 0), some (xR 20 0 0), some (xR 26 0 0), some (xI i), some (xI k), x6, x7, x8] [] N1
  refine xl_st hC hc hs (xs_aload_n (i := 2) dL_law_775 rfl) ?_
  show XWW p l e room_1 s m #[Value.ref b] below meth c (cells + 1) (slots + 6) (lw_Z below #[Value.ref b] s) D G ρ 9 776 [some (xR 40 0 0), some (xR 0 0 0), some (xR 20 0 0), some (xR 26 0 0), some (xI i), some (xI k), x6, x7, x8] [xR 20 0 0] N1
  refine xl_st hC hc hs (xs_aload_n (i := 0) dL_law_776 rfl) ?_
  show XWW p l e room_1 s m #[Value.ref b] below meth c (cells + 1) (slots + 6) (lw_Z below #[Value.ref b] s) D G ρ 9 777 [some (xR 40 0 0), some (xR 0 0 0), some (xR 20 0 0), some (xR 26 0 0), some (xI i), some (xI k), x6, x7, x8] [xR 40 0 0, xR 20 0 0] N1
  refine xl_st hC hc hs (xs_iload dL_law_777) ?_
  show XWW p l e room_1 s m #[Value.ref b] below meth c (cells + 1) (slots + 6) (lw_Z below #[Value.ref b] s) D G ρ 9 779 [some (xR 40 0 0), some (xR 0 0 0), some (xR 20 0 0), some (xR 26 0 0), some (xI i), some (xI k), x6, x7, x8] [xI i, xR 40 0 0, xR 20 0 0] N1
  refine xl_st hC hc hs (xs_iconst dL_law_779) ?_
  show XWW p l e room_1 s m #[Value.ref b] below meth c (cells + 1) (slots + 6) (lw_Z below #[Value.ref b] s) D G ρ 9 780 [some (xR 40 0 0), some (xR 0 0 0), some (xR 20 0 0), some (xR 26 0 0), some (xI i), some (xI k), x6, x7, x8] [xI 1, xI i, xR 40 0 0, xR 20 0 0] N1
  refine xl_st hC hc hs (xs_iadd dL_law_780) ?_
  show XWW p l e room_1 s m #[Value.ref b] below meth c (cells + 1) (slots + 6) (lw_Z below #[Value.ref b] s) D G ρ 9 781 [some (xR 40 0 0), some (xR 0 0 0), some (xR 20 0 0), some (xR 26 0 0), some (xI i), some (xI k), x6, x7, x8] [xI (i + 1), xR 40 0 0, xR 20 0 0] N1
  refine xl_sld hC hX (by omega) (by omega) dL_law_781 ?_
  show XWW p l e room_1 s m #[Value.ref b] below meth c (cells + 1) (slots + 6) (lw_Z below #[Value.ref b] s) D G ρ 9 782 [some (xR 40 0 0), some (xR 0 0 0), some (xR 20 0 0), some (xR 26 0 0), some (xI i), some (xI k), x6, x7, x8] [xI (SLx xs (i + 1)), xR 20 0 0] N1
  refine xl_st hC hc hs (xs_aload_n (i := 0) dL_law_782 rfl) ?_
  show XWW p l e room_1 s m #[Value.ref b] below meth c (cells + 1) (slots + 6) (lw_Z below #[Value.ref b] s) D G ρ 9 783 [some (xR 40 0 0), some (xR 0 0 0), some (xR 20 0 0), some (xR 26 0 0), some (xI i), some (xI k), x6, x7, x8] [xR 40 0 0, xI (SLx xs (i + 1)), xR 20 0 0] N1
  refine xl_st hC hc hs (xs_iload dL_law_783) ?_
  show XWW p l e room_1 s m #[Value.ref b] below meth c (cells + 1) (slots + 6) (lw_Z below #[Value.ref b] s) D G ρ 9 785 [some (xR 40 0 0), some (xR 0 0 0), some (xR 20 0 0), some (xR 26 0 0), some (xI i), some (xI k), x6, x7, x8] [xI i, xR 40 0 0, xI (SLx xs (i + 1)), xR 20 0 0] N1
  refine xl_st hC hc hs (xs_iconst dL_law_785) ?_
  show XWW p l e room_1 s m #[Value.ref b] below meth c (cells + 1) (slots + 6) (lw_Z below #[Value.ref b] s) D G ρ 9 786 [some (xR 40 0 0), some (xR 0 0 0), some (xR 20 0 0), some (xR 26 0 0), some (xI i), some (xI k), x6, x7, x8] [xI 2, xI i, xR 40 0 0, xI (SLx xs (i + 1)), xR 20 0 0] N1
  refine xl_st hC hc hs (xs_iadd dL_law_786) ?_
  show XWW p l e room_1 s m #[Value.ref b] below meth c (cells + 1) (slots + 6) (lw_Z below #[Value.ref b] s) D G ρ 9 787 [some (xR 40 0 0), some (xR 0 0 0), some (xR 20 0 0), some (xR 26 0 0), some (xI i), some (xI k), x6, x7, x8] [xI (i + 2), xR 40 0 0, xI (SLx xs (i + 1)), xR 20 0 0] N1
  refine xl_sld hC hX (by omega) (by omega) dL_law_787 ?_
  show XWW p l e room_1 s m #[Value.ref b] below meth c (cells + 1) (slots + 6) (lw_Z below #[Value.ref b] s) D G ρ 9 788 [some (xR 40 0 0), some (xR 0 0 0), some (xR 20 0 0), some (xR 26 0 0), some (xI i), some (xI k), x6, x7, x8] [xI (SLx xs (i + 2)), xI (SLx xs (i + 1)), xR 20 0 0] N1
  refine xl_st hC hc hs (xs_V2 kX8_drive ⟨⟨rfl, rfl, by decide, by decide⟩, ⟨by decide, by decide, by decide +kernel⟩, ⟨tw_1185, tw_1186, tw_1187, tw_9, tw_1188⟩, 8, TX8, _, rfl, fun G ρ f i k => ⟨_, rfl⟩⟩ dL_law_788) ⟨⟨rfl, xvz_20, by decide⟩, href⟩
set_option maxRecDepth 100000 in
theorem cs_addUnit {p : Program} {l : Launch} {e : Env} {s : State} {m : MethodId} {below : List Frame} {meth : Method} {c : Code} {D : va_G} {G : Nat → ClassId} {ρ : XOb → Nat} {b Ln : Nat} {xs : Nat → Int32} {cells slots : Nat} (hC : XCX p room_1 s m #[Value.ref b] c 0 0 D G ρ cL_law 9 RL (Cond.initialized RL :: xT)) (hl : l.stackTraces = false) (hE : (XEw s ∧ XEs s ∧ XEz (XA ρ s.heap.size) s s.heap) ∧ XEc s) (hX : XSc s ρ b Ln xs) (hc : cells + 1 ≤ 601024) (hs : slots + 6 ≤ 7293034) {i : Int} (h0 : 0 ≤ i) (h6 : i + 6 ≤ Ln) {M : XM} (h : RR M) {x5 x6 x7 x8 : Option XV} (next : ∀ (y5 y6 y7 y8 : Option XV) (N : XM), RR N → XWW p l e room_1 s m #[Value.ref b] below meth c (cells + 1) (slots + 6) (lw_Z below #[Value.ref b] s) D G ρ 9 2181 [some (xR 40 0 0), some (xR 0 0 0), some (xR 20 0 0), some (xR 26 0 0), some (xI i), y5, y6, y7, y8] [] N) : XWW p l e room_1 s m #[Value.ref b] below meth c cells slots (lw_Z below #[Value.ref b] s) D G ρ 9 824 [some (xR 40 0 0), some (xR 0 0 0), some (xR 20 0 0), some (xR 26 0 0), some (xI i), x5, x6, x7, x8] [] M := by
  have c0 : cells ≤ room_1.cells := Nat.le_trans (Nat.le_succ _) hc
  have s0 : slots ≤ room_1.slots := Nat.le_trans (Nat.le_add_right _ 6) hs
  have hZ : ∀ (k : Int) (rv : List XV) (N : XM), 0 ≤ k → k ≤ 3 → LE k rv N → (fun (k : Int) (rv : List XV) (N : XM) => XWW p l e room_1 s m #[Value.ref b] below meth c (cells + 1) (slots + 6) (lw_Z below #[Value.ref b] s) D G ρ 9 895 [some (xR 40 0 0), some (xR 0 0 0), some (xR 20 0 0), some (xR 26 0 0), some (xI i), some (xI k), x6, x7, x8] (rv ++ []) N) k rv N := by
    intro k rv N k0 k3 hLE
    obtain ⟨v, rfl, hR, h5, h26⟩ := hLE
    show XWW p l e room_1 s m #[Value.ref b] below meth c (cells + 1) (slots + 6) (lw_Z below #[Value.ref b] s) D G ρ 9 895 [some (xR 40 0 0), some (xR 0 0 0), some (xR 20 0 0), some (xR 26 0 0), some (xI i), some (xI k), x6, x7, x8] [xI v] N
    refine xl_st hC hc hs (xs_istore dL_law_895 (by decide)) ?_
    show XWW p l e room_1 s m #[Value.ref b] below meth c (cells + 1) (slots + 6) (lw_Z below #[Value.ref b] s) D G ρ 9 897 [some (xR 40 0 0), some (xR 0 0 0), some (xR 20 0 0), some (xR 26 0 0), some (xI i), some (xI k), some (xI v), x7, x8] [] N
    refine xl_st hC hc hs (xs_aload_n (i := 2) dL_law_897 rfl) ?_
    show XWW p l e room_1 s m #[Value.ref b] below meth c (cells + 1) (slots + 6) (lw_Z below #[Value.ref b] s) D G ρ 9 898 [some (xR 40 0 0), some (xR 0 0 0), some (xR 20 0 0), some (xR 26 0 0), some (xI i), some (xI k), some (xI v), x7, x8] [xR 20 0 0] N
    refine xl_st hC hc hs (xs_V0 kX8_thrown ⟨⟨rfl, rfl, by decide, by decide⟩, ⟨by decide, by decide, by decide +kernel⟩, ⟨tw_1091, tw_1092, tw_1093, tw_9, tw_1094⟩, 8, TX8, _, rfl, fun G ρ f i k => ⟨_, rfl⟩⟩ dL_law_898) ⟨⟨rfl, xvz_20, by decide⟩, ⟨rfl, xvz_20⟩, ?_⟩
    show XWW p l e room_1 s m #[Value.ref b] below meth c (cells + 1) (slots + 6) (lw_Z below #[Value.ref b] s) D G ρ 9 901 [some (xR 40 0 0), some (xR 0 0 0), some (xR 20 0 0), some (xR 26 0 0), some (xI i), some (xI k), some (xI v), x7, x8] [xI (N 20 0 0 5)] N
    refine xl_st hC hc hs (xs_iload dL_law_901) ?_
    show XWW p l e room_1 s m #[Value.ref b] below meth c (cells + 1) (slots + 6) (lw_Z below #[Value.ref b] s) D G ρ 9 903 [some (xR 40 0 0), some (xR 0 0 0), some (xR 20 0 0), some (xR 26 0 0), some (xI i), some (xI k), some (xI v), x7, x8] [xI k, xI (N 20 0 0 5)] N
    refine xl_st hC hc hs (xs_icmp_eq (t := 908) dL_law_903 (by decide)) ⟨⟨by rw [h5]; exact ⟨by omega, by omega⟩, ⟨by omega, by omega⟩⟩, fun _ => ?_, fun q => absurd h5 q⟩
    show XWW p l e room_1 s m #[Value.ref b] below meth c (cells + 1) (slots + 6) (lw_Z below #[Value.ref b] s) D G ρ 9 908 [some (xR 40 0 0), some (xR 0 0 0), some (xR 20 0 0), some (xR 26 0 0), some (xI i), some (xI k), some (xI v), x7, x8] [] N
    refine xl_st hC hc hs (xs_iload dL_law_908) ?_
    show XWW p l e room_1 s m #[Value.ref b] below meth c (cells + 1) (slots + 6) (lw_Z below #[Value.ref b] s) D G ρ 9 910 [some (xR 40 0 0), some (xR 0 0 0), some (xR 20 0 0), some (xR 26 0 0), some (xI i), some (xI k), some (xI v), x7, x8] [xI k] N
    refine xl_st hC hc hs (xs_if_ne (t := 925) dL_law_910 (by decide)) ⟨⟨by omega, by omega⟩, fun _ => ?_, fun q => ?_⟩
    · show XWW p l e room_1 s m #[Value.ref b] below meth c (cells + 1) (slots + 6) (lw_Z below #[Value.ref b] s) D G ρ 9 925 [some (xR 40 0 0), some (xR 0 0 0), some (xR 20 0 0), some (xR 26 0 0), some (xI i), some (xI k), some (xI v), x7, x8] [] N
      refine xl_st hC hc hs (xs_goto (t := 2181) dL_law_925 (by decide)) ?_
      show XWW p l e room_1 s m #[Value.ref b] below meth c (cells + 1) (slots + 6) (lw_Z below #[Value.ref b] s) D G ρ 9 2181 [some (xR 40 0 0), some (xR 0 0 0), some (xR 20 0 0), some (xR 26 0 0), some (xI i), some (xI k), some (xI v), x7, x8] [] N
      exact next _ _ _ _ N hR
    · show XWW p l e room_1 s m #[Value.ref b] below meth c (cells + 1) (slots + 6) (lw_Z below #[Value.ref b] s) D G ρ 9 913 [some (xR 40 0 0), some (xR 0 0 0), some (xR 20 0 0), some (xR 26 0 0), some (xI i), some (xI k), some (xI v), x7, x8] [] N
      refine xl_st hC hc hs (xs_aload_n (i := 3) dL_law_913 rfl) ?_
      show XWW p l e room_1 s m #[Value.ref b] below meth c (cells + 1) (slots + 6) (lw_Z below #[Value.ref b] s) D G ρ 9 914 [some (xR 40 0 0), some (xR 0 0 0), some (xR 20 0 0), some (xR 26 0 0), some (xI i), some (xI k), some (xI v), x7, x8] [xR 26 0 0] N
      refine xl_st hC hc hs (xs_iconst dL_law_914) ?_
      show XWW p l e room_1 s m #[Value.ref b] below meth c (cells + 1) (slots + 6) (lw_Z below #[Value.ref b] s) D G ρ 9 915 [some (xR 40 0 0), some (xR 0 0 0), some (xR 20 0 0), some (xR 26 0 0), some (xI i), some (xI k), some (xI v), x7, x8] [xI 0, xR 26 0 0] N
      refine xl_st hC hc hs (xs_lald dL_law_915) ⟨⟨rfl, rfl, rfl, rfl⟩, ?_⟩
      show XWW p l e room_1 s m #[Value.ref b] below meth c (cells + 1) (slots + 6) (lw_Z below #[Value.ref b] s) D G ρ 9 916 [some (xR 40 0 0), some (xR 0 0 0), some (xR 20 0 0), some (xR 26 0 0), some (xI i), some (xI k), some (xI v), x7, x8] [xJ (N 26 0 0 0)] N
      refine xl_st hC hc hs (xs_iload dL_law_916) ?_
      show XWW p l e room_1 s m #[Value.ref b] below meth c (cells + 1) (slots + 6) (lw_Z below #[Value.ref b] s) D G ρ 9 918 [some (xR 40 0 0), some (xR 0 0 0), some (xR 20 0 0), some (xR 26 0 0), some (xI i), some (xI k), some (xI v), x7, x8] [xI v, xJ (N 26 0 0 0)] N
      refine xl_st hC hc hs (xs_i2lw dL_law_918) ?_
      show XWW p l e room_1 s m #[Value.ref b] below meth c (cells + 1) (slots + 6) (lw_Z below #[Value.ref b] s) D G ρ 9 919 [some (xR 40 0 0), some (xR 0 0 0), some (xR 20 0 0), some (xR 26 0 0), some (xI i), some (xI k), some (xI v), x7, x8] [xJ (w32 v), xJ (N 26 0 0 0)] N
      refine xl_st hC hc hs (xs_lcmp dL_law_919) ⟨h26 q, ?_⟩
      show XWW p l e room_1 s m #[Value.ref b] below meth c (cells + 1) (slots + 6) (lw_Z below #[Value.ref b] s) D G ρ 9 920 [some (xR 40 0 0), some (xR 0 0 0), some (xR 20 0 0), some (xR 26 0 0), some (xI i), some (xI k), some (xI v), x7, x8] [xI 0] N
      refine xl_st hC hc hs (xs_if_eq (t := 925) dL_law_920 (by decide)) ⟨x_r0, fun _ => ?_, fun q => absurd rfl q⟩
      show XWW p l e room_1 s m #[Value.ref b] below meth c (cells + 1) (slots + 6) (lw_Z below #[Value.ref b] s) D G ρ 9 925 [some (xR 40 0 0), some (xR 0 0 0), some (xR 20 0 0), some (xR 26 0 0), some (xI i), some (xI k), some (xI v), x7, x8] [] N
      refine xl_st hC hc hs (xs_goto (t := 2181) dL_law_925 (by decide)) ?_
      show XWW p l e room_1 s m #[Value.ref b] below meth c (cells + 1) (slots + 6) (lw_Z below #[Value.ref b] s) D G ρ 9 2181 [some (xR 40 0 0), some (xR 0 0 0), some (xR 20 0 0), some (xR 26 0 0), some (xI i), some (xI k), some (xI v), x7, x8] [] N
      exact next _ _ _ _ N hR
  show XWW p l e room_1 s m #[Value.ref b] below meth c cells slots (lw_Z below #[Value.ref b] s) D G ρ 9 824 [some (xR 40 0 0), some (xR 0 0 0), some (xR 20 0 0), some (xR 26 0 0), some (xI i), x5, x6, x7, x8] [] M
  refine xl_st hC c0 s0 (xs_aload_n (i := 1) dL_law_824 rfl) ?_
  show XWW p l e room_1 s m #[Value.ref b] below meth c cells slots (lw_Z below #[Value.ref b] s) D G ρ 9 825 [some (xR 40 0 0), some (xR 0 0 0), some (xR 20 0 0), some (xR 26 0 0), some (xI i), x5, x6, x7, x8] [xR 0 0 0] M
  refine xl_st hC c0 s0 (xs_aload_n (i := 0) dL_law_825 rfl) ?_
  show XWW p l e room_1 s m #[Value.ref b] below meth c cells slots (lw_Z below #[Value.ref b] s) D G ρ 9 826 [some (xR 40 0 0), some (xR 0 0 0), some (xR 20 0 0), some (xR 26 0 0), some (xI i), x5, x6, x7, x8] [xR 40 0 0, xR 0 0 0] M
  refine xl_st hC c0 s0 (xs_iload dL_law_826) ?_
  show XWW p l e room_1 s m #[Value.ref b] below meth c cells slots (lw_Z below #[Value.ref b] s) D G ρ 9 828 [some (xR 40 0 0), some (xR 0 0 0), some (xR 20 0 0), some (xR 26 0 0), some (xI i), x5, x6, x7, x8] [xI i, xR 40 0 0, xR 0 0 0] M
  refine xl_st hC c0 s0 (xs_iconst dL_law_828) ?_
  show XWW p l e room_1 s m #[Value.ref b] below meth c cells slots (lw_Z below #[Value.ref b] s) D G ρ 9 829 [some (xR 40 0 0), some (xR 0 0 0), some (xR 20 0 0), some (xR 26 0 0), some (xI i), x5, x6, x7, x8] [xI 1, xI i, xR 40 0 0, xR 0 0 0] M
  refine xl_st hC c0 s0 (xs_iadd dL_law_829) ?_
  show XWW p l e room_1 s m #[Value.ref b] below meth c cells slots (lw_Z below #[Value.ref b] s) D G ρ 9 830 [some (xR 40 0 0), some (xR 0 0 0), some (xR 20 0 0), some (xR 26 0 0), some (xI i), x5, x6, x7, x8] [xI (i + 1), xR 40 0 0, xR 0 0 0] M
  refine xl_sld hC hX (by omega) (by omega) dL_law_830 ?_
  show XWW p l e room_1 s m #[Value.ref b] below meth c cells slots (lw_Z below #[Value.ref b] s) D G ρ 9 831 [some (xR 40 0 0), some (xR 0 0 0), some (xR 20 0 0), some (xR 26 0 0), some (xI i), x5, x6, x7, x8] [xI (SLx xs (i + 1)), xR 0 0 0] M
  refine xl_st hC c0 s0 (xs_aload_n (i := 0) dL_law_831 rfl) ?_
  show XWW p l e room_1 s m #[Value.ref b] below meth c cells slots (lw_Z below #[Value.ref b] s) D G ρ 9 832 [some (xR 40 0 0), some (xR 0 0 0), some (xR 20 0 0), some (xR 26 0 0), some (xI i), x5, x6, x7, x8] [xR 40 0 0, xI (SLx xs (i + 1)), xR 0 0 0] M
  refine xl_st hC c0 s0 (xs_iload dL_law_832) ?_
  show XWW p l e room_1 s m #[Value.ref b] below meth c cells slots (lw_Z below #[Value.ref b] s) D G ρ 9 834 [some (xR 40 0 0), some (xR 0 0 0), some (xR 20 0 0), some (xR 26 0 0), some (xI i), x5, x6, x7, x8] [xI i, xR 40 0 0, xI (SLx xs (i + 1)), xR 0 0 0] M
  refine xl_st hC c0 s0 (xs_iconst dL_law_834) ?_
  show XWW p l e room_1 s m #[Value.ref b] below meth c cells slots (lw_Z below #[Value.ref b] s) D G ρ 9 835 [some (xR 40 0 0), some (xR 0 0 0), some (xR 20 0 0), some (xR 26 0 0), some (xI i), x5, x6, x7, x8] [xI 2, xI i, xR 40 0 0, xI (SLx xs (i + 1)), xR 0 0 0] M
  refine xl_st hC c0 s0 (xs_iadd dL_law_835) ?_
  show XWW p l e room_1 s m #[Value.ref b] below meth c cells slots (lw_Z below #[Value.ref b] s) D G ρ 9 836 [some (xR 40 0 0), some (xR 0 0 0), some (xR 20 0 0), some (xR 26 0 0), some (xI i), x5, x6, x7, x8] [xI (i + 2), xR 40 0 0, xI (SLx xs (i + 1)), xR 0 0 0] M
  refine xl_sld hC hX (by omega) (by omega) dL_law_836 ?_
  show XWW p l e room_1 s m #[Value.ref b] below meth c cells slots (lw_Z below #[Value.ref b] s) D G ρ 9 837 [some (xR 40 0 0), some (xR 0 0 0), some (xR 20 0 0), some (xR 26 0 0), some (xI i), x5, x6, x7, x8] [xI (SLx xs (i + 2)), xI (SLx xs (i + 1)), xR 0 0 0] M
  refine xl_st hC c0 s0 (xs_aload_n (i := 0) dL_law_837 rfl) ?_
  show XWW p l e room_1 s m #[Value.ref b] below meth c cells slots (lw_Z below #[Value.ref b] s) D G ρ 9 838 [some (xR 40 0 0), some (xR 0 0 0), some (xR 20 0 0), some (xR 26 0 0), some (xI i), x5, x6, x7, x8] [xR 40 0 0, xI (SLx xs (i + 2)), xI (SLx xs (i + 1)), xR 0 0 0] M
  refine xl_st hC c0 s0 (xs_iload dL_law_838) ?_
  show XWW p l e room_1 s m #[Value.ref b] below meth c cells slots (lw_Z below #[Value.ref b] s) D G ρ 9 840 [some (xR 40 0 0), some (xR 0 0 0), some (xR 20 0 0), some (xR 26 0 0), some (xI i), x5, x6, x7, x8] [xI i, xR 40 0 0, xI (SLx xs (i + 2)), xI (SLx xs (i + 1)), xR 0 0 0] M
  refine xl_st hC c0 s0 (xs_iconst dL_law_840) ?_
  show XWW p l e room_1 s m #[Value.ref b] below meth c cells slots (lw_Z below #[Value.ref b] s) D G ρ 9 841 [some (xR 40 0 0), some (xR 0 0 0), some (xR 20 0 0), some (xR 26 0 0), some (xI i), x5, x6, x7, x8] [xI 3, xI i, xR 40 0 0, xI (SLx xs (i + 2)), xI (SLx xs (i + 1)), xR 0 0 0] M
  refine xl_st hC c0 s0 (xs_iadd dL_law_841) ?_
  show XWW p l e room_1 s m #[Value.ref b] below meth c cells slots (lw_Z below #[Value.ref b] s) D G ρ 9 842 [some (xR 40 0 0), some (xR 0 0 0), some (xR 20 0 0), some (xR 26 0 0), some (xI i), x5, x6, x7, x8] [xI (i + 3), xR 40 0 0, xI (SLx xs (i + 2)), xI (SLx xs (i + 1)), xR 0 0 0] M
  refine xl_sld hC hX (by omega) (by omega) dL_law_842 ?_
  show XWW p l e room_1 s m #[Value.ref b] below meth c cells slots (lw_Z below #[Value.ref b] s) D G ρ 9 843 [some (xR 40 0 0), some (xR 0 0 0), some (xR 20 0 0), some (xR 26 0 0), some (xI i), x5, x6, x7, x8] [xI (SLx xs (i + 3)), xI (SLx xs (i + 2)), xI (SLx xs (i + 1)), xR 0 0 0] M
  refine xl_st hC c0 s0 (xs_aload_n (i := 0) dL_law_843 rfl) ?_
  show XWW p l e room_1 s m #[Value.ref b] below meth c cells slots (lw_Z below #[Value.ref b] s) D G ρ 9 844 [some (xR 40 0 0), some (xR 0 0 0), some (xR 20 0 0), some (xR 26 0 0), some (xI i), x5, x6, x7, x8] [xR 40 0 0, xI (SLx xs (i + 3)), xI (SLx xs (i + 2)), xI (SLx xs (i + 1)), xR 0 0 0] M
  refine xl_st hC c0 s0 (xs_iload dL_law_844) ?_
  show XWW p l e room_1 s m #[Value.ref b] below meth c cells slots (lw_Z below #[Value.ref b] s) D G ρ 9 846 [some (xR 40 0 0), some (xR 0 0 0), some (xR 20 0 0), some (xR 26 0 0), some (xI i), x5, x6, x7, x8] [xI i, xR 40 0 0, xI (SLx xs (i + 3)), xI (SLx xs (i + 2)), xI (SLx xs (i + 1)), xR 0 0 0] M
  refine xl_st hC c0 s0 (xs_iconst dL_law_846) ?_
  show XWW p l e room_1 s m #[Value.ref b] below meth c cells slots (lw_Z below #[Value.ref b] s) D G ρ 9 847 [some (xR 40 0 0), some (xR 0 0 0), some (xR 20 0 0), some (xR 26 0 0), some (xI i), x5, x6, x7, x8] [xI 4, xI i, xR 40 0 0, xI (SLx xs (i + 3)), xI (SLx xs (i + 2)), xI (SLx xs (i + 1)), xR 0 0 0] M
  refine xl_st hC c0 s0 (xs_iadd dL_law_847) ?_
  show XWW p l e room_1 s m #[Value.ref b] below meth c cells slots (lw_Z below #[Value.ref b] s) D G ρ 9 848 [some (xR 40 0 0), some (xR 0 0 0), some (xR 20 0 0), some (xR 26 0 0), some (xI i), x5, x6, x7, x8] [xI (i + 4), xR 40 0 0, xI (SLx xs (i + 3)), xI (SLx xs (i + 2)), xI (SLx xs (i + 1)), xR 0 0 0] M
  refine xl_sld hC hX (by omega) (by omega) dL_law_848 ?_
  show XWW p l e room_1 s m #[Value.ref b] below meth c cells slots (lw_Z below #[Value.ref b] s) D G ρ 9 849 [some (xR 40 0 0), some (xR 0 0 0), some (xR 20 0 0), some (xR 26 0 0), some (xI i), x5, x6, x7, x8] [xI (SLx xs (i + 4)), xI (SLx xs (i + 3)), xI (SLx xs (i + 2)), xI (SLx xs (i + 1)), xR 0 0 0] M
  refine xl_st hC c0 s0 (xs_aload_n (i := 0) dL_law_849 rfl) ?_
  show XWW p l e room_1 s m #[Value.ref b] below meth c cells slots (lw_Z below #[Value.ref b] s) D G ρ 9 850 [some (xR 40 0 0), some (xR 0 0 0), some (xR 20 0 0), some (xR 26 0 0), some (xI i), x5, x6, x7, x8] [xR 40 0 0, xI (SLx xs (i + 4)), xI (SLx xs (i + 3)), xI (SLx xs (i + 2)), xI (SLx xs (i + 1)), xR 0 0 0] M
  refine xl_st hC c0 s0 (xs_iload dL_law_850) ?_
  show XWW p l e room_1 s m #[Value.ref b] below meth c cells slots (lw_Z below #[Value.ref b] s) D G ρ 9 852 [some (xR 40 0 0), some (xR 0 0 0), some (xR 20 0 0), some (xR 26 0 0), some (xI i), x5, x6, x7, x8] [xI i, xR 40 0 0, xI (SLx xs (i + 4)), xI (SLx xs (i + 3)), xI (SLx xs (i + 2)), xI (SLx xs (i + 1)), xR 0 0 0] M
  refine xl_st hC c0 s0 (xs_iconst dL_law_852) ?_
  show XWW p l e room_1 s m #[Value.ref b] below meth c cells slots (lw_Z below #[Value.ref b] s) D G ρ 9 853 [some (xR 40 0 0), some (xR 0 0 0), some (xR 20 0 0), some (xR 26 0 0), some (xI i), x5, x6, x7, x8] [xI 5, xI i, xR 40 0 0, xI (SLx xs (i + 4)), xI (SLx xs (i + 3)), xI (SLx xs (i + 2)), xI (SLx xs (i + 1)), xR 0 0 0] M
  refine xl_st hC c0 s0 (xs_iadd dL_law_853) ?_
  show XWW p l e room_1 s m #[Value.ref b] below meth c cells slots (lw_Z below #[Value.ref b] s) D G ρ 9 854 [some (xR 40 0 0), some (xR 0 0 0), some (xR 20 0 0), some (xR 26 0 0), some (xI i), x5, x6, x7, x8] [xI (i + 5), xR 40 0 0, xI (SLx xs (i + 4)), xI (SLx xs (i + 3)), xI (SLx xs (i + 2)), xI (SLx xs (i + 1)), xR 0 0 0] M
  refine xl_sld hC hX (by omega) (by omega) dL_law_854 ?_
  show XWW p l e room_1 s m #[Value.ref b] below meth c cells slots (lw_Z below #[Value.ref b] s) D G ρ 9 855 [some (xR 40 0 0), some (xR 0 0 0), some (xR 20 0 0), some (xR 26 0 0), some (xI i), x5, x6, x7, x8] [xI (SLx xs (i + 5)), xI (SLx xs (i + 4)), xI (SLx xs (i + 3)), xI (SLx xs (i + 2)), xI (SLx xs (i + 1)), xR 0 0 0] M
  refine xl_st hC c0 s0 (xs_aload_n (i := 3) dL_law_855 rfl) ?_
  show XWW p l e room_1 s m #[Value.ref b] below meth c cells slots (lw_Z below #[Value.ref b] s) D G ρ 9 856 [some (xR 40 0 0), some (xR 0 0 0), some (xR 20 0 0), some (xR 26 0 0), some (xI i), x5, x6, x7, x8] [xR 26 0 0, xI (SLx xs (i + 5)), xI (SLx xs (i + 4)), xI (SLx xs (i + 3)), xI (SLx xs (i + 2)), xI (SLx xs (i + 1)), xR 0 0 0] M
  refine xl_call (n := 7) (As := [xR 0 0 0, xI (SLx xs (i + 1)), xI (SLx xs (i + 2)), xI (SLx xs (i + 3)), xI (SLx xs (i + 4)), xI (SLx xs (i + 5)), xR 26 0 0]) (st := []) kL_addUnit ⟨⟨rfl, rfl, by decide, by decide⟩, ⟨by decide, by decide, by decide +kernel⟩, tw_876, tw_877, tw_0, twL_addUnit⟩ dL_law_856 hC hl hE hc hs rfl (by decide) ⟨(SLx xs (i + 1)), (SLx xs (i + 2)), (SLx xs (i + 3)), (SLx xs (i + 4)), (SLx xs (i + 5)), rfl, lc_addUnit hZ h (SL_in _ _) (SL_in _ _) (SL_in _ _) (SL_in _ _) (SL_in _ _)⟩ (fun rv N1 hq => ?_)
  obtain ⟨k, rfl, ⟨k0, k3⟩, href⟩ := hq
  show XWW p l e room_1 s m #[Value.ref b] below meth c (cells + 1) (slots + 6) (lw_Z below #[Value.ref b] s) D G ρ 9 859 [some (xR 40 0 0), some (xR 0 0 0), some (xR 20 0 0), some (xR 26 0 0), some (xI i), x5, x6, x7, x8] [xI k] N1
  refine xl_st hC hc hs (xs_istore dL_law_859 (by decide)) ?_
  show XWW p l e room_1 s m #[Value.ref b] below meth c (cells + 1) (slots + 6) (lw_Z below #[Value.ref b] s) D G ρ 9 861 [some (xR 40 0 0), some (xR 0 0 0), some (xR 20 0 0), some (xR 26 0 0), some (xI i), some (xI k), x6, x7, x8] [] N1
  refine xl_st hC hc hs (xs_aload_n (i := 2) dL_law_861 rfl) ?_
  show XWW p l e room_1 s m #[Value.ref b] below meth c (cells + 1) (slots + 6) (lw_Z below #[Value.ref b] s) D G ρ 9 862 [some (xR 40 0 0), some (xR 0 0 0), some (xR 20 0 0), some (xR 26 0 0), some (xI i), some (xI k), x6, x7, x8] [xR 20 0 0] N1
  refine xl_st hC hc hs (xs_aload_n (i := 0) dL_law_862 rfl) ?_
  show XWW p l e room_1 s m #[Value.ref b] below meth c (cells + 1) (slots + 6) (lw_Z below #[Value.ref b] s) D G ρ 9 863 [some (xR 40 0 0), some (xR 0 0 0), some (xR 20 0 0), some (xR 26 0 0), some (xI i), some (xI k), x6, x7, x8] [xR 40 0 0, xR 20 0 0] N1
  refine xl_st hC hc hs (xs_iload dL_law_863) ?_
  show XWW p l e room_1 s m #[Value.ref b] below meth c (cells + 1) (slots + 6) (lw_Z below #[Value.ref b] s) D G ρ 9 865 [some (xR 40 0 0), some (xR 0 0 0), some (xR 20 0 0), some (xR 26 0 0), some (xI i), some (xI k), x6, x7, x8] [xI i, xR 40 0 0, xR 20 0 0] N1
  refine xl_st hC hc hs (xs_iconst dL_law_865) ?_
  show XWW p l e room_1 s m #[Value.ref b] below meth c (cells + 1) (slots + 6) (lw_Z below #[Value.ref b] s) D G ρ 9 866 [some (xR 40 0 0), some (xR 0 0 0), some (xR 20 0 0), some (xR 26 0 0), some (xI i), some (xI k), x6, x7, x8] [xI 1, xI i, xR 40 0 0, xR 20 0 0] N1
  refine xl_st hC hc hs (xs_iadd dL_law_866) ?_
  show XWW p l e room_1 s m #[Value.ref b] below meth c (cells + 1) (slots + 6) (lw_Z below #[Value.ref b] s) D G ρ 9 867 [some (xR 40 0 0), some (xR 0 0 0), some (xR 20 0 0), some (xR 26 0 0), some (xI i), some (xI k), x6, x7, x8] [xI (i + 1), xR 40 0 0, xR 20 0 0] N1
  refine xl_sld hC hX (by omega) (by omega) dL_law_867 ?_
  show XWW p l e room_1 s m #[Value.ref b] below meth c (cells + 1) (slots + 6) (lw_Z below #[Value.ref b] s) D G ρ 9 868 [some (xR 40 0 0), some (xR 0 0 0), some (xR 20 0 0), some (xR 26 0 0), some (xI i), some (xI k), x6, x7, x8] [xI (SLx xs (i + 1)), xR 20 0 0] N1
  refine xl_st hC hc hs (xs_aload_n (i := 0) dL_law_868 rfl) ?_
  show XWW p l e room_1 s m #[Value.ref b] below meth c (cells + 1) (slots + 6) (lw_Z below #[Value.ref b] s) D G ρ 9 869 [some (xR 40 0 0), some (xR 0 0 0), some (xR 20 0 0), some (xR 26 0 0), some (xI i), some (xI k), x6, x7, x8] [xR 40 0 0, xI (SLx xs (i + 1)), xR 20 0 0] N1
  refine xl_st hC hc hs (xs_iload dL_law_869) ?_
  show XWW p l e room_1 s m #[Value.ref b] below meth c (cells + 1) (slots + 6) (lw_Z below #[Value.ref b] s) D G ρ 9 871 [some (xR 40 0 0), some (xR 0 0 0), some (xR 20 0 0), some (xR 26 0 0), some (xI i), some (xI k), x6, x7, x8] [xI i, xR 40 0 0, xI (SLx xs (i + 1)), xR 20 0 0] N1
  refine xl_st hC hc hs (xs_iconst dL_law_871) ?_
  show XWW p l e room_1 s m #[Value.ref b] below meth c (cells + 1) (slots + 6) (lw_Z below #[Value.ref b] s) D G ρ 9 872 [some (xR 40 0 0), some (xR 0 0 0), some (xR 20 0 0), some (xR 26 0 0), some (xI i), some (xI k), x6, x7, x8] [xI 2, xI i, xR 40 0 0, xI (SLx xs (i + 1)), xR 20 0 0] N1
  refine xl_st hC hc hs (xs_iadd dL_law_872) ?_
  show XWW p l e room_1 s m #[Value.ref b] below meth c (cells + 1) (slots + 6) (lw_Z below #[Value.ref b] s) D G ρ 9 873 [some (xR 40 0 0), some (xR 0 0 0), some (xR 20 0 0), some (xR 26 0 0), some (xI i), some (xI k), x6, x7, x8] [xI (i + 2), xR 40 0 0, xI (SLx xs (i + 1)), xR 20 0 0] N1
  refine xl_sld hC hX (by omega) (by omega) dL_law_873 ?_
  show XWW p l e room_1 s m #[Value.ref b] below meth c (cells + 1) (slots + 6) (lw_Z below #[Value.ref b] s) D G ρ 9 874 [some (xR 40 0 0), some (xR 0 0 0), some (xR 20 0 0), some (xR 26 0 0), some (xI i), some (xI k), x6, x7, x8] [xI (SLx xs (i + 2)), xI (SLx xs (i + 1)), xR 20 0 0] N1
  refine xl_st hC hc hs (xs_aload_n (i := 0) dL_law_874 rfl) ?_
  show XWW p l e room_1 s m #[Value.ref b] below meth c (cells + 1) (slots + 6) (lw_Z below #[Value.ref b] s) D G ρ 9 875 [some (xR 40 0 0), some (xR 0 0 0), some (xR 20 0 0), some (xR 26 0 0), some (xI i), some (xI k), x6, x7, x8] [xR 40 0 0, xI (SLx xs (i + 2)), xI (SLx xs (i + 1)), xR 20 0 0] N1
  refine xl_st hC hc hs (xs_iload dL_law_875) ?_
  show XWW p l e room_1 s m #[Value.ref b] below meth c (cells + 1) (slots + 6) (lw_Z below #[Value.ref b] s) D G ρ 9 877 [some (xR 40 0 0), some (xR 0 0 0), some (xR 20 0 0), some (xR 26 0 0), some (xI i), some (xI k), x6, x7, x8] [xI i, xR 40 0 0, xI (SLx xs (i + 2)), xI (SLx xs (i + 1)), xR 20 0 0] N1
  refine xl_st hC hc hs (xs_iconst dL_law_877) ?_
  show XWW p l e room_1 s m #[Value.ref b] below meth c (cells + 1) (slots + 6) (lw_Z below #[Value.ref b] s) D G ρ 9 878 [some (xR 40 0 0), some (xR 0 0 0), some (xR 20 0 0), some (xR 26 0 0), some (xI i), some (xI k), x6, x7, x8] [xI 3, xI i, xR 40 0 0, xI (SLx xs (i + 2)), xI (SLx xs (i + 1)), xR 20 0 0] N1
  refine xl_st hC hc hs (xs_iadd dL_law_878) ?_
  show XWW p l e room_1 s m #[Value.ref b] below meth c (cells + 1) (slots + 6) (lw_Z below #[Value.ref b] s) D G ρ 9 879 [some (xR 40 0 0), some (xR 0 0 0), some (xR 20 0 0), some (xR 26 0 0), some (xI i), some (xI k), x6, x7, x8] [xI (i + 3), xR 40 0 0, xI (SLx xs (i + 2)), xI (SLx xs (i + 1)), xR 20 0 0] N1
  refine xl_sld hC hX (by omega) (by omega) dL_law_879 ?_
  show XWW p l e room_1 s m #[Value.ref b] below meth c (cells + 1) (slots + 6) (lw_Z below #[Value.ref b] s) D G ρ 9 880 [some (xR 40 0 0), some (xR 0 0 0), some (xR 20 0 0), some (xR 26 0 0), some (xI i), some (xI k), x6, x7, x8] [xI (SLx xs (i + 3)), xI (SLx xs (i + 2)), xI (SLx xs (i + 1)), xR 20 0 0] N1
  refine xl_st hC hc hs (xs_aload_n (i := 0) dL_law_880 rfl) ?_
  show XWW p l e room_1 s m #[Value.ref b] below meth c (cells + 1) (slots + 6) (lw_Z below #[Value.ref b] s) D G ρ 9 881 [some (xR 40 0 0), some (xR 0 0 0), some (xR 20 0 0), some (xR 26 0 0), some (xI i), some (xI k), x6, x7, x8] [xR 40 0 0, xI (SLx xs (i + 3)), xI (SLx xs (i + 2)), xI (SLx xs (i + 1)), xR 20 0 0] N1
  refine xl_st hC hc hs (xs_iload dL_law_881) ?_
  show XWW p l e room_1 s m #[Value.ref b] below meth c (cells + 1) (slots + 6) (lw_Z below #[Value.ref b] s) D G ρ 9 883 [some (xR 40 0 0), some (xR 0 0 0), some (xR 20 0 0), some (xR 26 0 0), some (xI i), some (xI k), x6, x7, x8] [xI i, xR 40 0 0, xI (SLx xs (i + 3)), xI (SLx xs (i + 2)), xI (SLx xs (i + 1)), xR 20 0 0] N1
  refine xl_st hC hc hs (xs_iconst dL_law_883) ?_
  show XWW p l e room_1 s m #[Value.ref b] below meth c (cells + 1) (slots + 6) (lw_Z below #[Value.ref b] s) D G ρ 9 884 [some (xR 40 0 0), some (xR 0 0 0), some (xR 20 0 0), some (xR 26 0 0), some (xI i), some (xI k), x6, x7, x8] [xI 4, xI i, xR 40 0 0, xI (SLx xs (i + 3)), xI (SLx xs (i + 2)), xI (SLx xs (i + 1)), xR 20 0 0] N1
  refine xl_st hC hc hs (xs_iadd dL_law_884) ?_
  show XWW p l e room_1 s m #[Value.ref b] below meth c (cells + 1) (slots + 6) (lw_Z below #[Value.ref b] s) D G ρ 9 885 [some (xR 40 0 0), some (xR 0 0 0), some (xR 20 0 0), some (xR 26 0 0), some (xI i), some (xI k), x6, x7, x8] [xI (i + 4), xR 40 0 0, xI (SLx xs (i + 3)), xI (SLx xs (i + 2)), xI (SLx xs (i + 1)), xR 20 0 0] N1
  refine xl_sld hC hX (by omega) (by omega) dL_law_885 ?_
  show XWW p l e room_1 s m #[Value.ref b] below meth c (cells + 1) (slots + 6) (lw_Z below #[Value.ref b] s) D G ρ 9 886 [some (xR 40 0 0), some (xR 0 0 0), some (xR 20 0 0), some (xR 26 0 0), some (xI i), some (xI k), x6, x7, x8] [xI (SLx xs (i + 4)), xI (SLx xs (i + 3)), xI (SLx xs (i + 2)), xI (SLx xs (i + 1)), xR 20 0 0] N1
  refine xl_st hC hc hs (xs_aload_n (i := 0) dL_law_886 rfl) ?_
  show XWW p l e room_1 s m #[Value.ref b] below meth c (cells + 1) (slots + 6) (lw_Z below #[Value.ref b] s) D G ρ 9 887 [some (xR 40 0 0), some (xR 0 0 0), some (xR 20 0 0), some (xR 26 0 0), some (xI i), some (xI k), x6, x7, x8] [xR 40 0 0, xI (SLx xs (i + 4)), xI (SLx xs (i + 3)), xI (SLx xs (i + 2)), xI (SLx xs (i + 1)), xR 20 0 0] N1
  refine xl_st hC hc hs (xs_iload dL_law_887) ?_
  show XWW p l e room_1 s m #[Value.ref b] below meth c (cells + 1) (slots + 6) (lw_Z below #[Value.ref b] s) D G ρ 9 889 [some (xR 40 0 0), some (xR 0 0 0), some (xR 20 0 0), some (xR 26 0 0), some (xI i), some (xI k), x6, x7, x8] [xI i, xR 40 0 0, xI (SLx xs (i + 4)), xI (SLx xs (i + 3)), xI (SLx xs (i + 2)), xI (SLx xs (i + 1)), xR 20 0 0] N1
  refine xl_st hC hc hs (xs_iconst dL_law_889) ?_
  show XWW p l e room_1 s m #[Value.ref b] below meth c (cells + 1) (slots + 6) (lw_Z below #[Value.ref b] s) D G ρ 9 890 [some (xR 40 0 0), some (xR 0 0 0), some (xR 20 0 0), some (xR 26 0 0), some (xI i), some (xI k), x6, x7, x8] [xI 5, xI i, xR 40 0 0, xI (SLx xs (i + 4)), xI (SLx xs (i + 3)), xI (SLx xs (i + 2)), xI (SLx xs (i + 1)), xR 20 0 0] N1
  refine xl_st hC hc hs (xs_iadd dL_law_890) ?_
  show XWW p l e room_1 s m #[Value.ref b] below meth c (cells + 1) (slots + 6) (lw_Z below #[Value.ref b] s) D G ρ 9 891 [some (xR 40 0 0), some (xR 0 0 0), some (xR 20 0 0), some (xR 26 0 0), some (xI i), some (xI k), x6, x7, x8] [xI (i + 5), xR 40 0 0, xI (SLx xs (i + 4)), xI (SLx xs (i + 3)), xI (SLx xs (i + 2)), xI (SLx xs (i + 1)), xR 20 0 0] N1
  refine xl_sld hC hX (by omega) (by omega) dL_law_891 ?_
  show XWW p l e room_1 s m #[Value.ref b] below meth c (cells + 1) (slots + 6) (lw_Z below #[Value.ref b] s) D G ρ 9 892 [some (xR 40 0 0), some (xR 0 0 0), some (xR 20 0 0), some (xR 26 0 0), some (xI i), some (xI k), x6, x7, x8] [xI (SLx xs (i + 5)), xI (SLx xs (i + 4)), xI (SLx xs (i + 3)), xI (SLx xs (i + 2)), xI (SLx xs (i + 1)), xR 20 0 0] N1
  refine xl_st hC hc hs (xs_V5 kX8_addUnit ⟨⟨rfl, rfl, by decide, by decide⟩, ⟨by decide, by decide, by decide +kernel⟩, ⟨tw_1196, tw_1197, tw_1198, tw_9, tw_1199⟩, 8, TX8, _, rfl, fun G ρ f i k => ⟨_, rfl⟩⟩ dL_law_892) ⟨⟨rfl, xvz_20, by decide⟩, href⟩
set_option maxRecDepth 100000 in
theorem cs_split {p : Program} {l : Launch} {e : Env} {s : State} {m : MethodId} {below : List Frame} {meth : Method} {c : Code} {D : va_G} {G : Nat → ClassId} {ρ : XOb → Nat} {b Ln : Nat} {xs : Nat → Int32} {cells slots : Nat} (hC : XCX p room_1 s m #[Value.ref b] c 0 0 D G ρ cL_law 9 RL (Cond.initialized RL :: xT)) (hl : l.stackTraces = false) (hE : (XEw s ∧ XEs s ∧ XEz (XA ρ s.heap.size) s s.heap) ∧ XEc s) (hX : XSc s ρ b Ln xs) (hc : cells + 1 ≤ 601024) (hs : slots + 6 ≤ 7293034) {i : Int} (h0 : 0 ≤ i) (h6 : i + 6 ≤ Ln) {M : XM} (h : RR M) {x5 x6 x7 x8 : Option XV} (next : ∀ (y5 y6 y7 y8 : Option XV) (N : XM), RR N → XWW p l e room_1 s m #[Value.ref b] below meth c (cells + 1) (slots + 6) (lw_Z below #[Value.ref b] s) D G ρ 9 2181 [some (xR 40 0 0), some (xR 0 0 0), some (xR 20 0 0), some (xR 26 0 0), some (xI i), y5, y6, y7, y8] [] N) : XWW p l e room_1 s m #[Value.ref b] below meth c cells slots (lw_Z below #[Value.ref b] s) D G ρ 9 928 [some (xR 40 0 0), some (xR 0 0 0), some (xR 20 0 0), some (xR 26 0 0), some (xI i), x5, x6, x7, x8] [] M := by
  have c0 : cells ≤ room_1.cells := Nat.le_trans (Nat.le_succ _) hc
  have s0 : slots ≤ room_1.slots := Nat.le_trans (Nat.le_add_right _ 6) hs
  have hZ : ∀ (k : Int) (rv : List XV) (N : XM), 0 ≤ k → k ≤ 3 → LE k rv N → (fun (k : Int) (rv : List XV) (N : XM) => XWW p l e room_1 s m #[Value.ref b] below meth c (cells + 1) (slots + 6) (lw_Z below #[Value.ref b] s) D G ρ 9 975 [some (xR 40 0 0), some (xR 0 0 0), some (xR 20 0 0), some (xR 26 0 0), some (xI i), some (xI k), x6, x7, x8] (rv ++ []) N) k rv N := by
    intro k rv N k0 k3 hLE
    obtain ⟨v, rfl, hR, h5, h26⟩ := hLE
    show XWW p l e room_1 s m #[Value.ref b] below meth c (cells + 1) (slots + 6) (lw_Z below #[Value.ref b] s) D G ρ 9 975 [some (xR 40 0 0), some (xR 0 0 0), some (xR 20 0 0), some (xR 26 0 0), some (xI i), some (xI k), x6, x7, x8] [xI v] N
    refine xl_st hC hc hs (xs_istore dL_law_975 (by decide)) ?_
    show XWW p l e room_1 s m #[Value.ref b] below meth c (cells + 1) (slots + 6) (lw_Z below #[Value.ref b] s) D G ρ 9 977 [some (xR 40 0 0), some (xR 0 0 0), some (xR 20 0 0), some (xR 26 0 0), some (xI i), some (xI k), some (xI v), x7, x8] [] N
    refine xl_st hC hc hs (xs_aload_n (i := 2) dL_law_977 rfl) ?_
    show XWW p l e room_1 s m #[Value.ref b] below meth c (cells + 1) (slots + 6) (lw_Z below #[Value.ref b] s) D G ρ 9 978 [some (xR 40 0 0), some (xR 0 0 0), some (xR 20 0 0), some (xR 26 0 0), some (xI i), some (xI k), some (xI v), x7, x8] [xR 20 0 0] N
    refine xl_st hC hc hs (xs_V0 kX8_thrown ⟨⟨rfl, rfl, by decide, by decide⟩, ⟨by decide, by decide, by decide +kernel⟩, ⟨tw_1091, tw_1092, tw_1093, tw_9, tw_1094⟩, 8, TX8, _, rfl, fun G ρ f i k => ⟨_, rfl⟩⟩ dL_law_978) ⟨⟨rfl, xvz_20, by decide⟩, ⟨rfl, xvz_20⟩, ?_⟩
    show XWW p l e room_1 s m #[Value.ref b] below meth c (cells + 1) (slots + 6) (lw_Z below #[Value.ref b] s) D G ρ 9 981 [some (xR 40 0 0), some (xR 0 0 0), some (xR 20 0 0), some (xR 26 0 0), some (xI i), some (xI k), some (xI v), x7, x8] [xI (N 20 0 0 5)] N
    refine xl_st hC hc hs (xs_iload dL_law_981) ?_
    show XWW p l e room_1 s m #[Value.ref b] below meth c (cells + 1) (slots + 6) (lw_Z below #[Value.ref b] s) D G ρ 9 983 [some (xR 40 0 0), some (xR 0 0 0), some (xR 20 0 0), some (xR 26 0 0), some (xI i), some (xI k), some (xI v), x7, x8] [xI k, xI (N 20 0 0 5)] N
    refine xl_st hC hc hs (xs_icmp_eq (t := 988) dL_law_983 (by decide)) ⟨⟨by rw [h5]; exact ⟨by omega, by omega⟩, ⟨by omega, by omega⟩⟩, fun _ => ?_, fun q => absurd h5 q⟩
    show XWW p l e room_1 s m #[Value.ref b] below meth c (cells + 1) (slots + 6) (lw_Z below #[Value.ref b] s) D G ρ 9 988 [some (xR 40 0 0), some (xR 0 0 0), some (xR 20 0 0), some (xR 26 0 0), some (xI i), some (xI k), some (xI v), x7, x8] [] N
    refine xl_st hC hc hs (xs_iload dL_law_988) ?_
    show XWW p l e room_1 s m #[Value.ref b] below meth c (cells + 1) (slots + 6) (lw_Z below #[Value.ref b] s) D G ρ 9 990 [some (xR 40 0 0), some (xR 0 0 0), some (xR 20 0 0), some (xR 26 0 0), some (xI i), some (xI k), some (xI v), x7, x8] [xI k] N
    refine xl_st hC hc hs (xs_if_ne (t := 1005) dL_law_990 (by decide)) ⟨⟨by omega, by omega⟩, fun _ => ?_, fun q => ?_⟩
    · show XWW p l e room_1 s m #[Value.ref b] below meth c (cells + 1) (slots + 6) (lw_Z below #[Value.ref b] s) D G ρ 9 1005 [some (xR 40 0 0), some (xR 0 0 0), some (xR 20 0 0), some (xR 26 0 0), some (xI i), some (xI k), some (xI v), x7, x8] [] N
      refine xl_st hC hc hs (xs_goto (t := 2181) dL_law_1005 (by decide)) ?_
      show XWW p l e room_1 s m #[Value.ref b] below meth c (cells + 1) (slots + 6) (lw_Z below #[Value.ref b] s) D G ρ 9 2181 [some (xR 40 0 0), some (xR 0 0 0), some (xR 20 0 0), some (xR 26 0 0), some (xI i), some (xI k), some (xI v), x7, x8] [] N
      exact next _ _ _ _ N hR
    · show XWW p l e room_1 s m #[Value.ref b] below meth c (cells + 1) (slots + 6) (lw_Z below #[Value.ref b] s) D G ρ 9 993 [some (xR 40 0 0), some (xR 0 0 0), some (xR 20 0 0), some (xR 26 0 0), some (xI i), some (xI k), some (xI v), x7, x8] [] N
      refine xl_st hC hc hs (xs_aload_n (i := 3) dL_law_993 rfl) ?_
      show XWW p l e room_1 s m #[Value.ref b] below meth c (cells + 1) (slots + 6) (lw_Z below #[Value.ref b] s) D G ρ 9 994 [some (xR 40 0 0), some (xR 0 0 0), some (xR 20 0 0), some (xR 26 0 0), some (xI i), some (xI k), some (xI v), x7, x8] [xR 26 0 0] N
      refine xl_st hC hc hs (xs_iconst dL_law_994) ?_
      show XWW p l e room_1 s m #[Value.ref b] below meth c (cells + 1) (slots + 6) (lw_Z below #[Value.ref b] s) D G ρ 9 995 [some (xR 40 0 0), some (xR 0 0 0), some (xR 20 0 0), some (xR 26 0 0), some (xI i), some (xI k), some (xI v), x7, x8] [xI 0, xR 26 0 0] N
      refine xl_st hC hc hs (xs_lald dL_law_995) ⟨⟨rfl, rfl, rfl, rfl⟩, ?_⟩
      show XWW p l e room_1 s m #[Value.ref b] below meth c (cells + 1) (slots + 6) (lw_Z below #[Value.ref b] s) D G ρ 9 996 [some (xR 40 0 0), some (xR 0 0 0), some (xR 20 0 0), some (xR 26 0 0), some (xI i), some (xI k), some (xI v), x7, x8] [xJ (N 26 0 0 0)] N
      refine xl_st hC hc hs (xs_iload dL_law_996) ?_
      show XWW p l e room_1 s m #[Value.ref b] below meth c (cells + 1) (slots + 6) (lw_Z below #[Value.ref b] s) D G ρ 9 998 [some (xR 40 0 0), some (xR 0 0 0), some (xR 20 0 0), some (xR 26 0 0), some (xI i), some (xI k), some (xI v), x7, x8] [xI v, xJ (N 26 0 0 0)] N
      refine xl_st hC hc hs (xs_i2lw dL_law_998) ?_
      show XWW p l e room_1 s m #[Value.ref b] below meth c (cells + 1) (slots + 6) (lw_Z below #[Value.ref b] s) D G ρ 9 999 [some (xR 40 0 0), some (xR 0 0 0), some (xR 20 0 0), some (xR 26 0 0), some (xI i), some (xI k), some (xI v), x7, x8] [xJ (w32 v), xJ (N 26 0 0 0)] N
      refine xl_st hC hc hs (xs_lcmp dL_law_999) ⟨h26 q, ?_⟩
      show XWW p l e room_1 s m #[Value.ref b] below meth c (cells + 1) (slots + 6) (lw_Z below #[Value.ref b] s) D G ρ 9 1000 [some (xR 40 0 0), some (xR 0 0 0), some (xR 20 0 0), some (xR 26 0 0), some (xI i), some (xI k), some (xI v), x7, x8] [xI 0] N
      refine xl_st hC hc hs (xs_if_eq (t := 1005) dL_law_1000 (by decide)) ⟨x_r0, fun _ => ?_, fun q => absurd rfl q⟩
      show XWW p l e room_1 s m #[Value.ref b] below meth c (cells + 1) (slots + 6) (lw_Z below #[Value.ref b] s) D G ρ 9 1005 [some (xR 40 0 0), some (xR 0 0 0), some (xR 20 0 0), some (xR 26 0 0), some (xI i), some (xI k), some (xI v), x7, x8] [] N
      refine xl_st hC hc hs (xs_goto (t := 2181) dL_law_1005 (by decide)) ?_
      show XWW p l e room_1 s m #[Value.ref b] below meth c (cells + 1) (slots + 6) (lw_Z below #[Value.ref b] s) D G ρ 9 2181 [some (xR 40 0 0), some (xR 0 0 0), some (xR 20 0 0), some (xR 26 0 0), some (xI i), some (xI k), some (xI v), x7, x8] [] N
      exact next _ _ _ _ N hR
  show XWW p l e room_1 s m #[Value.ref b] below meth c cells slots (lw_Z below #[Value.ref b] s) D G ρ 9 928 [some (xR 40 0 0), some (xR 0 0 0), some (xR 20 0 0), some (xR 26 0 0), some (xI i), x5, x6, x7, x8] [] M
  refine xl_st hC c0 s0 (xs_aload_n (i := 1) dL_law_928 rfl) ?_
  show XWW p l e room_1 s m #[Value.ref b] below meth c cells slots (lw_Z below #[Value.ref b] s) D G ρ 9 929 [some (xR 40 0 0), some (xR 0 0 0), some (xR 20 0 0), some (xR 26 0 0), some (xI i), x5, x6, x7, x8] [xR 0 0 0] M
  refine xl_st hC c0 s0 (xs_aload_n (i := 0) dL_law_929 rfl) ?_
  show XWW p l e room_1 s m #[Value.ref b] below meth c cells slots (lw_Z below #[Value.ref b] s) D G ρ 9 930 [some (xR 40 0 0), some (xR 0 0 0), some (xR 20 0 0), some (xR 26 0 0), some (xI i), x5, x6, x7, x8] [xR 40 0 0, xR 0 0 0] M
  refine xl_st hC c0 s0 (xs_iload dL_law_930) ?_
  show XWW p l e room_1 s m #[Value.ref b] below meth c cells slots (lw_Z below #[Value.ref b] s) D G ρ 9 932 [some (xR 40 0 0), some (xR 0 0 0), some (xR 20 0 0), some (xR 26 0 0), some (xI i), x5, x6, x7, x8] [xI i, xR 40 0 0, xR 0 0 0] M
  refine xl_st hC c0 s0 (xs_iconst dL_law_932) ?_
  show XWW p l e room_1 s m #[Value.ref b] below meth c cells slots (lw_Z below #[Value.ref b] s) D G ρ 9 933 [some (xR 40 0 0), some (xR 0 0 0), some (xR 20 0 0), some (xR 26 0 0), some (xI i), x5, x6, x7, x8] [xI 1, xI i, xR 40 0 0, xR 0 0 0] M
  refine xl_st hC c0 s0 (xs_iadd dL_law_933) ?_
  show XWW p l e room_1 s m #[Value.ref b] below meth c cells slots (lw_Z below #[Value.ref b] s) D G ρ 9 934 [some (xR 40 0 0), some (xR 0 0 0), some (xR 20 0 0), some (xR 26 0 0), some (xI i), x5, x6, x7, x8] [xI (i + 1), xR 40 0 0, xR 0 0 0] M
  refine xl_sld hC hX (by omega) (by omega) dL_law_934 ?_
  show XWW p l e room_1 s m #[Value.ref b] below meth c cells slots (lw_Z below #[Value.ref b] s) D G ρ 9 935 [some (xR 40 0 0), some (xR 0 0 0), some (xR 20 0 0), some (xR 26 0 0), some (xI i), x5, x6, x7, x8] [xI (SLx xs (i + 1)), xR 0 0 0] M
  refine xl_st hC c0 s0 (xs_aload_n (i := 0) dL_law_935 rfl) ?_
  show XWW p l e room_1 s m #[Value.ref b] below meth c cells slots (lw_Z below #[Value.ref b] s) D G ρ 9 936 [some (xR 40 0 0), some (xR 0 0 0), some (xR 20 0 0), some (xR 26 0 0), some (xI i), x5, x6, x7, x8] [xR 40 0 0, xI (SLx xs (i + 1)), xR 0 0 0] M
  refine xl_st hC c0 s0 (xs_iload dL_law_936) ?_
  show XWW p l e room_1 s m #[Value.ref b] below meth c cells slots (lw_Z below #[Value.ref b] s) D G ρ 9 938 [some (xR 40 0 0), some (xR 0 0 0), some (xR 20 0 0), some (xR 26 0 0), some (xI i), x5, x6, x7, x8] [xI i, xR 40 0 0, xI (SLx xs (i + 1)), xR 0 0 0] M
  refine xl_st hC c0 s0 (xs_iconst dL_law_938) ?_
  show XWW p l e room_1 s m #[Value.ref b] below meth c cells slots (lw_Z below #[Value.ref b] s) D G ρ 9 939 [some (xR 40 0 0), some (xR 0 0 0), some (xR 20 0 0), some (xR 26 0 0), some (xI i), x5, x6, x7, x8] [xI 2, xI i, xR 40 0 0, xI (SLx xs (i + 1)), xR 0 0 0] M
  refine xl_st hC c0 s0 (xs_iadd dL_law_939) ?_
  show XWW p l e room_1 s m #[Value.ref b] below meth c cells slots (lw_Z below #[Value.ref b] s) D G ρ 9 940 [some (xR 40 0 0), some (xR 0 0 0), some (xR 20 0 0), some (xR 26 0 0), some (xI i), x5, x6, x7, x8] [xI (i + 2), xR 40 0 0, xI (SLx xs (i + 1)), xR 0 0 0] M
  refine xl_sld hC hX (by omega) (by omega) dL_law_940 ?_
  show XWW p l e room_1 s m #[Value.ref b] below meth c cells slots (lw_Z below #[Value.ref b] s) D G ρ 9 941 [some (xR 40 0 0), some (xR 0 0 0), some (xR 20 0 0), some (xR 26 0 0), some (xI i), x5, x6, x7, x8] [xI (SLx xs (i + 2)), xI (SLx xs (i + 1)), xR 0 0 0] M
  refine xl_st hC c0 s0 (xs_aload_n (i := 0) dL_law_941 rfl) ?_
  show XWW p l e room_1 s m #[Value.ref b] below meth c cells slots (lw_Z below #[Value.ref b] s) D G ρ 9 942 [some (xR 40 0 0), some (xR 0 0 0), some (xR 20 0 0), some (xR 26 0 0), some (xI i), x5, x6, x7, x8] [xR 40 0 0, xI (SLx xs (i + 2)), xI (SLx xs (i + 1)), xR 0 0 0] M
  refine xl_st hC c0 s0 (xs_iload dL_law_942) ?_
  show XWW p l e room_1 s m #[Value.ref b] below meth c cells slots (lw_Z below #[Value.ref b] s) D G ρ 9 944 [some (xR 40 0 0), some (xR 0 0 0), some (xR 20 0 0), some (xR 26 0 0), some (xI i), x5, x6, x7, x8] [xI i, xR 40 0 0, xI (SLx xs (i + 2)), xI (SLx xs (i + 1)), xR 0 0 0] M
  refine xl_st hC c0 s0 (xs_iconst dL_law_944) ?_
  show XWW p l e room_1 s m #[Value.ref b] below meth c cells slots (lw_Z below #[Value.ref b] s) D G ρ 9 945 [some (xR 40 0 0), some (xR 0 0 0), some (xR 20 0 0), some (xR 26 0 0), some (xI i), x5, x6, x7, x8] [xI 3, xI i, xR 40 0 0, xI (SLx xs (i + 2)), xI (SLx xs (i + 1)), xR 0 0 0] M
  refine xl_st hC c0 s0 (xs_iadd dL_law_945) ?_
  show XWW p l e room_1 s m #[Value.ref b] below meth c cells slots (lw_Z below #[Value.ref b] s) D G ρ 9 946 [some (xR 40 0 0), some (xR 0 0 0), some (xR 20 0 0), some (xR 26 0 0), some (xI i), x5, x6, x7, x8] [xI (i + 3), xR 40 0 0, xI (SLx xs (i + 2)), xI (SLx xs (i + 1)), xR 0 0 0] M
  refine xl_sld hC hX (by omega) (by omega) dL_law_946 ?_
  show XWW p l e room_1 s m #[Value.ref b] below meth c cells slots (lw_Z below #[Value.ref b] s) D G ρ 9 947 [some (xR 40 0 0), some (xR 0 0 0), some (xR 20 0 0), some (xR 26 0 0), some (xI i), x5, x6, x7, x8] [xI (SLx xs (i + 3)), xI (SLx xs (i + 2)), xI (SLx xs (i + 1)), xR 0 0 0] M
  refine xl_st hC c0 s0 (xs_aload_n (i := 3) dL_law_947 rfl) ?_
  show XWW p l e room_1 s m #[Value.ref b] below meth c cells slots (lw_Z below #[Value.ref b] s) D G ρ 9 948 [some (xR 40 0 0), some (xR 0 0 0), some (xR 20 0 0), some (xR 26 0 0), some (xI i), x5, x6, x7, x8] [xR 26 0 0, xI (SLx xs (i + 3)), xI (SLx xs (i + 2)), xI (SLx xs (i + 1)), xR 0 0 0] M
  refine xl_call (n := 5) (As := [xR 0 0 0, xI (SLx xs (i + 1)), xI (SLx xs (i + 2)), xI (SLx xs (i + 3)), xR 26 0 0]) (st := []) kL_split ⟨⟨rfl, rfl, by decide, by decide⟩, ⟨by decide, by decide, by decide +kernel⟩, tw_887, tw_888, tw_0, twL_split⟩ dL_law_948 hC hl hE hc hs rfl (by decide) ⟨(SLx xs (i + 1)), (SLx xs (i + 2)), (SLx xs (i + 3)), rfl, lc_split hZ h (SL_in _ _) (SL_in _ _) (SL_in _ _)⟩ (fun rv N1 hq => ?_)
  obtain ⟨k, rfl, ⟨k0, k3⟩, href⟩ := hq
  show XWW p l e room_1 s m #[Value.ref b] below meth c (cells + 1) (slots + 6) (lw_Z below #[Value.ref b] s) D G ρ 9 951 [some (xR 40 0 0), some (xR 0 0 0), some (xR 20 0 0), some (xR 26 0 0), some (xI i), x5, x6, x7, x8] [xI k] N1
  refine xl_st hC hc hs (xs_istore dL_law_951 (by decide)) ?_
  show XWW p l e room_1 s m #[Value.ref b] below meth c (cells + 1) (slots + 6) (lw_Z below #[Value.ref b] s) D G ρ 9 953 [some (xR 40 0 0), some (xR 0 0 0), some (xR 20 0 0), some (xR 26 0 0), some (xI i), some (xI k), x6, x7, x8] [] N1
  refine xl_st hC hc hs (xs_aload_n (i := 2) dL_law_953 rfl) ?_
  show XWW p l e room_1 s m #[Value.ref b] below meth c (cells + 1) (slots + 6) (lw_Z below #[Value.ref b] s) D G ρ 9 954 [some (xR 40 0 0), some (xR 0 0 0), some (xR 20 0 0), some (xR 26 0 0), some (xI i), some (xI k), x6, x7, x8] [xR 20 0 0] N1
  refine xl_st hC hc hs (xs_aload_n (i := 0) dL_law_954 rfl) ?_
  show XWW p l e room_1 s m #[Value.ref b] below meth c (cells + 1) (slots + 6) (lw_Z below #[Value.ref b] s) D G ρ 9 955 [some (xR 40 0 0), some (xR 0 0 0), some (xR 20 0 0), some (xR 26 0 0), some (xI i), some (xI k), x6, x7, x8] [xR 40 0 0, xR 20 0 0] N1
  refine xl_st hC hc hs (xs_iload dL_law_955) ?_
  show XWW p l e room_1 s m #[Value.ref b] below meth c (cells + 1) (slots + 6) (lw_Z below #[Value.ref b] s) D G ρ 9 957 [some (xR 40 0 0), some (xR 0 0 0), some (xR 20 0 0), some (xR 26 0 0), some (xI i), some (xI k), x6, x7, x8] [xI i, xR 40 0 0, xR 20 0 0] N1
  refine xl_st hC hc hs (xs_iconst dL_law_957) ?_
  show XWW p l e room_1 s m #[Value.ref b] below meth c (cells + 1) (slots + 6) (lw_Z below #[Value.ref b] s) D G ρ 9 958 [some (xR 40 0 0), some (xR 0 0 0), some (xR 20 0 0), some (xR 26 0 0), some (xI i), some (xI k), x6, x7, x8] [xI 1, xI i, xR 40 0 0, xR 20 0 0] N1
  refine xl_st hC hc hs (xs_iadd dL_law_958) ?_
  show XWW p l e room_1 s m #[Value.ref b] below meth c (cells + 1) (slots + 6) (lw_Z below #[Value.ref b] s) D G ρ 9 959 [some (xR 40 0 0), some (xR 0 0 0), some (xR 20 0 0), some (xR 26 0 0), some (xI i), some (xI k), x6, x7, x8] [xI (i + 1), xR 40 0 0, xR 20 0 0] N1
  refine xl_sld hC hX (by omega) (by omega) dL_law_959 ?_
  show XWW p l e room_1 s m #[Value.ref b] below meth c (cells + 1) (slots + 6) (lw_Z below #[Value.ref b] s) D G ρ 9 960 [some (xR 40 0 0), some (xR 0 0 0), some (xR 20 0 0), some (xR 26 0 0), some (xI i), some (xI k), x6, x7, x8] [xI (SLx xs (i + 1)), xR 20 0 0] N1
  refine xl_st hC hc hs (xs_aload_n (i := 0) dL_law_960 rfl) ?_
  show XWW p l e room_1 s m #[Value.ref b] below meth c (cells + 1) (slots + 6) (lw_Z below #[Value.ref b] s) D G ρ 9 961 [some (xR 40 0 0), some (xR 0 0 0), some (xR 20 0 0), some (xR 26 0 0), some (xI i), some (xI k), x6, x7, x8] [xR 40 0 0, xI (SLx xs (i + 1)), xR 20 0 0] N1
  refine xl_st hC hc hs (xs_iload dL_law_961) ?_
  show XWW p l e room_1 s m #[Value.ref b] below meth c (cells + 1) (slots + 6) (lw_Z below #[Value.ref b] s) D G ρ 9 963 [some (xR 40 0 0), some (xR 0 0 0), some (xR 20 0 0), some (xR 26 0 0), some (xI i), some (xI k), x6, x7, x8] [xI i, xR 40 0 0, xI (SLx xs (i + 1)), xR 20 0 0] N1
  refine xl_st hC hc hs (xs_iconst dL_law_963) ?_
  show XWW p l e room_1 s m #[Value.ref b] below meth c (cells + 1) (slots + 6) (lw_Z below #[Value.ref b] s) D G ρ 9 964 [some (xR 40 0 0), some (xR 0 0 0), some (xR 20 0 0), some (xR 26 0 0), some (xI i), some (xI k), x6, x7, x8] [xI 2, xI i, xR 40 0 0, xI (SLx xs (i + 1)), xR 20 0 0] N1
  refine xl_st hC hc hs (xs_iadd dL_law_964) ?_
  show XWW p l e room_1 s m #[Value.ref b] below meth c (cells + 1) (slots + 6) (lw_Z below #[Value.ref b] s) D G ρ 9 965 [some (xR 40 0 0), some (xR 0 0 0), some (xR 20 0 0), some (xR 26 0 0), some (xI i), some (xI k), x6, x7, x8] [xI (i + 2), xR 40 0 0, xI (SLx xs (i + 1)), xR 20 0 0] N1
  refine xl_sld hC hX (by omega) (by omega) dL_law_965 ?_
  show XWW p l e room_1 s m #[Value.ref b] below meth c (cells + 1) (slots + 6) (lw_Z below #[Value.ref b] s) D G ρ 9 966 [some (xR 40 0 0), some (xR 0 0 0), some (xR 20 0 0), some (xR 26 0 0), some (xI i), some (xI k), x6, x7, x8] [xI (SLx xs (i + 2)), xI (SLx xs (i + 1)), xR 20 0 0] N1
  refine xl_st hC hc hs (xs_aload_n (i := 0) dL_law_966 rfl) ?_
  show XWW p l e room_1 s m #[Value.ref b] below meth c (cells + 1) (slots + 6) (lw_Z below #[Value.ref b] s) D G ρ 9 967 [some (xR 40 0 0), some (xR 0 0 0), some (xR 20 0 0), some (xR 26 0 0), some (xI i), some (xI k), x6, x7, x8] [xR 40 0 0, xI (SLx xs (i + 2)), xI (SLx xs (i + 1)), xR 20 0 0] N1
  refine xl_st hC hc hs (xs_iload dL_law_967) ?_
  show XWW p l e room_1 s m #[Value.ref b] below meth c (cells + 1) (slots + 6) (lw_Z below #[Value.ref b] s) D G ρ 9 969 [some (xR 40 0 0), some (xR 0 0 0), some (xR 20 0 0), some (xR 26 0 0), some (xI i), some (xI k), x6, x7, x8] [xI i, xR 40 0 0, xI (SLx xs (i + 2)), xI (SLx xs (i + 1)), xR 20 0 0] N1
  refine xl_st hC hc hs (xs_iconst dL_law_969) ?_
  show XWW p l e room_1 s m #[Value.ref b] below meth c (cells + 1) (slots + 6) (lw_Z below #[Value.ref b] s) D G ρ 9 970 [some (xR 40 0 0), some (xR 0 0 0), some (xR 20 0 0), some (xR 26 0 0), some (xI i), some (xI k), x6, x7, x8] [xI 3, xI i, xR 40 0 0, xI (SLx xs (i + 2)), xI (SLx xs (i + 1)), xR 20 0 0] N1
  refine xl_st hC hc hs (xs_iadd dL_law_970) ?_
  show XWW p l e room_1 s m #[Value.ref b] below meth c (cells + 1) (slots + 6) (lw_Z below #[Value.ref b] s) D G ρ 9 971 [some (xR 40 0 0), some (xR 0 0 0), some (xR 20 0 0), some (xR 26 0 0), some (xI i), some (xI k), x6, x7, x8] [xI (i + 3), xR 40 0 0, xI (SLx xs (i + 2)), xI (SLx xs (i + 1)), xR 20 0 0] N1
  refine xl_sld hC hX (by omega) (by omega) dL_law_971 ?_
  show XWW p l e room_1 s m #[Value.ref b] below meth c (cells + 1) (slots + 6) (lw_Z below #[Value.ref b] s) D G ρ 9 972 [some (xR 40 0 0), some (xR 0 0 0), some (xR 20 0 0), some (xR 26 0 0), some (xI i), some (xI k), x6, x7, x8] [xI (SLx xs (i + 3)), xI (SLx xs (i + 2)), xI (SLx xs (i + 1)), xR 20 0 0] N1
  refine xl_st hC hc hs (xs_V3 kX8_split ⟨⟨rfl, rfl, by decide, by decide⟩, ⟨by decide, by decide, by decide +kernel⟩, ⟨tw_1212, tw_1213, tw_1214, tw_9, tw_1215⟩, 8, TX8, _, rfl, fun G ρ f i k => ⟨_, rfl⟩⟩ dL_law_972) ⟨⟨rfl, xvz_20, by decide⟩, href⟩
set_option maxRecDepth 100000 in
theorem cs_join {p : Program} {l : Launch} {e : Env} {s : State} {m : MethodId} {below : List Frame} {meth : Method} {c : Code} {D : va_G} {G : Nat → ClassId} {ρ : XOb → Nat} {b Ln : Nat} {xs : Nat → Int32} {cells slots : Nat} (hC : XCX p room_1 s m #[Value.ref b] c 0 0 D G ρ cL_law 9 RL (Cond.initialized RL :: xT)) (hl : l.stackTraces = false) (hE : (XEw s ∧ XEs s ∧ XEz (XA ρ s.heap.size) s s.heap) ∧ XEc s) (hX : XSc s ρ b Ln xs) (hc : cells + 1 ≤ 601024) (hs : slots + 6 ≤ 7293034) {i : Int} (h0 : 0 ≤ i) (h6 : i + 6 ≤ Ln) {M : XM} (h : RR M) {x5 x6 x7 x8 : Option XV} (next : ∀ (y5 y6 y7 y8 : Option XV) (N : XM), RR N → XWW p l e room_1 s m #[Value.ref b] below meth c (cells + 1) (slots + 6) (lw_Z below #[Value.ref b] s) D G ρ 9 2181 [some (xR 40 0 0), some (xR 0 0 0), some (xR 20 0 0), some (xR 26 0 0), some (xI i), y5, y6, y7, y8] [] N) : XWW p l e room_1 s m #[Value.ref b] below meth c cells slots (lw_Z below #[Value.ref b] s) D G ρ 9 1008 [some (xR 40 0 0), some (xR 0 0 0), some (xR 20 0 0), some (xR 26 0 0), some (xI i), x5, x6, x7, x8] [] M := by
  have c0 : cells ≤ room_1.cells := Nat.le_trans (Nat.le_succ _) hc
  have s0 : slots ≤ room_1.slots := Nat.le_trans (Nat.le_add_right _ 6) hs
  have hZ : ∀ (k : Int) (rv : List XV) (N : XM), 0 ≤ k → k ≤ 3 → LE k rv N → (fun (k : Int) (rv : List XV) (N : XM) => XWW p l e room_1 s m #[Value.ref b] below meth c (cells + 1) (slots + 6) (lw_Z below #[Value.ref b] s) D G ρ 9 1043 [some (xR 40 0 0), some (xR 0 0 0), some (xR 20 0 0), some (xR 26 0 0), some (xI i), some (xI k), x6, x7, x8] (rv ++ []) N) k rv N := by
    intro k rv N k0 k3 hLE
    obtain ⟨v, rfl, hR, h5, h26⟩ := hLE
    show XWW p l e room_1 s m #[Value.ref b] below meth c (cells + 1) (slots + 6) (lw_Z below #[Value.ref b] s) D G ρ 9 1043 [some (xR 40 0 0), some (xR 0 0 0), some (xR 20 0 0), some (xR 26 0 0), some (xI i), some (xI k), x6, x7, x8] [xI v] N
    refine xl_st hC hc hs (xs_istore dL_law_1043 (by decide)) ?_
    show XWW p l e room_1 s m #[Value.ref b] below meth c (cells + 1) (slots + 6) (lw_Z below #[Value.ref b] s) D G ρ 9 1045 [some (xR 40 0 0), some (xR 0 0 0), some (xR 20 0 0), some (xR 26 0 0), some (xI i), some (xI k), some (xI v), x7, x8] [] N
    refine xl_st hC hc hs (xs_aload_n (i := 2) dL_law_1045 rfl) ?_
    show XWW p l e room_1 s m #[Value.ref b] below meth c (cells + 1) (slots + 6) (lw_Z below #[Value.ref b] s) D G ρ 9 1046 [some (xR 40 0 0), some (xR 0 0 0), some (xR 20 0 0), some (xR 26 0 0), some (xI i), some (xI k), some (xI v), x7, x8] [xR 20 0 0] N
    refine xl_st hC hc hs (xs_V0 kX8_thrown ⟨⟨rfl, rfl, by decide, by decide⟩, ⟨by decide, by decide, by decide +kernel⟩, ⟨tw_1091, tw_1092, tw_1093, tw_9, tw_1094⟩, 8, TX8, _, rfl, fun G ρ f i k => ⟨_, rfl⟩⟩ dL_law_1046) ⟨⟨rfl, xvz_20, by decide⟩, ⟨rfl, xvz_20⟩, ?_⟩
    show XWW p l e room_1 s m #[Value.ref b] below meth c (cells + 1) (slots + 6) (lw_Z below #[Value.ref b] s) D G ρ 9 1049 [some (xR 40 0 0), some (xR 0 0 0), some (xR 20 0 0), some (xR 26 0 0), some (xI i), some (xI k), some (xI v), x7, x8] [xI (N 20 0 0 5)] N
    refine xl_st hC hc hs (xs_iload dL_law_1049) ?_
    show XWW p l e room_1 s m #[Value.ref b] below meth c (cells + 1) (slots + 6) (lw_Z below #[Value.ref b] s) D G ρ 9 1051 [some (xR 40 0 0), some (xR 0 0 0), some (xR 20 0 0), some (xR 26 0 0), some (xI i), some (xI k), some (xI v), x7, x8] [xI k, xI (N 20 0 0 5)] N
    refine xl_st hC hc hs (xs_icmp_eq (t := 1056) dL_law_1051 (by decide)) ⟨⟨by rw [h5]; exact ⟨by omega, by omega⟩, ⟨by omega, by omega⟩⟩, fun _ => ?_, fun q => absurd h5 q⟩
    show XWW p l e room_1 s m #[Value.ref b] below meth c (cells + 1) (slots + 6) (lw_Z below #[Value.ref b] s) D G ρ 9 1056 [some (xR 40 0 0), some (xR 0 0 0), some (xR 20 0 0), some (xR 26 0 0), some (xI i), some (xI k), some (xI v), x7, x8] [] N
    refine xl_st hC hc hs (xs_iload dL_law_1056) ?_
    show XWW p l e room_1 s m #[Value.ref b] below meth c (cells + 1) (slots + 6) (lw_Z below #[Value.ref b] s) D G ρ 9 1058 [some (xR 40 0 0), some (xR 0 0 0), some (xR 20 0 0), some (xR 26 0 0), some (xI i), some (xI k), some (xI v), x7, x8] [xI k] N
    refine xl_st hC hc hs (xs_if_ne (t := 1073) dL_law_1058 (by decide)) ⟨⟨by omega, by omega⟩, fun _ => ?_, fun q => ?_⟩
    · show XWW p l e room_1 s m #[Value.ref b] below meth c (cells + 1) (slots + 6) (lw_Z below #[Value.ref b] s) D G ρ 9 1073 [some (xR 40 0 0), some (xR 0 0 0), some (xR 20 0 0), some (xR 26 0 0), some (xI i), some (xI k), some (xI v), x7, x8] [] N
      refine xl_st hC hc hs (xs_goto (t := 2181) dL_law_1073 (by decide)) ?_
      show XWW p l e room_1 s m #[Value.ref b] below meth c (cells + 1) (slots + 6) (lw_Z below #[Value.ref b] s) D G ρ 9 2181 [some (xR 40 0 0), some (xR 0 0 0), some (xR 20 0 0), some (xR 26 0 0), some (xI i), some (xI k), some (xI v), x7, x8] [] N
      exact next _ _ _ _ N hR
    · show XWW p l e room_1 s m #[Value.ref b] below meth c (cells + 1) (slots + 6) (lw_Z below #[Value.ref b] s) D G ρ 9 1061 [some (xR 40 0 0), some (xR 0 0 0), some (xR 20 0 0), some (xR 26 0 0), some (xI i), some (xI k), some (xI v), x7, x8] [] N
      refine xl_st hC hc hs (xs_aload_n (i := 3) dL_law_1061 rfl) ?_
      show XWW p l e room_1 s m #[Value.ref b] below meth c (cells + 1) (slots + 6) (lw_Z below #[Value.ref b] s) D G ρ 9 1062 [some (xR 40 0 0), some (xR 0 0 0), some (xR 20 0 0), some (xR 26 0 0), some (xI i), some (xI k), some (xI v), x7, x8] [xR 26 0 0] N
      refine xl_st hC hc hs (xs_iconst dL_law_1062) ?_
      show XWW p l e room_1 s m #[Value.ref b] below meth c (cells + 1) (slots + 6) (lw_Z below #[Value.ref b] s) D G ρ 9 1063 [some (xR 40 0 0), some (xR 0 0 0), some (xR 20 0 0), some (xR 26 0 0), some (xI i), some (xI k), some (xI v), x7, x8] [xI 0, xR 26 0 0] N
      refine xl_st hC hc hs (xs_lald dL_law_1063) ⟨⟨rfl, rfl, rfl, rfl⟩, ?_⟩
      show XWW p l e room_1 s m #[Value.ref b] below meth c (cells + 1) (slots + 6) (lw_Z below #[Value.ref b] s) D G ρ 9 1064 [some (xR 40 0 0), some (xR 0 0 0), some (xR 20 0 0), some (xR 26 0 0), some (xI i), some (xI k), some (xI v), x7, x8] [xJ (N 26 0 0 0)] N
      refine xl_st hC hc hs (xs_iload dL_law_1064) ?_
      show XWW p l e room_1 s m #[Value.ref b] below meth c (cells + 1) (slots + 6) (lw_Z below #[Value.ref b] s) D G ρ 9 1066 [some (xR 40 0 0), some (xR 0 0 0), some (xR 20 0 0), some (xR 26 0 0), some (xI i), some (xI k), some (xI v), x7, x8] [xI v, xJ (N 26 0 0 0)] N
      refine xl_st hC hc hs (xs_i2lw dL_law_1066) ?_
      show XWW p l e room_1 s m #[Value.ref b] below meth c (cells + 1) (slots + 6) (lw_Z below #[Value.ref b] s) D G ρ 9 1067 [some (xR 40 0 0), some (xR 0 0 0), some (xR 20 0 0), some (xR 26 0 0), some (xI i), some (xI k), some (xI v), x7, x8] [xJ (w32 v), xJ (N 26 0 0 0)] N
      refine xl_st hC hc hs (xs_lcmp dL_law_1067) ⟨h26 q, ?_⟩
      show XWW p l e room_1 s m #[Value.ref b] below meth c (cells + 1) (slots + 6) (lw_Z below #[Value.ref b] s) D G ρ 9 1068 [some (xR 40 0 0), some (xR 0 0 0), some (xR 20 0 0), some (xR 26 0 0), some (xI i), some (xI k), some (xI v), x7, x8] [xI 0] N
      refine xl_st hC hc hs (xs_if_eq (t := 1073) dL_law_1068 (by decide)) ⟨x_r0, fun _ => ?_, fun q => absurd rfl q⟩
      show XWW p l e room_1 s m #[Value.ref b] below meth c (cells + 1) (slots + 6) (lw_Z below #[Value.ref b] s) D G ρ 9 1073 [some (xR 40 0 0), some (xR 0 0 0), some (xR 20 0 0), some (xR 26 0 0), some (xI i), some (xI k), some (xI v), x7, x8] [] N
      refine xl_st hC hc hs (xs_goto (t := 2181) dL_law_1073 (by decide)) ?_
      show XWW p l e room_1 s m #[Value.ref b] below meth c (cells + 1) (slots + 6) (lw_Z below #[Value.ref b] s) D G ρ 9 2181 [some (xR 40 0 0), some (xR 0 0 0), some (xR 20 0 0), some (xR 26 0 0), some (xI i), some (xI k), some (xI v), x7, x8] [] N
      exact next _ _ _ _ N hR
  show XWW p l e room_1 s m #[Value.ref b] below meth c cells slots (lw_Z below #[Value.ref b] s) D G ρ 9 1008 [some (xR 40 0 0), some (xR 0 0 0), some (xR 20 0 0), some (xR 26 0 0), some (xI i), x5, x6, x7, x8] [] M
  refine xl_st hC c0 s0 (xs_aload_n (i := 1) dL_law_1008 rfl) ?_
  show XWW p l e room_1 s m #[Value.ref b] below meth c cells slots (lw_Z below #[Value.ref b] s) D G ρ 9 1009 [some (xR 40 0 0), some (xR 0 0 0), some (xR 20 0 0), some (xR 26 0 0), some (xI i), x5, x6, x7, x8] [xR 0 0 0] M
  refine xl_st hC c0 s0 (xs_aload_n (i := 0) dL_law_1009 rfl) ?_
  show XWW p l e room_1 s m #[Value.ref b] below meth c cells slots (lw_Z below #[Value.ref b] s) D G ρ 9 1010 [some (xR 40 0 0), some (xR 0 0 0), some (xR 20 0 0), some (xR 26 0 0), some (xI i), x5, x6, x7, x8] [xR 40 0 0, xR 0 0 0] M
  refine xl_st hC c0 s0 (xs_iload dL_law_1010) ?_
  show XWW p l e room_1 s m #[Value.ref b] below meth c cells slots (lw_Z below #[Value.ref b] s) D G ρ 9 1012 [some (xR 40 0 0), some (xR 0 0 0), some (xR 20 0 0), some (xR 26 0 0), some (xI i), x5, x6, x7, x8] [xI i, xR 40 0 0, xR 0 0 0] M
  refine xl_st hC c0 s0 (xs_iconst dL_law_1012) ?_
  show XWW p l e room_1 s m #[Value.ref b] below meth c cells slots (lw_Z below #[Value.ref b] s) D G ρ 9 1013 [some (xR 40 0 0), some (xR 0 0 0), some (xR 20 0 0), some (xR 26 0 0), some (xI i), x5, x6, x7, x8] [xI 1, xI i, xR 40 0 0, xR 0 0 0] M
  refine xl_st hC c0 s0 (xs_iadd dL_law_1013) ?_
  show XWW p l e room_1 s m #[Value.ref b] below meth c cells slots (lw_Z below #[Value.ref b] s) D G ρ 9 1014 [some (xR 40 0 0), some (xR 0 0 0), some (xR 20 0 0), some (xR 26 0 0), some (xI i), x5, x6, x7, x8] [xI (i + 1), xR 40 0 0, xR 0 0 0] M
  refine xl_sld hC hX (by omega) (by omega) dL_law_1014 ?_
  show XWW p l e room_1 s m #[Value.ref b] below meth c cells slots (lw_Z below #[Value.ref b] s) D G ρ 9 1015 [some (xR 40 0 0), some (xR 0 0 0), some (xR 20 0 0), some (xR 26 0 0), some (xI i), x5, x6, x7, x8] [xI (SLx xs (i + 1)), xR 0 0 0] M
  refine xl_st hC c0 s0 (xs_aload_n (i := 0) dL_law_1015 rfl) ?_
  show XWW p l e room_1 s m #[Value.ref b] below meth c cells slots (lw_Z below #[Value.ref b] s) D G ρ 9 1016 [some (xR 40 0 0), some (xR 0 0 0), some (xR 20 0 0), some (xR 26 0 0), some (xI i), x5, x6, x7, x8] [xR 40 0 0, xI (SLx xs (i + 1)), xR 0 0 0] M
  refine xl_st hC c0 s0 (xs_iload dL_law_1016) ?_
  show XWW p l e room_1 s m #[Value.ref b] below meth c cells slots (lw_Z below #[Value.ref b] s) D G ρ 9 1018 [some (xR 40 0 0), some (xR 0 0 0), some (xR 20 0 0), some (xR 26 0 0), some (xI i), x5, x6, x7, x8] [xI i, xR 40 0 0, xI (SLx xs (i + 1)), xR 0 0 0] M
  refine xl_st hC c0 s0 (xs_iconst dL_law_1018) ?_
  show XWW p l e room_1 s m #[Value.ref b] below meth c cells slots (lw_Z below #[Value.ref b] s) D G ρ 9 1019 [some (xR 40 0 0), some (xR 0 0 0), some (xR 20 0 0), some (xR 26 0 0), some (xI i), x5, x6, x7, x8] [xI 2, xI i, xR 40 0 0, xI (SLx xs (i + 1)), xR 0 0 0] M
  refine xl_st hC c0 s0 (xs_iadd dL_law_1019) ?_
  show XWW p l e room_1 s m #[Value.ref b] below meth c cells slots (lw_Z below #[Value.ref b] s) D G ρ 9 1020 [some (xR 40 0 0), some (xR 0 0 0), some (xR 20 0 0), some (xR 26 0 0), some (xI i), x5, x6, x7, x8] [xI (i + 2), xR 40 0 0, xI (SLx xs (i + 1)), xR 0 0 0] M
  refine xl_sld hC hX (by omega) (by omega) dL_law_1020 ?_
  show XWW p l e room_1 s m #[Value.ref b] below meth c cells slots (lw_Z below #[Value.ref b] s) D G ρ 9 1021 [some (xR 40 0 0), some (xR 0 0 0), some (xR 20 0 0), some (xR 26 0 0), some (xI i), x5, x6, x7, x8] [xI (SLx xs (i + 2)), xI (SLx xs (i + 1)), xR 0 0 0] M
  refine xl_st hC c0 s0 (xs_aload_n (i := 3) dL_law_1021 rfl) ?_
  show XWW p l e room_1 s m #[Value.ref b] below meth c cells slots (lw_Z below #[Value.ref b] s) D G ρ 9 1022 [some (xR 40 0 0), some (xR 0 0 0), some (xR 20 0 0), some (xR 26 0 0), some (xI i), x5, x6, x7, x8] [xR 26 0 0, xI (SLx xs (i + 2)), xI (SLx xs (i + 1)), xR 0 0 0] M
  refine xl_call (n := 4) (As := [xR 0 0 0, xI (SLx xs (i + 1)), xI (SLx xs (i + 2)), xR 26 0 0]) (st := []) kL_join ⟨⟨rfl, rfl, by decide, by decide⟩, ⟨by decide, by decide, by decide +kernel⟩, tw_894, tw_895, tw_0, twL_join⟩ dL_law_1022 hC hl hE hc hs rfl (by decide) ⟨(SLx xs (i + 1)), (SLx xs (i + 2)), rfl, lc_join hZ h (SL_in _ _) (SL_in _ _)⟩ (fun rv N1 hq => ?_)
  obtain ⟨k, rfl, ⟨k0, k3⟩, href⟩ := hq
  show XWW p l e room_1 s m #[Value.ref b] below meth c (cells + 1) (slots + 6) (lw_Z below #[Value.ref b] s) D G ρ 9 1025 [some (xR 40 0 0), some (xR 0 0 0), some (xR 20 0 0), some (xR 26 0 0), some (xI i), x5, x6, x7, x8] [xI k] N1
  refine xl_st hC hc hs (xs_istore dL_law_1025 (by decide)) ?_
  show XWW p l e room_1 s m #[Value.ref b] below meth c (cells + 1) (slots + 6) (lw_Z below #[Value.ref b] s) D G ρ 9 1027 [some (xR 40 0 0), some (xR 0 0 0), some (xR 20 0 0), some (xR 26 0 0), some (xI i), some (xI k), x6, x7, x8] [] N1
  refine xl_st hC hc hs (xs_aload_n (i := 2) dL_law_1027 rfl) ?_
  show XWW p l e room_1 s m #[Value.ref b] below meth c (cells + 1) (slots + 6) (lw_Z below #[Value.ref b] s) D G ρ 9 1028 [some (xR 40 0 0), some (xR 0 0 0), some (xR 20 0 0), some (xR 26 0 0), some (xI i), some (xI k), x6, x7, x8] [xR 20 0 0] N1
  refine xl_st hC hc hs (xs_aload_n (i := 0) dL_law_1028 rfl) ?_
  show XWW p l e room_1 s m #[Value.ref b] below meth c (cells + 1) (slots + 6) (lw_Z below #[Value.ref b] s) D G ρ 9 1029 [some (xR 40 0 0), some (xR 0 0 0), some (xR 20 0 0), some (xR 26 0 0), some (xI i), some (xI k), x6, x7, x8] [xR 40 0 0, xR 20 0 0] N1
  refine xl_st hC hc hs (xs_iload dL_law_1029) ?_
  show XWW p l e room_1 s m #[Value.ref b] below meth c (cells + 1) (slots + 6) (lw_Z below #[Value.ref b] s) D G ρ 9 1031 [some (xR 40 0 0), some (xR 0 0 0), some (xR 20 0 0), some (xR 26 0 0), some (xI i), some (xI k), x6, x7, x8] [xI i, xR 40 0 0, xR 20 0 0] N1
  refine xl_st hC hc hs (xs_iconst dL_law_1031) ?_
  show XWW p l e room_1 s m #[Value.ref b] below meth c (cells + 1) (slots + 6) (lw_Z below #[Value.ref b] s) D G ρ 9 1032 [some (xR 40 0 0), some (xR 0 0 0), some (xR 20 0 0), some (xR 26 0 0), some (xI i), some (xI k), x6, x7, x8] [xI 1, xI i, xR 40 0 0, xR 20 0 0] N1
  refine xl_st hC hc hs (xs_iadd dL_law_1032) ?_
  show XWW p l e room_1 s m #[Value.ref b] below meth c (cells + 1) (slots + 6) (lw_Z below #[Value.ref b] s) D G ρ 9 1033 [some (xR 40 0 0), some (xR 0 0 0), some (xR 20 0 0), some (xR 26 0 0), some (xI i), some (xI k), x6, x7, x8] [xI (i + 1), xR 40 0 0, xR 20 0 0] N1
  refine xl_sld hC hX (by omega) (by omega) dL_law_1033 ?_
  show XWW p l e room_1 s m #[Value.ref b] below meth c (cells + 1) (slots + 6) (lw_Z below #[Value.ref b] s) D G ρ 9 1034 [some (xR 40 0 0), some (xR 0 0 0), some (xR 20 0 0), some (xR 26 0 0), some (xI i), some (xI k), x6, x7, x8] [xI (SLx xs (i + 1)), xR 20 0 0] N1
  refine xl_st hC hc hs (xs_aload_n (i := 0) dL_law_1034 rfl) ?_
  show XWW p l e room_1 s m #[Value.ref b] below meth c (cells + 1) (slots + 6) (lw_Z below #[Value.ref b] s) D G ρ 9 1035 [some (xR 40 0 0), some (xR 0 0 0), some (xR 20 0 0), some (xR 26 0 0), some (xI i), some (xI k), x6, x7, x8] [xR 40 0 0, xI (SLx xs (i + 1)), xR 20 0 0] N1
  refine xl_st hC hc hs (xs_iload dL_law_1035) ?_
  show XWW p l e room_1 s m #[Value.ref b] below meth c (cells + 1) (slots + 6) (lw_Z below #[Value.ref b] s) D G ρ 9 1037 [some (xR 40 0 0), some (xR 0 0 0), some (xR 20 0 0), some (xR 26 0 0), some (xI i), some (xI k), x6, x7, x8] [xI i, xR 40 0 0, xI (SLx xs (i + 1)), xR 20 0 0] N1
  refine xl_st hC hc hs (xs_iconst dL_law_1037) ?_
  show XWW p l e room_1 s m #[Value.ref b] below meth c (cells + 1) (slots + 6) (lw_Z below #[Value.ref b] s) D G ρ 9 1038 [some (xR 40 0 0), some (xR 0 0 0), some (xR 20 0 0), some (xR 26 0 0), some (xI i), some (xI k), x6, x7, x8] [xI 2, xI i, xR 40 0 0, xI (SLx xs (i + 1)), xR 20 0 0] N1
  refine xl_st hC hc hs (xs_iadd dL_law_1038) ?_
  show XWW p l e room_1 s m #[Value.ref b] below meth c (cells + 1) (slots + 6) (lw_Z below #[Value.ref b] s) D G ρ 9 1039 [some (xR 40 0 0), some (xR 0 0 0), some (xR 20 0 0), some (xR 26 0 0), some (xI i), some (xI k), x6, x7, x8] [xI (i + 2), xR 40 0 0, xI (SLx xs (i + 1)), xR 20 0 0] N1
  refine xl_sld hC hX (by omega) (by omega) dL_law_1039 ?_
  show XWW p l e room_1 s m #[Value.ref b] below meth c (cells + 1) (slots + 6) (lw_Z below #[Value.ref b] s) D G ρ 9 1040 [some (xR 40 0 0), some (xR 0 0 0), some (xR 20 0 0), some (xR 26 0 0), some (xI i), some (xI k), x6, x7, x8] [xI (SLx xs (i + 2)), xI (SLx xs (i + 1)), xR 20 0 0] N1
  refine xl_st hC hc hs (xs_V2 kX8_join ⟨⟨rfl, rfl, by decide, by decide⟩, ⟨by decide, by decide, by decide +kernel⟩, ⟨tw_1236, tw_1237, tw_1238, tw_9, tw_1239⟩, 8, TX8, _, rfl, fun G ρ f i k => ⟨_, rfl⟩⟩ dL_law_1040) ⟨⟨rfl, xvz_20, by decide⟩, href⟩
set_option maxRecDepth 100000 in
theorem cs_move {p : Program} {l : Launch} {e : Env} {s : State} {m : MethodId} {below : List Frame} {meth : Method} {c : Code} {D : va_G} {G : Nat → ClassId} {ρ : XOb → Nat} {b Ln : Nat} {xs : Nat → Int32} {cells slots : Nat} (hC : XCX p room_1 s m #[Value.ref b] c 0 0 D G ρ cL_law 9 RL (Cond.initialized RL :: xT)) (hl : l.stackTraces = false) (hE : (XEw s ∧ XEs s ∧ XEz (XA ρ s.heap.size) s s.heap) ∧ XEc s) (hX : XSc s ρ b Ln xs) (hc : cells + 1 ≤ 601024) (hs : slots + 6 ≤ 7293034) {i : Int} (h0 : 0 ≤ i) (h6 : i + 6 ≤ Ln) {M : XM} (h : RR M) {x5 x6 x7 x8 : Option XV} (next : ∀ (y5 y6 y7 y8 : Option XV) (N : XM), RR N → XWW p l e room_1 s m #[Value.ref b] below meth c (cells + 1) (slots + 6) (lw_Z below #[Value.ref b] s) D G ρ 9 2181 [some (xR 40 0 0), some (xR 0 0 0), some (xR 20 0 0), some (xR 26 0 0), some (xI i), y5, y6, y7, y8] [] N) : XWW p l e room_1 s m #[Value.ref b] below meth c cells slots (lw_Z below #[Value.ref b] s) D G ρ 9 1076 [some (xR 40 0 0), some (xR 0 0 0), some (xR 20 0 0), some (xR 26 0 0), some (xI i), x5, x6, x7, x8] [] M := by
  have c0 : cells ≤ room_1.cells := Nat.le_trans (Nat.le_succ _) hc
  have s0 : slots ≤ room_1.slots := Nat.le_trans (Nat.le_add_right _ 6) hs
  have hZ : ∀ (k : Int) (rv : List XV) (N : XM), 0 ≤ k → k ≤ 3 → LE k rv N → (fun (k : Int) (rv : List XV) (N : XM) => XWW p l e room_1 s m #[Value.ref b] below meth c (cells + 1) (slots + 6) (lw_Z below #[Value.ref b] s) D G ρ 9 1111 [some (xR 40 0 0), some (xR 0 0 0), some (xR 20 0 0), some (xR 26 0 0), some (xI i), some (xI k), x6, x7, x8] (rv ++ []) N) k rv N := by
    intro k rv N k0 k3 hLE
    obtain ⟨v, rfl, hR, h5, h26⟩ := hLE
    show XWW p l e room_1 s m #[Value.ref b] below meth c (cells + 1) (slots + 6) (lw_Z below #[Value.ref b] s) D G ρ 9 1111 [some (xR 40 0 0), some (xR 0 0 0), some (xR 20 0 0), some (xR 26 0 0), some (xI i), some (xI k), x6, x7, x8] [xI v] N
    refine xl_st hC hc hs (xs_istore dL_law_1111 (by decide)) ?_
    show XWW p l e room_1 s m #[Value.ref b] below meth c (cells + 1) (slots + 6) (lw_Z below #[Value.ref b] s) D G ρ 9 1113 [some (xR 40 0 0), some (xR 0 0 0), some (xR 20 0 0), some (xR 26 0 0), some (xI i), some (xI k), some (xI v), x7, x8] [] N
    refine xl_st hC hc hs (xs_aload_n (i := 2) dL_law_1113 rfl) ?_
    show XWW p l e room_1 s m #[Value.ref b] below meth c (cells + 1) (slots + 6) (lw_Z below #[Value.ref b] s) D G ρ 9 1114 [some (xR 40 0 0), some (xR 0 0 0), some (xR 20 0 0), some (xR 26 0 0), some (xI i), some (xI k), some (xI v), x7, x8] [xR 20 0 0] N
    refine xl_st hC hc hs (xs_V0 kX8_thrown ⟨⟨rfl, rfl, by decide, by decide⟩, ⟨by decide, by decide, by decide +kernel⟩, ⟨tw_1091, tw_1092, tw_1093, tw_9, tw_1094⟩, 8, TX8, _, rfl, fun G ρ f i k => ⟨_, rfl⟩⟩ dL_law_1114) ⟨⟨rfl, xvz_20, by decide⟩, ⟨rfl, xvz_20⟩, ?_⟩
    show XWW p l e room_1 s m #[Value.ref b] below meth c (cells + 1) (slots + 6) (lw_Z below #[Value.ref b] s) D G ρ 9 1117 [some (xR 40 0 0), some (xR 0 0 0), some (xR 20 0 0), some (xR 26 0 0), some (xI i), some (xI k), some (xI v), x7, x8] [xI (N 20 0 0 5)] N
    refine xl_st hC hc hs (xs_iload dL_law_1117) ?_
    show XWW p l e room_1 s m #[Value.ref b] below meth c (cells + 1) (slots + 6) (lw_Z below #[Value.ref b] s) D G ρ 9 1119 [some (xR 40 0 0), some (xR 0 0 0), some (xR 20 0 0), some (xR 26 0 0), some (xI i), some (xI k), some (xI v), x7, x8] [xI k, xI (N 20 0 0 5)] N
    refine xl_st hC hc hs (xs_icmp_eq (t := 1124) dL_law_1119 (by decide)) ⟨⟨by rw [h5]; exact ⟨by omega, by omega⟩, ⟨by omega, by omega⟩⟩, fun _ => ?_, fun q => absurd h5 q⟩
    show XWW p l e room_1 s m #[Value.ref b] below meth c (cells + 1) (slots + 6) (lw_Z below #[Value.ref b] s) D G ρ 9 1124 [some (xR 40 0 0), some (xR 0 0 0), some (xR 20 0 0), some (xR 26 0 0), some (xI i), some (xI k), some (xI v), x7, x8] [] N
    refine xl_st hC hc hs (xs_iload dL_law_1124) ?_
    show XWW p l e room_1 s m #[Value.ref b] below meth c (cells + 1) (slots + 6) (lw_Z below #[Value.ref b] s) D G ρ 9 1126 [some (xR 40 0 0), some (xR 0 0 0), some (xR 20 0 0), some (xR 26 0 0), some (xI i), some (xI k), some (xI v), x7, x8] [xI k] N
    refine xl_st hC hc hs (xs_if_ne (t := 1141) dL_law_1126 (by decide)) ⟨⟨by omega, by omega⟩, fun _ => ?_, fun q => ?_⟩
    · show XWW p l e room_1 s m #[Value.ref b] below meth c (cells + 1) (slots + 6) (lw_Z below #[Value.ref b] s) D G ρ 9 1141 [some (xR 40 0 0), some (xR 0 0 0), some (xR 20 0 0), some (xR 26 0 0), some (xI i), some (xI k), some (xI v), x7, x8] [] N
      refine xl_st hC hc hs (xs_goto (t := 2181) dL_law_1141 (by decide)) ?_
      show XWW p l e room_1 s m #[Value.ref b] below meth c (cells + 1) (slots + 6) (lw_Z below #[Value.ref b] s) D G ρ 9 2181 [some (xR 40 0 0), some (xR 0 0 0), some (xR 20 0 0), some (xR 26 0 0), some (xI i), some (xI k), some (xI v), x7, x8] [] N
      exact next _ _ _ _ N hR
    · show XWW p l e room_1 s m #[Value.ref b] below meth c (cells + 1) (slots + 6) (lw_Z below #[Value.ref b] s) D G ρ 9 1129 [some (xR 40 0 0), some (xR 0 0 0), some (xR 20 0 0), some (xR 26 0 0), some (xI i), some (xI k), some (xI v), x7, x8] [] N
      refine xl_st hC hc hs (xs_aload_n (i := 3) dL_law_1129 rfl) ?_
      show XWW p l e room_1 s m #[Value.ref b] below meth c (cells + 1) (slots + 6) (lw_Z below #[Value.ref b] s) D G ρ 9 1130 [some (xR 40 0 0), some (xR 0 0 0), some (xR 20 0 0), some (xR 26 0 0), some (xI i), some (xI k), some (xI v), x7, x8] [xR 26 0 0] N
      refine xl_st hC hc hs (xs_iconst dL_law_1130) ?_
      show XWW p l e room_1 s m #[Value.ref b] below meth c (cells + 1) (slots + 6) (lw_Z below #[Value.ref b] s) D G ρ 9 1131 [some (xR 40 0 0), some (xR 0 0 0), some (xR 20 0 0), some (xR 26 0 0), some (xI i), some (xI k), some (xI v), x7, x8] [xI 0, xR 26 0 0] N
      refine xl_st hC hc hs (xs_lald dL_law_1131) ⟨⟨rfl, rfl, rfl, rfl⟩, ?_⟩
      show XWW p l e room_1 s m #[Value.ref b] below meth c (cells + 1) (slots + 6) (lw_Z below #[Value.ref b] s) D G ρ 9 1132 [some (xR 40 0 0), some (xR 0 0 0), some (xR 20 0 0), some (xR 26 0 0), some (xI i), some (xI k), some (xI v), x7, x8] [xJ (N 26 0 0 0)] N
      refine xl_st hC hc hs (xs_iload dL_law_1132) ?_
      show XWW p l e room_1 s m #[Value.ref b] below meth c (cells + 1) (slots + 6) (lw_Z below #[Value.ref b] s) D G ρ 9 1134 [some (xR 40 0 0), some (xR 0 0 0), some (xR 20 0 0), some (xR 26 0 0), some (xI i), some (xI k), some (xI v), x7, x8] [xI v, xJ (N 26 0 0 0)] N
      refine xl_st hC hc hs (xs_i2lw dL_law_1134) ?_
      show XWW p l e room_1 s m #[Value.ref b] below meth c (cells + 1) (slots + 6) (lw_Z below #[Value.ref b] s) D G ρ 9 1135 [some (xR 40 0 0), some (xR 0 0 0), some (xR 20 0 0), some (xR 26 0 0), some (xI i), some (xI k), some (xI v), x7, x8] [xJ (w32 v), xJ (N 26 0 0 0)] N
      refine xl_st hC hc hs (xs_lcmp dL_law_1135) ⟨h26 q, ?_⟩
      show XWW p l e room_1 s m #[Value.ref b] below meth c (cells + 1) (slots + 6) (lw_Z below #[Value.ref b] s) D G ρ 9 1136 [some (xR 40 0 0), some (xR 0 0 0), some (xR 20 0 0), some (xR 26 0 0), some (xI i), some (xI k), some (xI v), x7, x8] [xI 0] N
      refine xl_st hC hc hs (xs_if_eq (t := 1141) dL_law_1136 (by decide)) ⟨x_r0, fun _ => ?_, fun q => absurd rfl q⟩
      show XWW p l e room_1 s m #[Value.ref b] below meth c (cells + 1) (slots + 6) (lw_Z below #[Value.ref b] s) D G ρ 9 1141 [some (xR 40 0 0), some (xR 0 0 0), some (xR 20 0 0), some (xR 26 0 0), some (xI i), some (xI k), some (xI v), x7, x8] [] N
      refine xl_st hC hc hs (xs_goto (t := 2181) dL_law_1141 (by decide)) ?_
      show XWW p l e room_1 s m #[Value.ref b] below meth c (cells + 1) (slots + 6) (lw_Z below #[Value.ref b] s) D G ρ 9 2181 [some (xR 40 0 0), some (xR 0 0 0), some (xR 20 0 0), some (xR 26 0 0), some (xI i), some (xI k), some (xI v), x7, x8] [] N
      exact next _ _ _ _ N hR
  show XWW p l e room_1 s m #[Value.ref b] below meth c cells slots (lw_Z below #[Value.ref b] s) D G ρ 9 1076 [some (xR 40 0 0), some (xR 0 0 0), some (xR 20 0 0), some (xR 26 0 0), some (xI i), x5, x6, x7, x8] [] M
  refine xl_st hC c0 s0 (xs_aload_n (i := 1) dL_law_1076 rfl) ?_
  show XWW p l e room_1 s m #[Value.ref b] below meth c cells slots (lw_Z below #[Value.ref b] s) D G ρ 9 1077 [some (xR 40 0 0), some (xR 0 0 0), some (xR 20 0 0), some (xR 26 0 0), some (xI i), x5, x6, x7, x8] [xR 0 0 0] M
  refine xl_st hC c0 s0 (xs_aload_n (i := 0) dL_law_1077 rfl) ?_
  show XWW p l e room_1 s m #[Value.ref b] below meth c cells slots (lw_Z below #[Value.ref b] s) D G ρ 9 1078 [some (xR 40 0 0), some (xR 0 0 0), some (xR 20 0 0), some (xR 26 0 0), some (xI i), x5, x6, x7, x8] [xR 40 0 0, xR 0 0 0] M
  refine xl_st hC c0 s0 (xs_iload dL_law_1078) ?_
  show XWW p l e room_1 s m #[Value.ref b] below meth c cells slots (lw_Z below #[Value.ref b] s) D G ρ 9 1080 [some (xR 40 0 0), some (xR 0 0 0), some (xR 20 0 0), some (xR 26 0 0), some (xI i), x5, x6, x7, x8] [xI i, xR 40 0 0, xR 0 0 0] M
  refine xl_st hC c0 s0 (xs_iconst dL_law_1080) ?_
  show XWW p l e room_1 s m #[Value.ref b] below meth c cells slots (lw_Z below #[Value.ref b] s) D G ρ 9 1081 [some (xR 40 0 0), some (xR 0 0 0), some (xR 20 0 0), some (xR 26 0 0), some (xI i), x5, x6, x7, x8] [xI 1, xI i, xR 40 0 0, xR 0 0 0] M
  refine xl_st hC c0 s0 (xs_iadd dL_law_1081) ?_
  show XWW p l e room_1 s m #[Value.ref b] below meth c cells slots (lw_Z below #[Value.ref b] s) D G ρ 9 1082 [some (xR 40 0 0), some (xR 0 0 0), some (xR 20 0 0), some (xR 26 0 0), some (xI i), x5, x6, x7, x8] [xI (i + 1), xR 40 0 0, xR 0 0 0] M
  refine xl_sld hC hX (by omega) (by omega) dL_law_1082 ?_
  show XWW p l e room_1 s m #[Value.ref b] below meth c cells slots (lw_Z below #[Value.ref b] s) D G ρ 9 1083 [some (xR 40 0 0), some (xR 0 0 0), some (xR 20 0 0), some (xR 26 0 0), some (xI i), x5, x6, x7, x8] [xI (SLx xs (i + 1)), xR 0 0 0] M
  refine xl_st hC c0 s0 (xs_aload_n (i := 0) dL_law_1083 rfl) ?_
  show XWW p l e room_1 s m #[Value.ref b] below meth c cells slots (lw_Z below #[Value.ref b] s) D G ρ 9 1084 [some (xR 40 0 0), some (xR 0 0 0), some (xR 20 0 0), some (xR 26 0 0), some (xI i), x5, x6, x7, x8] [xR 40 0 0, xI (SLx xs (i + 1)), xR 0 0 0] M
  refine xl_st hC c0 s0 (xs_iload dL_law_1084) ?_
  show XWW p l e room_1 s m #[Value.ref b] below meth c cells slots (lw_Z below #[Value.ref b] s) D G ρ 9 1086 [some (xR 40 0 0), some (xR 0 0 0), some (xR 20 0 0), some (xR 26 0 0), some (xI i), x5, x6, x7, x8] [xI i, xR 40 0 0, xI (SLx xs (i + 1)), xR 0 0 0] M
  refine xl_st hC c0 s0 (xs_iconst dL_law_1086) ?_
  show XWW p l e room_1 s m #[Value.ref b] below meth c cells slots (lw_Z below #[Value.ref b] s) D G ρ 9 1087 [some (xR 40 0 0), some (xR 0 0 0), some (xR 20 0 0), some (xR 26 0 0), some (xI i), x5, x6, x7, x8] [xI 2, xI i, xR 40 0 0, xI (SLx xs (i + 1)), xR 0 0 0] M
  refine xl_st hC c0 s0 (xs_iadd dL_law_1087) ?_
  show XWW p l e room_1 s m #[Value.ref b] below meth c cells slots (lw_Z below #[Value.ref b] s) D G ρ 9 1088 [some (xR 40 0 0), some (xR 0 0 0), some (xR 20 0 0), some (xR 26 0 0), some (xI i), x5, x6, x7, x8] [xI (i + 2), xR 40 0 0, xI (SLx xs (i + 1)), xR 0 0 0] M
  refine xl_sld hC hX (by omega) (by omega) dL_law_1088 ?_
  show XWW p l e room_1 s m #[Value.ref b] below meth c cells slots (lw_Z below #[Value.ref b] s) D G ρ 9 1089 [some (xR 40 0 0), some (xR 0 0 0), some (xR 20 0 0), some (xR 26 0 0), some (xI i), x5, x6, x7, x8] [xI (SLx xs (i + 2)), xI (SLx xs (i + 1)), xR 0 0 0] M
  refine xl_st hC c0 s0 (xs_aload_n (i := 3) dL_law_1089 rfl) ?_
  show XWW p l e room_1 s m #[Value.ref b] below meth c cells slots (lw_Z below #[Value.ref b] s) D G ρ 9 1090 [some (xR 40 0 0), some (xR 0 0 0), some (xR 20 0 0), some (xR 26 0 0), some (xI i), x5, x6, x7, x8] [xR 26 0 0, xI (SLx xs (i + 2)), xI (SLx xs (i + 1)), xR 0 0 0] M
  refine xl_call (n := 4) (As := [xR 0 0 0, xI (SLx xs (i + 1)), xI (SLx xs (i + 2)), xR 26 0 0]) (st := []) kL_move ⟨⟨rfl, rfl, by decide, by decide⟩, ⟨by decide, by decide, by decide +kernel⟩, tw_911, tw_912, tw_0, twL_move⟩ dL_law_1090 hC hl hE hc hs rfl (by decide) ⟨(SLx xs (i + 1)), (SLx xs (i + 2)), rfl, lc_move hZ h (SL_in _ _) (SL_in _ _)⟩ (fun rv N1 hq => ?_)
  obtain ⟨k, rfl, ⟨k0, k3⟩, href⟩ := hq
  show XWW p l e room_1 s m #[Value.ref b] below meth c (cells + 1) (slots + 6) (lw_Z below #[Value.ref b] s) D G ρ 9 1093 [some (xR 40 0 0), some (xR 0 0 0), some (xR 20 0 0), some (xR 26 0 0), some (xI i), x5, x6, x7, x8] [xI k] N1
  refine xl_st hC hc hs (xs_istore dL_law_1093 (by decide)) ?_
  show XWW p l e room_1 s m #[Value.ref b] below meth c (cells + 1) (slots + 6) (lw_Z below #[Value.ref b] s) D G ρ 9 1095 [some (xR 40 0 0), some (xR 0 0 0), some (xR 20 0 0), some (xR 26 0 0), some (xI i), some (xI k), x6, x7, x8] [] N1
  refine xl_st hC hc hs (xs_aload_n (i := 2) dL_law_1095 rfl) ?_
  show XWW p l e room_1 s m #[Value.ref b] below meth c (cells + 1) (slots + 6) (lw_Z below #[Value.ref b] s) D G ρ 9 1096 [some (xR 40 0 0), some (xR 0 0 0), some (xR 20 0 0), some (xR 26 0 0), some (xI i), some (xI k), x6, x7, x8] [xR 20 0 0] N1
  refine xl_st hC hc hs (xs_aload_n (i := 0) dL_law_1096 rfl) ?_
  show XWW p l e room_1 s m #[Value.ref b] below meth c (cells + 1) (slots + 6) (lw_Z below #[Value.ref b] s) D G ρ 9 1097 [some (xR 40 0 0), some (xR 0 0 0), some (xR 20 0 0), some (xR 26 0 0), some (xI i), some (xI k), x6, x7, x8] [xR 40 0 0, xR 20 0 0] N1
  refine xl_st hC hc hs (xs_iload dL_law_1097) ?_
  show XWW p l e room_1 s m #[Value.ref b] below meth c (cells + 1) (slots + 6) (lw_Z below #[Value.ref b] s) D G ρ 9 1099 [some (xR 40 0 0), some (xR 0 0 0), some (xR 20 0 0), some (xR 26 0 0), some (xI i), some (xI k), x6, x7, x8] [xI i, xR 40 0 0, xR 20 0 0] N1
  refine xl_st hC hc hs (xs_iconst dL_law_1099) ?_
  show XWW p l e room_1 s m #[Value.ref b] below meth c (cells + 1) (slots + 6) (lw_Z below #[Value.ref b] s) D G ρ 9 1100 [some (xR 40 0 0), some (xR 0 0 0), some (xR 20 0 0), some (xR 26 0 0), some (xI i), some (xI k), x6, x7, x8] [xI 1, xI i, xR 40 0 0, xR 20 0 0] N1
  refine xl_st hC hc hs (xs_iadd dL_law_1100) ?_
  show XWW p l e room_1 s m #[Value.ref b] below meth c (cells + 1) (slots + 6) (lw_Z below #[Value.ref b] s) D G ρ 9 1101 [some (xR 40 0 0), some (xR 0 0 0), some (xR 20 0 0), some (xR 26 0 0), some (xI i), some (xI k), x6, x7, x8] [xI (i + 1), xR 40 0 0, xR 20 0 0] N1
  refine xl_sld hC hX (by omega) (by omega) dL_law_1101 ?_
  show XWW p l e room_1 s m #[Value.ref b] below meth c (cells + 1) (slots + 6) (lw_Z below #[Value.ref b] s) D G ρ 9 1102 [some (xR 40 0 0), some (xR 0 0 0), some (xR 20 0 0), some (xR 26 0 0), some (xI i), some (xI k), x6, x7, x8] [xI (SLx xs (i + 1)), xR 20 0 0] N1
  refine xl_st hC hc hs (xs_aload_n (i := 0) dL_law_1102 rfl) ?_
  show XWW p l e room_1 s m #[Value.ref b] below meth c (cells + 1) (slots + 6) (lw_Z below #[Value.ref b] s) D G ρ 9 1103 [some (xR 40 0 0), some (xR 0 0 0), some (xR 20 0 0), some (xR 26 0 0), some (xI i), some (xI k), x6, x7, x8] [xR 40 0 0, xI (SLx xs (i + 1)), xR 20 0 0] N1
  refine xl_st hC hc hs (xs_iload dL_law_1103) ?_
  show XWW p l e room_1 s m #[Value.ref b] below meth c (cells + 1) (slots + 6) (lw_Z below #[Value.ref b] s) D G ρ 9 1105 [some (xR 40 0 0), some (xR 0 0 0), some (xR 20 0 0), some (xR 26 0 0), some (xI i), some (xI k), x6, x7, x8] [xI i, xR 40 0 0, xI (SLx xs (i + 1)), xR 20 0 0] N1
  refine xl_st hC hc hs (xs_iconst dL_law_1105) ?_
  show XWW p l e room_1 s m #[Value.ref b] below meth c (cells + 1) (slots + 6) (lw_Z below #[Value.ref b] s) D G ρ 9 1106 [some (xR 40 0 0), some (xR 0 0 0), some (xR 20 0 0), some (xR 26 0 0), some (xI i), some (xI k), x6, x7, x8] [xI 2, xI i, xR 40 0 0, xI (SLx xs (i + 1)), xR 20 0 0] N1
  refine xl_st hC hc hs (xs_iadd dL_law_1106) ?_
  show XWW p l e room_1 s m #[Value.ref b] below meth c (cells + 1) (slots + 6) (lw_Z below #[Value.ref b] s) D G ρ 9 1107 [some (xR 40 0 0), some (xR 0 0 0), some (xR 20 0 0), some (xR 26 0 0), some (xI i), some (xI k), x6, x7, x8] [xI (i + 2), xR 40 0 0, xI (SLx xs (i + 1)), xR 20 0 0] N1
  refine xl_sld hC hX (by omega) (by omega) dL_law_1107 ?_
  show XWW p l e room_1 s m #[Value.ref b] below meth c (cells + 1) (slots + 6) (lw_Z below #[Value.ref b] s) D G ρ 9 1108 [some (xR 40 0 0), some (xR 0 0 0), some (xR 20 0 0), some (xR 26 0 0), some (xI i), some (xI k), x6, x7, x8] [xI (SLx xs (i + 2)), xI (SLx xs (i + 1)), xR 20 0 0] N1
  refine xl_st hC hc hs (xs_V2 kX8_move ⟨⟨rfl, rfl, by decide, by decide⟩, ⟨by decide, by decide, by decide +kernel⟩, ⟨tw_1244, tw_1245, tw_1246, tw_9, tw_1247⟩, 8, TX8, _, rfl, fun G ρ f i k => ⟨_, rfl⟩⟩ dL_law_1108) ⟨⟨rfl, xvz_20, by decide⟩, href⟩
set_option maxRecDepth 100000 in
theorem cs_wrap {p : Program} {l : Launch} {e : Env} {s : State} {m : MethodId} {below : List Frame} {meth : Method} {c : Code} {D : va_G} {G : Nat → ClassId} {ρ : XOb → Nat} {b Ln : Nat} {xs : Nat → Int32} {cells slots : Nat} (hC : XCX p room_1 s m #[Value.ref b] c 0 0 D G ρ cL_law 9 RL (Cond.initialized RL :: xT)) (hl : l.stackTraces = false) (hE : (XEw s ∧ XEs s ∧ XEz (XA ρ s.heap.size) s s.heap) ∧ XEc s) (hX : XSc s ρ b Ln xs) (hc : cells + 1 ≤ 601024) (hs : slots + 6 ≤ 7293034) {i : Int} (h0 : 0 ≤ i) (h6 : i + 6 ≤ Ln) {M : XM} (h : RR M) {x5 x6 x7 x8 : Option XV} (next : ∀ (y5 y6 y7 y8 : Option XV) (N : XM), RR N → XWW p l e room_1 s m #[Value.ref b] below meth c (cells + 1) (slots + 6) (lw_Z below #[Value.ref b] s) D G ρ 9 2181 [some (xR 40 0 0), some (xR 0 0 0), some (xR 20 0 0), some (xR 26 0 0), some (xI i), y5, y6, y7, y8] [] N) : XWW p l e room_1 s m #[Value.ref b] below meth c cells slots (lw_Z below #[Value.ref b] s) D G ρ 9 1144 [some (xR 40 0 0), some (xR 0 0 0), some (xR 20 0 0), some (xR 26 0 0), some (xI i), x5, x6, x7, x8] [] M := by
  have c0 : cells ≤ room_1.cells := Nat.le_trans (Nat.le_succ _) hc
  have s0 : slots ≤ room_1.slots := Nat.le_trans (Nat.le_add_right _ 6) hs
  have hZ : ∀ (k : Int) (rv : List XV) (N : XM), 0 ≤ k → k ≤ 3 → LE k rv N → (fun (k : Int) (rv : List XV) (N : XM) => XWW p l e room_1 s m #[Value.ref b] below meth c (cells + 1) (slots + 6) (lw_Z below #[Value.ref b] s) D G ρ 9 1167 [some (xR 40 0 0), some (xR 0 0 0), some (xR 20 0 0), some (xR 26 0 0), some (xI i), some (xI k), x6, x7, x8] (rv ++ []) N) k rv N := by
    intro k rv N k0 k3 hLE
    obtain ⟨v, rfl, hR, h5, h26⟩ := hLE
    show XWW p l e room_1 s m #[Value.ref b] below meth c (cells + 1) (slots + 6) (lw_Z below #[Value.ref b] s) D G ρ 9 1167 [some (xR 40 0 0), some (xR 0 0 0), some (xR 20 0 0), some (xR 26 0 0), some (xI i), some (xI k), x6, x7, x8] [xI v] N
    refine xl_st hC hc hs (xs_istore dL_law_1167 (by decide)) ?_
    show XWW p l e room_1 s m #[Value.ref b] below meth c (cells + 1) (slots + 6) (lw_Z below #[Value.ref b] s) D G ρ 9 1169 [some (xR 40 0 0), some (xR 0 0 0), some (xR 20 0 0), some (xR 26 0 0), some (xI i), some (xI k), some (xI v), x7, x8] [] N
    refine xl_st hC hc hs (xs_aload_n (i := 2) dL_law_1169 rfl) ?_
    show XWW p l e room_1 s m #[Value.ref b] below meth c (cells + 1) (slots + 6) (lw_Z below #[Value.ref b] s) D G ρ 9 1170 [some (xR 40 0 0), some (xR 0 0 0), some (xR 20 0 0), some (xR 26 0 0), some (xI i), some (xI k), some (xI v), x7, x8] [xR 20 0 0] N
    refine xl_st hC hc hs (xs_V0 kX8_thrown ⟨⟨rfl, rfl, by decide, by decide⟩, ⟨by decide, by decide, by decide +kernel⟩, ⟨tw_1091, tw_1092, tw_1093, tw_9, tw_1094⟩, 8, TX8, _, rfl, fun G ρ f i k => ⟨_, rfl⟩⟩ dL_law_1170) ⟨⟨rfl, xvz_20, by decide⟩, ⟨rfl, xvz_20⟩, ?_⟩
    show XWW p l e room_1 s m #[Value.ref b] below meth c (cells + 1) (slots + 6) (lw_Z below #[Value.ref b] s) D G ρ 9 1173 [some (xR 40 0 0), some (xR 0 0 0), some (xR 20 0 0), some (xR 26 0 0), some (xI i), some (xI k), some (xI v), x7, x8] [xI (N 20 0 0 5)] N
    refine xl_st hC hc hs (xs_iload dL_law_1173) ?_
    show XWW p l e room_1 s m #[Value.ref b] below meth c (cells + 1) (slots + 6) (lw_Z below #[Value.ref b] s) D G ρ 9 1175 [some (xR 40 0 0), some (xR 0 0 0), some (xR 20 0 0), some (xR 26 0 0), some (xI i), some (xI k), some (xI v), x7, x8] [xI k, xI (N 20 0 0 5)] N
    refine xl_st hC hc hs (xs_icmp_eq (t := 1180) dL_law_1175 (by decide)) ⟨⟨by rw [h5]; exact ⟨by omega, by omega⟩, ⟨by omega, by omega⟩⟩, fun _ => ?_, fun q => absurd h5 q⟩
    show XWW p l e room_1 s m #[Value.ref b] below meth c (cells + 1) (slots + 6) (lw_Z below #[Value.ref b] s) D G ρ 9 1180 [some (xR 40 0 0), some (xR 0 0 0), some (xR 20 0 0), some (xR 26 0 0), some (xI i), some (xI k), some (xI v), x7, x8] [] N
    refine xl_st hC hc hs (xs_iload dL_law_1180) ?_
    show XWW p l e room_1 s m #[Value.ref b] below meth c (cells + 1) (slots + 6) (lw_Z below #[Value.ref b] s) D G ρ 9 1182 [some (xR 40 0 0), some (xR 0 0 0), some (xR 20 0 0), some (xR 26 0 0), some (xI i), some (xI k), some (xI v), x7, x8] [xI k] N
    refine xl_st hC hc hs (xs_if_ne (t := 1197) dL_law_1182 (by decide)) ⟨⟨by omega, by omega⟩, fun _ => ?_, fun q => ?_⟩
    · show XWW p l e room_1 s m #[Value.ref b] below meth c (cells + 1) (slots + 6) (lw_Z below #[Value.ref b] s) D G ρ 9 1197 [some (xR 40 0 0), some (xR 0 0 0), some (xR 20 0 0), some (xR 26 0 0), some (xI i), some (xI k), some (xI v), x7, x8] [] N
      refine xl_st hC hc hs (xs_goto (t := 2181) dL_law_1197 (by decide)) ?_
      show XWW p l e room_1 s m #[Value.ref b] below meth c (cells + 1) (slots + 6) (lw_Z below #[Value.ref b] s) D G ρ 9 2181 [some (xR 40 0 0), some (xR 0 0 0), some (xR 20 0 0), some (xR 26 0 0), some (xI i), some (xI k), some (xI v), x7, x8] [] N
      exact next _ _ _ _ N hR
    · show XWW p l e room_1 s m #[Value.ref b] below meth c (cells + 1) (slots + 6) (lw_Z below #[Value.ref b] s) D G ρ 9 1185 [some (xR 40 0 0), some (xR 0 0 0), some (xR 20 0 0), some (xR 26 0 0), some (xI i), some (xI k), some (xI v), x7, x8] [] N
      refine xl_st hC hc hs (xs_aload_n (i := 3) dL_law_1185 rfl) ?_
      show XWW p l e room_1 s m #[Value.ref b] below meth c (cells + 1) (slots + 6) (lw_Z below #[Value.ref b] s) D G ρ 9 1186 [some (xR 40 0 0), some (xR 0 0 0), some (xR 20 0 0), some (xR 26 0 0), some (xI i), some (xI k), some (xI v), x7, x8] [xR 26 0 0] N
      refine xl_st hC hc hs (xs_iconst dL_law_1186) ?_
      show XWW p l e room_1 s m #[Value.ref b] below meth c (cells + 1) (slots + 6) (lw_Z below #[Value.ref b] s) D G ρ 9 1187 [some (xR 40 0 0), some (xR 0 0 0), some (xR 20 0 0), some (xR 26 0 0), some (xI i), some (xI k), some (xI v), x7, x8] [xI 0, xR 26 0 0] N
      refine xl_st hC hc hs (xs_lald dL_law_1187) ⟨⟨rfl, rfl, rfl, rfl⟩, ?_⟩
      show XWW p l e room_1 s m #[Value.ref b] below meth c (cells + 1) (slots + 6) (lw_Z below #[Value.ref b] s) D G ρ 9 1188 [some (xR 40 0 0), some (xR 0 0 0), some (xR 20 0 0), some (xR 26 0 0), some (xI i), some (xI k), some (xI v), x7, x8] [xJ (N 26 0 0 0)] N
      refine xl_st hC hc hs (xs_iload dL_law_1188) ?_
      show XWW p l e room_1 s m #[Value.ref b] below meth c (cells + 1) (slots + 6) (lw_Z below #[Value.ref b] s) D G ρ 9 1190 [some (xR 40 0 0), some (xR 0 0 0), some (xR 20 0 0), some (xR 26 0 0), some (xI i), some (xI k), some (xI v), x7, x8] [xI v, xJ (N 26 0 0 0)] N
      refine xl_st hC hc hs (xs_i2lw dL_law_1190) ?_
      show XWW p l e room_1 s m #[Value.ref b] below meth c (cells + 1) (slots + 6) (lw_Z below #[Value.ref b] s) D G ρ 9 1191 [some (xR 40 0 0), some (xR 0 0 0), some (xR 20 0 0), some (xR 26 0 0), some (xI i), some (xI k), some (xI v), x7, x8] [xJ (w32 v), xJ (N 26 0 0 0)] N
      refine xl_st hC hc hs (xs_lcmp dL_law_1191) ⟨h26 q, ?_⟩
      show XWW p l e room_1 s m #[Value.ref b] below meth c (cells + 1) (slots + 6) (lw_Z below #[Value.ref b] s) D G ρ 9 1192 [some (xR 40 0 0), some (xR 0 0 0), some (xR 20 0 0), some (xR 26 0 0), some (xI i), some (xI k), some (xI v), x7, x8] [xI 0] N
      refine xl_st hC hc hs (xs_if_eq (t := 1197) dL_law_1192 (by decide)) ⟨x_r0, fun _ => ?_, fun q => absurd rfl q⟩
      show XWW p l e room_1 s m #[Value.ref b] below meth c (cells + 1) (slots + 6) (lw_Z below #[Value.ref b] s) D G ρ 9 1197 [some (xR 40 0 0), some (xR 0 0 0), some (xR 20 0 0), some (xR 26 0 0), some (xI i), some (xI k), some (xI v), x7, x8] [] N
      refine xl_st hC hc hs (xs_goto (t := 2181) dL_law_1197 (by decide)) ?_
      show XWW p l e room_1 s m #[Value.ref b] below meth c (cells + 1) (slots + 6) (lw_Z below #[Value.ref b] s) D G ρ 9 2181 [some (xR 40 0 0), some (xR 0 0 0), some (xR 20 0 0), some (xR 26 0 0), some (xI i), some (xI k), some (xI v), x7, x8] [] N
      exact next _ _ _ _ N hR
  show XWW p l e room_1 s m #[Value.ref b] below meth c cells slots (lw_Z below #[Value.ref b] s) D G ρ 9 1144 [some (xR 40 0 0), some (xR 0 0 0), some (xR 20 0 0), some (xR 26 0 0), some (xI i), x5, x6, x7, x8] [] M
  refine xl_st hC c0 s0 (xs_aload_n (i := 1) dL_law_1144 rfl) ?_
  show XWW p l e room_1 s m #[Value.ref b] below meth c cells slots (lw_Z below #[Value.ref b] s) D G ρ 9 1145 [some (xR 40 0 0), some (xR 0 0 0), some (xR 20 0 0), some (xR 26 0 0), some (xI i), x5, x6, x7, x8] [xR 0 0 0] M
  refine xl_st hC c0 s0 (xs_aload_n (i := 0) dL_law_1145 rfl) ?_
  show XWW p l e room_1 s m #[Value.ref b] below meth c cells slots (lw_Z below #[Value.ref b] s) D G ρ 9 1146 [some (xR 40 0 0), some (xR 0 0 0), some (xR 20 0 0), some (xR 26 0 0), some (xI i), x5, x6, x7, x8] [xR 40 0 0, xR 0 0 0] M
  refine xl_st hC c0 s0 (xs_iload dL_law_1146) ?_
  show XWW p l e room_1 s m #[Value.ref b] below meth c cells slots (lw_Z below #[Value.ref b] s) D G ρ 9 1148 [some (xR 40 0 0), some (xR 0 0 0), some (xR 20 0 0), some (xR 26 0 0), some (xI i), x5, x6, x7, x8] [xI i, xR 40 0 0, xR 0 0 0] M
  refine xl_st hC c0 s0 (xs_iconst dL_law_1148) ?_
  show XWW p l e room_1 s m #[Value.ref b] below meth c cells slots (lw_Z below #[Value.ref b] s) D G ρ 9 1149 [some (xR 40 0 0), some (xR 0 0 0), some (xR 20 0 0), some (xR 26 0 0), some (xI i), x5, x6, x7, x8] [xI 1, xI i, xR 40 0 0, xR 0 0 0] M
  refine xl_st hC c0 s0 (xs_iadd dL_law_1149) ?_
  show XWW p l e room_1 s m #[Value.ref b] below meth c cells slots (lw_Z below #[Value.ref b] s) D G ρ 9 1150 [some (xR 40 0 0), some (xR 0 0 0), some (xR 20 0 0), some (xR 26 0 0), some (xI i), x5, x6, x7, x8] [xI (i + 1), xR 40 0 0, xR 0 0 0] M
  refine xl_sld hC hX (by omega) (by omega) dL_law_1150 ?_
  show XWW p l e room_1 s m #[Value.ref b] below meth c cells slots (lw_Z below #[Value.ref b] s) D G ρ 9 1151 [some (xR 40 0 0), some (xR 0 0 0), some (xR 20 0 0), some (xR 26 0 0), some (xI i), x5, x6, x7, x8] [xI (SLx xs (i + 1)), xR 0 0 0] M
  refine xl_st hC c0 s0 (xs_aload_n (i := 3) dL_law_1151 rfl) ?_
  show XWW p l e room_1 s m #[Value.ref b] below meth c cells slots (lw_Z below #[Value.ref b] s) D G ρ 9 1152 [some (xR 40 0 0), some (xR 0 0 0), some (xR 20 0 0), some (xR 26 0 0), some (xI i), x5, x6, x7, x8] [xR 26 0 0, xI (SLx xs (i + 1)), xR 0 0 0] M
  refine xl_call (n := 3) (As := [xR 0 0 0, xI (SLx xs (i + 1)), xR 26 0 0]) (st := []) kL_wrap ⟨⟨rfl, rfl, by decide, by decide⟩, ⟨by decide, by decide, by decide +kernel⟩, tw_918, tw_919, tw_0, twL_wrap⟩ dL_law_1152 hC hl hE hc hs rfl (by decide) ⟨(SLx xs (i + 1)), rfl, lc_wrap hZ h (SL_in _ _)⟩ (fun rv N1 hq => ?_)
  obtain ⟨k, rfl, ⟨k0, k3⟩, href⟩ := hq
  show XWW p l e room_1 s m #[Value.ref b] below meth c (cells + 1) (slots + 6) (lw_Z below #[Value.ref b] s) D G ρ 9 1155 [some (xR 40 0 0), some (xR 0 0 0), some (xR 20 0 0), some (xR 26 0 0), some (xI i), x5, x6, x7, x8] [xI k] N1
  refine xl_st hC hc hs (xs_istore dL_law_1155 (by decide)) ?_
  show XWW p l e room_1 s m #[Value.ref b] below meth c (cells + 1) (slots + 6) (lw_Z below #[Value.ref b] s) D G ρ 9 1157 [some (xR 40 0 0), some (xR 0 0 0), some (xR 20 0 0), some (xR 26 0 0), some (xI i), some (xI k), x6, x7, x8] [] N1
  refine xl_st hC hc hs (xs_aload_n (i := 2) dL_law_1157 rfl) ?_
  show XWW p l e room_1 s m #[Value.ref b] below meth c (cells + 1) (slots + 6) (lw_Z below #[Value.ref b] s) D G ρ 9 1158 [some (xR 40 0 0), some (xR 0 0 0), some (xR 20 0 0), some (xR 26 0 0), some (xI i), some (xI k), x6, x7, x8] [xR 20 0 0] N1
  refine xl_st hC hc hs (xs_aload_n (i := 0) dL_law_1158 rfl) ?_
  show XWW p l e room_1 s m #[Value.ref b] below meth c (cells + 1) (slots + 6) (lw_Z below #[Value.ref b] s) D G ρ 9 1159 [some (xR 40 0 0), some (xR 0 0 0), some (xR 20 0 0), some (xR 26 0 0), some (xI i), some (xI k), x6, x7, x8] [xR 40 0 0, xR 20 0 0] N1
  refine xl_st hC hc hs (xs_iload dL_law_1159) ?_
  show XWW p l e room_1 s m #[Value.ref b] below meth c (cells + 1) (slots + 6) (lw_Z below #[Value.ref b] s) D G ρ 9 1161 [some (xR 40 0 0), some (xR 0 0 0), some (xR 20 0 0), some (xR 26 0 0), some (xI i), some (xI k), x6, x7, x8] [xI i, xR 40 0 0, xR 20 0 0] N1
  refine xl_st hC hc hs (xs_iconst dL_law_1161) ?_
  show XWW p l e room_1 s m #[Value.ref b] below meth c (cells + 1) (slots + 6) (lw_Z below #[Value.ref b] s) D G ρ 9 1162 [some (xR 40 0 0), some (xR 0 0 0), some (xR 20 0 0), some (xR 26 0 0), some (xI i), some (xI k), x6, x7, x8] [xI 1, xI i, xR 40 0 0, xR 20 0 0] N1
  refine xl_st hC hc hs (xs_iadd dL_law_1162) ?_
  show XWW p l e room_1 s m #[Value.ref b] below meth c (cells + 1) (slots + 6) (lw_Z below #[Value.ref b] s) D G ρ 9 1163 [some (xR 40 0 0), some (xR 0 0 0), some (xR 20 0 0), some (xR 26 0 0), some (xI i), some (xI k), x6, x7, x8] [xI (i + 1), xR 40 0 0, xR 20 0 0] N1
  refine xl_sld hC hX (by omega) (by omega) dL_law_1163 ?_
  show XWW p l e room_1 s m #[Value.ref b] below meth c (cells + 1) (slots + 6) (lw_Z below #[Value.ref b] s) D G ρ 9 1164 [some (xR 40 0 0), some (xR 0 0 0), some (xR 20 0 0), some (xR 26 0 0), some (xI i), some (xI k), x6, x7, x8] [xI (SLx xs (i + 1)), xR 20 0 0] N1
  refine xl_st hC hc hs (xs_V1 kX8_wrap ⟨⟨rfl, rfl, by decide, by decide⟩, ⟨by decide, by decide, by decide +kernel⟩, ⟨tw_1248, tw_1249, tw_1250, tw_9, tw_1251⟩, 8, TX8, _, rfl, fun G ρ f i k => ⟨_, rfl⟩⟩ dL_law_1164) ⟨⟨rfl, xvz_20, by decide⟩, href⟩
set_option maxRecDepth 100000 in
theorem cs_pass {p : Program} {l : Launch} {e : Env} {s : State} {m : MethodId} {below : List Frame} {meth : Method} {c : Code} {D : va_G} {G : Nat → ClassId} {ρ : XOb → Nat} {b Ln : Nat} {xs : Nat → Int32} {cells slots : Nat} (hC : XCX p room_1 s m #[Value.ref b] c 0 0 D G ρ cL_law 9 RL (Cond.initialized RL :: xT)) (hl : l.stackTraces = false) (hE : (XEw s ∧ XEs s ∧ XEz (XA ρ s.heap.size) s s.heap) ∧ XEc s) (hX : XSc s ρ b Ln xs) (hc : cells + 1 ≤ 601024) (hs : slots + 6 ≤ 7293034) {i : Int} (h0 : 0 ≤ i) (h6 : i + 6 ≤ Ln) {M : XM} (h : RR M) {x5 x6 x7 x8 : Option XV} (next : ∀ (y5 y6 y7 y8 : Option XV) (N : XM), RR N → XWW p l e room_1 s m #[Value.ref b] below meth c (cells + 1) (slots + 6) (lw_Z below #[Value.ref b] s) D G ρ 9 2181 [some (xR 40 0 0), some (xR 0 0 0), some (xR 20 0 0), some (xR 26 0 0), some (xI i), y5, y6, y7, y8] [] N) : XWW p l e room_1 s m #[Value.ref b] below meth c cells slots (lw_Z below #[Value.ref b] s) D G ρ 9 1200 [some (xR 40 0 0), some (xR 0 0 0), some (xR 20 0 0), some (xR 26 0 0), some (xI i), x5, x6, x7, x8] [] M := by
  have c0 : cells ≤ room_1.cells := Nat.le_trans (Nat.le_succ _) hc
  have s0 : slots ≤ room_1.slots := Nat.le_trans (Nat.le_add_right _ 6) hs
  have hZ : ∀ (k : Int) (rv : List XV) (N : XM), 0 ≤ k → k ≤ 3 → LE k rv N → (fun (k : Int) (rv : List XV) (N : XM) => XWW p l e room_1 s m #[Value.ref b] below meth c (cells + 1) (slots + 6) (lw_Z below #[Value.ref b] s) D G ρ 9 1223 [some (xR 40 0 0), some (xR 0 0 0), some (xR 20 0 0), some (xR 26 0 0), some (xI i), some (xI k), x6, x7, x8] (rv ++ []) N) k rv N := by
    intro k rv N k0 k3 hLE
    obtain ⟨v, rfl, hR, h5, h26⟩ := hLE
    show XWW p l e room_1 s m #[Value.ref b] below meth c (cells + 1) (slots + 6) (lw_Z below #[Value.ref b] s) D G ρ 9 1223 [some (xR 40 0 0), some (xR 0 0 0), some (xR 20 0 0), some (xR 26 0 0), some (xI i), some (xI k), x6, x7, x8] [xI v] N
    refine xl_st hC hc hs (xs_istore dL_law_1223 (by decide)) ?_
    show XWW p l e room_1 s m #[Value.ref b] below meth c (cells + 1) (slots + 6) (lw_Z below #[Value.ref b] s) D G ρ 9 1225 [some (xR 40 0 0), some (xR 0 0 0), some (xR 20 0 0), some (xR 26 0 0), some (xI i), some (xI k), some (xI v), x7, x8] [] N
    refine xl_st hC hc hs (xs_aload_n (i := 2) dL_law_1225 rfl) ?_
    show XWW p l e room_1 s m #[Value.ref b] below meth c (cells + 1) (slots + 6) (lw_Z below #[Value.ref b] s) D G ρ 9 1226 [some (xR 40 0 0), some (xR 0 0 0), some (xR 20 0 0), some (xR 26 0 0), some (xI i), some (xI k), some (xI v), x7, x8] [xR 20 0 0] N
    refine xl_st hC hc hs (xs_V0 kX8_thrown ⟨⟨rfl, rfl, by decide, by decide⟩, ⟨by decide, by decide, by decide +kernel⟩, ⟨tw_1091, tw_1092, tw_1093, tw_9, tw_1094⟩, 8, TX8, _, rfl, fun G ρ f i k => ⟨_, rfl⟩⟩ dL_law_1226) ⟨⟨rfl, xvz_20, by decide⟩, ⟨rfl, xvz_20⟩, ?_⟩
    show XWW p l e room_1 s m #[Value.ref b] below meth c (cells + 1) (slots + 6) (lw_Z below #[Value.ref b] s) D G ρ 9 1229 [some (xR 40 0 0), some (xR 0 0 0), some (xR 20 0 0), some (xR 26 0 0), some (xI i), some (xI k), some (xI v), x7, x8] [xI (N 20 0 0 5)] N
    refine xl_st hC hc hs (xs_iload dL_law_1229) ?_
    show XWW p l e room_1 s m #[Value.ref b] below meth c (cells + 1) (slots + 6) (lw_Z below #[Value.ref b] s) D G ρ 9 1231 [some (xR 40 0 0), some (xR 0 0 0), some (xR 20 0 0), some (xR 26 0 0), some (xI i), some (xI k), some (xI v), x7, x8] [xI k, xI (N 20 0 0 5)] N
    refine xl_st hC hc hs (xs_icmp_eq (t := 1236) dL_law_1231 (by decide)) ⟨⟨by rw [h5]; exact ⟨by omega, by omega⟩, ⟨by omega, by omega⟩⟩, fun _ => ?_, fun q => absurd h5 q⟩
    show XWW p l e room_1 s m #[Value.ref b] below meth c (cells + 1) (slots + 6) (lw_Z below #[Value.ref b] s) D G ρ 9 1236 [some (xR 40 0 0), some (xR 0 0 0), some (xR 20 0 0), some (xR 26 0 0), some (xI i), some (xI k), some (xI v), x7, x8] [] N
    refine xl_st hC hc hs (xs_iload dL_law_1236) ?_
    show XWW p l e room_1 s m #[Value.ref b] below meth c (cells + 1) (slots + 6) (lw_Z below #[Value.ref b] s) D G ρ 9 1238 [some (xR 40 0 0), some (xR 0 0 0), some (xR 20 0 0), some (xR 26 0 0), some (xI i), some (xI k), some (xI v), x7, x8] [xI k] N
    refine xl_st hC hc hs (xs_if_ne (t := 1253) dL_law_1238 (by decide)) ⟨⟨by omega, by omega⟩, fun _ => ?_, fun q => ?_⟩
    · show XWW p l e room_1 s m #[Value.ref b] below meth c (cells + 1) (slots + 6) (lw_Z below #[Value.ref b] s) D G ρ 9 1253 [some (xR 40 0 0), some (xR 0 0 0), some (xR 20 0 0), some (xR 26 0 0), some (xI i), some (xI k), some (xI v), x7, x8] [] N
      refine xl_st hC hc hs (xs_goto (t := 2181) dL_law_1253 (by decide)) ?_
      show XWW p l e room_1 s m #[Value.ref b] below meth c (cells + 1) (slots + 6) (lw_Z below #[Value.ref b] s) D G ρ 9 2181 [some (xR 40 0 0), some (xR 0 0 0), some (xR 20 0 0), some (xR 26 0 0), some (xI i), some (xI k), some (xI v), x7, x8] [] N
      exact next _ _ _ _ N hR
    · show XWW p l e room_1 s m #[Value.ref b] below meth c (cells + 1) (slots + 6) (lw_Z below #[Value.ref b] s) D G ρ 9 1241 [some (xR 40 0 0), some (xR 0 0 0), some (xR 20 0 0), some (xR 26 0 0), some (xI i), some (xI k), some (xI v), x7, x8] [] N
      refine xl_st hC hc hs (xs_aload_n (i := 3) dL_law_1241 rfl) ?_
      show XWW p l e room_1 s m #[Value.ref b] below meth c (cells + 1) (slots + 6) (lw_Z below #[Value.ref b] s) D G ρ 9 1242 [some (xR 40 0 0), some (xR 0 0 0), some (xR 20 0 0), some (xR 26 0 0), some (xI i), some (xI k), some (xI v), x7, x8] [xR 26 0 0] N
      refine xl_st hC hc hs (xs_iconst dL_law_1242) ?_
      show XWW p l e room_1 s m #[Value.ref b] below meth c (cells + 1) (slots + 6) (lw_Z below #[Value.ref b] s) D G ρ 9 1243 [some (xR 40 0 0), some (xR 0 0 0), some (xR 20 0 0), some (xR 26 0 0), some (xI i), some (xI k), some (xI v), x7, x8] [xI 0, xR 26 0 0] N
      refine xl_st hC hc hs (xs_lald dL_law_1243) ⟨⟨rfl, rfl, rfl, rfl⟩, ?_⟩
      show XWW p l e room_1 s m #[Value.ref b] below meth c (cells + 1) (slots + 6) (lw_Z below #[Value.ref b] s) D G ρ 9 1244 [some (xR 40 0 0), some (xR 0 0 0), some (xR 20 0 0), some (xR 26 0 0), some (xI i), some (xI k), some (xI v), x7, x8] [xJ (N 26 0 0 0)] N
      refine xl_st hC hc hs (xs_iload dL_law_1244) ?_
      show XWW p l e room_1 s m #[Value.ref b] below meth c (cells + 1) (slots + 6) (lw_Z below #[Value.ref b] s) D G ρ 9 1246 [some (xR 40 0 0), some (xR 0 0 0), some (xR 20 0 0), some (xR 26 0 0), some (xI i), some (xI k), some (xI v), x7, x8] [xI v, xJ (N 26 0 0 0)] N
      refine xl_st hC hc hs (xs_i2lw dL_law_1246) ?_
      show XWW p l e room_1 s m #[Value.ref b] below meth c (cells + 1) (slots + 6) (lw_Z below #[Value.ref b] s) D G ρ 9 1247 [some (xR 40 0 0), some (xR 0 0 0), some (xR 20 0 0), some (xR 26 0 0), some (xI i), some (xI k), some (xI v), x7, x8] [xJ (w32 v), xJ (N 26 0 0 0)] N
      refine xl_st hC hc hs (xs_lcmp dL_law_1247) ⟨h26 q, ?_⟩
      show XWW p l e room_1 s m #[Value.ref b] below meth c (cells + 1) (slots + 6) (lw_Z below #[Value.ref b] s) D G ρ 9 1248 [some (xR 40 0 0), some (xR 0 0 0), some (xR 20 0 0), some (xR 26 0 0), some (xI i), some (xI k), some (xI v), x7, x8] [xI 0] N
      refine xl_st hC hc hs (xs_if_eq (t := 1253) dL_law_1248 (by decide)) ⟨x_r0, fun _ => ?_, fun q => absurd rfl q⟩
      show XWW p l e room_1 s m #[Value.ref b] below meth c (cells + 1) (slots + 6) (lw_Z below #[Value.ref b] s) D G ρ 9 1253 [some (xR 40 0 0), some (xR 0 0 0), some (xR 20 0 0), some (xR 26 0 0), some (xI i), some (xI k), some (xI v), x7, x8] [] N
      refine xl_st hC hc hs (xs_goto (t := 2181) dL_law_1253 (by decide)) ?_
      show XWW p l e room_1 s m #[Value.ref b] below meth c (cells + 1) (slots + 6) (lw_Z below #[Value.ref b] s) D G ρ 9 2181 [some (xR 40 0 0), some (xR 0 0 0), some (xR 20 0 0), some (xR 26 0 0), some (xI i), some (xI k), some (xI v), x7, x8] [] N
      exact next _ _ _ _ N hR
  show XWW p l e room_1 s m #[Value.ref b] below meth c cells slots (lw_Z below #[Value.ref b] s) D G ρ 9 1200 [some (xR 40 0 0), some (xR 0 0 0), some (xR 20 0 0), some (xR 26 0 0), some (xI i), x5, x6, x7, x8] [] M
  refine xl_st hC c0 s0 (xs_aload_n (i := 1) dL_law_1200 rfl) ?_
  show XWW p l e room_1 s m #[Value.ref b] below meth c cells slots (lw_Z below #[Value.ref b] s) D G ρ 9 1201 [some (xR 40 0 0), some (xR 0 0 0), some (xR 20 0 0), some (xR 26 0 0), some (xI i), x5, x6, x7, x8] [xR 0 0 0] M
  refine xl_st hC c0 s0 (xs_aload_n (i := 0) dL_law_1201 rfl) ?_
  show XWW p l e room_1 s m #[Value.ref b] below meth c cells slots (lw_Z below #[Value.ref b] s) D G ρ 9 1202 [some (xR 40 0 0), some (xR 0 0 0), some (xR 20 0 0), some (xR 26 0 0), some (xI i), x5, x6, x7, x8] [xR 40 0 0, xR 0 0 0] M
  refine xl_st hC c0 s0 (xs_iload dL_law_1202) ?_
  show XWW p l e room_1 s m #[Value.ref b] below meth c cells slots (lw_Z below #[Value.ref b] s) D G ρ 9 1204 [some (xR 40 0 0), some (xR 0 0 0), some (xR 20 0 0), some (xR 26 0 0), some (xI i), x5, x6, x7, x8] [xI i, xR 40 0 0, xR 0 0 0] M
  refine xl_st hC c0 s0 (xs_iconst dL_law_1204) ?_
  show XWW p l e room_1 s m #[Value.ref b] below meth c cells slots (lw_Z below #[Value.ref b] s) D G ρ 9 1205 [some (xR 40 0 0), some (xR 0 0 0), some (xR 20 0 0), some (xR 26 0 0), some (xI i), x5, x6, x7, x8] [xI 1, xI i, xR 40 0 0, xR 0 0 0] M
  refine xl_st hC c0 s0 (xs_iadd dL_law_1205) ?_
  show XWW p l e room_1 s m #[Value.ref b] below meth c cells slots (lw_Z below #[Value.ref b] s) D G ρ 9 1206 [some (xR 40 0 0), some (xR 0 0 0), some (xR 20 0 0), some (xR 26 0 0), some (xI i), x5, x6, x7, x8] [xI (i + 1), xR 40 0 0, xR 0 0 0] M
  refine xl_sld hC hX (by omega) (by omega) dL_law_1206 ?_
  show XWW p l e room_1 s m #[Value.ref b] below meth c cells slots (lw_Z below #[Value.ref b] s) D G ρ 9 1207 [some (xR 40 0 0), some (xR 0 0 0), some (xR 20 0 0), some (xR 26 0 0), some (xI i), x5, x6, x7, x8] [xI (SLx xs (i + 1)), xR 0 0 0] M
  refine xl_st hC c0 s0 (xs_aload_n (i := 3) dL_law_1207 rfl) ?_
  show XWW p l e room_1 s m #[Value.ref b] below meth c cells slots (lw_Z below #[Value.ref b] s) D G ρ 9 1208 [some (xR 40 0 0), some (xR 0 0 0), some (xR 20 0 0), some (xR 26 0 0), some (xI i), x5, x6, x7, x8] [xR 26 0 0, xI (SLx xs (i + 1)), xR 0 0 0] M
  refine xl_call (n := 3) (As := [xR 0 0 0, xI (SLx xs (i + 1)), xR 26 0 0]) (st := []) kL_pass ⟨⟨rfl, rfl, by decide, by decide⟩, ⟨by decide, by decide, by decide +kernel⟩, tw_926, tw_927, tw_0, twL_pass⟩ dL_law_1208 hC hl hE hc hs rfl (by decide) ⟨(SLx xs (i + 1)), rfl, lc_pass hZ h (SL_in _ _)⟩ (fun rv N1 hq => ?_)
  obtain ⟨k, rfl, ⟨k0, k3⟩, href⟩ := hq
  show XWW p l e room_1 s m #[Value.ref b] below meth c (cells + 1) (slots + 6) (lw_Z below #[Value.ref b] s) D G ρ 9 1211 [some (xR 40 0 0), some (xR 0 0 0), some (xR 20 0 0), some (xR 26 0 0), some (xI i), x5, x6, x7, x8] [xI k] N1
  refine xl_st hC hc hs (xs_istore dL_law_1211 (by decide)) ?_
  show XWW p l e room_1 s m #[Value.ref b] below meth c (cells + 1) (slots + 6) (lw_Z below #[Value.ref b] s) D G ρ 9 1213 [some (xR 40 0 0), some (xR 0 0 0), some (xR 20 0 0), some (xR 26 0 0), some (xI i), some (xI k), x6, x7, x8] [] N1
  refine xl_st hC hc hs (xs_aload_n (i := 2) dL_law_1213 rfl) ?_
  show XWW p l e room_1 s m #[Value.ref b] below meth c (cells + 1) (slots + 6) (lw_Z below #[Value.ref b] s) D G ρ 9 1214 [some (xR 40 0 0), some (xR 0 0 0), some (xR 20 0 0), some (xR 26 0 0), some (xI i), some (xI k), x6, x7, x8] [xR 20 0 0] N1
  refine xl_st hC hc hs (xs_aload_n (i := 0) dL_law_1214 rfl) ?_
  show XWW p l e room_1 s m #[Value.ref b] below meth c (cells + 1) (slots + 6) (lw_Z below #[Value.ref b] s) D G ρ 9 1215 [some (xR 40 0 0), some (xR 0 0 0), some (xR 20 0 0), some (xR 26 0 0), some (xI i), some (xI k), x6, x7, x8] [xR 40 0 0, xR 20 0 0] N1
  refine xl_st hC hc hs (xs_iload dL_law_1215) ?_
  show XWW p l e room_1 s m #[Value.ref b] below meth c (cells + 1) (slots + 6) (lw_Z below #[Value.ref b] s) D G ρ 9 1217 [some (xR 40 0 0), some (xR 0 0 0), some (xR 20 0 0), some (xR 26 0 0), some (xI i), some (xI k), x6, x7, x8] [xI i, xR 40 0 0, xR 20 0 0] N1
  refine xl_st hC hc hs (xs_iconst dL_law_1217) ?_
  show XWW p l e room_1 s m #[Value.ref b] below meth c (cells + 1) (slots + 6) (lw_Z below #[Value.ref b] s) D G ρ 9 1218 [some (xR 40 0 0), some (xR 0 0 0), some (xR 20 0 0), some (xR 26 0 0), some (xI i), some (xI k), x6, x7, x8] [xI 1, xI i, xR 40 0 0, xR 20 0 0] N1
  refine xl_st hC hc hs (xs_iadd dL_law_1218) ?_
  show XWW p l e room_1 s m #[Value.ref b] below meth c (cells + 1) (slots + 6) (lw_Z below #[Value.ref b] s) D G ρ 9 1219 [some (xR 40 0 0), some (xR 0 0 0), some (xR 20 0 0), some (xR 26 0 0), some (xI i), some (xI k), x6, x7, x8] [xI (i + 1), xR 40 0 0, xR 20 0 0] N1
  refine xl_sld hC hX (by omega) (by omega) dL_law_1219 ?_
  show XWW p l e room_1 s m #[Value.ref b] below meth c (cells + 1) (slots + 6) (lw_Z below #[Value.ref b] s) D G ρ 9 1220 [some (xR 40 0 0), some (xR 0 0 0), some (xR 20 0 0), some (xR 26 0 0), some (xI i), some (xI k), x6, x7, x8] [xI (SLx xs (i + 1)), xR 20 0 0] N1
  refine xl_st hC hc hs (xs_V1 kX8_pass ⟨⟨rfl, rfl, by decide, by decide⟩, ⟨by decide, by decide, by decide +kernel⟩, ⟨tw_1256, tw_1257, tw_1258, tw_9, tw_1259⟩, 8, TX8, _, rfl, fun G ρ f i k => ⟨_, rfl⟩⟩ dL_law_1220) ⟨⟨rfl, xvz_20, by decide⟩, href⟩
set_option maxRecDepth 100000 in
theorem cs_append {p : Program} {l : Launch} {e : Env} {s : State} {m : MethodId} {below : List Frame} {meth : Method} {c : Code} {D : va_G} {G : Nat → ClassId} {ρ : XOb → Nat} {b Ln : Nat} {xs : Nat → Int32} {cells slots : Nat} (hC : XCX p room_1 s m #[Value.ref b] c 0 0 D G ρ cL_law 9 RL (Cond.initialized RL :: xT)) (hl : l.stackTraces = false) (hE : (XEw s ∧ XEs s ∧ XEz (XA ρ s.heap.size) s s.heap) ∧ XEc s) (hX : XSc s ρ b Ln xs) (hc : cells + 1 ≤ 601024) (hs : slots + 6 ≤ 7293034) {i : Int} (h0 : 0 ≤ i) (h6 : i + 6 ≤ Ln) {M : XM} (h : RR M) {x5 x6 x7 x8 : Option XV} (next : ∀ (y5 y6 y7 y8 : Option XV) (N : XM), RR N → XWW p l e room_1 s m #[Value.ref b] below meth c (cells + 1) (slots + 6) (lw_Z below #[Value.ref b] s) D G ρ 9 2181 [some (xR 40 0 0), some (xR 0 0 0), some (xR 20 0 0), some (xR 26 0 0), some (xI i), y5, y6, y7, y8] [] N) : XWW p l e room_1 s m #[Value.ref b] below meth c cells slots (lw_Z below #[Value.ref b] s) D G ρ 9 1256 [some (xR 40 0 0), some (xR 0 0 0), some (xR 20 0 0), some (xR 26 0 0), some (xI i), x5, x6, x7, x8] [] M := by
  have c0 : cells ≤ room_1.cells := Nat.le_trans (Nat.le_succ _) hc
  have s0 : slots ≤ room_1.slots := Nat.le_trans (Nat.le_add_right _ 6) hs
  have hZ : ∀ (k : Int) (rv : List XV) (N : XM), 0 ≤ k → k ≤ 3 → LE k rv N → (fun (k : Int) (rv : List XV) (N : XM) => XWW p l e room_1 s m #[Value.ref b] below meth c (cells + 1) (slots + 6) (lw_Z below #[Value.ref b] s) D G ρ 9 1279 [some (xR 40 0 0), some (xR 0 0 0), some (xR 20 0 0), some (xR 26 0 0), some (xI i), some (xI k), x6, x7, x8] (rv ++ []) N) k rv N := by
    intro k rv N k0 k3 hLE
    obtain ⟨v, rfl, hR, h5, h26⟩ := hLE
    show XWW p l e room_1 s m #[Value.ref b] below meth c (cells + 1) (slots + 6) (lw_Z below #[Value.ref b] s) D G ρ 9 1279 [some (xR 40 0 0), some (xR 0 0 0), some (xR 20 0 0), some (xR 26 0 0), some (xI i), some (xI k), x6, x7, x8] [xI v] N
    refine xl_st hC hc hs (xs_istore dL_law_1279 (by decide)) ?_
    show XWW p l e room_1 s m #[Value.ref b] below meth c (cells + 1) (slots + 6) (lw_Z below #[Value.ref b] s) D G ρ 9 1281 [some (xR 40 0 0), some (xR 0 0 0), some (xR 20 0 0), some (xR 26 0 0), some (xI i), some (xI k), some (xI v), x7, x8] [] N
    refine xl_st hC hc hs (xs_aload_n (i := 2) dL_law_1281 rfl) ?_
    show XWW p l e room_1 s m #[Value.ref b] below meth c (cells + 1) (slots + 6) (lw_Z below #[Value.ref b] s) D G ρ 9 1282 [some (xR 40 0 0), some (xR 0 0 0), some (xR 20 0 0), some (xR 26 0 0), some (xI i), some (xI k), some (xI v), x7, x8] [xR 20 0 0] N
    refine xl_st hC hc hs (xs_V0 kX8_thrown ⟨⟨rfl, rfl, by decide, by decide⟩, ⟨by decide, by decide, by decide +kernel⟩, ⟨tw_1091, tw_1092, tw_1093, tw_9, tw_1094⟩, 8, TX8, _, rfl, fun G ρ f i k => ⟨_, rfl⟩⟩ dL_law_1282) ⟨⟨rfl, xvz_20, by decide⟩, ⟨rfl, xvz_20⟩, ?_⟩
    show XWW p l e room_1 s m #[Value.ref b] below meth c (cells + 1) (slots + 6) (lw_Z below #[Value.ref b] s) D G ρ 9 1285 [some (xR 40 0 0), some (xR 0 0 0), some (xR 20 0 0), some (xR 26 0 0), some (xI i), some (xI k), some (xI v), x7, x8] [xI (N 20 0 0 5)] N
    refine xl_st hC hc hs (xs_iload dL_law_1285) ?_
    show XWW p l e room_1 s m #[Value.ref b] below meth c (cells + 1) (slots + 6) (lw_Z below #[Value.ref b] s) D G ρ 9 1287 [some (xR 40 0 0), some (xR 0 0 0), some (xR 20 0 0), some (xR 26 0 0), some (xI i), some (xI k), some (xI v), x7, x8] [xI k, xI (N 20 0 0 5)] N
    refine xl_st hC hc hs (xs_icmp_eq (t := 1292) dL_law_1287 (by decide)) ⟨⟨by rw [h5]; exact ⟨by omega, by omega⟩, ⟨by omega, by omega⟩⟩, fun _ => ?_, fun q => absurd h5 q⟩
    show XWW p l e room_1 s m #[Value.ref b] below meth c (cells + 1) (slots + 6) (lw_Z below #[Value.ref b] s) D G ρ 9 1292 [some (xR 40 0 0), some (xR 0 0 0), some (xR 20 0 0), some (xR 26 0 0), some (xI i), some (xI k), some (xI v), x7, x8] [] N
    refine xl_st hC hc hs (xs_iload dL_law_1292) ?_
    show XWW p l e room_1 s m #[Value.ref b] below meth c (cells + 1) (slots + 6) (lw_Z below #[Value.ref b] s) D G ρ 9 1294 [some (xR 40 0 0), some (xR 0 0 0), some (xR 20 0 0), some (xR 26 0 0), some (xI i), some (xI k), some (xI v), x7, x8] [xI k] N
    refine xl_st hC hc hs (xs_if_ne (t := 1309) dL_law_1294 (by decide)) ⟨⟨by omega, by omega⟩, fun _ => ?_, fun q => ?_⟩
    · show XWW p l e room_1 s m #[Value.ref b] below meth c (cells + 1) (slots + 6) (lw_Z below #[Value.ref b] s) D G ρ 9 1309 [some (xR 40 0 0), some (xR 0 0 0), some (xR 20 0 0), some (xR 26 0 0), some (xI i), some (xI k), some (xI v), x7, x8] [] N
      refine xl_st hC hc hs (xs_goto (t := 2181) dL_law_1309 (by decide)) ?_
      show XWW p l e room_1 s m #[Value.ref b] below meth c (cells + 1) (slots + 6) (lw_Z below #[Value.ref b] s) D G ρ 9 2181 [some (xR 40 0 0), some (xR 0 0 0), some (xR 20 0 0), some (xR 26 0 0), some (xI i), some (xI k), some (xI v), x7, x8] [] N
      exact next _ _ _ _ N hR
    · show XWW p l e room_1 s m #[Value.ref b] below meth c (cells + 1) (slots + 6) (lw_Z below #[Value.ref b] s) D G ρ 9 1297 [some (xR 40 0 0), some (xR 0 0 0), some (xR 20 0 0), some (xR 26 0 0), some (xI i), some (xI k), some (xI v), x7, x8] [] N
      refine xl_st hC hc hs (xs_aload_n (i := 3) dL_law_1297 rfl) ?_
      show XWW p l e room_1 s m #[Value.ref b] below meth c (cells + 1) (slots + 6) (lw_Z below #[Value.ref b] s) D G ρ 9 1298 [some (xR 40 0 0), some (xR 0 0 0), some (xR 20 0 0), some (xR 26 0 0), some (xI i), some (xI k), some (xI v), x7, x8] [xR 26 0 0] N
      refine xl_st hC hc hs (xs_iconst dL_law_1298) ?_
      show XWW p l e room_1 s m #[Value.ref b] below meth c (cells + 1) (slots + 6) (lw_Z below #[Value.ref b] s) D G ρ 9 1299 [some (xR 40 0 0), some (xR 0 0 0), some (xR 20 0 0), some (xR 26 0 0), some (xI i), some (xI k), some (xI v), x7, x8] [xI 0, xR 26 0 0] N
      refine xl_st hC hc hs (xs_lald dL_law_1299) ⟨⟨rfl, rfl, rfl, rfl⟩, ?_⟩
      show XWW p l e room_1 s m #[Value.ref b] below meth c (cells + 1) (slots + 6) (lw_Z below #[Value.ref b] s) D G ρ 9 1300 [some (xR 40 0 0), some (xR 0 0 0), some (xR 20 0 0), some (xR 26 0 0), some (xI i), some (xI k), some (xI v), x7, x8] [xJ (N 26 0 0 0)] N
      refine xl_st hC hc hs (xs_iload dL_law_1300) ?_
      show XWW p l e room_1 s m #[Value.ref b] below meth c (cells + 1) (slots + 6) (lw_Z below #[Value.ref b] s) D G ρ 9 1302 [some (xR 40 0 0), some (xR 0 0 0), some (xR 20 0 0), some (xR 26 0 0), some (xI i), some (xI k), some (xI v), x7, x8] [xI v, xJ (N 26 0 0 0)] N
      refine xl_st hC hc hs (xs_i2lw dL_law_1302) ?_
      show XWW p l e room_1 s m #[Value.ref b] below meth c (cells + 1) (slots + 6) (lw_Z below #[Value.ref b] s) D G ρ 9 1303 [some (xR 40 0 0), some (xR 0 0 0), some (xR 20 0 0), some (xR 26 0 0), some (xI i), some (xI k), some (xI v), x7, x8] [xJ (w32 v), xJ (N 26 0 0 0)] N
      refine xl_st hC hc hs (xs_lcmp dL_law_1303) ⟨h26 q, ?_⟩
      show XWW p l e room_1 s m #[Value.ref b] below meth c (cells + 1) (slots + 6) (lw_Z below #[Value.ref b] s) D G ρ 9 1304 [some (xR 40 0 0), some (xR 0 0 0), some (xR 20 0 0), some (xR 26 0 0), some (xI i), some (xI k), some (xI v), x7, x8] [xI 0] N
      refine xl_st hC hc hs (xs_if_eq (t := 1309) dL_law_1304 (by decide)) ⟨x_r0, fun _ => ?_, fun q => absurd rfl q⟩
      show XWW p l e room_1 s m #[Value.ref b] below meth c (cells + 1) (slots + 6) (lw_Z below #[Value.ref b] s) D G ρ 9 1309 [some (xR 40 0 0), some (xR 0 0 0), some (xR 20 0 0), some (xR 26 0 0), some (xI i), some (xI k), some (xI v), x7, x8] [] N
      refine xl_st hC hc hs (xs_goto (t := 2181) dL_law_1309 (by decide)) ?_
      show XWW p l e room_1 s m #[Value.ref b] below meth c (cells + 1) (slots + 6) (lw_Z below #[Value.ref b] s) D G ρ 9 2181 [some (xR 40 0 0), some (xR 0 0 0), some (xR 20 0 0), some (xR 26 0 0), some (xI i), some (xI k), some (xI v), x7, x8] [] N
      exact next _ _ _ _ N hR
  show XWW p l e room_1 s m #[Value.ref b] below meth c cells slots (lw_Z below #[Value.ref b] s) D G ρ 9 1256 [some (xR 40 0 0), some (xR 0 0 0), some (xR 20 0 0), some (xR 26 0 0), some (xI i), x5, x6, x7, x8] [] M
  refine xl_st hC c0 s0 (xs_aload_n (i := 1) dL_law_1256 rfl) ?_
  show XWW p l e room_1 s m #[Value.ref b] below meth c cells slots (lw_Z below #[Value.ref b] s) D G ρ 9 1257 [some (xR 40 0 0), some (xR 0 0 0), some (xR 20 0 0), some (xR 26 0 0), some (xI i), x5, x6, x7, x8] [xR 0 0 0] M
  refine xl_st hC c0 s0 (xs_aload_n (i := 0) dL_law_1257 rfl) ?_
  show XWW p l e room_1 s m #[Value.ref b] below meth c cells slots (lw_Z below #[Value.ref b] s) D G ρ 9 1258 [some (xR 40 0 0), some (xR 0 0 0), some (xR 20 0 0), some (xR 26 0 0), some (xI i), x5, x6, x7, x8] [xR 40 0 0, xR 0 0 0] M
  refine xl_st hC c0 s0 (xs_iload dL_law_1258) ?_
  show XWW p l e room_1 s m #[Value.ref b] below meth c cells slots (lw_Z below #[Value.ref b] s) D G ρ 9 1260 [some (xR 40 0 0), some (xR 0 0 0), some (xR 20 0 0), some (xR 26 0 0), some (xI i), x5, x6, x7, x8] [xI i, xR 40 0 0, xR 0 0 0] M
  refine xl_st hC c0 s0 (xs_iconst dL_law_1260) ?_
  show XWW p l e room_1 s m #[Value.ref b] below meth c cells slots (lw_Z below #[Value.ref b] s) D G ρ 9 1261 [some (xR 40 0 0), some (xR 0 0 0), some (xR 20 0 0), some (xR 26 0 0), some (xI i), x5, x6, x7, x8] [xI 1, xI i, xR 40 0 0, xR 0 0 0] M
  refine xl_st hC c0 s0 (xs_iadd dL_law_1261) ?_
  show XWW p l e room_1 s m #[Value.ref b] below meth c cells slots (lw_Z below #[Value.ref b] s) D G ρ 9 1262 [some (xR 40 0 0), some (xR 0 0 0), some (xR 20 0 0), some (xR 26 0 0), some (xI i), x5, x6, x7, x8] [xI (i + 1), xR 40 0 0, xR 0 0 0] M
  refine xl_sld hC hX (by omega) (by omega) dL_law_1262 ?_
  show XWW p l e room_1 s m #[Value.ref b] below meth c cells slots (lw_Z below #[Value.ref b] s) D G ρ 9 1263 [some (xR 40 0 0), some (xR 0 0 0), some (xR 20 0 0), some (xR 26 0 0), some (xI i), x5, x6, x7, x8] [xI (SLx xs (i + 1)), xR 0 0 0] M
  refine xl_st hC c0 s0 (xs_aload_n (i := 3) dL_law_1263 rfl) ?_
  show XWW p l e room_1 s m #[Value.ref b] below meth c cells slots (lw_Z below #[Value.ref b] s) D G ρ 9 1264 [some (xR 40 0 0), some (xR 0 0 0), some (xR 20 0 0), some (xR 26 0 0), some (xI i), x5, x6, x7, x8] [xR 26 0 0, xI (SLx xs (i + 1)), xR 0 0 0] M
  refine xl_call (n := 3) (As := [xR 0 0 0, xI (SLx xs (i + 1)), xR 26 0 0]) (st := []) kL_append ⟨⟨rfl, rfl, by decide, by decide⟩, ⟨by decide, by decide, by decide +kernel⟩, tw_933, tw_934, tw_0, twL_append⟩ dL_law_1264 hC hl hE hc hs rfl (by decide) ⟨(SLx xs (i + 1)), rfl, lc_append hZ h (SL_in _ _)⟩ (fun rv N1 hq => ?_)
  obtain ⟨k, rfl, ⟨k0, k3⟩, href⟩ := hq
  show XWW p l e room_1 s m #[Value.ref b] below meth c (cells + 1) (slots + 6) (lw_Z below #[Value.ref b] s) D G ρ 9 1267 [some (xR 40 0 0), some (xR 0 0 0), some (xR 20 0 0), some (xR 26 0 0), some (xI i), x5, x6, x7, x8] [xI k] N1
  refine xl_st hC hc hs (xs_istore dL_law_1267 (by decide)) ?_
  show XWW p l e room_1 s m #[Value.ref b] below meth c (cells + 1) (slots + 6) (lw_Z below #[Value.ref b] s) D G ρ 9 1269 [some (xR 40 0 0), some (xR 0 0 0), some (xR 20 0 0), some (xR 26 0 0), some (xI i), some (xI k), x6, x7, x8] [] N1
  refine xl_st hC hc hs (xs_aload_n (i := 2) dL_law_1269 rfl) ?_
  show XWW p l e room_1 s m #[Value.ref b] below meth c (cells + 1) (slots + 6) (lw_Z below #[Value.ref b] s) D G ρ 9 1270 [some (xR 40 0 0), some (xR 0 0 0), some (xR 20 0 0), some (xR 26 0 0), some (xI i), some (xI k), x6, x7, x8] [xR 20 0 0] N1
  refine xl_st hC hc hs (xs_aload_n (i := 0) dL_law_1270 rfl) ?_
  show XWW p l e room_1 s m #[Value.ref b] below meth c (cells + 1) (slots + 6) (lw_Z below #[Value.ref b] s) D G ρ 9 1271 [some (xR 40 0 0), some (xR 0 0 0), some (xR 20 0 0), some (xR 26 0 0), some (xI i), some (xI k), x6, x7, x8] [xR 40 0 0, xR 20 0 0] N1
  refine xl_st hC hc hs (xs_iload dL_law_1271) ?_
  show XWW p l e room_1 s m #[Value.ref b] below meth c (cells + 1) (slots + 6) (lw_Z below #[Value.ref b] s) D G ρ 9 1273 [some (xR 40 0 0), some (xR 0 0 0), some (xR 20 0 0), some (xR 26 0 0), some (xI i), some (xI k), x6, x7, x8] [xI i, xR 40 0 0, xR 20 0 0] N1
  refine xl_st hC hc hs (xs_iconst dL_law_1273) ?_
  show XWW p l e room_1 s m #[Value.ref b] below meth c (cells + 1) (slots + 6) (lw_Z below #[Value.ref b] s) D G ρ 9 1274 [some (xR 40 0 0), some (xR 0 0 0), some (xR 20 0 0), some (xR 26 0 0), some (xI i), some (xI k), x6, x7, x8] [xI 1, xI i, xR 40 0 0, xR 20 0 0] N1
  refine xl_st hC hc hs (xs_iadd dL_law_1274) ?_
  show XWW p l e room_1 s m #[Value.ref b] below meth c (cells + 1) (slots + 6) (lw_Z below #[Value.ref b] s) D G ρ 9 1275 [some (xR 40 0 0), some (xR 0 0 0), some (xR 20 0 0), some (xR 26 0 0), some (xI i), some (xI k), x6, x7, x8] [xI (i + 1), xR 40 0 0, xR 20 0 0] N1
  refine xl_sld hC hX (by omega) (by omega) dL_law_1275 ?_
  show XWW p l e room_1 s m #[Value.ref b] below meth c (cells + 1) (slots + 6) (lw_Z below #[Value.ref b] s) D G ρ 9 1276 [some (xR 40 0 0), some (xR 0 0 0), some (xR 20 0 0), some (xR 26 0 0), some (xI i), some (xI k), x6, x7, x8] [xI (SLx xs (i + 1)), xR 20 0 0] N1
  refine xl_st hC hc hs (xs_V1 kX8_append ⟨⟨rfl, rfl, by decide, by decide⟩, ⟨by decide, by decide, by decide +kernel⟩, ⟨tw_1305, tw_1306, tw_1307, tw_9, tw_1308⟩, 8, TX8, _, rfl, fun G ρ f i k => ⟨_, rfl⟩⟩ dL_law_1276) ⟨⟨rfl, xvz_20, by decide⟩, href⟩
set_option maxRecDepth 100000 in
theorem cs_clearBuffer {p : Program} {l : Launch} {e : Env} {s : State} {m : MethodId} {below : List Frame} {meth : Method} {c : Code} {D : va_G} {G : Nat → ClassId} {ρ : XOb → Nat} {b Ln : Nat} {xs : Nat → Int32} {cells slots : Nat} (hC : XCX p room_1 s m #[Value.ref b] c 0 0 D G ρ cL_law 9 RL (Cond.initialized RL :: xT)) (hl : l.stackTraces = false) (hE : (XEw s ∧ XEs s ∧ XEz (XA ρ s.heap.size) s s.heap) ∧ XEc s) (hX : XSc s ρ b Ln xs) (hc : cells + 1 ≤ 601024) (hs : slots + 6 ≤ 7293034) {i : Int} (h0 : 0 ≤ i) (h6 : i + 6 ≤ Ln) {M : XM} (h : RR M) {x5 x6 x7 x8 : Option XV} (next : ∀ (y5 y6 y7 y8 : Option XV) (N : XM), RR N → XWW p l e room_1 s m #[Value.ref b] below meth c (cells + 1) (slots + 6) (lw_Z below #[Value.ref b] s) D G ρ 9 2181 [some (xR 40 0 0), some (xR 0 0 0), some (xR 20 0 0), some (xR 26 0 0), some (xI i), y5, y6, y7, y8] [] N) : XWW p l e room_1 s m #[Value.ref b] below meth c cells slots (lw_Z below #[Value.ref b] s) D G ρ 9 1312 [some (xR 40 0 0), some (xR 0 0 0), some (xR 20 0 0), some (xR 26 0 0), some (xI i), x5, x6, x7, x8] [] M := by
  have c0 : cells ≤ room_1.cells := Nat.le_trans (Nat.le_succ _) hc
  have s0 : slots ≤ room_1.slots := Nat.le_trans (Nat.le_add_right _ 6) hs
  have hZ : ∀ (a : Int) (N : XM), XInR a → RR N → (fun (a : Int) (rv : List XV) (N : XM) => XWW p l e room_1 s m #[Value.ref b] below meth c cells slots (lw_Z below #[Value.ref b] s) D G ρ 9 1320 [some (xR 40 0 0), some (xR 0 0 0), some (xR 20 0 0), some (xR 26 0 0), some (xI i), x5, x6, x7, x8] (rv ++ [xI a]) N) a [xI a] N := by
    intro a N ra hR
    show XWW p l e room_1 s m #[Value.ref b] below meth c cells slots (lw_Z below #[Value.ref b] s) D G ρ 9 1320 [some (xR 40 0 0), some (xR 0 0 0), some (xR 20 0 0), some (xR 26 0 0), some (xI i), x5, x6, x7, x8] [xI a, xI a] N
    refine xl_st hC c0 s0 (xs_icmp_eq (t := 2181) dL_law_1320 (by decide)) ⟨⟨ra, ra⟩, fun _ => ?_, fun q => absurd rfl q⟩
    show XWW p l e room_1 s m #[Value.ref b] below meth c cells slots (lw_Z below #[Value.ref b] s) D G ρ 9 2181 [some (xR 40 0 0), some (xR 0 0 0), some (xR 20 0 0), some (xR 26 0 0), some (xI i), x5, x6, x7, x8] [] N
    exact xl_widen (Nat.le_succ _) (Nat.le_add_right _ 6) (next _ _ _ _ N hR)
  show XWW p l e room_1 s m #[Value.ref b] below meth c cells slots (lw_Z below #[Value.ref b] s) D G ρ 9 1312 [some (xR 40 0 0), some (xR 0 0 0), some (xR 20 0 0), some (xR 26 0 0), some (xI i), x5, x6, x7, x8] [] M
  refine xl_st hC c0 s0 (xs_aload_n (i := 1) dL_law_1312 rfl) ?_
  show XWW p l e room_1 s m #[Value.ref b] below meth c cells slots (lw_Z below #[Value.ref b] s) D G ρ 9 1313 [some (xR 40 0 0), some (xR 0 0 0), some (xR 20 0 0), some (xR 26 0 0), some (xI i), x5, x6, x7, x8] [xR 0 0 0] M
  have hY : ∀ (rv : List XV) (N : XM), LI (fun N => sX8_clearBuffer [xR 20 0 0] N) (fun (a : Int) (rv : List XV) (N : XM) => XWW p l e room_1 s m #[Value.ref b] below meth c cells slots (lw_Z below #[Value.ref b] s) D G ρ 9 1320 [some (xR 40 0 0), some (xR 0 0 0), some (xR 20 0 0), some (xR 26 0 0), some (xI i), x5, x6, x7, x8] (rv ++ [xI a]) N) rv N → XWW p l e room_1 s m #[Value.ref b] below meth c cells slots (lw_Z below #[Value.ref b] s) D G ρ 9 1316 [some (xR 40 0 0), some (xR 0 0 0), some (xR 20 0 0), some (xR 26 0 0), some (xI i), x5, x6, x7, x8] (rv ++ []) N := by
    intro rv N hq
    obtain ⟨a, rfl, ra, href⟩ := hq
    show XWW p l e room_1 s m #[Value.ref b] below meth c cells slots (lw_Z below #[Value.ref b] s) D G ρ 9 1316 [some (xR 40 0 0), some (xR 0 0 0), some (xR 20 0 0), some (xR 26 0 0), some (xI i), x5, x6, x7, x8] [xI a] N
    refine xl_st hC c0 s0 (xs_aload_n (i := 2) dL_law_1316 rfl) ?_
    show XWW p l e room_1 s m #[Value.ref b] below meth c cells slots (lw_Z below #[Value.ref b] s) D G ρ 9 1317 [some (xR 40 0 0), some (xR 0 0 0), some (xR 20 0 0), some (xR 26 0 0), some (xI i), x5, x6, x7, x8] [xR 20 0 0, xI a] N
    refine xl_st hC c0 s0 (xs_V0 kX8_clearBuffer ⟨⟨rfl, rfl, by decide, by decide⟩, ⟨by decide, by decide, by decide +kernel⟩, ⟨tw_1309, tw_1310, tw_1311, tw_9, tw_1312⟩, 8, TX8, _, rfl, fun G ρ f i k => ⟨_, rfl⟩⟩ dL_law_1317) ⟨⟨rfl, xvz_20, (show (1 : Nat) ≤ 8 by decide)⟩, href⟩
  refine xl_st hC c0 s0 (xs_V0 kX7_clearBuffer ⟨⟨rfl, rfl, by decide, by decide⟩, ⟨by decide, by decide, by decide +kernel⟩, ⟨tw_305, tw_306, tw_307, tw_1, tw_308⟩, 7, TX7, _, rfl, fun G ρ f i k => ⟨_, rfl⟩⟩ dL_law_1313) ⟨⟨rfl, xvz_0, by decide⟩, lc_clearBuffer hY hZ h⟩
set_option maxRecDepth 100000 in
theorem cs_firstError {p : Program} {l : Launch} {e : Env} {s : State} {m : MethodId} {below : List Frame} {meth : Method} {c : Code} {D : va_G} {G : Nat → ClassId} {ρ : XOb → Nat} {b Ln : Nat} {xs : Nat → Int32} {cells slots : Nat} (hC : XCX p room_1 s m #[Value.ref b] c 0 0 D G ρ cL_law 9 RL (Cond.initialized RL :: xT)) (hl : l.stackTraces = false) (hE : (XEw s ∧ XEs s ∧ XEz (XA ρ s.heap.size) s s.heap) ∧ XEc s) (hX : XSc s ρ b Ln xs) (hc : cells + 1 ≤ 601024) (hs : slots + 6 ≤ 7293034) {i : Int} (h0 : 0 ≤ i) (h6 : i + 6 ≤ Ln) {M : XM} (h : RR M) {x5 x6 x7 x8 : Option XV} (next : ∀ (y5 y6 y7 y8 : Option XV) (N : XM), RR N → XWW p l e room_1 s m #[Value.ref b] below meth c (cells + 1) (slots + 6) (lw_Z below #[Value.ref b] s) D G ρ 9 2181 [some (xR 40 0 0), some (xR 0 0 0), some (xR 20 0 0), some (xR 26 0 0), some (xI i), y5, y6, y7, y8] [] N) : XWW p l e room_1 s m #[Value.ref b] below meth c cells slots (lw_Z below #[Value.ref b] s) D G ρ 9 1325 [some (xR 40 0 0), some (xR 0 0 0), some (xR 20 0 0), some (xR 26 0 0), some (xI i), x5, x6, x7, x8] [] M := by
  have c0 : cells ≤ room_1.cells := Nat.le_trans (Nat.le_succ _) hc
  have s0 : slots ≤ room_1.slots := Nat.le_trans (Nat.le_add_right _ 6) hs
  have hZ : ∀ (a : Int) (N : XM), XInR a → RR N → (fun (a : Int) (rv : List XV) (N : XM) => XWW p l e room_1 s m #[Value.ref b] below meth c cells slots (lw_Z below #[Value.ref b] s) D G ρ 9 1333 [some (xR 40 0 0), some (xR 0 0 0), some (xR 20 0 0), some (xR 26 0 0), some (xI i), x5, x6, x7, x8] (rv ++ [xI a]) N) a [xI a] N := by
    intro a N ra hR
    show XWW p l e room_1 s m #[Value.ref b] below meth c cells slots (lw_Z below #[Value.ref b] s) D G ρ 9 1333 [some (xR 40 0 0), some (xR 0 0 0), some (xR 20 0 0), some (xR 26 0 0), some (xI i), x5, x6, x7, x8] [xI a, xI a] N
    refine xl_st hC c0 s0 (xs_icmp_eq (t := 2181) dL_law_1333 (by decide)) ⟨⟨ra, ra⟩, fun _ => ?_, fun q => absurd rfl q⟩
    show XWW p l e room_1 s m #[Value.ref b] below meth c cells slots (lw_Z below #[Value.ref b] s) D G ρ 9 2181 [some (xR 40 0 0), some (xR 0 0 0), some (xR 20 0 0), some (xR 26 0 0), some (xI i), x5, x6, x7, x8] [] N
    exact xl_widen (Nat.le_succ _) (Nat.le_add_right _ 6) (next _ _ _ _ N hR)
  show XWW p l e room_1 s m #[Value.ref b] below meth c cells slots (lw_Z below #[Value.ref b] s) D G ρ 9 1325 [some (xR 40 0 0), some (xR 0 0 0), some (xR 20 0 0), some (xR 26 0 0), some (xI i), x5, x6, x7, x8] [] M
  refine xl_st hC c0 s0 (xs_aload_n (i := 1) dL_law_1325 rfl) ?_
  show XWW p l e room_1 s m #[Value.ref b] below meth c cells slots (lw_Z below #[Value.ref b] s) D G ρ 9 1326 [some (xR 40 0 0), some (xR 0 0 0), some (xR 20 0 0), some (xR 26 0 0), some (xI i), x5, x6, x7, x8] [xR 0 0 0] M
  have hY : ∀ (rv : List XV) (N : XM), LI (fun N => sX8_firstError [xR 20 0 0] N) (fun (a : Int) (rv : List XV) (N : XM) => XWW p l e room_1 s m #[Value.ref b] below meth c cells slots (lw_Z below #[Value.ref b] s) D G ρ 9 1333 [some (xR 40 0 0), some (xR 0 0 0), some (xR 20 0 0), some (xR 26 0 0), some (xI i), x5, x6, x7, x8] (rv ++ [xI a]) N) rv N → XWW p l e room_1 s m #[Value.ref b] below meth c cells slots (lw_Z below #[Value.ref b] s) D G ρ 9 1329 [some (xR 40 0 0), some (xR 0 0 0), some (xR 20 0 0), some (xR 26 0 0), some (xI i), x5, x6, x7, x8] (rv ++ []) N := by
    intro rv N hq
    obtain ⟨a, rfl, ra, href⟩ := hq
    show XWW p l e room_1 s m #[Value.ref b] below meth c cells slots (lw_Z below #[Value.ref b] s) D G ρ 9 1329 [some (xR 40 0 0), some (xR 0 0 0), some (xR 20 0 0), some (xR 26 0 0), some (xI i), x5, x6, x7, x8] [xI a] N
    refine xl_st hC c0 s0 (xs_aload_n (i := 2) dL_law_1329 rfl) ?_
    show XWW p l e room_1 s m #[Value.ref b] below meth c cells slots (lw_Z below #[Value.ref b] s) D G ρ 9 1330 [some (xR 40 0 0), some (xR 0 0 0), some (xR 20 0 0), some (xR 26 0 0), some (xI i), x5, x6, x7, x8] [xR 20 0 0, xI a] N
    refine xl_st hC c0 s0 (xs_V0 kX8_firstError ⟨⟨rfl, rfl, by decide, by decide⟩, ⟨by decide, by decide, by decide +kernel⟩, ⟨tw_1313, tw_1314, tw_1315, tw_9, tw_1316⟩, 8, TX8, _, rfl, fun G ρ f i k => ⟨_, rfl⟩⟩ dL_law_1330) ⟨⟨rfl, xvz_20, (show (1 : Nat) ≤ 8 by decide)⟩, href⟩
  refine xl_st hC c0 s0 (xs_V0 kX7_firstError ⟨⟨rfl, rfl, by decide, by decide⟩, ⟨by decide, by decide, by decide +kernel⟩, ⟨tw_309, tw_310, tw_311, tw_1, tw_312⟩, 7, TX7, _, rfl, fun G ρ f i k => ⟨_, rfl⟩⟩ dL_law_1326) ⟨⟨rfl, xvz_0, by decide⟩, lc_firstError hY hZ h⟩
set_option maxRecDepth 100000 in
theorem cs_addSheet {p : Program} {l : Launch} {e : Env} {s : State} {m : MethodId} {below : List Frame} {meth : Method} {c : Code} {D : va_G} {G : Nat → ClassId} {ρ : XOb → Nat} {b Ln : Nat} {xs : Nat → Int32} {cells slots : Nat} (hC : XCX p room_1 s m #[Value.ref b] c 0 0 D G ρ cL_law 9 RL (Cond.initialized RL :: xT)) (hl : l.stackTraces = false) (hE : (XEw s ∧ XEs s ∧ XEz (XA ρ s.heap.size) s s.heap) ∧ XEc s) (hX : XSc s ρ b Ln xs) (hc : cells + 1 ≤ 601024) (hs : slots + 6 ≤ 7293034) {i : Int} (h0 : 0 ≤ i) (h6 : i + 6 ≤ Ln) {M : XM} (h : RR M) {x5 x6 x7 x8 : Option XV} (next : ∀ (y5 y6 y7 y8 : Option XV) (N : XM), RR N → XWW p l e room_1 s m #[Value.ref b] below meth c (cells + 1) (slots + 6) (lw_Z below #[Value.ref b] s) D G ρ 9 2181 [some (xR 40 0 0), some (xR 0 0 0), some (xR 20 0 0), some (xR 26 0 0), some (xI i), y5, y6, y7, y8] [] N) : XWW p l e room_1 s m #[Value.ref b] below meth c cells slots (lw_Z below #[Value.ref b] s) D G ρ 9 1338 [some (xR 40 0 0), some (xR 0 0 0), some (xR 20 0 0), some (xR 26 0 0), some (xI i), x5, x6, x7, x8] [] M := by
  have c0 : cells ≤ room_1.cells := Nat.le_trans (Nat.le_succ _) hc
  have s0 : slots ≤ room_1.slots := Nat.le_trans (Nat.le_add_right _ 6) hs
  have hZ : ∀ (k : Int) (rv : List XV) (N : XM), 0 ≤ k → k ≤ 3 → LE k rv N → (fun (k : Int) (rv : List XV) (N : XM) => XWW p l e room_1 s m #[Value.ref b] below meth c (cells + 1) (slots + 6) (lw_Z below #[Value.ref b] s) D G ρ 9 1349 [some (xR 40 0 0), some (xR 0 0 0), some (xR 20 0 0), some (xR 26 0 0), some (xI i), some (xI k), x6, x7, x8] (rv ++ []) N) k rv N := by
    intro k rv N k0 k3 hLE
    obtain ⟨v, rfl, hR, h5, h26⟩ := hLE
    show XWW p l e room_1 s m #[Value.ref b] below meth c (cells + 1) (slots + 6) (lw_Z below #[Value.ref b] s) D G ρ 9 1349 [some (xR 40 0 0), some (xR 0 0 0), some (xR 20 0 0), some (xR 26 0 0), some (xI i), some (xI k), x6, x7, x8] [xI v] N
    refine xl_st hC hc hs (xs_istore dL_law_1349 (by decide)) ?_
    show XWW p l e room_1 s m #[Value.ref b] below meth c (cells + 1) (slots + 6) (lw_Z below #[Value.ref b] s) D G ρ 9 1351 [some (xR 40 0 0), some (xR 0 0 0), some (xR 20 0 0), some (xR 26 0 0), some (xI i), some (xI k), some (xI v), x7, x8] [] N
    refine xl_st hC hc hs (xs_aload_n (i := 2) dL_law_1351 rfl) ?_
    show XWW p l e room_1 s m #[Value.ref b] below meth c (cells + 1) (slots + 6) (lw_Z below #[Value.ref b] s) D G ρ 9 1352 [some (xR 40 0 0), some (xR 0 0 0), some (xR 20 0 0), some (xR 26 0 0), some (xI i), some (xI k), some (xI v), x7, x8] [xR 20 0 0] N
    refine xl_st hC hc hs (xs_V0 kX8_thrown ⟨⟨rfl, rfl, by decide, by decide⟩, ⟨by decide, by decide, by decide +kernel⟩, ⟨tw_1091, tw_1092, tw_1093, tw_9, tw_1094⟩, 8, TX8, _, rfl, fun G ρ f i k => ⟨_, rfl⟩⟩ dL_law_1352) ⟨⟨rfl, xvz_20, by decide⟩, ⟨rfl, xvz_20⟩, ?_⟩
    show XWW p l e room_1 s m #[Value.ref b] below meth c (cells + 1) (slots + 6) (lw_Z below #[Value.ref b] s) D G ρ 9 1355 [some (xR 40 0 0), some (xR 0 0 0), some (xR 20 0 0), some (xR 26 0 0), some (xI i), some (xI k), some (xI v), x7, x8] [xI (N 20 0 0 5)] N
    refine xl_st hC hc hs (xs_iload dL_law_1355) ?_
    show XWW p l e room_1 s m #[Value.ref b] below meth c (cells + 1) (slots + 6) (lw_Z below #[Value.ref b] s) D G ρ 9 1357 [some (xR 40 0 0), some (xR 0 0 0), some (xR 20 0 0), some (xR 26 0 0), some (xI i), some (xI k), some (xI v), x7, x8] [xI k, xI (N 20 0 0 5)] N
    refine xl_st hC hc hs (xs_icmp_eq (t := 1362) dL_law_1357 (by decide)) ⟨⟨by rw [h5]; exact ⟨by omega, by omega⟩, ⟨by omega, by omega⟩⟩, fun _ => ?_, fun q => absurd h5 q⟩
    show XWW p l e room_1 s m #[Value.ref b] below meth c (cells + 1) (slots + 6) (lw_Z below #[Value.ref b] s) D G ρ 9 1362 [some (xR 40 0 0), some (xR 0 0 0), some (xR 20 0 0), some (xR 26 0 0), some (xI i), some (xI k), some (xI v), x7, x8] [] N
    refine xl_st hC hc hs (xs_iload dL_law_1362) ?_
    show XWW p l e room_1 s m #[Value.ref b] below meth c (cells + 1) (slots + 6) (lw_Z below #[Value.ref b] s) D G ρ 9 1364 [some (xR 40 0 0), some (xR 0 0 0), some (xR 20 0 0), some (xR 26 0 0), some (xI i), some (xI k), some (xI v), x7, x8] [xI k] N
    refine xl_st hC hc hs (xs_if_ne (t := 1379) dL_law_1364 (by decide)) ⟨⟨by omega, by omega⟩, fun _ => ?_, fun q => ?_⟩
    · show XWW p l e room_1 s m #[Value.ref b] below meth c (cells + 1) (slots + 6) (lw_Z below #[Value.ref b] s) D G ρ 9 1379 [some (xR 40 0 0), some (xR 0 0 0), some (xR 20 0 0), some (xR 26 0 0), some (xI i), some (xI k), some (xI v), x7, x8] [] N
      refine xl_st hC hc hs (xs_goto (t := 2181) dL_law_1379 (by decide)) ?_
      show XWW p l e room_1 s m #[Value.ref b] below meth c (cells + 1) (slots + 6) (lw_Z below #[Value.ref b] s) D G ρ 9 2181 [some (xR 40 0 0), some (xR 0 0 0), some (xR 20 0 0), some (xR 26 0 0), some (xI i), some (xI k), some (xI v), x7, x8] [] N
      exact next _ _ _ _ N hR
    · show XWW p l e room_1 s m #[Value.ref b] below meth c (cells + 1) (slots + 6) (lw_Z below #[Value.ref b] s) D G ρ 9 1367 [some (xR 40 0 0), some (xR 0 0 0), some (xR 20 0 0), some (xR 26 0 0), some (xI i), some (xI k), some (xI v), x7, x8] [] N
      refine xl_st hC hc hs (xs_aload_n (i := 3) dL_law_1367 rfl) ?_
      show XWW p l e room_1 s m #[Value.ref b] below meth c (cells + 1) (slots + 6) (lw_Z below #[Value.ref b] s) D G ρ 9 1368 [some (xR 40 0 0), some (xR 0 0 0), some (xR 20 0 0), some (xR 26 0 0), some (xI i), some (xI k), some (xI v), x7, x8] [xR 26 0 0] N
      refine xl_st hC hc hs (xs_iconst dL_law_1368) ?_
      show XWW p l e room_1 s m #[Value.ref b] below meth c (cells + 1) (slots + 6) (lw_Z below #[Value.ref b] s) D G ρ 9 1369 [some (xR 40 0 0), some (xR 0 0 0), some (xR 20 0 0), some (xR 26 0 0), some (xI i), some (xI k), some (xI v), x7, x8] [xI 0, xR 26 0 0] N
      refine xl_st hC hc hs (xs_lald dL_law_1369) ⟨⟨rfl, rfl, rfl, rfl⟩, ?_⟩
      show XWW p l e room_1 s m #[Value.ref b] below meth c (cells + 1) (slots + 6) (lw_Z below #[Value.ref b] s) D G ρ 9 1370 [some (xR 40 0 0), some (xR 0 0 0), some (xR 20 0 0), some (xR 26 0 0), some (xI i), some (xI k), some (xI v), x7, x8] [xJ (N 26 0 0 0)] N
      refine xl_st hC hc hs (xs_iload dL_law_1370) ?_
      show XWW p l e room_1 s m #[Value.ref b] below meth c (cells + 1) (slots + 6) (lw_Z below #[Value.ref b] s) D G ρ 9 1372 [some (xR 40 0 0), some (xR 0 0 0), some (xR 20 0 0), some (xR 26 0 0), some (xI i), some (xI k), some (xI v), x7, x8] [xI v, xJ (N 26 0 0 0)] N
      refine xl_st hC hc hs (xs_i2lw dL_law_1372) ?_
      show XWW p l e room_1 s m #[Value.ref b] below meth c (cells + 1) (slots + 6) (lw_Z below #[Value.ref b] s) D G ρ 9 1373 [some (xR 40 0 0), some (xR 0 0 0), some (xR 20 0 0), some (xR 26 0 0), some (xI i), some (xI k), some (xI v), x7, x8] [xJ (w32 v), xJ (N 26 0 0 0)] N
      refine xl_st hC hc hs (xs_lcmp dL_law_1373) ⟨h26 q, ?_⟩
      show XWW p l e room_1 s m #[Value.ref b] below meth c (cells + 1) (slots + 6) (lw_Z below #[Value.ref b] s) D G ρ 9 1374 [some (xR 40 0 0), some (xR 0 0 0), some (xR 20 0 0), some (xR 26 0 0), some (xI i), some (xI k), some (xI v), x7, x8] [xI 0] N
      refine xl_st hC hc hs (xs_if_eq (t := 1379) dL_law_1374 (by decide)) ⟨x_r0, fun _ => ?_, fun q => absurd rfl q⟩
      show XWW p l e room_1 s m #[Value.ref b] below meth c (cells + 1) (slots + 6) (lw_Z below #[Value.ref b] s) D G ρ 9 1379 [some (xR 40 0 0), some (xR 0 0 0), some (xR 20 0 0), some (xR 26 0 0), some (xI i), some (xI k), some (xI v), x7, x8] [] N
      refine xl_st hC hc hs (xs_goto (t := 2181) dL_law_1379 (by decide)) ?_
      show XWW p l e room_1 s m #[Value.ref b] below meth c (cells + 1) (slots + 6) (lw_Z below #[Value.ref b] s) D G ρ 9 2181 [some (xR 40 0 0), some (xR 0 0 0), some (xR 20 0 0), some (xR 26 0 0), some (xI i), some (xI k), some (xI v), x7, x8] [] N
      exact next _ _ _ _ N hR
  show XWW p l e room_1 s m #[Value.ref b] below meth c cells slots (lw_Z below #[Value.ref b] s) D G ρ 9 1338 [some (xR 40 0 0), some (xR 0 0 0), some (xR 20 0 0), some (xR 26 0 0), some (xI i), x5, x6, x7, x8] [] M
  refine xl_st hC c0 s0 (xs_aload_n (i := 1) dL_law_1338 rfl) ?_
  show XWW p l e room_1 s m #[Value.ref b] below meth c cells slots (lw_Z below #[Value.ref b] s) D G ρ 9 1339 [some (xR 40 0 0), some (xR 0 0 0), some (xR 20 0 0), some (xR 26 0 0), some (xI i), x5, x6, x7, x8] [xR 0 0 0] M
  refine xl_st hC c0 s0 (xs_aload_n (i := 3) dL_law_1339 rfl) ?_
  show XWW p l e room_1 s m #[Value.ref b] below meth c cells slots (lw_Z below #[Value.ref b] s) D G ρ 9 1340 [some (xR 40 0 0), some (xR 0 0 0), some (xR 20 0 0), some (xR 26 0 0), some (xI i), x5, x6, x7, x8] [xR 26 0 0, xR 0 0 0] M
  refine xl_call (n := 2) (As := [xR 0 0 0, xR 26 0 0]) (st := []) kL_addSheet ⟨⟨rfl, rfl, by decide, by decide⟩, ⟨by decide, by decide, by decide +kernel⟩, tw_940, tw_941, tw_0, twL_addSheet⟩ dL_law_1340 hC hl hE hc hs rfl (by decide) ⟨rfl, lc_addSheet hZ h⟩ (fun rv N1 hq => ?_)
  obtain ⟨k, rfl, ⟨k0, k3⟩, href⟩ := hq
  show XWW p l e room_1 s m #[Value.ref b] below meth c (cells + 1) (slots + 6) (lw_Z below #[Value.ref b] s) D G ρ 9 1343 [some (xR 40 0 0), some (xR 0 0 0), some (xR 20 0 0), some (xR 26 0 0), some (xI i), x5, x6, x7, x8] [xI k] N1
  refine xl_st hC hc hs (xs_istore dL_law_1343 (by decide)) ?_
  show XWW p l e room_1 s m #[Value.ref b] below meth c (cells + 1) (slots + 6) (lw_Z below #[Value.ref b] s) D G ρ 9 1345 [some (xR 40 0 0), some (xR 0 0 0), some (xR 20 0 0), some (xR 26 0 0), some (xI i), some (xI k), x6, x7, x8] [] N1
  refine xl_st hC hc hs (xs_aload_n (i := 2) dL_law_1345 rfl) ?_
  show XWW p l e room_1 s m #[Value.ref b] below meth c (cells + 1) (slots + 6) (lw_Z below #[Value.ref b] s) D G ρ 9 1346 [some (xR 40 0 0), some (xR 0 0 0), some (xR 20 0 0), some (xR 26 0 0), some (xI i), some (xI k), x6, x7, x8] [xR 20 0 0] N1
  refine xl_st hC hc hs (xs_V0 kX8_addSheet ⟨⟨rfl, rfl, by decide, by decide⟩, ⟨by decide, by decide, by decide +kernel⟩, ⟨tw_1340, tw_1341, tw_1342, tw_9, tw_1343⟩, 8, TX8, _, rfl, fun G ρ f i k => ⟨_, rfl⟩⟩ dL_law_1346) ⟨⟨rfl, xvz_20, by decide⟩, href⟩
set_option maxRecDepth 100000 in
theorem cs_undo {p : Program} {l : Launch} {e : Env} {s : State} {m : MethodId} {below : List Frame} {meth : Method} {c : Code} {D : va_G} {G : Nat → ClassId} {ρ : XOb → Nat} {b Ln : Nat} {xs : Nat → Int32} {cells slots : Nat} (hC : XCX p room_1 s m #[Value.ref b] c 0 0 D G ρ cL_law 9 RL (Cond.initialized RL :: xT)) (hl : l.stackTraces = false) (hE : (XEw s ∧ XEs s ∧ XEz (XA ρ s.heap.size) s s.heap) ∧ XEc s) (hX : XSc s ρ b Ln xs) (hc : cells + 1 ≤ 601024) (hs : slots + 6 ≤ 7293034) {i : Int} (h0 : 0 ≤ i) (h6 : i + 6 ≤ Ln) {M : XM} (h : RR M) {x5 x6 x7 x8 : Option XV} (next : ∀ (y5 y6 y7 y8 : Option XV) (N : XM), RR N → XWW p l e room_1 s m #[Value.ref b] below meth c (cells + 1) (slots + 6) (lw_Z below #[Value.ref b] s) D G ρ 9 2181 [some (xR 40 0 0), some (xR 0 0 0), some (xR 20 0 0), some (xR 26 0 0), some (xI i), y5, y6, y7, y8] [] N) : XWW p l e room_1 s m #[Value.ref b] below meth c cells slots (lw_Z below #[Value.ref b] s) D G ρ 9 1382 [some (xR 40 0 0), some (xR 0 0 0), some (xR 20 0 0), some (xR 26 0 0), some (xI i), x5, x6, x7, x8] [] M := by
  have c0 : cells ≤ room_1.cells := Nat.le_trans (Nat.le_succ _) hc
  have s0 : slots ≤ room_1.slots := Nat.le_trans (Nat.le_add_right _ 6) hs
  have hZ : ∀ (k : Int) (rv : List XV) (N : XM), 0 ≤ k → k ≤ 3 → LE k rv N → (fun (k : Int) (rv : List XV) (N : XM) => XWW p l e room_1 s m #[Value.ref b] below meth c (cells + 1) (slots + 6) (lw_Z below #[Value.ref b] s) D G ρ 9 1393 [some (xR 40 0 0), some (xR 0 0 0), some (xR 20 0 0), some (xR 26 0 0), some (xI i), some (xI k), x6, x7, x8] (rv ++ []) N) k rv N := by
    intro k rv N k0 k3 hLE
    obtain ⟨v, rfl, hR, h5, h26⟩ := hLE
    show XWW p l e room_1 s m #[Value.ref b] below meth c (cells + 1) (slots + 6) (lw_Z below #[Value.ref b] s) D G ρ 9 1393 [some (xR 40 0 0), some (xR 0 0 0), some (xR 20 0 0), some (xR 26 0 0), some (xI i), some (xI k), x6, x7, x8] [xI v] N
    refine xl_st hC hc hs (xs_istore dL_law_1393 (by decide)) ?_
    show XWW p l e room_1 s m #[Value.ref b] below meth c (cells + 1) (slots + 6) (lw_Z below #[Value.ref b] s) D G ρ 9 1395 [some (xR 40 0 0), some (xR 0 0 0), some (xR 20 0 0), some (xR 26 0 0), some (xI i), some (xI k), some (xI v), x7, x8] [] N
    refine xl_st hC hc hs (xs_aload_n (i := 2) dL_law_1395 rfl) ?_
    show XWW p l e room_1 s m #[Value.ref b] below meth c (cells + 1) (slots + 6) (lw_Z below #[Value.ref b] s) D G ρ 9 1396 [some (xR 40 0 0), some (xR 0 0 0), some (xR 20 0 0), some (xR 26 0 0), some (xI i), some (xI k), some (xI v), x7, x8] [xR 20 0 0] N
    refine xl_st hC hc hs (xs_V0 kX8_thrown ⟨⟨rfl, rfl, by decide, by decide⟩, ⟨by decide, by decide, by decide +kernel⟩, ⟨tw_1091, tw_1092, tw_1093, tw_9, tw_1094⟩, 8, TX8, _, rfl, fun G ρ f i k => ⟨_, rfl⟩⟩ dL_law_1396) ⟨⟨rfl, xvz_20, by decide⟩, ⟨rfl, xvz_20⟩, ?_⟩
    show XWW p l e room_1 s m #[Value.ref b] below meth c (cells + 1) (slots + 6) (lw_Z below #[Value.ref b] s) D G ρ 9 1399 [some (xR 40 0 0), some (xR 0 0 0), some (xR 20 0 0), some (xR 26 0 0), some (xI i), some (xI k), some (xI v), x7, x8] [xI (N 20 0 0 5)] N
    refine xl_st hC hc hs (xs_iload dL_law_1399) ?_
    show XWW p l e room_1 s m #[Value.ref b] below meth c (cells + 1) (slots + 6) (lw_Z below #[Value.ref b] s) D G ρ 9 1401 [some (xR 40 0 0), some (xR 0 0 0), some (xR 20 0 0), some (xR 26 0 0), some (xI i), some (xI k), some (xI v), x7, x8] [xI k, xI (N 20 0 0 5)] N
    refine xl_st hC hc hs (xs_icmp_eq (t := 1406) dL_law_1401 (by decide)) ⟨⟨by rw [h5]; exact ⟨by omega, by omega⟩, ⟨by omega, by omega⟩⟩, fun _ => ?_, fun q => absurd h5 q⟩
    show XWW p l e room_1 s m #[Value.ref b] below meth c (cells + 1) (slots + 6) (lw_Z below #[Value.ref b] s) D G ρ 9 1406 [some (xR 40 0 0), some (xR 0 0 0), some (xR 20 0 0), some (xR 26 0 0), some (xI i), some (xI k), some (xI v), x7, x8] [] N
    refine xl_st hC hc hs (xs_iload dL_law_1406) ?_
    show XWW p l e room_1 s m #[Value.ref b] below meth c (cells + 1) (slots + 6) (lw_Z below #[Value.ref b] s) D G ρ 9 1408 [some (xR 40 0 0), some (xR 0 0 0), some (xR 20 0 0), some (xR 26 0 0), some (xI i), some (xI k), some (xI v), x7, x8] [xI k] N
    refine xl_st hC hc hs (xs_if_ne (t := 1423) dL_law_1408 (by decide)) ⟨⟨by omega, by omega⟩, fun _ => ?_, fun q => ?_⟩
    · show XWW p l e room_1 s m #[Value.ref b] below meth c (cells + 1) (slots + 6) (lw_Z below #[Value.ref b] s) D G ρ 9 1423 [some (xR 40 0 0), some (xR 0 0 0), some (xR 20 0 0), some (xR 26 0 0), some (xI i), some (xI k), some (xI v), x7, x8] [] N
      refine xl_st hC hc hs (xs_goto (t := 2181) dL_law_1423 (by decide)) ?_
      show XWW p l e room_1 s m #[Value.ref b] below meth c (cells + 1) (slots + 6) (lw_Z below #[Value.ref b] s) D G ρ 9 2181 [some (xR 40 0 0), some (xR 0 0 0), some (xR 20 0 0), some (xR 26 0 0), some (xI i), some (xI k), some (xI v), x7, x8] [] N
      exact next _ _ _ _ N hR
    · show XWW p l e room_1 s m #[Value.ref b] below meth c (cells + 1) (slots + 6) (lw_Z below #[Value.ref b] s) D G ρ 9 1411 [some (xR 40 0 0), some (xR 0 0 0), some (xR 20 0 0), some (xR 26 0 0), some (xI i), some (xI k), some (xI v), x7, x8] [] N
      refine xl_st hC hc hs (xs_aload_n (i := 3) dL_law_1411 rfl) ?_
      show XWW p l e room_1 s m #[Value.ref b] below meth c (cells + 1) (slots + 6) (lw_Z below #[Value.ref b] s) D G ρ 9 1412 [some (xR 40 0 0), some (xR 0 0 0), some (xR 20 0 0), some (xR 26 0 0), some (xI i), some (xI k), some (xI v), x7, x8] [xR 26 0 0] N
      refine xl_st hC hc hs (xs_iconst dL_law_1412) ?_
      show XWW p l e room_1 s m #[Value.ref b] below meth c (cells + 1) (slots + 6) (lw_Z below #[Value.ref b] s) D G ρ 9 1413 [some (xR 40 0 0), some (xR 0 0 0), some (xR 20 0 0), some (xR 26 0 0), some (xI i), some (xI k), some (xI v), x7, x8] [xI 0, xR 26 0 0] N
      refine xl_st hC hc hs (xs_lald dL_law_1413) ⟨⟨rfl, rfl, rfl, rfl⟩, ?_⟩
      show XWW p l e room_1 s m #[Value.ref b] below meth c (cells + 1) (slots + 6) (lw_Z below #[Value.ref b] s) D G ρ 9 1414 [some (xR 40 0 0), some (xR 0 0 0), some (xR 20 0 0), some (xR 26 0 0), some (xI i), some (xI k), some (xI v), x7, x8] [xJ (N 26 0 0 0)] N
      refine xl_st hC hc hs (xs_iload dL_law_1414) ?_
      show XWW p l e room_1 s m #[Value.ref b] below meth c (cells + 1) (slots + 6) (lw_Z below #[Value.ref b] s) D G ρ 9 1416 [some (xR 40 0 0), some (xR 0 0 0), some (xR 20 0 0), some (xR 26 0 0), some (xI i), some (xI k), some (xI v), x7, x8] [xI v, xJ (N 26 0 0 0)] N
      refine xl_st hC hc hs (xs_i2lw dL_law_1416) ?_
      show XWW p l e room_1 s m #[Value.ref b] below meth c (cells + 1) (slots + 6) (lw_Z below #[Value.ref b] s) D G ρ 9 1417 [some (xR 40 0 0), some (xR 0 0 0), some (xR 20 0 0), some (xR 26 0 0), some (xI i), some (xI k), some (xI v), x7, x8] [xJ (w32 v), xJ (N 26 0 0 0)] N
      refine xl_st hC hc hs (xs_lcmp dL_law_1417) ⟨h26 q, ?_⟩
      show XWW p l e room_1 s m #[Value.ref b] below meth c (cells + 1) (slots + 6) (lw_Z below #[Value.ref b] s) D G ρ 9 1418 [some (xR 40 0 0), some (xR 0 0 0), some (xR 20 0 0), some (xR 26 0 0), some (xI i), some (xI k), some (xI v), x7, x8] [xI 0] N
      refine xl_st hC hc hs (xs_if_eq (t := 1423) dL_law_1418 (by decide)) ⟨x_r0, fun _ => ?_, fun q => absurd rfl q⟩
      show XWW p l e room_1 s m #[Value.ref b] below meth c (cells + 1) (slots + 6) (lw_Z below #[Value.ref b] s) D G ρ 9 1423 [some (xR 40 0 0), some (xR 0 0 0), some (xR 20 0 0), some (xR 26 0 0), some (xI i), some (xI k), some (xI v), x7, x8] [] N
      refine xl_st hC hc hs (xs_goto (t := 2181) dL_law_1423 (by decide)) ?_
      show XWW p l e room_1 s m #[Value.ref b] below meth c (cells + 1) (slots + 6) (lw_Z below #[Value.ref b] s) D G ρ 9 2181 [some (xR 40 0 0), some (xR 0 0 0), some (xR 20 0 0), some (xR 26 0 0), some (xI i), some (xI k), some (xI v), x7, x8] [] N
      exact next _ _ _ _ N hR
  show XWW p l e room_1 s m #[Value.ref b] below meth c cells slots (lw_Z below #[Value.ref b] s) D G ρ 9 1382 [some (xR 40 0 0), some (xR 0 0 0), some (xR 20 0 0), some (xR 26 0 0), some (xI i), x5, x6, x7, x8] [] M
  refine xl_st hC c0 s0 (xs_aload_n (i := 1) dL_law_1382 rfl) ?_
  show XWW p l e room_1 s m #[Value.ref b] below meth c cells slots (lw_Z below #[Value.ref b] s) D G ρ 9 1383 [some (xR 40 0 0), some (xR 0 0 0), some (xR 20 0 0), some (xR 26 0 0), some (xI i), x5, x6, x7, x8] [xR 0 0 0] M
  refine xl_st hC c0 s0 (xs_aload_n (i := 3) dL_law_1383 rfl) ?_
  show XWW p l e room_1 s m #[Value.ref b] below meth c cells slots (lw_Z below #[Value.ref b] s) D G ρ 9 1384 [some (xR 40 0 0), some (xR 0 0 0), some (xR 20 0 0), some (xR 26 0 0), some (xI i), x5, x6, x7, x8] [xR 26 0 0, xR 0 0 0] M
  refine xl_call (n := 2) (As := [xR 0 0 0, xR 26 0 0]) (st := []) kL_undo ⟨⟨rfl, rfl, by decide, by decide⟩, ⟨by decide, by decide, by decide +kernel⟩, tw_978, tw_979, tw_0, twL_undo⟩ dL_law_1384 hC hl hE hc hs rfl (by decide) ⟨rfl, lc_undo hZ h⟩ (fun rv N1 hq => ?_)
  obtain ⟨k, rfl, ⟨k0, k3⟩, href⟩ := hq
  show XWW p l e room_1 s m #[Value.ref b] below meth c (cells + 1) (slots + 6) (lw_Z below #[Value.ref b] s) D G ρ 9 1387 [some (xR 40 0 0), some (xR 0 0 0), some (xR 20 0 0), some (xR 26 0 0), some (xI i), x5, x6, x7, x8] [xI k] N1
  refine xl_st hC hc hs (xs_istore dL_law_1387 (by decide)) ?_
  show XWW p l e room_1 s m #[Value.ref b] below meth c (cells + 1) (slots + 6) (lw_Z below #[Value.ref b] s) D G ρ 9 1389 [some (xR 40 0 0), some (xR 0 0 0), some (xR 20 0 0), some (xR 26 0 0), some (xI i), some (xI k), x6, x7, x8] [] N1
  refine xl_st hC hc hs (xs_aload_n (i := 2) dL_law_1389 rfl) ?_
  show XWW p l e room_1 s m #[Value.ref b] below meth c (cells + 1) (slots + 6) (lw_Z below #[Value.ref b] s) D G ρ 9 1390 [some (xR 40 0 0), some (xR 0 0 0), some (xR 20 0 0), some (xR 26 0 0), some (xI i), some (xI k), x6, x7, x8] [xR 20 0 0] N1
  refine xl_st hC hc hs (xs_V0 kX8_undo ⟨⟨rfl, rfl, by decide, by decide⟩, ⟨by decide, by decide, by decide +kernel⟩, ⟨tw_1348, tw_1349, tw_1350, tw_9, tw_1351⟩, 8, TX8, _, rfl, fun G ρ f i k => ⟨_, rfl⟩⟩ dL_law_1390) ⟨⟨rfl, xvz_20, by decide⟩, href⟩
set_option maxRecDepth 100000 in
theorem cs_place {p : Program} {l : Launch} {e : Env} {s : State} {m : MethodId} {below : List Frame} {meth : Method} {c : Code} {D : va_G} {G : Nat → ClassId} {ρ : XOb → Nat} {b Ln : Nat} {xs : Nat → Int32} {cells slots : Nat} (hC : XCX p room_1 s m #[Value.ref b] c 0 0 D G ρ cL_law 9 RL (Cond.initialized RL :: xT)) (hl : l.stackTraces = false) (hE : (XEw s ∧ XEs s ∧ XEz (XA ρ s.heap.size) s s.heap) ∧ XEc s) (hX : XSc s ρ b Ln xs) (hc : cells + 1 ≤ 601024) (hs : slots + 6 ≤ 7293034) {i : Int} (h0 : 0 ≤ i) (h6 : i + 6 ≤ Ln) {M : XM} (h : RR M) {x5 x6 x7 x8 : Option XV} (next : ∀ (y5 y6 y7 y8 : Option XV) (N : XM), RR N → XWW p l e room_1 s m #[Value.ref b] below meth c (cells + 1) (slots + 6) (lw_Z below #[Value.ref b] s) D G ρ 9 2181 [some (xR 40 0 0), some (xR 0 0 0), some (xR 20 0 0), some (xR 26 0 0), some (xI i), y5, y6, y7, y8] [] N) : XWW p l e room_1 s m #[Value.ref b] below meth c cells slots (lw_Z below #[Value.ref b] s) D G ρ 9 1426 [some (xR 40 0 0), some (xR 0 0 0), some (xR 20 0 0), some (xR 26 0 0), some (xI i), x5, x6, x7, x8] [] M := by
  have c0 : cells ≤ room_1.cells := Nat.le_trans (Nat.le_succ _) hc
  have s0 : slots ≤ room_1.slots := Nat.le_trans (Nat.le_add_right _ 6) hs
  have hZ : ∀ (k : Int) (rv : List XV) (N : XM), 0 ≤ k → k ≤ 3 → LE k rv N → (fun (k : Int) (rv : List XV) (N : XM) => XWW p l e room_1 s m #[Value.ref b] below meth c (cells + 1) (slots + 6) (lw_Z below #[Value.ref b] s) D G ρ 9 1461 [some (xR 40 0 0), some (xR 0 0 0), some (xR 20 0 0), some (xR 26 0 0), some (xI i), some (xI k), x6, x7, x8] (rv ++ []) N) k rv N := by
    intro k rv N k0 k3 hLE
    obtain ⟨v, rfl, hR, h5, h26⟩ := hLE
    show XWW p l e room_1 s m #[Value.ref b] below meth c (cells + 1) (slots + 6) (lw_Z below #[Value.ref b] s) D G ρ 9 1461 [some (xR 40 0 0), some (xR 0 0 0), some (xR 20 0 0), some (xR 26 0 0), some (xI i), some (xI k), x6, x7, x8] [xI v] N
    refine xl_st hC hc hs (xs_istore dL_law_1461 (by decide)) ?_
    show XWW p l e room_1 s m #[Value.ref b] below meth c (cells + 1) (slots + 6) (lw_Z below #[Value.ref b] s) D G ρ 9 1463 [some (xR 40 0 0), some (xR 0 0 0), some (xR 20 0 0), some (xR 26 0 0), some (xI i), some (xI k), some (xI v), x7, x8] [] N
    refine xl_st hC hc hs (xs_aload_n (i := 2) dL_law_1463 rfl) ?_
    show XWW p l e room_1 s m #[Value.ref b] below meth c (cells + 1) (slots + 6) (lw_Z below #[Value.ref b] s) D G ρ 9 1464 [some (xR 40 0 0), some (xR 0 0 0), some (xR 20 0 0), some (xR 26 0 0), some (xI i), some (xI k), some (xI v), x7, x8] [xR 20 0 0] N
    refine xl_st hC hc hs (xs_V0 kX8_thrown ⟨⟨rfl, rfl, by decide, by decide⟩, ⟨by decide, by decide, by decide +kernel⟩, ⟨tw_1091, tw_1092, tw_1093, tw_9, tw_1094⟩, 8, TX8, _, rfl, fun G ρ f i k => ⟨_, rfl⟩⟩ dL_law_1464) ⟨⟨rfl, xvz_20, by decide⟩, ⟨rfl, xvz_20⟩, ?_⟩
    show XWW p l e room_1 s m #[Value.ref b] below meth c (cells + 1) (slots + 6) (lw_Z below #[Value.ref b] s) D G ρ 9 1467 [some (xR 40 0 0), some (xR 0 0 0), some (xR 20 0 0), some (xR 26 0 0), some (xI i), some (xI k), some (xI v), x7, x8] [xI (N 20 0 0 5)] N
    refine xl_st hC hc hs (xs_iload dL_law_1467) ?_
    show XWW p l e room_1 s m #[Value.ref b] below meth c (cells + 1) (slots + 6) (lw_Z below #[Value.ref b] s) D G ρ 9 1469 [some (xR 40 0 0), some (xR 0 0 0), some (xR 20 0 0), some (xR 26 0 0), some (xI i), some (xI k), some (xI v), x7, x8] [xI k, xI (N 20 0 0 5)] N
    refine xl_st hC hc hs (xs_icmp_eq (t := 1474) dL_law_1469 (by decide)) ⟨⟨by rw [h5]; exact ⟨by omega, by omega⟩, ⟨by omega, by omega⟩⟩, fun _ => ?_, fun q => absurd h5 q⟩
    show XWW p l e room_1 s m #[Value.ref b] below meth c (cells + 1) (slots + 6) (lw_Z below #[Value.ref b] s) D G ρ 9 1474 [some (xR 40 0 0), some (xR 0 0 0), some (xR 20 0 0), some (xR 26 0 0), some (xI i), some (xI k), some (xI v), x7, x8] [] N
    refine xl_st hC hc hs (xs_iload dL_law_1474) ?_
    show XWW p l e room_1 s m #[Value.ref b] below meth c (cells + 1) (slots + 6) (lw_Z below #[Value.ref b] s) D G ρ 9 1476 [some (xR 40 0 0), some (xR 0 0 0), some (xR 20 0 0), some (xR 26 0 0), some (xI i), some (xI k), some (xI v), x7, x8] [xI k] N
    refine xl_st hC hc hs (xs_if_ne (t := 1491) dL_law_1476 (by decide)) ⟨⟨by omega, by omega⟩, fun _ => ?_, fun q => ?_⟩
    · show XWW p l e room_1 s m #[Value.ref b] below meth c (cells + 1) (slots + 6) (lw_Z below #[Value.ref b] s) D G ρ 9 1491 [some (xR 40 0 0), some (xR 0 0 0), some (xR 20 0 0), some (xR 26 0 0), some (xI i), some (xI k), some (xI v), x7, x8] [] N
      refine xl_st hC hc hs (xs_goto (t := 2181) dL_law_1491 (by decide)) ?_
      show XWW p l e room_1 s m #[Value.ref b] below meth c (cells + 1) (slots + 6) (lw_Z below #[Value.ref b] s) D G ρ 9 2181 [some (xR 40 0 0), some (xR 0 0 0), some (xR 20 0 0), some (xR 26 0 0), some (xI i), some (xI k), some (xI v), x7, x8] [] N
      exact next _ _ _ _ N hR
    · show XWW p l e room_1 s m #[Value.ref b] below meth c (cells + 1) (slots + 6) (lw_Z below #[Value.ref b] s) D G ρ 9 1479 [some (xR 40 0 0), some (xR 0 0 0), some (xR 20 0 0), some (xR 26 0 0), some (xI i), some (xI k), some (xI v), x7, x8] [] N
      refine xl_st hC hc hs (xs_aload_n (i := 3) dL_law_1479 rfl) ?_
      show XWW p l e room_1 s m #[Value.ref b] below meth c (cells + 1) (slots + 6) (lw_Z below #[Value.ref b] s) D G ρ 9 1480 [some (xR 40 0 0), some (xR 0 0 0), some (xR 20 0 0), some (xR 26 0 0), some (xI i), some (xI k), some (xI v), x7, x8] [xR 26 0 0] N
      refine xl_st hC hc hs (xs_iconst dL_law_1480) ?_
      show XWW p l e room_1 s m #[Value.ref b] below meth c (cells + 1) (slots + 6) (lw_Z below #[Value.ref b] s) D G ρ 9 1481 [some (xR 40 0 0), some (xR 0 0 0), some (xR 20 0 0), some (xR 26 0 0), some (xI i), some (xI k), some (xI v), x7, x8] [xI 0, xR 26 0 0] N
      refine xl_st hC hc hs (xs_lald dL_law_1481) ⟨⟨rfl, rfl, rfl, rfl⟩, ?_⟩
      show XWW p l e room_1 s m #[Value.ref b] below meth c (cells + 1) (slots + 6) (lw_Z below #[Value.ref b] s) D G ρ 9 1482 [some (xR 40 0 0), some (xR 0 0 0), some (xR 20 0 0), some (xR 26 0 0), some (xI i), some (xI k), some (xI v), x7, x8] [xJ (N 26 0 0 0)] N
      refine xl_st hC hc hs (xs_iload dL_law_1482) ?_
      show XWW p l e room_1 s m #[Value.ref b] below meth c (cells + 1) (slots + 6) (lw_Z below #[Value.ref b] s) D G ρ 9 1484 [some (xR 40 0 0), some (xR 0 0 0), some (xR 20 0 0), some (xR 26 0 0), some (xI i), some (xI k), some (xI v), x7, x8] [xI v, xJ (N 26 0 0 0)] N
      refine xl_st hC hc hs (xs_i2lw dL_law_1484) ?_
      show XWW p l e room_1 s m #[Value.ref b] below meth c (cells + 1) (slots + 6) (lw_Z below #[Value.ref b] s) D G ρ 9 1485 [some (xR 40 0 0), some (xR 0 0 0), some (xR 20 0 0), some (xR 26 0 0), some (xI i), some (xI k), some (xI v), x7, x8] [xJ (w32 v), xJ (N 26 0 0 0)] N
      refine xl_st hC hc hs (xs_lcmp dL_law_1485) ⟨h26 q, ?_⟩
      show XWW p l e room_1 s m #[Value.ref b] below meth c (cells + 1) (slots + 6) (lw_Z below #[Value.ref b] s) D G ρ 9 1486 [some (xR 40 0 0), some (xR 0 0 0), some (xR 20 0 0), some (xR 26 0 0), some (xI i), some (xI k), some (xI v), x7, x8] [xI 0] N
      refine xl_st hC hc hs (xs_if_eq (t := 1491) dL_law_1486 (by decide)) ⟨x_r0, fun _ => ?_, fun q => absurd rfl q⟩
      show XWW p l e room_1 s m #[Value.ref b] below meth c (cells + 1) (slots + 6) (lw_Z below #[Value.ref b] s) D G ρ 9 1491 [some (xR 40 0 0), some (xR 0 0 0), some (xR 20 0 0), some (xR 26 0 0), some (xI i), some (xI k), some (xI v), x7, x8] [] N
      refine xl_st hC hc hs (xs_goto (t := 2181) dL_law_1491 (by decide)) ?_
      show XWW p l e room_1 s m #[Value.ref b] below meth c (cells + 1) (slots + 6) (lw_Z below #[Value.ref b] s) D G ρ 9 2181 [some (xR 40 0 0), some (xR 0 0 0), some (xR 20 0 0), some (xR 26 0 0), some (xI i), some (xI k), some (xI v), x7, x8] [] N
      exact next _ _ _ _ N hR
  show XWW p l e room_1 s m #[Value.ref b] below meth c cells slots (lw_Z below #[Value.ref b] s) D G ρ 9 1426 [some (xR 40 0 0), some (xR 0 0 0), some (xR 20 0 0), some (xR 26 0 0), some (xI i), x5, x6, x7, x8] [] M
  refine xl_st hC c0 s0 (xs_aload_n (i := 1) dL_law_1426 rfl) ?_
  show XWW p l e room_1 s m #[Value.ref b] below meth c cells slots (lw_Z below #[Value.ref b] s) D G ρ 9 1427 [some (xR 40 0 0), some (xR 0 0 0), some (xR 20 0 0), some (xR 26 0 0), some (xI i), x5, x6, x7, x8] [xR 0 0 0] M
  refine xl_st hC c0 s0 (xs_aload_n (i := 0) dL_law_1427 rfl) ?_
  show XWW p l e room_1 s m #[Value.ref b] below meth c cells slots (lw_Z below #[Value.ref b] s) D G ρ 9 1428 [some (xR 40 0 0), some (xR 0 0 0), some (xR 20 0 0), some (xR 26 0 0), some (xI i), x5, x6, x7, x8] [xR 40 0 0, xR 0 0 0] M
  refine xl_st hC c0 s0 (xs_iload dL_law_1428) ?_
  show XWW p l e room_1 s m #[Value.ref b] below meth c cells slots (lw_Z below #[Value.ref b] s) D G ρ 9 1430 [some (xR 40 0 0), some (xR 0 0 0), some (xR 20 0 0), some (xR 26 0 0), some (xI i), x5, x6, x7, x8] [xI i, xR 40 0 0, xR 0 0 0] M
  refine xl_st hC c0 s0 (xs_iconst dL_law_1430) ?_
  show XWW p l e room_1 s m #[Value.ref b] below meth c cells slots (lw_Z below #[Value.ref b] s) D G ρ 9 1431 [some (xR 40 0 0), some (xR 0 0 0), some (xR 20 0 0), some (xR 26 0 0), some (xI i), x5, x6, x7, x8] [xI 1, xI i, xR 40 0 0, xR 0 0 0] M
  refine xl_st hC c0 s0 (xs_iadd dL_law_1431) ?_
  show XWW p l e room_1 s m #[Value.ref b] below meth c cells slots (lw_Z below #[Value.ref b] s) D G ρ 9 1432 [some (xR 40 0 0), some (xR 0 0 0), some (xR 20 0 0), some (xR 26 0 0), some (xI i), x5, x6, x7, x8] [xI (i + 1), xR 40 0 0, xR 0 0 0] M
  refine xl_sld hC hX (by omega) (by omega) dL_law_1432 ?_
  show XWW p l e room_1 s m #[Value.ref b] below meth c cells slots (lw_Z below #[Value.ref b] s) D G ρ 9 1433 [some (xR 40 0 0), some (xR 0 0 0), some (xR 20 0 0), some (xR 26 0 0), some (xI i), x5, x6, x7, x8] [xI (SLx xs (i + 1)), xR 0 0 0] M
  refine xl_st hC c0 s0 (xs_aload_n (i := 0) dL_law_1433 rfl) ?_
  show XWW p l e room_1 s m #[Value.ref b] below meth c cells slots (lw_Z below #[Value.ref b] s) D G ρ 9 1434 [some (xR 40 0 0), some (xR 0 0 0), some (xR 20 0 0), some (xR 26 0 0), some (xI i), x5, x6, x7, x8] [xR 40 0 0, xI (SLx xs (i + 1)), xR 0 0 0] M
  refine xl_st hC c0 s0 (xs_iload dL_law_1434) ?_
  show XWW p l e room_1 s m #[Value.ref b] below meth c cells slots (lw_Z below #[Value.ref b] s) D G ρ 9 1436 [some (xR 40 0 0), some (xR 0 0 0), some (xR 20 0 0), some (xR 26 0 0), some (xI i), x5, x6, x7, x8] [xI i, xR 40 0 0, xI (SLx xs (i + 1)), xR 0 0 0] M
  refine xl_st hC c0 s0 (xs_iconst dL_law_1436) ?_
  show XWW p l e room_1 s m #[Value.ref b] below meth c cells slots (lw_Z below #[Value.ref b] s) D G ρ 9 1437 [some (xR 40 0 0), some (xR 0 0 0), some (xR 20 0 0), some (xR 26 0 0), some (xI i), x5, x6, x7, x8] [xI 2, xI i, xR 40 0 0, xI (SLx xs (i + 1)), xR 0 0 0] M
  refine xl_st hC c0 s0 (xs_iadd dL_law_1437) ?_
  show XWW p l e room_1 s m #[Value.ref b] below meth c cells slots (lw_Z below #[Value.ref b] s) D G ρ 9 1438 [some (xR 40 0 0), some (xR 0 0 0), some (xR 20 0 0), some (xR 26 0 0), some (xI i), x5, x6, x7, x8] [xI (i + 2), xR 40 0 0, xI (SLx xs (i + 1)), xR 0 0 0] M
  refine xl_sld hC hX (by omega) (by omega) dL_law_1438 ?_
  show XWW p l e room_1 s m #[Value.ref b] below meth c cells slots (lw_Z below #[Value.ref b] s) D G ρ 9 1439 [some (xR 40 0 0), some (xR 0 0 0), some (xR 20 0 0), some (xR 26 0 0), some (xI i), x5, x6, x7, x8] [xI (SLx xs (i + 2)), xI (SLx xs (i + 1)), xR 0 0 0] M
  refine xl_st hC c0 s0 (xs_aload_n (i := 3) dL_law_1439 rfl) ?_
  show XWW p l e room_1 s m #[Value.ref b] below meth c cells slots (lw_Z below #[Value.ref b] s) D G ρ 9 1440 [some (xR 40 0 0), some (xR 0 0 0), some (xR 20 0 0), some (xR 26 0 0), some (xI i), x5, x6, x7, x8] [xR 26 0 0, xI (SLx xs (i + 2)), xI (SLx xs (i + 1)), xR 0 0 0] M
  refine xl_call (n := 4) (As := [xR 0 0 0, xI (SLx xs (i + 1)), xI (SLx xs (i + 2)), xR 26 0 0]) (st := []) kL_place ⟨⟨rfl, rfl, by decide, by decide⟩, ⟨by decide, by decide, by decide +kernel⟩, tw_989, tw_990, tw_0, twL_place⟩ dL_law_1440 hC hl hE hc hs rfl (by decide) ⟨(SLx xs (i + 1)), (SLx xs (i + 2)), rfl, lc_place hZ h (SL_in _ _) (SL_in _ _)⟩ (fun rv N1 hq => ?_)
  obtain ⟨k, rfl, ⟨k0, k3⟩, href⟩ := hq
  show XWW p l e room_1 s m #[Value.ref b] below meth c (cells + 1) (slots + 6) (lw_Z below #[Value.ref b] s) D G ρ 9 1443 [some (xR 40 0 0), some (xR 0 0 0), some (xR 20 0 0), some (xR 26 0 0), some (xI i), x5, x6, x7, x8] [xI k] N1
  refine xl_st hC hc hs (xs_istore dL_law_1443 (by decide)) ?_
  show XWW p l e room_1 s m #[Value.ref b] below meth c (cells + 1) (slots + 6) (lw_Z below #[Value.ref b] s) D G ρ 9 1445 [some (xR 40 0 0), some (xR 0 0 0), some (xR 20 0 0), some (xR 26 0 0), some (xI i), some (xI k), x6, x7, x8] [] N1
  refine xl_st hC hc hs (xs_aload_n (i := 2) dL_law_1445 rfl) ?_
  show XWW p l e room_1 s m #[Value.ref b] below meth c (cells + 1) (slots + 6) (lw_Z below #[Value.ref b] s) D G ρ 9 1446 [some (xR 40 0 0), some (xR 0 0 0), some (xR 20 0 0), some (xR 26 0 0), some (xI i), some (xI k), x6, x7, x8] [xR 20 0 0] N1
  refine xl_st hC hc hs (xs_aload_n (i := 0) dL_law_1446 rfl) ?_
  show XWW p l e room_1 s m #[Value.ref b] below meth c (cells + 1) (slots + 6) (lw_Z below #[Value.ref b] s) D G ρ 9 1447 [some (xR 40 0 0), some (xR 0 0 0), some (xR 20 0 0), some (xR 26 0 0), some (xI i), some (xI k), x6, x7, x8] [xR 40 0 0, xR 20 0 0] N1
  refine xl_st hC hc hs (xs_iload dL_law_1447) ?_
  show XWW p l e room_1 s m #[Value.ref b] below meth c (cells + 1) (slots + 6) (lw_Z below #[Value.ref b] s) D G ρ 9 1449 [some (xR 40 0 0), some (xR 0 0 0), some (xR 20 0 0), some (xR 26 0 0), some (xI i), some (xI k), x6, x7, x8] [xI i, xR 40 0 0, xR 20 0 0] N1
  refine xl_st hC hc hs (xs_iconst dL_law_1449) ?_
  show XWW p l e room_1 s m #[Value.ref b] below meth c (cells + 1) (slots + 6) (lw_Z below #[Value.ref b] s) D G ρ 9 1450 [some (xR 40 0 0), some (xR 0 0 0), some (xR 20 0 0), some (xR 26 0 0), some (xI i), some (xI k), x6, x7, x8] [xI 1, xI i, xR 40 0 0, xR 20 0 0] N1
  refine xl_st hC hc hs (xs_iadd dL_law_1450) ?_
  show XWW p l e room_1 s m #[Value.ref b] below meth c (cells + 1) (slots + 6) (lw_Z below #[Value.ref b] s) D G ρ 9 1451 [some (xR 40 0 0), some (xR 0 0 0), some (xR 20 0 0), some (xR 26 0 0), some (xI i), some (xI k), x6, x7, x8] [xI (i + 1), xR 40 0 0, xR 20 0 0] N1
  refine xl_sld hC hX (by omega) (by omega) dL_law_1451 ?_
  show XWW p l e room_1 s m #[Value.ref b] below meth c (cells + 1) (slots + 6) (lw_Z below #[Value.ref b] s) D G ρ 9 1452 [some (xR 40 0 0), some (xR 0 0 0), some (xR 20 0 0), some (xR 26 0 0), some (xI i), some (xI k), x6, x7, x8] [xI (SLx xs (i + 1)), xR 20 0 0] N1
  refine xl_st hC hc hs (xs_aload_n (i := 0) dL_law_1452 rfl) ?_
  show XWW p l e room_1 s m #[Value.ref b] below meth c (cells + 1) (slots + 6) (lw_Z below #[Value.ref b] s) D G ρ 9 1453 [some (xR 40 0 0), some (xR 0 0 0), some (xR 20 0 0), some (xR 26 0 0), some (xI i), some (xI k), x6, x7, x8] [xR 40 0 0, xI (SLx xs (i + 1)), xR 20 0 0] N1
  refine xl_st hC hc hs (xs_iload dL_law_1453) ?_
  show XWW p l e room_1 s m #[Value.ref b] below meth c (cells + 1) (slots + 6) (lw_Z below #[Value.ref b] s) D G ρ 9 1455 [some (xR 40 0 0), some (xR 0 0 0), some (xR 20 0 0), some (xR 26 0 0), some (xI i), some (xI k), x6, x7, x8] [xI i, xR 40 0 0, xI (SLx xs (i + 1)), xR 20 0 0] N1
  refine xl_st hC hc hs (xs_iconst dL_law_1455) ?_
  show XWW p l e room_1 s m #[Value.ref b] below meth c (cells + 1) (slots + 6) (lw_Z below #[Value.ref b] s) D G ρ 9 1456 [some (xR 40 0 0), some (xR 0 0 0), some (xR 20 0 0), some (xR 26 0 0), some (xI i), some (xI k), x6, x7, x8] [xI 2, xI i, xR 40 0 0, xI (SLx xs (i + 1)), xR 20 0 0] N1
  refine xl_st hC hc hs (xs_iadd dL_law_1456) ?_
  show XWW p l e room_1 s m #[Value.ref b] below meth c (cells + 1) (slots + 6) (lw_Z below #[Value.ref b] s) D G ρ 9 1457 [some (xR 40 0 0), some (xR 0 0 0), some (xR 20 0 0), some (xR 26 0 0), some (xI i), some (xI k), x6, x7, x8] [xI (i + 2), xR 40 0 0, xI (SLx xs (i + 1)), xR 20 0 0] N1
  refine xl_sld hC hX (by omega) (by omega) dL_law_1457 ?_
  show XWW p l e room_1 s m #[Value.ref b] below meth c (cells + 1) (slots + 6) (lw_Z below #[Value.ref b] s) D G ρ 9 1458 [some (xR 40 0 0), some (xR 0 0 0), some (xR 20 0 0), some (xR 26 0 0), some (xI i), some (xI k), x6, x7, x8] [xI (SLx xs (i + 2)), xI (SLx xs (i + 1)), xR 20 0 0] N1
  refine xl_st hC hc hs (xs_V2 kX8_place ⟨⟨rfl, rfl, by decide, by decide⟩, ⟨by decide, by decide, by decide +kernel⟩, ⟨tw_1352, tw_1353, tw_1354, tw_9, tw_1355⟩, 8, TX8, _, rfl, fun G ρ f i k => ⟨_, rfl⟩⟩ dL_law_1458) ⟨⟨rfl, xvz_20, by decide⟩, href⟩
set_option maxRecDepth 100000 in
theorem cs_unit {p : Program} {l : Launch} {e : Env} {s : State} {m : MethodId} {below : List Frame} {meth : Method} {c : Code} {D : va_G} {G : Nat → ClassId} {ρ : XOb → Nat} {b Ln : Nat} {xs : Nat → Int32} {cells slots : Nat} (hC : XCX p room_1 s m #[Value.ref b] c 0 0 D G ρ cL_law 9 RL (Cond.initialized RL :: xT)) (hl : l.stackTraces = false) (hE : (XEw s ∧ XEs s ∧ XEz (XA ρ s.heap.size) s s.heap) ∧ XEc s) (hX : XSc s ρ b Ln xs) (hc : cells + 1 ≤ 601024) (hs : slots + 6 ≤ 7293034) {i : Int} (h0 : 0 ≤ i) (h6 : i + 6 ≤ Ln) {M : XM} (h : RR M) {x5 x6 x7 x8 : Option XV} (next : ∀ (y5 y6 y7 y8 : Option XV) (N : XM), RR N → XWW p l e room_1 s m #[Value.ref b] below meth c (cells + 1) (slots + 6) (lw_Z below #[Value.ref b] s) D G ρ 9 2181 [some (xR 40 0 0), some (xR 0 0 0), some (xR 20 0 0), some (xR 26 0 0), some (xI i), y5, y6, y7, y8] [] N) : XWW p l e room_1 s m #[Value.ref b] below meth c cells slots (lw_Z below #[Value.ref b] s) D G ρ 9 1494 [some (xR 40 0 0), some (xR 0 0 0), some (xR 20 0 0), some (xR 26 0 0), some (xI i), x5, x6, x7, x8] [] M := by
  have c0 : cells ≤ room_1.cells := Nat.le_trans (Nat.le_succ _) hc
  have s0 : slots ≤ room_1.slots := Nat.le_trans (Nat.le_add_right _ 6) hs
  have hZ : ∀ (k : Int) (rv : List XV) (N : XM), 0 ≤ k → k ≤ 3 → LE k rv N → (fun (k : Int) (rv : List XV) (N : XM) => XWW p l e room_1 s m #[Value.ref b] below meth c (cells + 1) (slots + 6) (lw_Z below #[Value.ref b] s) D G ρ 9 1529 [some (xR 40 0 0), some (xR 0 0 0), some (xR 20 0 0), some (xR 26 0 0), some (xI i), some (xI k), x6, x7, x8] (rv ++ []) N) k rv N := by
    intro k rv N k0 k3 hLE
    obtain ⟨v, rfl, hR, h5, h26⟩ := hLE
    show XWW p l e room_1 s m #[Value.ref b] below meth c (cells + 1) (slots + 6) (lw_Z below #[Value.ref b] s) D G ρ 9 1529 [some (xR 40 0 0), some (xR 0 0 0), some (xR 20 0 0), some (xR 26 0 0), some (xI i), some (xI k), x6, x7, x8] [xI v] N
    refine xl_st hC hc hs (xs_istore dL_law_1529 (by decide)) ?_
    show XWW p l e room_1 s m #[Value.ref b] below meth c (cells + 1) (slots + 6) (lw_Z below #[Value.ref b] s) D G ρ 9 1531 [some (xR 40 0 0), some (xR 0 0 0), some (xR 20 0 0), some (xR 26 0 0), some (xI i), some (xI k), some (xI v), x7, x8] [] N
    refine xl_st hC hc hs (xs_aload_n (i := 2) dL_law_1531 rfl) ?_
    show XWW p l e room_1 s m #[Value.ref b] below meth c (cells + 1) (slots + 6) (lw_Z below #[Value.ref b] s) D G ρ 9 1532 [some (xR 40 0 0), some (xR 0 0 0), some (xR 20 0 0), some (xR 26 0 0), some (xI i), some (xI k), some (xI v), x7, x8] [xR 20 0 0] N
    refine xl_st hC hc hs (xs_V0 kX8_thrown ⟨⟨rfl, rfl, by decide, by decide⟩, ⟨by decide, by decide, by decide +kernel⟩, ⟨tw_1091, tw_1092, tw_1093, tw_9, tw_1094⟩, 8, TX8, _, rfl, fun G ρ f i k => ⟨_, rfl⟩⟩ dL_law_1532) ⟨⟨rfl, xvz_20, by decide⟩, ⟨rfl, xvz_20⟩, ?_⟩
    show XWW p l e room_1 s m #[Value.ref b] below meth c (cells + 1) (slots + 6) (lw_Z below #[Value.ref b] s) D G ρ 9 1535 [some (xR 40 0 0), some (xR 0 0 0), some (xR 20 0 0), some (xR 26 0 0), some (xI i), some (xI k), some (xI v), x7, x8] [xI (N 20 0 0 5)] N
    refine xl_st hC hc hs (xs_iload dL_law_1535) ?_
    show XWW p l e room_1 s m #[Value.ref b] below meth c (cells + 1) (slots + 6) (lw_Z below #[Value.ref b] s) D G ρ 9 1537 [some (xR 40 0 0), some (xR 0 0 0), some (xR 20 0 0), some (xR 26 0 0), some (xI i), some (xI k), some (xI v), x7, x8] [xI k, xI (N 20 0 0 5)] N
    refine xl_st hC hc hs (xs_icmp_eq (t := 1542) dL_law_1537 (by decide)) ⟨⟨by rw [h5]; exact ⟨by omega, by omega⟩, ⟨by omega, by omega⟩⟩, fun _ => ?_, fun q => absurd h5 q⟩
    show XWW p l e room_1 s m #[Value.ref b] below meth c (cells + 1) (slots + 6) (lw_Z below #[Value.ref b] s) D G ρ 9 1542 [some (xR 40 0 0), some (xR 0 0 0), some (xR 20 0 0), some (xR 26 0 0), some (xI i), some (xI k), some (xI v), x7, x8] [] N
    refine xl_st hC hc hs (xs_iload dL_law_1542) ?_
    show XWW p l e room_1 s m #[Value.ref b] below meth c (cells + 1) (slots + 6) (lw_Z below #[Value.ref b] s) D G ρ 9 1544 [some (xR 40 0 0), some (xR 0 0 0), some (xR 20 0 0), some (xR 26 0 0), some (xI i), some (xI k), some (xI v), x7, x8] [xI k] N
    refine xl_st hC hc hs (xs_if_ne (t := 1559) dL_law_1544 (by decide)) ⟨⟨by omega, by omega⟩, fun _ => ?_, fun q => ?_⟩
    · show XWW p l e room_1 s m #[Value.ref b] below meth c (cells + 1) (slots + 6) (lw_Z below #[Value.ref b] s) D G ρ 9 1559 [some (xR 40 0 0), some (xR 0 0 0), some (xR 20 0 0), some (xR 26 0 0), some (xI i), some (xI k), some (xI v), x7, x8] [] N
      refine xl_st hC hc hs (xs_goto (t := 2181) dL_law_1559 (by decide)) ?_
      show XWW p l e room_1 s m #[Value.ref b] below meth c (cells + 1) (slots + 6) (lw_Z below #[Value.ref b] s) D G ρ 9 2181 [some (xR 40 0 0), some (xR 0 0 0), some (xR 20 0 0), some (xR 26 0 0), some (xI i), some (xI k), some (xI v), x7, x8] [] N
      exact next _ _ _ _ N hR
    · show XWW p l e room_1 s m #[Value.ref b] below meth c (cells + 1) (slots + 6) (lw_Z below #[Value.ref b] s) D G ρ 9 1547 [some (xR 40 0 0), some (xR 0 0 0), some (xR 20 0 0), some (xR 26 0 0), some (xI i), some (xI k), some (xI v), x7, x8] [] N
      refine xl_st hC hc hs (xs_aload_n (i := 3) dL_law_1547 rfl) ?_
      show XWW p l e room_1 s m #[Value.ref b] below meth c (cells + 1) (slots + 6) (lw_Z below #[Value.ref b] s) D G ρ 9 1548 [some (xR 40 0 0), some (xR 0 0 0), some (xR 20 0 0), some (xR 26 0 0), some (xI i), some (xI k), some (xI v), x7, x8] [xR 26 0 0] N
      refine xl_st hC hc hs (xs_iconst dL_law_1548) ?_
      show XWW p l e room_1 s m #[Value.ref b] below meth c (cells + 1) (slots + 6) (lw_Z below #[Value.ref b] s) D G ρ 9 1549 [some (xR 40 0 0), some (xR 0 0 0), some (xR 20 0 0), some (xR 26 0 0), some (xI i), some (xI k), some (xI v), x7, x8] [xI 0, xR 26 0 0] N
      refine xl_st hC hc hs (xs_lald dL_law_1549) ⟨⟨rfl, rfl, rfl, rfl⟩, ?_⟩
      show XWW p l e room_1 s m #[Value.ref b] below meth c (cells + 1) (slots + 6) (lw_Z below #[Value.ref b] s) D G ρ 9 1550 [some (xR 40 0 0), some (xR 0 0 0), some (xR 20 0 0), some (xR 26 0 0), some (xI i), some (xI k), some (xI v), x7, x8] [xJ (N 26 0 0 0)] N
      refine xl_st hC hc hs (xs_iload dL_law_1550) ?_
      show XWW p l e room_1 s m #[Value.ref b] below meth c (cells + 1) (slots + 6) (lw_Z below #[Value.ref b] s) D G ρ 9 1552 [some (xR 40 0 0), some (xR 0 0 0), some (xR 20 0 0), some (xR 26 0 0), some (xI i), some (xI k), some (xI v), x7, x8] [xI v, xJ (N 26 0 0 0)] N
      refine xl_st hC hc hs (xs_i2lw dL_law_1552) ?_
      show XWW p l e room_1 s m #[Value.ref b] below meth c (cells + 1) (slots + 6) (lw_Z below #[Value.ref b] s) D G ρ 9 1553 [some (xR 40 0 0), some (xR 0 0 0), some (xR 20 0 0), some (xR 26 0 0), some (xI i), some (xI k), some (xI v), x7, x8] [xJ (w32 v), xJ (N 26 0 0 0)] N
      refine xl_st hC hc hs (xs_lcmp dL_law_1553) ⟨h26 q, ?_⟩
      show XWW p l e room_1 s m #[Value.ref b] below meth c (cells + 1) (slots + 6) (lw_Z below #[Value.ref b] s) D G ρ 9 1554 [some (xR 40 0 0), some (xR 0 0 0), some (xR 20 0 0), some (xR 26 0 0), some (xI i), some (xI k), some (xI v), x7, x8] [xI 0] N
      refine xl_st hC hc hs (xs_if_eq (t := 1559) dL_law_1554 (by decide)) ⟨x_r0, fun _ => ?_, fun q => absurd rfl q⟩
      show XWW p l e room_1 s m #[Value.ref b] below meth c (cells + 1) (slots + 6) (lw_Z below #[Value.ref b] s) D G ρ 9 1559 [some (xR 40 0 0), some (xR 0 0 0), some (xR 20 0 0), some (xR 26 0 0), some (xI i), some (xI k), some (xI v), x7, x8] [] N
      refine xl_st hC hc hs (xs_goto (t := 2181) dL_law_1559 (by decide)) ?_
      show XWW p l e room_1 s m #[Value.ref b] below meth c (cells + 1) (slots + 6) (lw_Z below #[Value.ref b] s) D G ρ 9 2181 [some (xR 40 0 0), some (xR 0 0 0), some (xR 20 0 0), some (xR 26 0 0), some (xI i), some (xI k), some (xI v), x7, x8] [] N
      exact next _ _ _ _ N hR
  show XWW p l e room_1 s m #[Value.ref b] below meth c cells slots (lw_Z below #[Value.ref b] s) D G ρ 9 1494 [some (xR 40 0 0), some (xR 0 0 0), some (xR 20 0 0), some (xR 26 0 0), some (xI i), x5, x6, x7, x8] [] M
  refine xl_st hC c0 s0 (xs_aload_n (i := 1) dL_law_1494 rfl) ?_
  show XWW p l e room_1 s m #[Value.ref b] below meth c cells slots (lw_Z below #[Value.ref b] s) D G ρ 9 1495 [some (xR 40 0 0), some (xR 0 0 0), some (xR 20 0 0), some (xR 26 0 0), some (xI i), x5, x6, x7, x8] [xR 0 0 0] M
  refine xl_st hC c0 s0 (xs_aload_n (i := 0) dL_law_1495 rfl) ?_
  show XWW p l e room_1 s m #[Value.ref b] below meth c cells slots (lw_Z below #[Value.ref b] s) D G ρ 9 1496 [some (xR 40 0 0), some (xR 0 0 0), some (xR 20 0 0), some (xR 26 0 0), some (xI i), x5, x6, x7, x8] [xR 40 0 0, xR 0 0 0] M
  refine xl_st hC c0 s0 (xs_iload dL_law_1496) ?_
  show XWW p l e room_1 s m #[Value.ref b] below meth c cells slots (lw_Z below #[Value.ref b] s) D G ρ 9 1498 [some (xR 40 0 0), some (xR 0 0 0), some (xR 20 0 0), some (xR 26 0 0), some (xI i), x5, x6, x7, x8] [xI i, xR 40 0 0, xR 0 0 0] M
  refine xl_st hC c0 s0 (xs_iconst dL_law_1498) ?_
  show XWW p l e room_1 s m #[Value.ref b] below meth c cells slots (lw_Z below #[Value.ref b] s) D G ρ 9 1499 [some (xR 40 0 0), some (xR 0 0 0), some (xR 20 0 0), some (xR 26 0 0), some (xI i), x5, x6, x7, x8] [xI 1, xI i, xR 40 0 0, xR 0 0 0] M
  refine xl_st hC c0 s0 (xs_iadd dL_law_1499) ?_
  show XWW p l e room_1 s m #[Value.ref b] below meth c cells slots (lw_Z below #[Value.ref b] s) D G ρ 9 1500 [some (xR 40 0 0), some (xR 0 0 0), some (xR 20 0 0), some (xR 26 0 0), some (xI i), x5, x6, x7, x8] [xI (i + 1), xR 40 0 0, xR 0 0 0] M
  refine xl_sld hC hX (by omega) (by omega) dL_law_1500 ?_
  show XWW p l e room_1 s m #[Value.ref b] below meth c cells slots (lw_Z below #[Value.ref b] s) D G ρ 9 1501 [some (xR 40 0 0), some (xR 0 0 0), some (xR 20 0 0), some (xR 26 0 0), some (xI i), x5, x6, x7, x8] [xI (SLx xs (i + 1)), xR 0 0 0] M
  refine xl_st hC c0 s0 (xs_aload_n (i := 0) dL_law_1501 rfl) ?_
  show XWW p l e room_1 s m #[Value.ref b] below meth c cells slots (lw_Z below #[Value.ref b] s) D G ρ 9 1502 [some (xR 40 0 0), some (xR 0 0 0), some (xR 20 0 0), some (xR 26 0 0), some (xI i), x5, x6, x7, x8] [xR 40 0 0, xI (SLx xs (i + 1)), xR 0 0 0] M
  refine xl_st hC c0 s0 (xs_iload dL_law_1502) ?_
  show XWW p l e room_1 s m #[Value.ref b] below meth c cells slots (lw_Z below #[Value.ref b] s) D G ρ 9 1504 [some (xR 40 0 0), some (xR 0 0 0), some (xR 20 0 0), some (xR 26 0 0), some (xI i), x5, x6, x7, x8] [xI i, xR 40 0 0, xI (SLx xs (i + 1)), xR 0 0 0] M
  refine xl_st hC c0 s0 (xs_iconst dL_law_1504) ?_
  show XWW p l e room_1 s m #[Value.ref b] below meth c cells slots (lw_Z below #[Value.ref b] s) D G ρ 9 1505 [some (xR 40 0 0), some (xR 0 0 0), some (xR 20 0 0), some (xR 26 0 0), some (xI i), x5, x6, x7, x8] [xI 2, xI i, xR 40 0 0, xI (SLx xs (i + 1)), xR 0 0 0] M
  refine xl_st hC c0 s0 (xs_iadd dL_law_1505) ?_
  show XWW p l e room_1 s m #[Value.ref b] below meth c cells slots (lw_Z below #[Value.ref b] s) D G ρ 9 1506 [some (xR 40 0 0), some (xR 0 0 0), some (xR 20 0 0), some (xR 26 0 0), some (xI i), x5, x6, x7, x8] [xI (i + 2), xR 40 0 0, xI (SLx xs (i + 1)), xR 0 0 0] M
  refine xl_sld hC hX (by omega) (by omega) dL_law_1506 ?_
  show XWW p l e room_1 s m #[Value.ref b] below meth c cells slots (lw_Z below #[Value.ref b] s) D G ρ 9 1507 [some (xR 40 0 0), some (xR 0 0 0), some (xR 20 0 0), some (xR 26 0 0), some (xI i), x5, x6, x7, x8] [xI (SLx xs (i + 2)), xI (SLx xs (i + 1)), xR 0 0 0] M
  refine xl_st hC c0 s0 (xs_aload_n (i := 3) dL_law_1507 rfl) ?_
  show XWW p l e room_1 s m #[Value.ref b] below meth c cells slots (lw_Z below #[Value.ref b] s) D G ρ 9 1508 [some (xR 40 0 0), some (xR 0 0 0), some (xR 20 0 0), some (xR 26 0 0), some (xI i), x5, x6, x7, x8] [xR 26 0 0, xI (SLx xs (i + 2)), xI (SLx xs (i + 1)), xR 0 0 0] M
  refine xl_call (n := 4) (As := [xR 0 0 0, xI (SLx xs (i + 1)), xI (SLx xs (i + 2)), xR 26 0 0]) (st := []) kL_unit ⟨⟨rfl, rfl, by decide, by decide⟩, ⟨by decide, by decide, by decide +kernel⟩, tw_993, tw_994, tw_0, twL_unit⟩ dL_law_1508 hC hl hE hc hs rfl (by decide) ⟨(SLx xs (i + 1)), (SLx xs (i + 2)), rfl, lc_unit hZ h (SL_in _ _) (SL_in _ _)⟩ (fun rv N1 hq => ?_)
  obtain ⟨k, rfl, ⟨k0, k3⟩, href⟩ := hq
  show XWW p l e room_1 s m #[Value.ref b] below meth c (cells + 1) (slots + 6) (lw_Z below #[Value.ref b] s) D G ρ 9 1511 [some (xR 40 0 0), some (xR 0 0 0), some (xR 20 0 0), some (xR 26 0 0), some (xI i), x5, x6, x7, x8] [xI k] N1
  refine xl_st hC hc hs (xs_istore dL_law_1511 (by decide)) ?_
  show XWW p l e room_1 s m #[Value.ref b] below meth c (cells + 1) (slots + 6) (lw_Z below #[Value.ref b] s) D G ρ 9 1513 [some (xR 40 0 0), some (xR 0 0 0), some (xR 20 0 0), some (xR 26 0 0), some (xI i), some (xI k), x6, x7, x8] [] N1
  refine xl_st hC hc hs (xs_aload_n (i := 2) dL_law_1513 rfl) ?_
  show XWW p l e room_1 s m #[Value.ref b] below meth c (cells + 1) (slots + 6) (lw_Z below #[Value.ref b] s) D G ρ 9 1514 [some (xR 40 0 0), some (xR 0 0 0), some (xR 20 0 0), some (xR 26 0 0), some (xI i), some (xI k), x6, x7, x8] [xR 20 0 0] N1
  refine xl_st hC hc hs (xs_aload_n (i := 0) dL_law_1514 rfl) ?_
  show XWW p l e room_1 s m #[Value.ref b] below meth c (cells + 1) (slots + 6) (lw_Z below #[Value.ref b] s) D G ρ 9 1515 [some (xR 40 0 0), some (xR 0 0 0), some (xR 20 0 0), some (xR 26 0 0), some (xI i), some (xI k), x6, x7, x8] [xR 40 0 0, xR 20 0 0] N1
  refine xl_st hC hc hs (xs_iload dL_law_1515) ?_
  show XWW p l e room_1 s m #[Value.ref b] below meth c (cells + 1) (slots + 6) (lw_Z below #[Value.ref b] s) D G ρ 9 1517 [some (xR 40 0 0), some (xR 0 0 0), some (xR 20 0 0), some (xR 26 0 0), some (xI i), some (xI k), x6, x7, x8] [xI i, xR 40 0 0, xR 20 0 0] N1
  refine xl_st hC hc hs (xs_iconst dL_law_1517) ?_
  show XWW p l e room_1 s m #[Value.ref b] below meth c (cells + 1) (slots + 6) (lw_Z below #[Value.ref b] s) D G ρ 9 1518 [some (xR 40 0 0), some (xR 0 0 0), some (xR 20 0 0), some (xR 26 0 0), some (xI i), some (xI k), x6, x7, x8] [xI 1, xI i, xR 40 0 0, xR 20 0 0] N1
  refine xl_st hC hc hs (xs_iadd dL_law_1518) ?_
  show XWW p l e room_1 s m #[Value.ref b] below meth c (cells + 1) (slots + 6) (lw_Z below #[Value.ref b] s) D G ρ 9 1519 [some (xR 40 0 0), some (xR 0 0 0), some (xR 20 0 0), some (xR 26 0 0), some (xI i), some (xI k), x6, x7, x8] [xI (i + 1), xR 40 0 0, xR 20 0 0] N1
  refine xl_sld hC hX (by omega) (by omega) dL_law_1519 ?_
  show XWW p l e room_1 s m #[Value.ref b] below meth c (cells + 1) (slots + 6) (lw_Z below #[Value.ref b] s) D G ρ 9 1520 [some (xR 40 0 0), some (xR 0 0 0), some (xR 20 0 0), some (xR 26 0 0), some (xI i), some (xI k), x6, x7, x8] [xI (SLx xs (i + 1)), xR 20 0 0] N1
  refine xl_st hC hc hs (xs_aload_n (i := 0) dL_law_1520 rfl) ?_
  show XWW p l e room_1 s m #[Value.ref b] below meth c (cells + 1) (slots + 6) (lw_Z below #[Value.ref b] s) D G ρ 9 1521 [some (xR 40 0 0), some (xR 0 0 0), some (xR 20 0 0), some (xR 26 0 0), some (xI i), some (xI k), x6, x7, x8] [xR 40 0 0, xI (SLx xs (i + 1)), xR 20 0 0] N1
  refine xl_st hC hc hs (xs_iload dL_law_1521) ?_
  show XWW p l e room_1 s m #[Value.ref b] below meth c (cells + 1) (slots + 6) (lw_Z below #[Value.ref b] s) D G ρ 9 1523 [some (xR 40 0 0), some (xR 0 0 0), some (xR 20 0 0), some (xR 26 0 0), some (xI i), some (xI k), x6, x7, x8] [xI i, xR 40 0 0, xI (SLx xs (i + 1)), xR 20 0 0] N1
  refine xl_st hC hc hs (xs_iconst dL_law_1523) ?_
  show XWW p l e room_1 s m #[Value.ref b] below meth c (cells + 1) (slots + 6) (lw_Z below #[Value.ref b] s) D G ρ 9 1524 [some (xR 40 0 0), some (xR 0 0 0), some (xR 20 0 0), some (xR 26 0 0), some (xI i), some (xI k), x6, x7, x8] [xI 2, xI i, xR 40 0 0, xI (SLx xs (i + 1)), xR 20 0 0] N1
  refine xl_st hC hc hs (xs_iadd dL_law_1524) ?_
  show XWW p l e room_1 s m #[Value.ref b] below meth c (cells + 1) (slots + 6) (lw_Z below #[Value.ref b] s) D G ρ 9 1525 [some (xR 40 0 0), some (xR 0 0 0), some (xR 20 0 0), some (xR 26 0 0), some (xI i), some (xI k), x6, x7, x8] [xI (i + 2), xR 40 0 0, xI (SLx xs (i + 1)), xR 20 0 0] N1
  refine xl_sld hC hX (by omega) (by omega) dL_law_1525 ?_
  show XWW p l e room_1 s m #[Value.ref b] below meth c (cells + 1) (slots + 6) (lw_Z below #[Value.ref b] s) D G ρ 9 1526 [some (xR 40 0 0), some (xR 0 0 0), some (xR 20 0 0), some (xR 26 0 0), some (xI i), some (xI k), x6, x7, x8] [xI (SLx xs (i + 2)), xI (SLx xs (i + 1)), xR 20 0 0] N1
  refine xl_st hC hc hs (xs_V2 kX8_unit ⟨⟨rfl, rfl, by decide, by decide⟩, ⟨by decide, by decide, by decide +kernel⟩, ⟨tw_1368, tw_1369, tw_1370, tw_9, tw_1371⟩, 8, TX8, _, rfl, fun G ρ f i k => ⟨_, rfl⟩⟩ dL_law_1526) ⟨⟨rfl, xvz_20, by decide⟩, href⟩
set_option maxRecDepth 100000 in
theorem cs_kitchen {p : Program} {l : Launch} {e : Env} {s : State} {m : MethodId} {below : List Frame} {meth : Method} {c : Code} {D : va_G} {G : Nat → ClassId} {ρ : XOb → Nat} {b Ln : Nat} {xs : Nat → Int32} {cells slots : Nat} (hC : XCX p room_1 s m #[Value.ref b] c 0 0 D G ρ cL_law 9 RL (Cond.initialized RL :: xT)) (hl : l.stackTraces = false) (hE : (XEw s ∧ XEs s ∧ XEz (XA ρ s.heap.size) s s.heap) ∧ XEc s) (hX : XSc s ρ b Ln xs) (hc : cells + 1 ≤ 601024) (hs : slots + 6 ≤ 7293034) {i : Int} (h0 : 0 ≤ i) (h6 : i + 6 ≤ Ln) {M : XM} (h : RR M) {x5 x6 x7 x8 : Option XV} (next : ∀ (y5 y6 y7 y8 : Option XV) (N : XM), RR N → XWW p l e room_1 s m #[Value.ref b] below meth c (cells + 1) (slots + 6) (lw_Z below #[Value.ref b] s) D G ρ 9 2181 [some (xR 40 0 0), some (xR 0 0 0), some (xR 20 0 0), some (xR 26 0 0), some (xI i), y5, y6, y7, y8] [] N) : XWW p l e room_1 s m #[Value.ref b] below meth c cells slots (lw_Z below #[Value.ref b] s) D G ρ 9 1562 [some (xR 40 0 0), some (xR 0 0 0), some (xR 20 0 0), some (xR 26 0 0), some (xI i), x5, x6, x7, x8] [] M := by
  have c0 : cells ≤ room_1.cells := Nat.le_trans (Nat.le_succ _) hc
  have s0 : slots ≤ room_1.slots := Nat.le_trans (Nat.le_add_right _ 6) hs
  have hZ : ∀ (k : Int) (rv : List XV) (N : XM), 0 ≤ k → k ≤ 3 → LE k rv N → (fun (k : Int) (rv : List XV) (N : XM) => XWW p l e room_1 s m #[Value.ref b] below meth c (cells + 1) (slots + 6) (lw_Z below #[Value.ref b] s) D G ρ 9 1597 [some (xR 40 0 0), some (xR 0 0 0), some (xR 20 0 0), some (xR 26 0 0), some (xI i), some (xI k), x6, x7, x8] (rv ++ []) N) k rv N := by
    intro k rv N k0 k3 hLE
    obtain ⟨v, rfl, hR, h5, h26⟩ := hLE
    show XWW p l e room_1 s m #[Value.ref b] below meth c (cells + 1) (slots + 6) (lw_Z below #[Value.ref b] s) D G ρ 9 1597 [some (xR 40 0 0), some (xR 0 0 0), some (xR 20 0 0), some (xR 26 0 0), some (xI i), some (xI k), x6, x7, x8] [xI v] N
    refine xl_st hC hc hs (xs_istore dL_law_1597 (by decide)) ?_
    show XWW p l e room_1 s m #[Value.ref b] below meth c (cells + 1) (slots + 6) (lw_Z below #[Value.ref b] s) D G ρ 9 1599 [some (xR 40 0 0), some (xR 0 0 0), some (xR 20 0 0), some (xR 26 0 0), some (xI i), some (xI k), some (xI v), x7, x8] [] N
    refine xl_st hC hc hs (xs_aload_n (i := 2) dL_law_1599 rfl) ?_
    show XWW p l e room_1 s m #[Value.ref b] below meth c (cells + 1) (slots + 6) (lw_Z below #[Value.ref b] s) D G ρ 9 1600 [some (xR 40 0 0), some (xR 0 0 0), some (xR 20 0 0), some (xR 26 0 0), some (xI i), some (xI k), some (xI v), x7, x8] [xR 20 0 0] N
    refine xl_st hC hc hs (xs_V0 kX8_thrown ⟨⟨rfl, rfl, by decide, by decide⟩, ⟨by decide, by decide, by decide +kernel⟩, ⟨tw_1091, tw_1092, tw_1093, tw_9, tw_1094⟩, 8, TX8, _, rfl, fun G ρ f i k => ⟨_, rfl⟩⟩ dL_law_1600) ⟨⟨rfl, xvz_20, by decide⟩, ⟨rfl, xvz_20⟩, ?_⟩
    show XWW p l e room_1 s m #[Value.ref b] below meth c (cells + 1) (slots + 6) (lw_Z below #[Value.ref b] s) D G ρ 9 1603 [some (xR 40 0 0), some (xR 0 0 0), some (xR 20 0 0), some (xR 26 0 0), some (xI i), some (xI k), some (xI v), x7, x8] [xI (N 20 0 0 5)] N
    refine xl_st hC hc hs (xs_iload dL_law_1603) ?_
    show XWW p l e room_1 s m #[Value.ref b] below meth c (cells + 1) (slots + 6) (lw_Z below #[Value.ref b] s) D G ρ 9 1605 [some (xR 40 0 0), some (xR 0 0 0), some (xR 20 0 0), some (xR 26 0 0), some (xI i), some (xI k), some (xI v), x7, x8] [xI k, xI (N 20 0 0 5)] N
    refine xl_st hC hc hs (xs_icmp_eq (t := 1610) dL_law_1605 (by decide)) ⟨⟨by rw [h5]; exact ⟨by omega, by omega⟩, ⟨by omega, by omega⟩⟩, fun _ => ?_, fun q => absurd h5 q⟩
    show XWW p l e room_1 s m #[Value.ref b] below meth c (cells + 1) (slots + 6) (lw_Z below #[Value.ref b] s) D G ρ 9 1610 [some (xR 40 0 0), some (xR 0 0 0), some (xR 20 0 0), some (xR 26 0 0), some (xI i), some (xI k), some (xI v), x7, x8] [] N
    refine xl_st hC hc hs (xs_iload dL_law_1610) ?_
    show XWW p l e room_1 s m #[Value.ref b] below meth c (cells + 1) (slots + 6) (lw_Z below #[Value.ref b] s) D G ρ 9 1612 [some (xR 40 0 0), some (xR 0 0 0), some (xR 20 0 0), some (xR 26 0 0), some (xI i), some (xI k), some (xI v), x7, x8] [xI k] N
    refine xl_st hC hc hs (xs_if_ne (t := 1627) dL_law_1612 (by decide)) ⟨⟨by omega, by omega⟩, fun _ => ?_, fun q => ?_⟩
    · show XWW p l e room_1 s m #[Value.ref b] below meth c (cells + 1) (slots + 6) (lw_Z below #[Value.ref b] s) D G ρ 9 1627 [some (xR 40 0 0), some (xR 0 0 0), some (xR 20 0 0), some (xR 26 0 0), some (xI i), some (xI k), some (xI v), x7, x8] [] N
      refine xl_st hC hc hs (xs_goto (t := 2181) dL_law_1627 (by decide)) ?_
      show XWW p l e room_1 s m #[Value.ref b] below meth c (cells + 1) (slots + 6) (lw_Z below #[Value.ref b] s) D G ρ 9 2181 [some (xR 40 0 0), some (xR 0 0 0), some (xR 20 0 0), some (xR 26 0 0), some (xI i), some (xI k), some (xI v), x7, x8] [] N
      exact next _ _ _ _ N hR
    · show XWW p l e room_1 s m #[Value.ref b] below meth c (cells + 1) (slots + 6) (lw_Z below #[Value.ref b] s) D G ρ 9 1615 [some (xR 40 0 0), some (xR 0 0 0), some (xR 20 0 0), some (xR 26 0 0), some (xI i), some (xI k), some (xI v), x7, x8] [] N
      refine xl_st hC hc hs (xs_aload_n (i := 3) dL_law_1615 rfl) ?_
      show XWW p l e room_1 s m #[Value.ref b] below meth c (cells + 1) (slots + 6) (lw_Z below #[Value.ref b] s) D G ρ 9 1616 [some (xR 40 0 0), some (xR 0 0 0), some (xR 20 0 0), some (xR 26 0 0), some (xI i), some (xI k), some (xI v), x7, x8] [xR 26 0 0] N
      refine xl_st hC hc hs (xs_iconst dL_law_1616) ?_
      show XWW p l e room_1 s m #[Value.ref b] below meth c (cells + 1) (slots + 6) (lw_Z below #[Value.ref b] s) D G ρ 9 1617 [some (xR 40 0 0), some (xR 0 0 0), some (xR 20 0 0), some (xR 26 0 0), some (xI i), some (xI k), some (xI v), x7, x8] [xI 0, xR 26 0 0] N
      refine xl_st hC hc hs (xs_lald dL_law_1617) ⟨⟨rfl, rfl, rfl, rfl⟩, ?_⟩
      show XWW p l e room_1 s m #[Value.ref b] below meth c (cells + 1) (slots + 6) (lw_Z below #[Value.ref b] s) D G ρ 9 1618 [some (xR 40 0 0), some (xR 0 0 0), some (xR 20 0 0), some (xR 26 0 0), some (xI i), some (xI k), some (xI v), x7, x8] [xJ (N 26 0 0 0)] N
      refine xl_st hC hc hs (xs_iload dL_law_1618) ?_
      show XWW p l e room_1 s m #[Value.ref b] below meth c (cells + 1) (slots + 6) (lw_Z below #[Value.ref b] s) D G ρ 9 1620 [some (xR 40 0 0), some (xR 0 0 0), some (xR 20 0 0), some (xR 26 0 0), some (xI i), some (xI k), some (xI v), x7, x8] [xI v, xJ (N 26 0 0 0)] N
      refine xl_st hC hc hs (xs_i2lw dL_law_1620) ?_
      show XWW p l e room_1 s m #[Value.ref b] below meth c (cells + 1) (slots + 6) (lw_Z below #[Value.ref b] s) D G ρ 9 1621 [some (xR 40 0 0), some (xR 0 0 0), some (xR 20 0 0), some (xR 26 0 0), some (xI i), some (xI k), some (xI v), x7, x8] [xJ (w32 v), xJ (N 26 0 0 0)] N
      refine xl_st hC hc hs (xs_lcmp dL_law_1621) ⟨h26 q, ?_⟩
      show XWW p l e room_1 s m #[Value.ref b] below meth c (cells + 1) (slots + 6) (lw_Z below #[Value.ref b] s) D G ρ 9 1622 [some (xR 40 0 0), some (xR 0 0 0), some (xR 20 0 0), some (xR 26 0 0), some (xI i), some (xI k), some (xI v), x7, x8] [xI 0] N
      refine xl_st hC hc hs (xs_if_eq (t := 1627) dL_law_1622 (by decide)) ⟨x_r0, fun _ => ?_, fun q => absurd rfl q⟩
      show XWW p l e room_1 s m #[Value.ref b] below meth c (cells + 1) (slots + 6) (lw_Z below #[Value.ref b] s) D G ρ 9 1627 [some (xR 40 0 0), some (xR 0 0 0), some (xR 20 0 0), some (xR 26 0 0), some (xI i), some (xI k), some (xI v), x7, x8] [] N
      refine xl_st hC hc hs (xs_goto (t := 2181) dL_law_1627 (by decide)) ?_
      show XWW p l e room_1 s m #[Value.ref b] below meth c (cells + 1) (slots + 6) (lw_Z below #[Value.ref b] s) D G ρ 9 2181 [some (xR 40 0 0), some (xR 0 0 0), some (xR 20 0 0), some (xR 26 0 0), some (xI i), some (xI k), some (xI v), x7, x8] [] N
      exact next _ _ _ _ N hR
  show XWW p l e room_1 s m #[Value.ref b] below meth c cells slots (lw_Z below #[Value.ref b] s) D G ρ 9 1562 [some (xR 40 0 0), some (xR 0 0 0), some (xR 20 0 0), some (xR 26 0 0), some (xI i), x5, x6, x7, x8] [] M
  refine xl_st hC c0 s0 (xs_aload_n (i := 1) dL_law_1562 rfl) ?_
  show XWW p l e room_1 s m #[Value.ref b] below meth c cells slots (lw_Z below #[Value.ref b] s) D G ρ 9 1563 [some (xR 40 0 0), some (xR 0 0 0), some (xR 20 0 0), some (xR 26 0 0), some (xI i), x5, x6, x7, x8] [xR 0 0 0] M
  refine xl_st hC c0 s0 (xs_aload_n (i := 0) dL_law_1563 rfl) ?_
  show XWW p l e room_1 s m #[Value.ref b] below meth c cells slots (lw_Z below #[Value.ref b] s) D G ρ 9 1564 [some (xR 40 0 0), some (xR 0 0 0), some (xR 20 0 0), some (xR 26 0 0), some (xI i), x5, x6, x7, x8] [xR 40 0 0, xR 0 0 0] M
  refine xl_st hC c0 s0 (xs_iload dL_law_1564) ?_
  show XWW p l e room_1 s m #[Value.ref b] below meth c cells slots (lw_Z below #[Value.ref b] s) D G ρ 9 1566 [some (xR 40 0 0), some (xR 0 0 0), some (xR 20 0 0), some (xR 26 0 0), some (xI i), x5, x6, x7, x8] [xI i, xR 40 0 0, xR 0 0 0] M
  refine xl_st hC c0 s0 (xs_iconst dL_law_1566) ?_
  show XWW p l e room_1 s m #[Value.ref b] below meth c cells slots (lw_Z below #[Value.ref b] s) D G ρ 9 1567 [some (xR 40 0 0), some (xR 0 0 0), some (xR 20 0 0), some (xR 26 0 0), some (xI i), x5, x6, x7, x8] [xI 1, xI i, xR 40 0 0, xR 0 0 0] M
  refine xl_st hC c0 s0 (xs_iadd dL_law_1567) ?_
  show XWW p l e room_1 s m #[Value.ref b] below meth c cells slots (lw_Z below #[Value.ref b] s) D G ρ 9 1568 [some (xR 40 0 0), some (xR 0 0 0), some (xR 20 0 0), some (xR 26 0 0), some (xI i), x5, x6, x7, x8] [xI (i + 1), xR 40 0 0, xR 0 0 0] M
  refine xl_sld hC hX (by omega) (by omega) dL_law_1568 ?_
  show XWW p l e room_1 s m #[Value.ref b] below meth c cells slots (lw_Z below #[Value.ref b] s) D G ρ 9 1569 [some (xR 40 0 0), some (xR 0 0 0), some (xR 20 0 0), some (xR 26 0 0), some (xI i), x5, x6, x7, x8] [xI (SLx xs (i + 1)), xR 0 0 0] M
  refine xl_st hC c0 s0 (xs_aload_n (i := 0) dL_law_1569 rfl) ?_
  show XWW p l e room_1 s m #[Value.ref b] below meth c cells slots (lw_Z below #[Value.ref b] s) D G ρ 9 1570 [some (xR 40 0 0), some (xR 0 0 0), some (xR 20 0 0), some (xR 26 0 0), some (xI i), x5, x6, x7, x8] [xR 40 0 0, xI (SLx xs (i + 1)), xR 0 0 0] M
  refine xl_st hC c0 s0 (xs_iload dL_law_1570) ?_
  show XWW p l e room_1 s m #[Value.ref b] below meth c cells slots (lw_Z below #[Value.ref b] s) D G ρ 9 1572 [some (xR 40 0 0), some (xR 0 0 0), some (xR 20 0 0), some (xR 26 0 0), some (xI i), x5, x6, x7, x8] [xI i, xR 40 0 0, xI (SLx xs (i + 1)), xR 0 0 0] M
  refine xl_st hC c0 s0 (xs_iconst dL_law_1572) ?_
  show XWW p l e room_1 s m #[Value.ref b] below meth c cells slots (lw_Z below #[Value.ref b] s) D G ρ 9 1573 [some (xR 40 0 0), some (xR 0 0 0), some (xR 20 0 0), some (xR 26 0 0), some (xI i), x5, x6, x7, x8] [xI 2, xI i, xR 40 0 0, xI (SLx xs (i + 1)), xR 0 0 0] M
  refine xl_st hC c0 s0 (xs_iadd dL_law_1573) ?_
  show XWW p l e room_1 s m #[Value.ref b] below meth c cells slots (lw_Z below #[Value.ref b] s) D G ρ 9 1574 [some (xR 40 0 0), some (xR 0 0 0), some (xR 20 0 0), some (xR 26 0 0), some (xI i), x5, x6, x7, x8] [xI (i + 2), xR 40 0 0, xI (SLx xs (i + 1)), xR 0 0 0] M
  refine xl_sld hC hX (by omega) (by omega) dL_law_1574 ?_
  show XWW p l e room_1 s m #[Value.ref b] below meth c cells slots (lw_Z below #[Value.ref b] s) D G ρ 9 1575 [some (xR 40 0 0), some (xR 0 0 0), some (xR 20 0 0), some (xR 26 0 0), some (xI i), x5, x6, x7, x8] [xI (SLx xs (i + 2)), xI (SLx xs (i + 1)), xR 0 0 0] M
  refine xl_st hC c0 s0 (xs_aload_n (i := 3) dL_law_1575 rfl) ?_
  show XWW p l e room_1 s m #[Value.ref b] below meth c cells slots (lw_Z below #[Value.ref b] s) D G ρ 9 1576 [some (xR 40 0 0), some (xR 0 0 0), some (xR 20 0 0), some (xR 26 0 0), some (xI i), x5, x6, x7, x8] [xR 26 0 0, xI (SLx xs (i + 2)), xI (SLx xs (i + 1)), xR 0 0 0] M
  refine xl_call (n := 4) (As := [xR 0 0 0, xI (SLx xs (i + 1)), xI (SLx xs (i + 2)), xR 26 0 0]) (st := []) kL_kitchen ⟨⟨rfl, rfl, by decide, by decide⟩, ⟨by decide, by decide, by decide +kernel⟩, tw_997, tw_998, tw_0, twL_kitchen⟩ dL_law_1576 hC hl hE hc hs rfl (by decide) ⟨(SLx xs (i + 1)), (SLx xs (i + 2)), rfl, lc_kitchen hZ h (SL_in _ _) (SL_in _ _)⟩ (fun rv N1 hq => ?_)
  obtain ⟨k, rfl, ⟨k0, k3⟩, href⟩ := hq
  show XWW p l e room_1 s m #[Value.ref b] below meth c (cells + 1) (slots + 6) (lw_Z below #[Value.ref b] s) D G ρ 9 1579 [some (xR 40 0 0), some (xR 0 0 0), some (xR 20 0 0), some (xR 26 0 0), some (xI i), x5, x6, x7, x8] [xI k] N1
  refine xl_st hC hc hs (xs_istore dL_law_1579 (by decide)) ?_
  show XWW p l e room_1 s m #[Value.ref b] below meth c (cells + 1) (slots + 6) (lw_Z below #[Value.ref b] s) D G ρ 9 1581 [some (xR 40 0 0), some (xR 0 0 0), some (xR 20 0 0), some (xR 26 0 0), some (xI i), some (xI k), x6, x7, x8] [] N1
  refine xl_st hC hc hs (xs_aload_n (i := 2) dL_law_1581 rfl) ?_
  show XWW p l e room_1 s m #[Value.ref b] below meth c (cells + 1) (slots + 6) (lw_Z below #[Value.ref b] s) D G ρ 9 1582 [some (xR 40 0 0), some (xR 0 0 0), some (xR 20 0 0), some (xR 26 0 0), some (xI i), some (xI k), x6, x7, x8] [xR 20 0 0] N1
  refine xl_st hC hc hs (xs_aload_n (i := 0) dL_law_1582 rfl) ?_
  show XWW p l e room_1 s m #[Value.ref b] below meth c (cells + 1) (slots + 6) (lw_Z below #[Value.ref b] s) D G ρ 9 1583 [some (xR 40 0 0), some (xR 0 0 0), some (xR 20 0 0), some (xR 26 0 0), some (xI i), some (xI k), x6, x7, x8] [xR 40 0 0, xR 20 0 0] N1
  refine xl_st hC hc hs (xs_iload dL_law_1583) ?_
  show XWW p l e room_1 s m #[Value.ref b] below meth c (cells + 1) (slots + 6) (lw_Z below #[Value.ref b] s) D G ρ 9 1585 [some (xR 40 0 0), some (xR 0 0 0), some (xR 20 0 0), some (xR 26 0 0), some (xI i), some (xI k), x6, x7, x8] [xI i, xR 40 0 0, xR 20 0 0] N1
  refine xl_st hC hc hs (xs_iconst dL_law_1585) ?_
  show XWW p l e room_1 s m #[Value.ref b] below meth c (cells + 1) (slots + 6) (lw_Z below #[Value.ref b] s) D G ρ 9 1586 [some (xR 40 0 0), some (xR 0 0 0), some (xR 20 0 0), some (xR 26 0 0), some (xI i), some (xI k), x6, x7, x8] [xI 1, xI i, xR 40 0 0, xR 20 0 0] N1
  refine xl_st hC hc hs (xs_iadd dL_law_1586) ?_
  show XWW p l e room_1 s m #[Value.ref b] below meth c (cells + 1) (slots + 6) (lw_Z below #[Value.ref b] s) D G ρ 9 1587 [some (xR 40 0 0), some (xR 0 0 0), some (xR 20 0 0), some (xR 26 0 0), some (xI i), some (xI k), x6, x7, x8] [xI (i + 1), xR 40 0 0, xR 20 0 0] N1
  refine xl_sld hC hX (by omega) (by omega) dL_law_1587 ?_
  show XWW p l e room_1 s m #[Value.ref b] below meth c (cells + 1) (slots + 6) (lw_Z below #[Value.ref b] s) D G ρ 9 1588 [some (xR 40 0 0), some (xR 0 0 0), some (xR 20 0 0), some (xR 26 0 0), some (xI i), some (xI k), x6, x7, x8] [xI (SLx xs (i + 1)), xR 20 0 0] N1
  refine xl_st hC hc hs (xs_aload_n (i := 0) dL_law_1588 rfl) ?_
  show XWW p l e room_1 s m #[Value.ref b] below meth c (cells + 1) (slots + 6) (lw_Z below #[Value.ref b] s) D G ρ 9 1589 [some (xR 40 0 0), some (xR 0 0 0), some (xR 20 0 0), some (xR 26 0 0), some (xI i), some (xI k), x6, x7, x8] [xR 40 0 0, xI (SLx xs (i + 1)), xR 20 0 0] N1
  refine xl_st hC hc hs (xs_iload dL_law_1589) ?_
  show XWW p l e room_1 s m #[Value.ref b] below meth c (cells + 1) (slots + 6) (lw_Z below #[Value.ref b] s) D G ρ 9 1591 [some (xR 40 0 0), some (xR 0 0 0), some (xR 20 0 0), some (xR 26 0 0), some (xI i), some (xI k), x6, x7, x8] [xI i, xR 40 0 0, xI (SLx xs (i + 1)), xR 20 0 0] N1
  refine xl_st hC hc hs (xs_iconst dL_law_1591) ?_
  show XWW p l e room_1 s m #[Value.ref b] below meth c (cells + 1) (slots + 6) (lw_Z below #[Value.ref b] s) D G ρ 9 1592 [some (xR 40 0 0), some (xR 0 0 0), some (xR 20 0 0), some (xR 26 0 0), some (xI i), some (xI k), x6, x7, x8] [xI 2, xI i, xR 40 0 0, xI (SLx xs (i + 1)), xR 20 0 0] N1
  refine xl_st hC hc hs (xs_iadd dL_law_1592) ?_
  show XWW p l e room_1 s m #[Value.ref b] below meth c (cells + 1) (slots + 6) (lw_Z below #[Value.ref b] s) D G ρ 9 1593 [some (xR 40 0 0), some (xR 0 0 0), some (xR 20 0 0), some (xR 26 0 0), some (xI i), some (xI k), x6, x7, x8] [xI (i + 2), xR 40 0 0, xI (SLx xs (i + 1)), xR 20 0 0] N1
  refine xl_sld hC hX (by omega) (by omega) dL_law_1593 ?_
  show XWW p l e room_1 s m #[Value.ref b] below meth c (cells + 1) (slots + 6) (lw_Z below #[Value.ref b] s) D G ρ 9 1594 [some (xR 40 0 0), some (xR 0 0 0), some (xR 20 0 0), some (xR 26 0 0), some (xI i), some (xI k), x6, x7, x8] [xI (SLx xs (i + 2)), xI (SLx xs (i + 1)), xR 20 0 0] N1
  refine xl_st hC hc hs (xs_V2 kX8_kitchen ⟨⟨rfl, rfl, by decide, by decide⟩, ⟨by decide, by decide, by decide +kernel⟩, ⟨tw_1376, tw_1377, tw_1378, tw_9, tw_1379⟩, 8, TX8, _, rfl, fun G ρ f i k => ⟨_, rfl⟩⟩ dL_law_1594) ⟨⟨rfl, xvz_20, by decide⟩, href⟩
set_option maxRecDepth 100000 in
theorem cs_lorry {p : Program} {l : Launch} {e : Env} {s : State} {m : MethodId} {below : List Frame} {meth : Method} {c : Code} {D : va_G} {G : Nat → ClassId} {ρ : XOb → Nat} {b Ln : Nat} {xs : Nat → Int32} {cells slots : Nat} (hC : XCX p room_1 s m #[Value.ref b] c 0 0 D G ρ cL_law 9 RL (Cond.initialized RL :: xT)) (hl : l.stackTraces = false) (hE : (XEw s ∧ XEs s ∧ XEz (XA ρ s.heap.size) s s.heap) ∧ XEc s) (hX : XSc s ρ b Ln xs) (hc : cells + 1 ≤ 601024) (hs : slots + 6 ≤ 7293034) {i : Int} (h0 : 0 ≤ i) (h6 : i + 6 ≤ Ln) {M : XM} (h : RR M) {x5 x6 x7 x8 : Option XV} (next : ∀ (y5 y6 y7 y8 : Option XV) (N : XM), RR N → XWW p l e room_1 s m #[Value.ref b] below meth c (cells + 1) (slots + 6) (lw_Z below #[Value.ref b] s) D G ρ 9 2181 [some (xR 40 0 0), some (xR 0 0 0), some (xR 20 0 0), some (xR 26 0 0), some (xI i), y5, y6, y7, y8] [] N) : XWW p l e room_1 s m #[Value.ref b] below meth c cells slots (lw_Z below #[Value.ref b] s) D G ρ 9 1630 [some (xR 40 0 0), some (xR 0 0 0), some (xR 20 0 0), some (xR 26 0 0), some (xI i), x5, x6, x7, x8] [] M := by
  have c0 : cells ≤ room_1.cells := Nat.le_trans (Nat.le_succ _) hc
  have s0 : slots ≤ room_1.slots := Nat.le_trans (Nat.le_add_right _ 6) hs
  have hZ : ∀ (k : Int) (rv : List XV) (N : XM), 0 ≤ k → k ≤ 3 → LE k rv N → (fun (k : Int) (rv : List XV) (N : XM) => XWW p l e room_1 s m #[Value.ref b] below meth c (cells + 1) (slots + 6) (lw_Z below #[Value.ref b] s) D G ρ 9 1665 [some (xR 40 0 0), some (xR 0 0 0), some (xR 20 0 0), some (xR 26 0 0), some (xI i), some (xI k), x6, x7, x8] (rv ++ []) N) k rv N := by
    intro k rv N k0 k3 hLE
    obtain ⟨v, rfl, hR, h5, h26⟩ := hLE
    show XWW p l e room_1 s m #[Value.ref b] below meth c (cells + 1) (slots + 6) (lw_Z below #[Value.ref b] s) D G ρ 9 1665 [some (xR 40 0 0), some (xR 0 0 0), some (xR 20 0 0), some (xR 26 0 0), some (xI i), some (xI k), x6, x7, x8] [xI v] N
    refine xl_st hC hc hs (xs_istore dL_law_1665 (by decide)) ?_
    show XWW p l e room_1 s m #[Value.ref b] below meth c (cells + 1) (slots + 6) (lw_Z below #[Value.ref b] s) D G ρ 9 1667 [some (xR 40 0 0), some (xR 0 0 0), some (xR 20 0 0), some (xR 26 0 0), some (xI i), some (xI k), some (xI v), x7, x8] [] N
    refine xl_st hC hc hs (xs_aload_n (i := 2) dL_law_1667 rfl) ?_
    show XWW p l e room_1 s m #[Value.ref b] below meth c (cells + 1) (slots + 6) (lw_Z below #[Value.ref b] s) D G ρ 9 1668 [some (xR 40 0 0), some (xR 0 0 0), some (xR 20 0 0), some (xR 26 0 0), some (xI i), some (xI k), some (xI v), x7, x8] [xR 20 0 0] N
    refine xl_st hC hc hs (xs_V0 kX8_thrown ⟨⟨rfl, rfl, by decide, by decide⟩, ⟨by decide, by decide, by decide +kernel⟩, ⟨tw_1091, tw_1092, tw_1093, tw_9, tw_1094⟩, 8, TX8, _, rfl, fun G ρ f i k => ⟨_, rfl⟩⟩ dL_law_1668) ⟨⟨rfl, xvz_20, by decide⟩, ⟨rfl, xvz_20⟩, ?_⟩
    show XWW p l e room_1 s m #[Value.ref b] below meth c (cells + 1) (slots + 6) (lw_Z below #[Value.ref b] s) D G ρ 9 1671 [some (xR 40 0 0), some (xR 0 0 0), some (xR 20 0 0), some (xR 26 0 0), some (xI i), some (xI k), some (xI v), x7, x8] [xI (N 20 0 0 5)] N
    refine xl_st hC hc hs (xs_iload dL_law_1671) ?_
    show XWW p l e room_1 s m #[Value.ref b] below meth c (cells + 1) (slots + 6) (lw_Z below #[Value.ref b] s) D G ρ 9 1673 [some (xR 40 0 0), some (xR 0 0 0), some (xR 20 0 0), some (xR 26 0 0), some (xI i), some (xI k), some (xI v), x7, x8] [xI k, xI (N 20 0 0 5)] N
    refine xl_st hC hc hs (xs_icmp_eq (t := 1678) dL_law_1673 (by decide)) ⟨⟨by rw [h5]; exact ⟨by omega, by omega⟩, ⟨by omega, by omega⟩⟩, fun _ => ?_, fun q => absurd h5 q⟩
    show XWW p l e room_1 s m #[Value.ref b] below meth c (cells + 1) (slots + 6) (lw_Z below #[Value.ref b] s) D G ρ 9 1678 [some (xR 40 0 0), some (xR 0 0 0), some (xR 20 0 0), some (xR 26 0 0), some (xI i), some (xI k), some (xI v), x7, x8] [] N
    refine xl_st hC hc hs (xs_iload dL_law_1678) ?_
    show XWW p l e room_1 s m #[Value.ref b] below meth c (cells + 1) (slots + 6) (lw_Z below #[Value.ref b] s) D G ρ 9 1680 [some (xR 40 0 0), some (xR 0 0 0), some (xR 20 0 0), some (xR 26 0 0), some (xI i), some (xI k), some (xI v), x7, x8] [xI k] N
    refine xl_st hC hc hs (xs_if_ne (t := 1695) dL_law_1680 (by decide)) ⟨⟨by omega, by omega⟩, fun _ => ?_, fun q => ?_⟩
    · show XWW p l e room_1 s m #[Value.ref b] below meth c (cells + 1) (slots + 6) (lw_Z below #[Value.ref b] s) D G ρ 9 1695 [some (xR 40 0 0), some (xR 0 0 0), some (xR 20 0 0), some (xR 26 0 0), some (xI i), some (xI k), some (xI v), x7, x8] [] N
      refine xl_st hC hc hs (xs_goto (t := 2181) dL_law_1695 (by decide)) ?_
      show XWW p l e room_1 s m #[Value.ref b] below meth c (cells + 1) (slots + 6) (lw_Z below #[Value.ref b] s) D G ρ 9 2181 [some (xR 40 0 0), some (xR 0 0 0), some (xR 20 0 0), some (xR 26 0 0), some (xI i), some (xI k), some (xI v), x7, x8] [] N
      exact next _ _ _ _ N hR
    · show XWW p l e room_1 s m #[Value.ref b] below meth c (cells + 1) (slots + 6) (lw_Z below #[Value.ref b] s) D G ρ 9 1683 [some (xR 40 0 0), some (xR 0 0 0), some (xR 20 0 0), some (xR 26 0 0), some (xI i), some (xI k), some (xI v), x7, x8] [] N
      refine xl_st hC hc hs (xs_aload_n (i := 3) dL_law_1683 rfl) ?_
      show XWW p l e room_1 s m #[Value.ref b] below meth c (cells + 1) (slots + 6) (lw_Z below #[Value.ref b] s) D G ρ 9 1684 [some (xR 40 0 0), some (xR 0 0 0), some (xR 20 0 0), some (xR 26 0 0), some (xI i), some (xI k), some (xI v), x7, x8] [xR 26 0 0] N
      refine xl_st hC hc hs (xs_iconst dL_law_1684) ?_
      show XWW p l e room_1 s m #[Value.ref b] below meth c (cells + 1) (slots + 6) (lw_Z below #[Value.ref b] s) D G ρ 9 1685 [some (xR 40 0 0), some (xR 0 0 0), some (xR 20 0 0), some (xR 26 0 0), some (xI i), some (xI k), some (xI v), x7, x8] [xI 0, xR 26 0 0] N
      refine xl_st hC hc hs (xs_lald dL_law_1685) ⟨⟨rfl, rfl, rfl, rfl⟩, ?_⟩
      show XWW p l e room_1 s m #[Value.ref b] below meth c (cells + 1) (slots + 6) (lw_Z below #[Value.ref b] s) D G ρ 9 1686 [some (xR 40 0 0), some (xR 0 0 0), some (xR 20 0 0), some (xR 26 0 0), some (xI i), some (xI k), some (xI v), x7, x8] [xJ (N 26 0 0 0)] N
      refine xl_st hC hc hs (xs_iload dL_law_1686) ?_
      show XWW p l e room_1 s m #[Value.ref b] below meth c (cells + 1) (slots + 6) (lw_Z below #[Value.ref b] s) D G ρ 9 1688 [some (xR 40 0 0), some (xR 0 0 0), some (xR 20 0 0), some (xR 26 0 0), some (xI i), some (xI k), some (xI v), x7, x8] [xI v, xJ (N 26 0 0 0)] N
      refine xl_st hC hc hs (xs_i2lw dL_law_1688) ?_
      show XWW p l e room_1 s m #[Value.ref b] below meth c (cells + 1) (slots + 6) (lw_Z below #[Value.ref b] s) D G ρ 9 1689 [some (xR 40 0 0), some (xR 0 0 0), some (xR 20 0 0), some (xR 26 0 0), some (xI i), some (xI k), some (xI v), x7, x8] [xJ (w32 v), xJ (N 26 0 0 0)] N
      refine xl_st hC hc hs (xs_lcmp dL_law_1689) ⟨h26 q, ?_⟩
      show XWW p l e room_1 s m #[Value.ref b] below meth c (cells + 1) (slots + 6) (lw_Z below #[Value.ref b] s) D G ρ 9 1690 [some (xR 40 0 0), some (xR 0 0 0), some (xR 20 0 0), some (xR 26 0 0), some (xI i), some (xI k), some (xI v), x7, x8] [xI 0] N
      refine xl_st hC hc hs (xs_if_eq (t := 1695) dL_law_1690 (by decide)) ⟨x_r0, fun _ => ?_, fun q => absurd rfl q⟩
      show XWW p l e room_1 s m #[Value.ref b] below meth c (cells + 1) (slots + 6) (lw_Z below #[Value.ref b] s) D G ρ 9 1695 [some (xR 40 0 0), some (xR 0 0 0), some (xR 20 0 0), some (xR 26 0 0), some (xI i), some (xI k), some (xI v), x7, x8] [] N
      refine xl_st hC hc hs (xs_goto (t := 2181) dL_law_1695 (by decide)) ?_
      show XWW p l e room_1 s m #[Value.ref b] below meth c (cells + 1) (slots + 6) (lw_Z below #[Value.ref b] s) D G ρ 9 2181 [some (xR 40 0 0), some (xR 0 0 0), some (xR 20 0 0), some (xR 26 0 0), some (xI i), some (xI k), some (xI v), x7, x8] [] N
      exact next _ _ _ _ N hR
  show XWW p l e room_1 s m #[Value.ref b] below meth c cells slots (lw_Z below #[Value.ref b] s) D G ρ 9 1630 [some (xR 40 0 0), some (xR 0 0 0), some (xR 20 0 0), some (xR 26 0 0), some (xI i), x5, x6, x7, x8] [] M
  refine xl_st hC c0 s0 (xs_aload_n (i := 1) dL_law_1630 rfl) ?_
  show XWW p l e room_1 s m #[Value.ref b] below meth c cells slots (lw_Z below #[Value.ref b] s) D G ρ 9 1631 [some (xR 40 0 0), some (xR 0 0 0), some (xR 20 0 0), some (xR 26 0 0), some (xI i), x5, x6, x7, x8] [xR 0 0 0] M
  refine xl_st hC c0 s0 (xs_aload_n (i := 0) dL_law_1631 rfl) ?_
  show XWW p l e room_1 s m #[Value.ref b] below meth c cells slots (lw_Z below #[Value.ref b] s) D G ρ 9 1632 [some (xR 40 0 0), some (xR 0 0 0), some (xR 20 0 0), some (xR 26 0 0), some (xI i), x5, x6, x7, x8] [xR 40 0 0, xR 0 0 0] M
  refine xl_st hC c0 s0 (xs_iload dL_law_1632) ?_
  show XWW p l e room_1 s m #[Value.ref b] below meth c cells slots (lw_Z below #[Value.ref b] s) D G ρ 9 1634 [some (xR 40 0 0), some (xR 0 0 0), some (xR 20 0 0), some (xR 26 0 0), some (xI i), x5, x6, x7, x8] [xI i, xR 40 0 0, xR 0 0 0] M
  refine xl_st hC c0 s0 (xs_iconst dL_law_1634) ?_
  show XWW p l e room_1 s m #[Value.ref b] below meth c cells slots (lw_Z below #[Value.ref b] s) D G ρ 9 1635 [some (xR 40 0 0), some (xR 0 0 0), some (xR 20 0 0), some (xR 26 0 0), some (xI i), x5, x6, x7, x8] [xI 1, xI i, xR 40 0 0, xR 0 0 0] M
  refine xl_st hC c0 s0 (xs_iadd dL_law_1635) ?_
  show XWW p l e room_1 s m #[Value.ref b] below meth c cells slots (lw_Z below #[Value.ref b] s) D G ρ 9 1636 [some (xR 40 0 0), some (xR 0 0 0), some (xR 20 0 0), some (xR 26 0 0), some (xI i), x5, x6, x7, x8] [xI (i + 1), xR 40 0 0, xR 0 0 0] M
  refine xl_sld hC hX (by omega) (by omega) dL_law_1636 ?_
  show XWW p l e room_1 s m #[Value.ref b] below meth c cells slots (lw_Z below #[Value.ref b] s) D G ρ 9 1637 [some (xR 40 0 0), some (xR 0 0 0), some (xR 20 0 0), some (xR 26 0 0), some (xI i), x5, x6, x7, x8] [xI (SLx xs (i + 1)), xR 0 0 0] M
  refine xl_st hC c0 s0 (xs_aload_n (i := 0) dL_law_1637 rfl) ?_
  show XWW p l e room_1 s m #[Value.ref b] below meth c cells slots (lw_Z below #[Value.ref b] s) D G ρ 9 1638 [some (xR 40 0 0), some (xR 0 0 0), some (xR 20 0 0), some (xR 26 0 0), some (xI i), x5, x6, x7, x8] [xR 40 0 0, xI (SLx xs (i + 1)), xR 0 0 0] M
  refine xl_st hC c0 s0 (xs_iload dL_law_1638) ?_
  show XWW p l e room_1 s m #[Value.ref b] below meth c cells slots (lw_Z below #[Value.ref b] s) D G ρ 9 1640 [some (xR 40 0 0), some (xR 0 0 0), some (xR 20 0 0), some (xR 26 0 0), some (xI i), x5, x6, x7, x8] [xI i, xR 40 0 0, xI (SLx xs (i + 1)), xR 0 0 0] M
  refine xl_st hC c0 s0 (xs_iconst dL_law_1640) ?_
  show XWW p l e room_1 s m #[Value.ref b] below meth c cells slots (lw_Z below #[Value.ref b] s) D G ρ 9 1641 [some (xR 40 0 0), some (xR 0 0 0), some (xR 20 0 0), some (xR 26 0 0), some (xI i), x5, x6, x7, x8] [xI 2, xI i, xR 40 0 0, xI (SLx xs (i + 1)), xR 0 0 0] M
  refine xl_st hC c0 s0 (xs_iadd dL_law_1641) ?_
  show XWW p l e room_1 s m #[Value.ref b] below meth c cells slots (lw_Z below #[Value.ref b] s) D G ρ 9 1642 [some (xR 40 0 0), some (xR 0 0 0), some (xR 20 0 0), some (xR 26 0 0), some (xI i), x5, x6, x7, x8] [xI (i + 2), xR 40 0 0, xI (SLx xs (i + 1)), xR 0 0 0] M
  refine xl_sld hC hX (by omega) (by omega) dL_law_1642 ?_
  show XWW p l e room_1 s m #[Value.ref b] below meth c cells slots (lw_Z below #[Value.ref b] s) D G ρ 9 1643 [some (xR 40 0 0), some (xR 0 0 0), some (xR 20 0 0), some (xR 26 0 0), some (xI i), x5, x6, x7, x8] [xI (SLx xs (i + 2)), xI (SLx xs (i + 1)), xR 0 0 0] M
  refine xl_st hC c0 s0 (xs_aload_n (i := 3) dL_law_1643 rfl) ?_
  show XWW p l e room_1 s m #[Value.ref b] below meth c cells slots (lw_Z below #[Value.ref b] s) D G ρ 9 1644 [some (xR 40 0 0), some (xR 0 0 0), some (xR 20 0 0), some (xR 26 0 0), some (xI i), x5, x6, x7, x8] [xR 26 0 0, xI (SLx xs (i + 2)), xI (SLx xs (i + 1)), xR 0 0 0] M
  refine xl_call (n := 4) (As := [xR 0 0 0, xI (SLx xs (i + 1)), xI (SLx xs (i + 2)), xR 26 0 0]) (st := []) kL_lorry ⟨⟨rfl, rfl, by decide, by decide⟩, ⟨by decide, by decide, by decide +kernel⟩, tw_1001, tw_1002, tw_0, twL_lorry⟩ dL_law_1644 hC hl hE hc hs rfl (by decide) ⟨(SLx xs (i + 1)), (SLx xs (i + 2)), rfl, lc_lorry hZ h (SL_in _ _) (SL_in _ _)⟩ (fun rv N1 hq => ?_)
  obtain ⟨k, rfl, ⟨k0, k3⟩, href⟩ := hq
  show XWW p l e room_1 s m #[Value.ref b] below meth c (cells + 1) (slots + 6) (lw_Z below #[Value.ref b] s) D G ρ 9 1647 [some (xR 40 0 0), some (xR 0 0 0), some (xR 20 0 0), some (xR 26 0 0), some (xI i), x5, x6, x7, x8] [xI k] N1
  refine xl_st hC hc hs (xs_istore dL_law_1647 (by decide)) ?_
  show XWW p l e room_1 s m #[Value.ref b] below meth c (cells + 1) (slots + 6) (lw_Z below #[Value.ref b] s) D G ρ 9 1649 [some (xR 40 0 0), some (xR 0 0 0), some (xR 20 0 0), some (xR 26 0 0), some (xI i), some (xI k), x6, x7, x8] [] N1
  refine xl_st hC hc hs (xs_aload_n (i := 2) dL_law_1649 rfl) ?_
  show XWW p l e room_1 s m #[Value.ref b] below meth c (cells + 1) (slots + 6) (lw_Z below #[Value.ref b] s) D G ρ 9 1650 [some (xR 40 0 0), some (xR 0 0 0), some (xR 20 0 0), some (xR 26 0 0), some (xI i), some (xI k), x6, x7, x8] [xR 20 0 0] N1
  refine xl_st hC hc hs (xs_aload_n (i := 0) dL_law_1650 rfl) ?_
  show XWW p l e room_1 s m #[Value.ref b] below meth c (cells + 1) (slots + 6) (lw_Z below #[Value.ref b] s) D G ρ 9 1651 [some (xR 40 0 0), some (xR 0 0 0), some (xR 20 0 0), some (xR 26 0 0), some (xI i), some (xI k), x6, x7, x8] [xR 40 0 0, xR 20 0 0] N1
  refine xl_st hC hc hs (xs_iload dL_law_1651) ?_
  show XWW p l e room_1 s m #[Value.ref b] below meth c (cells + 1) (slots + 6) (lw_Z below #[Value.ref b] s) D G ρ 9 1653 [some (xR 40 0 0), some (xR 0 0 0), some (xR 20 0 0), some (xR 26 0 0), some (xI i), some (xI k), x6, x7, x8] [xI i, xR 40 0 0, xR 20 0 0] N1
  refine xl_st hC hc hs (xs_iconst dL_law_1653) ?_
  show XWW p l e room_1 s m #[Value.ref b] below meth c (cells + 1) (slots + 6) (lw_Z below #[Value.ref b] s) D G ρ 9 1654 [some (xR 40 0 0), some (xR 0 0 0), some (xR 20 0 0), some (xR 26 0 0), some (xI i), some (xI k), x6, x7, x8] [xI 1, xI i, xR 40 0 0, xR 20 0 0] N1
  refine xl_st hC hc hs (xs_iadd dL_law_1654) ?_
  show XWW p l e room_1 s m #[Value.ref b] below meth c (cells + 1) (slots + 6) (lw_Z below #[Value.ref b] s) D G ρ 9 1655 [some (xR 40 0 0), some (xR 0 0 0), some (xR 20 0 0), some (xR 26 0 0), some (xI i), some (xI k), x6, x7, x8] [xI (i + 1), xR 40 0 0, xR 20 0 0] N1
  refine xl_sld hC hX (by omega) (by omega) dL_law_1655 ?_
  show XWW p l e room_1 s m #[Value.ref b] below meth c (cells + 1) (slots + 6) (lw_Z below #[Value.ref b] s) D G ρ 9 1656 [some (xR 40 0 0), some (xR 0 0 0), some (xR 20 0 0), some (xR 26 0 0), some (xI i), some (xI k), x6, x7, x8] [xI (SLx xs (i + 1)), xR 20 0 0] N1
  refine xl_st hC hc hs (xs_aload_n (i := 0) dL_law_1656 rfl) ?_
  show XWW p l e room_1 s m #[Value.ref b] below meth c (cells + 1) (slots + 6) (lw_Z below #[Value.ref b] s) D G ρ 9 1657 [some (xR 40 0 0), some (xR 0 0 0), some (xR 20 0 0), some (xR 26 0 0), some (xI i), some (xI k), x6, x7, x8] [xR 40 0 0, xI (SLx xs (i + 1)), xR 20 0 0] N1
  refine xl_st hC hc hs (xs_iload dL_law_1657) ?_
  show XWW p l e room_1 s m #[Value.ref b] below meth c (cells + 1) (slots + 6) (lw_Z below #[Value.ref b] s) D G ρ 9 1659 [some (xR 40 0 0), some (xR 0 0 0), some (xR 20 0 0), some (xR 26 0 0), some (xI i), some (xI k), x6, x7, x8] [xI i, xR 40 0 0, xI (SLx xs (i + 1)), xR 20 0 0] N1
  refine xl_st hC hc hs (xs_iconst dL_law_1659) ?_
  show XWW p l e room_1 s m #[Value.ref b] below meth c (cells + 1) (slots + 6) (lw_Z below #[Value.ref b] s) D G ρ 9 1660 [some (xR 40 0 0), some (xR 0 0 0), some (xR 20 0 0), some (xR 26 0 0), some (xI i), some (xI k), x6, x7, x8] [xI 2, xI i, xR 40 0 0, xI (SLx xs (i + 1)), xR 20 0 0] N1
  refine xl_st hC hc hs (xs_iadd dL_law_1660) ?_
  show XWW p l e room_1 s m #[Value.ref b] below meth c (cells + 1) (slots + 6) (lw_Z below #[Value.ref b] s) D G ρ 9 1661 [some (xR 40 0 0), some (xR 0 0 0), some (xR 20 0 0), some (xR 26 0 0), some (xI i), some (xI k), x6, x7, x8] [xI (i + 2), xR 40 0 0, xI (SLx xs (i + 1)), xR 20 0 0] N1
  refine xl_sld hC hX (by omega) (by omega) dL_law_1661 ?_
  show XWW p l e room_1 s m #[Value.ref b] below meth c (cells + 1) (slots + 6) (lw_Z below #[Value.ref b] s) D G ρ 9 1662 [some (xR 40 0 0), some (xR 0 0 0), some (xR 20 0 0), some (xR 26 0 0), some (xI i), some (xI k), x6, x7, x8] [xI (SLx xs (i + 2)), xI (SLx xs (i + 1)), xR 20 0 0] N1
  refine xl_st hC hc hs (xs_V2 kX8_lorry ⟨⟨rfl, rfl, by decide, by decide⟩, ⟨by decide, by decide, by decide +kernel⟩, ⟨tw_1388, tw_1389, tw_1390, tw_9, tw_1391⟩, 8, TX8, _, rfl, fun G ρ f i k => ⟨_, rfl⟩⟩ dL_law_1662) ⟨⟨rfl, xvz_20, by decide⟩, href⟩
set_option maxRecDepth 100000 in
theorem cs_count {p : Program} {l : Launch} {e : Env} {s : State} {m : MethodId} {below : List Frame} {meth : Method} {c : Code} {D : va_G} {G : Nat → ClassId} {ρ : XOb → Nat} {b Ln : Nat} {xs : Nat → Int32} {cells slots : Nat} (hC : XCX p room_1 s m #[Value.ref b] c 0 0 D G ρ cL_law 9 RL (Cond.initialized RL :: xT)) (hl : l.stackTraces = false) (hE : (XEw s ∧ XEs s ∧ XEz (XA ρ s.heap.size) s s.heap) ∧ XEc s) (hX : XSc s ρ b Ln xs) (hc : cells + 1 ≤ 601024) (hs : slots + 6 ≤ 7293034) {i : Int} (h0 : 0 ≤ i) (h6 : i + 6 ≤ Ln) {M : XM} (h : RR M) {x5 x6 x7 x8 : Option XV} (next : ∀ (y5 y6 y7 y8 : Option XV) (N : XM), RR N → XWW p l e room_1 s m #[Value.ref b] below meth c (cells + 1) (slots + 6) (lw_Z below #[Value.ref b] s) D G ρ 9 2181 [some (xR 40 0 0), some (xR 0 0 0), some (xR 20 0 0), some (xR 26 0 0), some (xI i), y5, y6, y7, y8] [] N) : XWW p l e room_1 s m #[Value.ref b] below meth c cells slots (lw_Z below #[Value.ref b] s) D G ρ 9 1698 [some (xR 40 0 0), some (xR 0 0 0), some (xR 20 0 0), some (xR 26 0 0), some (xI i), x5, x6, x7, x8] [] M := by
  have c0 : cells ≤ room_1.cells := Nat.le_trans (Nat.le_succ _) hc
  have s0 : slots ≤ room_1.slots := Nat.le_trans (Nat.le_add_right _ 6) hs
  have hZ : ∀ (k : Int) (rv : List XV) (N : XM), 0 ≤ k → k ≤ 3 → LE k rv N → (fun (k : Int) (rv : List XV) (N : XM) => XWW p l e room_1 s m #[Value.ref b] below meth c (cells + 1) (slots + 6) (lw_Z below #[Value.ref b] s) D G ρ 9 1721 [some (xR 40 0 0), some (xR 0 0 0), some (xR 20 0 0), some (xR 26 0 0), some (xI i), some (xI k), x6, x7, x8] (rv ++ []) N) k rv N := by
    intro k rv N k0 k3 hLE
    obtain ⟨v, rfl, hR, h5, h26⟩ := hLE
    show XWW p l e room_1 s m #[Value.ref b] below meth c (cells + 1) (slots + 6) (lw_Z below #[Value.ref b] s) D G ρ 9 1721 [some (xR 40 0 0), some (xR 0 0 0), some (xR 20 0 0), some (xR 26 0 0), some (xI i), some (xI k), x6, x7, x8] [xI v] N
    refine xl_st hC hc hs (xs_istore dL_law_1721 (by decide)) ?_
    show XWW p l e room_1 s m #[Value.ref b] below meth c (cells + 1) (slots + 6) (lw_Z below #[Value.ref b] s) D G ρ 9 1723 [some (xR 40 0 0), some (xR 0 0 0), some (xR 20 0 0), some (xR 26 0 0), some (xI i), some (xI k), some (xI v), x7, x8] [] N
    refine xl_st hC hc hs (xs_aload_n (i := 2) dL_law_1723 rfl) ?_
    show XWW p l e room_1 s m #[Value.ref b] below meth c (cells + 1) (slots + 6) (lw_Z below #[Value.ref b] s) D G ρ 9 1724 [some (xR 40 0 0), some (xR 0 0 0), some (xR 20 0 0), some (xR 26 0 0), some (xI i), some (xI k), some (xI v), x7, x8] [xR 20 0 0] N
    refine xl_st hC hc hs (xs_V0 kX8_thrown ⟨⟨rfl, rfl, by decide, by decide⟩, ⟨by decide, by decide, by decide +kernel⟩, ⟨tw_1091, tw_1092, tw_1093, tw_9, tw_1094⟩, 8, TX8, _, rfl, fun G ρ f i k => ⟨_, rfl⟩⟩ dL_law_1724) ⟨⟨rfl, xvz_20, by decide⟩, ⟨rfl, xvz_20⟩, ?_⟩
    show XWW p l e room_1 s m #[Value.ref b] below meth c (cells + 1) (slots + 6) (lw_Z below #[Value.ref b] s) D G ρ 9 1727 [some (xR 40 0 0), some (xR 0 0 0), some (xR 20 0 0), some (xR 26 0 0), some (xI i), some (xI k), some (xI v), x7, x8] [xI (N 20 0 0 5)] N
    refine xl_st hC hc hs (xs_iload dL_law_1727) ?_
    show XWW p l e room_1 s m #[Value.ref b] below meth c (cells + 1) (slots + 6) (lw_Z below #[Value.ref b] s) D G ρ 9 1729 [some (xR 40 0 0), some (xR 0 0 0), some (xR 20 0 0), some (xR 26 0 0), some (xI i), some (xI k), some (xI v), x7, x8] [xI k, xI (N 20 0 0 5)] N
    refine xl_st hC hc hs (xs_icmp_eq (t := 1734) dL_law_1729 (by decide)) ⟨⟨by rw [h5]; exact ⟨by omega, by omega⟩, ⟨by omega, by omega⟩⟩, fun _ => ?_, fun q => absurd h5 q⟩
    show XWW p l e room_1 s m #[Value.ref b] below meth c (cells + 1) (slots + 6) (lw_Z below #[Value.ref b] s) D G ρ 9 1734 [some (xR 40 0 0), some (xR 0 0 0), some (xR 20 0 0), some (xR 26 0 0), some (xI i), some (xI k), some (xI v), x7, x8] [] N
    refine xl_st hC hc hs (xs_iload dL_law_1734) ?_
    show XWW p l e room_1 s m #[Value.ref b] below meth c (cells + 1) (slots + 6) (lw_Z below #[Value.ref b] s) D G ρ 9 1736 [some (xR 40 0 0), some (xR 0 0 0), some (xR 20 0 0), some (xR 26 0 0), some (xI i), some (xI k), some (xI v), x7, x8] [xI k] N
    refine xl_st hC hc hs (xs_if_ne (t := 1751) dL_law_1736 (by decide)) ⟨⟨by omega, by omega⟩, fun _ => ?_, fun q => ?_⟩
    · show XWW p l e room_1 s m #[Value.ref b] below meth c (cells + 1) (slots + 6) (lw_Z below #[Value.ref b] s) D G ρ 9 1751 [some (xR 40 0 0), some (xR 0 0 0), some (xR 20 0 0), some (xR 26 0 0), some (xI i), some (xI k), some (xI v), x7, x8] [] N
      refine xl_st hC hc hs (xs_goto (t := 2181) dL_law_1751 (by decide)) ?_
      show XWW p l e room_1 s m #[Value.ref b] below meth c (cells + 1) (slots + 6) (lw_Z below #[Value.ref b] s) D G ρ 9 2181 [some (xR 40 0 0), some (xR 0 0 0), some (xR 20 0 0), some (xR 26 0 0), some (xI i), some (xI k), some (xI v), x7, x8] [] N
      exact next _ _ _ _ N hR
    · show XWW p l e room_1 s m #[Value.ref b] below meth c (cells + 1) (slots + 6) (lw_Z below #[Value.ref b] s) D G ρ 9 1739 [some (xR 40 0 0), some (xR 0 0 0), some (xR 20 0 0), some (xR 26 0 0), some (xI i), some (xI k), some (xI v), x7, x8] [] N
      refine xl_st hC hc hs (xs_aload_n (i := 3) dL_law_1739 rfl) ?_
      show XWW p l e room_1 s m #[Value.ref b] below meth c (cells + 1) (slots + 6) (lw_Z below #[Value.ref b] s) D G ρ 9 1740 [some (xR 40 0 0), some (xR 0 0 0), some (xR 20 0 0), some (xR 26 0 0), some (xI i), some (xI k), some (xI v), x7, x8] [xR 26 0 0] N
      refine xl_st hC hc hs (xs_iconst dL_law_1740) ?_
      show XWW p l e room_1 s m #[Value.ref b] below meth c (cells + 1) (slots + 6) (lw_Z below #[Value.ref b] s) D G ρ 9 1741 [some (xR 40 0 0), some (xR 0 0 0), some (xR 20 0 0), some (xR 26 0 0), some (xI i), some (xI k), some (xI v), x7, x8] [xI 0, xR 26 0 0] N
      refine xl_st hC hc hs (xs_lald dL_law_1741) ⟨⟨rfl, rfl, rfl, rfl⟩, ?_⟩
      show XWW p l e room_1 s m #[Value.ref b] below meth c (cells + 1) (slots + 6) (lw_Z below #[Value.ref b] s) D G ρ 9 1742 [some (xR 40 0 0), some (xR 0 0 0), some (xR 20 0 0), some (xR 26 0 0), some (xI i), some (xI k), some (xI v), x7, x8] [xJ (N 26 0 0 0)] N
      refine xl_st hC hc hs (xs_iload dL_law_1742) ?_
      show XWW p l e room_1 s m #[Value.ref b] below meth c (cells + 1) (slots + 6) (lw_Z below #[Value.ref b] s) D G ρ 9 1744 [some (xR 40 0 0), some (xR 0 0 0), some (xR 20 0 0), some (xR 26 0 0), some (xI i), some (xI k), some (xI v), x7, x8] [xI v, xJ (N 26 0 0 0)] N
      refine xl_st hC hc hs (xs_i2lw dL_law_1744) ?_
      show XWW p l e room_1 s m #[Value.ref b] below meth c (cells + 1) (slots + 6) (lw_Z below #[Value.ref b] s) D G ρ 9 1745 [some (xR 40 0 0), some (xR 0 0 0), some (xR 20 0 0), some (xR 26 0 0), some (xI i), some (xI k), some (xI v), x7, x8] [xJ (w32 v), xJ (N 26 0 0 0)] N
      refine xl_st hC hc hs (xs_lcmp dL_law_1745) ⟨h26 q, ?_⟩
      show XWW p l e room_1 s m #[Value.ref b] below meth c (cells + 1) (slots + 6) (lw_Z below #[Value.ref b] s) D G ρ 9 1746 [some (xR 40 0 0), some (xR 0 0 0), some (xR 20 0 0), some (xR 26 0 0), some (xI i), some (xI k), some (xI v), x7, x8] [xI 0] N
      refine xl_st hC hc hs (xs_if_eq (t := 1751) dL_law_1746 (by decide)) ⟨x_r0, fun _ => ?_, fun q => absurd rfl q⟩
      show XWW p l e room_1 s m #[Value.ref b] below meth c (cells + 1) (slots + 6) (lw_Z below #[Value.ref b] s) D G ρ 9 1751 [some (xR 40 0 0), some (xR 0 0 0), some (xR 20 0 0), some (xR 26 0 0), some (xI i), some (xI k), some (xI v), x7, x8] [] N
      refine xl_st hC hc hs (xs_goto (t := 2181) dL_law_1751 (by decide)) ?_
      show XWW p l e room_1 s m #[Value.ref b] below meth c (cells + 1) (slots + 6) (lw_Z below #[Value.ref b] s) D G ρ 9 2181 [some (xR 40 0 0), some (xR 0 0 0), some (xR 20 0 0), some (xR 26 0 0), some (xI i), some (xI k), some (xI v), x7, x8] [] N
      exact next _ _ _ _ N hR
  show XWW p l e room_1 s m #[Value.ref b] below meth c cells slots (lw_Z below #[Value.ref b] s) D G ρ 9 1698 [some (xR 40 0 0), some (xR 0 0 0), some (xR 20 0 0), some (xR 26 0 0), some (xI i), x5, x6, x7, x8] [] M
  refine xl_st hC c0 s0 (xs_aload_n (i := 1) dL_law_1698 rfl) ?_
  show XWW p l e room_1 s m #[Value.ref b] below meth c cells slots (lw_Z below #[Value.ref b] s) D G ρ 9 1699 [some (xR 40 0 0), some (xR 0 0 0), some (xR 20 0 0), some (xR 26 0 0), some (xI i), x5, x6, x7, x8] [xR 0 0 0] M
  refine xl_st hC c0 s0 (xs_aload_n (i := 0) dL_law_1699 rfl) ?_
  show XWW p l e room_1 s m #[Value.ref b] below meth c cells slots (lw_Z below #[Value.ref b] s) D G ρ 9 1700 [some (xR 40 0 0), some (xR 0 0 0), some (xR 20 0 0), some (xR 26 0 0), some (xI i), x5, x6, x7, x8] [xR 40 0 0, xR 0 0 0] M
  refine xl_st hC c0 s0 (xs_iload dL_law_1700) ?_
  show XWW p l e room_1 s m #[Value.ref b] below meth c cells slots (lw_Z below #[Value.ref b] s) D G ρ 9 1702 [some (xR 40 0 0), some (xR 0 0 0), some (xR 20 0 0), some (xR 26 0 0), some (xI i), x5, x6, x7, x8] [xI i, xR 40 0 0, xR 0 0 0] M
  refine xl_st hC c0 s0 (xs_iconst dL_law_1702) ?_
  show XWW p l e room_1 s m #[Value.ref b] below meth c cells slots (lw_Z below #[Value.ref b] s) D G ρ 9 1703 [some (xR 40 0 0), some (xR 0 0 0), some (xR 20 0 0), some (xR 26 0 0), some (xI i), x5, x6, x7, x8] [xI 1, xI i, xR 40 0 0, xR 0 0 0] M
  refine xl_st hC c0 s0 (xs_iadd dL_law_1703) ?_
  show XWW p l e room_1 s m #[Value.ref b] below meth c cells slots (lw_Z below #[Value.ref b] s) D G ρ 9 1704 [some (xR 40 0 0), some (xR 0 0 0), some (xR 20 0 0), some (xR 26 0 0), some (xI i), x5, x6, x7, x8] [xI (i + 1), xR 40 0 0, xR 0 0 0] M
  refine xl_sld hC hX (by omega) (by omega) dL_law_1704 ?_
  show XWW p l e room_1 s m #[Value.ref b] below meth c cells slots (lw_Z below #[Value.ref b] s) D G ρ 9 1705 [some (xR 40 0 0), some (xR 0 0 0), some (xR 20 0 0), some (xR 26 0 0), some (xI i), x5, x6, x7, x8] [xI (SLx xs (i + 1)), xR 0 0 0] M
  refine xl_st hC c0 s0 (xs_aload_n (i := 3) dL_law_1705 rfl) ?_
  show XWW p l e room_1 s m #[Value.ref b] below meth c cells slots (lw_Z below #[Value.ref b] s) D G ρ 9 1706 [some (xR 40 0 0), some (xR 0 0 0), some (xR 20 0 0), some (xR 26 0 0), some (xI i), x5, x6, x7, x8] [xR 26 0 0, xI (SLx xs (i + 1)), xR 0 0 0] M
  refine xl_call (n := 3) (As := [xR 0 0 0, xI (SLx xs (i + 1)), xR 26 0 0]) (st := []) kL_count ⟨⟨rfl, rfl, by decide, by decide⟩, ⟨by decide, by decide, by decide +kernel⟩, tw_1005, tw_1006, tw_0, twL_count⟩ dL_law_1706 hC hl hE hc hs rfl (by decide) ⟨(SLx xs (i + 1)), rfl, lc_count hZ h (SL_in _ _)⟩ (fun rv N1 hq => ?_)
  obtain ⟨k, rfl, ⟨k0, k3⟩, href⟩ := hq
  show XWW p l e room_1 s m #[Value.ref b] below meth c (cells + 1) (slots + 6) (lw_Z below #[Value.ref b] s) D G ρ 9 1709 [some (xR 40 0 0), some (xR 0 0 0), some (xR 20 0 0), some (xR 26 0 0), some (xI i), x5, x6, x7, x8] [xI k] N1
  refine xl_st hC hc hs (xs_istore dL_law_1709 (by decide)) ?_
  show XWW p l e room_1 s m #[Value.ref b] below meth c (cells + 1) (slots + 6) (lw_Z below #[Value.ref b] s) D G ρ 9 1711 [some (xR 40 0 0), some (xR 0 0 0), some (xR 20 0 0), some (xR 26 0 0), some (xI i), some (xI k), x6, x7, x8] [] N1
  refine xl_st hC hc hs (xs_aload_n (i := 2) dL_law_1711 rfl) ?_
  show XWW p l e room_1 s m #[Value.ref b] below meth c (cells + 1) (slots + 6) (lw_Z below #[Value.ref b] s) D G ρ 9 1712 [some (xR 40 0 0), some (xR 0 0 0), some (xR 20 0 0), some (xR 26 0 0), some (xI i), some (xI k), x6, x7, x8] [xR 20 0 0] N1
  refine xl_st hC hc hs (xs_aload_n (i := 0) dL_law_1712 rfl) ?_
  show XWW p l e room_1 s m #[Value.ref b] below meth c (cells + 1) (slots + 6) (lw_Z below #[Value.ref b] s) D G ρ 9 1713 [some (xR 40 0 0), some (xR 0 0 0), some (xR 20 0 0), some (xR 26 0 0), some (xI i), some (xI k), x6, x7, x8] [xR 40 0 0, xR 20 0 0] N1
  refine xl_st hC hc hs (xs_iload dL_law_1713) ?_
  show XWW p l e room_1 s m #[Value.ref b] below meth c (cells + 1) (slots + 6) (lw_Z below #[Value.ref b] s) D G ρ 9 1715 [some (xR 40 0 0), some (xR 0 0 0), some (xR 20 0 0), some (xR 26 0 0), some (xI i), some (xI k), x6, x7, x8] [xI i, xR 40 0 0, xR 20 0 0] N1
  refine xl_st hC hc hs (xs_iconst dL_law_1715) ?_
  show XWW p l e room_1 s m #[Value.ref b] below meth c (cells + 1) (slots + 6) (lw_Z below #[Value.ref b] s) D G ρ 9 1716 [some (xR 40 0 0), some (xR 0 0 0), some (xR 20 0 0), some (xR 26 0 0), some (xI i), some (xI k), x6, x7, x8] [xI 1, xI i, xR 40 0 0, xR 20 0 0] N1
  refine xl_st hC hc hs (xs_iadd dL_law_1716) ?_
  show XWW p l e room_1 s m #[Value.ref b] below meth c (cells + 1) (slots + 6) (lw_Z below #[Value.ref b] s) D G ρ 9 1717 [some (xR 40 0 0), some (xR 0 0 0), some (xR 20 0 0), some (xR 26 0 0), some (xI i), some (xI k), x6, x7, x8] [xI (i + 1), xR 40 0 0, xR 20 0 0] N1
  refine xl_sld hC hX (by omega) (by omega) dL_law_1717 ?_
  show XWW p l e room_1 s m #[Value.ref b] below meth c (cells + 1) (slots + 6) (lw_Z below #[Value.ref b] s) D G ρ 9 1718 [some (xR 40 0 0), some (xR 0 0 0), some (xR 20 0 0), some (xR 26 0 0), some (xI i), some (xI k), x6, x7, x8] [xI (SLx xs (i + 1)), xR 20 0 0] N1
  refine xl_st hC hc hs (xs_V1 kX8_count ⟨⟨rfl, rfl, by decide, by decide⟩, ⟨by decide, by decide, by decide +kernel⟩, ⟨tw_1396, tw_1397, tw_1398, tw_9, tw_1399⟩, 8, TX8, _, rfl, fun G ρ f i k => ⟨_, rfl⟩⟩ dL_law_1718) ⟨⟨rfl, xvz_20, by decide⟩, href⟩
set_option maxRecDepth 100000 in
theorem cs_setting {p : Program} {l : Launch} {e : Env} {s : State} {m : MethodId} {below : List Frame} {meth : Method} {c : Code} {D : va_G} {G : Nat → ClassId} {ρ : XOb → Nat} {b Ln : Nat} {xs : Nat → Int32} {cells slots : Nat} (hC : XCX p room_1 s m #[Value.ref b] c 0 0 D G ρ cL_law 9 RL (Cond.initialized RL :: xT)) (hl : l.stackTraces = false) (hE : (XEw s ∧ XEs s ∧ XEz (XA ρ s.heap.size) s s.heap) ∧ XEc s) (hX : XSc s ρ b Ln xs) (hc : cells + 1 ≤ 601024) (hs : slots + 6 ≤ 7293034) {i : Int} (h0 : 0 ≤ i) (h6 : i + 6 ≤ Ln) {M : XM} (h : RR M) {x5 x6 x7 x8 : Option XV} (next : ∀ (y5 y6 y7 y8 : Option XV) (N : XM), RR N → XWW p l e room_1 s m #[Value.ref b] below meth c (cells + 1) (slots + 6) (lw_Z below #[Value.ref b] s) D G ρ 9 2181 [some (xR 40 0 0), some (xR 0 0 0), some (xR 20 0 0), some (xR 26 0 0), some (xI i), y5, y6, y7, y8] [] N) : XWW p l e room_1 s m #[Value.ref b] below meth c cells slots (lw_Z below #[Value.ref b] s) D G ρ 9 1754 [some (xR 40 0 0), some (xR 0 0 0), some (xR 20 0 0), some (xR 26 0 0), some (xI i), x5, x6, x7, x8] [] M := by
  have c0 : cells ≤ room_1.cells := Nat.le_trans (Nat.le_succ _) hc
  have s0 : slots ≤ room_1.slots := Nat.le_trans (Nat.le_add_right _ 6) hs
  have hZ : ∀ (k : Int) (rv : List XV) (N : XM), 0 ≤ k → k ≤ 3 → LE k rv N → (fun (k : Int) (rv : List XV) (N : XM) => XWW p l e room_1 s m #[Value.ref b] below meth c (cells + 1) (slots + 6) (lw_Z below #[Value.ref b] s) D G ρ 9 1777 [some (xR 40 0 0), some (xR 0 0 0), some (xR 20 0 0), some (xR 26 0 0), some (xI i), some (xI k), x6, x7, x8] (rv ++ []) N) k rv N := by
    intro k rv N k0 k3 hLE
    obtain ⟨v, rfl, hR, h5, h26⟩ := hLE
    show XWW p l e room_1 s m #[Value.ref b] below meth c (cells + 1) (slots + 6) (lw_Z below #[Value.ref b] s) D G ρ 9 1777 [some (xR 40 0 0), some (xR 0 0 0), some (xR 20 0 0), some (xR 26 0 0), some (xI i), some (xI k), x6, x7, x8] [xI v] N
    refine xl_st hC hc hs (xs_istore dL_law_1777 (by decide)) ?_
    show XWW p l e room_1 s m #[Value.ref b] below meth c (cells + 1) (slots + 6) (lw_Z below #[Value.ref b] s) D G ρ 9 1779 [some (xR 40 0 0), some (xR 0 0 0), some (xR 20 0 0), some (xR 26 0 0), some (xI i), some (xI k), some (xI v), x7, x8] [] N
    refine xl_st hC hc hs (xs_aload_n (i := 2) dL_law_1779 rfl) ?_
    show XWW p l e room_1 s m #[Value.ref b] below meth c (cells + 1) (slots + 6) (lw_Z below #[Value.ref b] s) D G ρ 9 1780 [some (xR 40 0 0), some (xR 0 0 0), some (xR 20 0 0), some (xR 26 0 0), some (xI i), some (xI k), some (xI v), x7, x8] [xR 20 0 0] N
    refine xl_st hC hc hs (xs_V0 kX8_thrown ⟨⟨rfl, rfl, by decide, by decide⟩, ⟨by decide, by decide, by decide +kernel⟩, ⟨tw_1091, tw_1092, tw_1093, tw_9, tw_1094⟩, 8, TX8, _, rfl, fun G ρ f i k => ⟨_, rfl⟩⟩ dL_law_1780) ⟨⟨rfl, xvz_20, by decide⟩, ⟨rfl, xvz_20⟩, ?_⟩
    show XWW p l e room_1 s m #[Value.ref b] below meth c (cells + 1) (slots + 6) (lw_Z below #[Value.ref b] s) D G ρ 9 1783 [some (xR 40 0 0), some (xR 0 0 0), some (xR 20 0 0), some (xR 26 0 0), some (xI i), some (xI k), some (xI v), x7, x8] [xI (N 20 0 0 5)] N
    refine xl_st hC hc hs (xs_iload dL_law_1783) ?_
    show XWW p l e room_1 s m #[Value.ref b] below meth c (cells + 1) (slots + 6) (lw_Z below #[Value.ref b] s) D G ρ 9 1785 [some (xR 40 0 0), some (xR 0 0 0), some (xR 20 0 0), some (xR 26 0 0), some (xI i), some (xI k), some (xI v), x7, x8] [xI k, xI (N 20 0 0 5)] N
    refine xl_st hC hc hs (xs_icmp_eq (t := 1790) dL_law_1785 (by decide)) ⟨⟨by rw [h5]; exact ⟨by omega, by omega⟩, ⟨by omega, by omega⟩⟩, fun _ => ?_, fun q => absurd h5 q⟩
    show XWW p l e room_1 s m #[Value.ref b] below meth c (cells + 1) (slots + 6) (lw_Z below #[Value.ref b] s) D G ρ 9 1790 [some (xR 40 0 0), some (xR 0 0 0), some (xR 20 0 0), some (xR 26 0 0), some (xI i), some (xI k), some (xI v), x7, x8] [] N
    refine xl_st hC hc hs (xs_iload dL_law_1790) ?_
    show XWW p l e room_1 s m #[Value.ref b] below meth c (cells + 1) (slots + 6) (lw_Z below #[Value.ref b] s) D G ρ 9 1792 [some (xR 40 0 0), some (xR 0 0 0), some (xR 20 0 0), some (xR 26 0 0), some (xI i), some (xI k), some (xI v), x7, x8] [xI k] N
    refine xl_st hC hc hs (xs_if_ne (t := 1807) dL_law_1792 (by decide)) ⟨⟨by omega, by omega⟩, fun _ => ?_, fun q => ?_⟩
    · show XWW p l e room_1 s m #[Value.ref b] below meth c (cells + 1) (slots + 6) (lw_Z below #[Value.ref b] s) D G ρ 9 1807 [some (xR 40 0 0), some (xR 0 0 0), some (xR 20 0 0), some (xR 26 0 0), some (xI i), some (xI k), some (xI v), x7, x8] [] N
      refine xl_st hC hc hs (xs_goto (t := 2181) dL_law_1807 (by decide)) ?_
      show XWW p l e room_1 s m #[Value.ref b] below meth c (cells + 1) (slots + 6) (lw_Z below #[Value.ref b] s) D G ρ 9 2181 [some (xR 40 0 0), some (xR 0 0 0), some (xR 20 0 0), some (xR 26 0 0), some (xI i), some (xI k), some (xI v), x7, x8] [] N
      exact next _ _ _ _ N hR
    · show XWW p l e room_1 s m #[Value.ref b] below meth c (cells + 1) (slots + 6) (lw_Z below #[Value.ref b] s) D G ρ 9 1795 [some (xR 40 0 0), some (xR 0 0 0), some (xR 20 0 0), some (xR 26 0 0), some (xI i), some (xI k), some (xI v), x7, x8] [] N
      refine xl_st hC hc hs (xs_aload_n (i := 3) dL_law_1795 rfl) ?_
      show XWW p l e room_1 s m #[Value.ref b] below meth c (cells + 1) (slots + 6) (lw_Z below #[Value.ref b] s) D G ρ 9 1796 [some (xR 40 0 0), some (xR 0 0 0), some (xR 20 0 0), some (xR 26 0 0), some (xI i), some (xI k), some (xI v), x7, x8] [xR 26 0 0] N
      refine xl_st hC hc hs (xs_iconst dL_law_1796) ?_
      show XWW p l e room_1 s m #[Value.ref b] below meth c (cells + 1) (slots + 6) (lw_Z below #[Value.ref b] s) D G ρ 9 1797 [some (xR 40 0 0), some (xR 0 0 0), some (xR 20 0 0), some (xR 26 0 0), some (xI i), some (xI k), some (xI v), x7, x8] [xI 0, xR 26 0 0] N
      refine xl_st hC hc hs (xs_lald dL_law_1797) ⟨⟨rfl, rfl, rfl, rfl⟩, ?_⟩
      show XWW p l e room_1 s m #[Value.ref b] below meth c (cells + 1) (slots + 6) (lw_Z below #[Value.ref b] s) D G ρ 9 1798 [some (xR 40 0 0), some (xR 0 0 0), some (xR 20 0 0), some (xR 26 0 0), some (xI i), some (xI k), some (xI v), x7, x8] [xJ (N 26 0 0 0)] N
      refine xl_st hC hc hs (xs_iload dL_law_1798) ?_
      show XWW p l e room_1 s m #[Value.ref b] below meth c (cells + 1) (slots + 6) (lw_Z below #[Value.ref b] s) D G ρ 9 1800 [some (xR 40 0 0), some (xR 0 0 0), some (xR 20 0 0), some (xR 26 0 0), some (xI i), some (xI k), some (xI v), x7, x8] [xI v, xJ (N 26 0 0 0)] N
      refine xl_st hC hc hs (xs_i2lw dL_law_1800) ?_
      show XWW p l e room_1 s m #[Value.ref b] below meth c (cells + 1) (slots + 6) (lw_Z below #[Value.ref b] s) D G ρ 9 1801 [some (xR 40 0 0), some (xR 0 0 0), some (xR 20 0 0), some (xR 26 0 0), some (xI i), some (xI k), some (xI v), x7, x8] [xJ (w32 v), xJ (N 26 0 0 0)] N
      refine xl_st hC hc hs (xs_lcmp dL_law_1801) ⟨h26 q, ?_⟩
      show XWW p l e room_1 s m #[Value.ref b] below meth c (cells + 1) (slots + 6) (lw_Z below #[Value.ref b] s) D G ρ 9 1802 [some (xR 40 0 0), some (xR 0 0 0), some (xR 20 0 0), some (xR 26 0 0), some (xI i), some (xI k), some (xI v), x7, x8] [xI 0] N
      refine xl_st hC hc hs (xs_if_eq (t := 1807) dL_law_1802 (by decide)) ⟨x_r0, fun _ => ?_, fun q => absurd rfl q⟩
      show XWW p l e room_1 s m #[Value.ref b] below meth c (cells + 1) (slots + 6) (lw_Z below #[Value.ref b] s) D G ρ 9 1807 [some (xR 40 0 0), some (xR 0 0 0), some (xR 20 0 0), some (xR 26 0 0), some (xI i), some (xI k), some (xI v), x7, x8] [] N
      refine xl_st hC hc hs (xs_goto (t := 2181) dL_law_1807 (by decide)) ?_
      show XWW p l e room_1 s m #[Value.ref b] below meth c (cells + 1) (slots + 6) (lw_Z below #[Value.ref b] s) D G ρ 9 2181 [some (xR 40 0 0), some (xR 0 0 0), some (xR 20 0 0), some (xR 26 0 0), some (xI i), some (xI k), some (xI v), x7, x8] [] N
      exact next _ _ _ _ N hR
  show XWW p l e room_1 s m #[Value.ref b] below meth c cells slots (lw_Z below #[Value.ref b] s) D G ρ 9 1754 [some (xR 40 0 0), some (xR 0 0 0), some (xR 20 0 0), some (xR 26 0 0), some (xI i), x5, x6, x7, x8] [] M
  refine xl_st hC c0 s0 (xs_aload_n (i := 1) dL_law_1754 rfl) ?_
  show XWW p l e room_1 s m #[Value.ref b] below meth c cells slots (lw_Z below #[Value.ref b] s) D G ρ 9 1755 [some (xR 40 0 0), some (xR 0 0 0), some (xR 20 0 0), some (xR 26 0 0), some (xI i), x5, x6, x7, x8] [xR 0 0 0] M
  refine xl_st hC c0 s0 (xs_aload_n (i := 0) dL_law_1755 rfl) ?_
  show XWW p l e room_1 s m #[Value.ref b] below meth c cells slots (lw_Z below #[Value.ref b] s) D G ρ 9 1756 [some (xR 40 0 0), some (xR 0 0 0), some (xR 20 0 0), some (xR 26 0 0), some (xI i), x5, x6, x7, x8] [xR 40 0 0, xR 0 0 0] M
  refine xl_st hC c0 s0 (xs_iload dL_law_1756) ?_
  show XWW p l e room_1 s m #[Value.ref b] below meth c cells slots (lw_Z below #[Value.ref b] s) D G ρ 9 1758 [some (xR 40 0 0), some (xR 0 0 0), some (xR 20 0 0), some (xR 26 0 0), some (xI i), x5, x6, x7, x8] [xI i, xR 40 0 0, xR 0 0 0] M
  refine xl_st hC c0 s0 (xs_iconst dL_law_1758) ?_
  show XWW p l e room_1 s m #[Value.ref b] below meth c cells slots (lw_Z below #[Value.ref b] s) D G ρ 9 1759 [some (xR 40 0 0), some (xR 0 0 0), some (xR 20 0 0), some (xR 26 0 0), some (xI i), x5, x6, x7, x8] [xI 1, xI i, xR 40 0 0, xR 0 0 0] M
  refine xl_st hC c0 s0 (xs_iadd dL_law_1759) ?_
  show XWW p l e room_1 s m #[Value.ref b] below meth c cells slots (lw_Z below #[Value.ref b] s) D G ρ 9 1760 [some (xR 40 0 0), some (xR 0 0 0), some (xR 20 0 0), some (xR 26 0 0), some (xI i), x5, x6, x7, x8] [xI (i + 1), xR 40 0 0, xR 0 0 0] M
  refine xl_sld hC hX (by omega) (by omega) dL_law_1760 ?_
  show XWW p l e room_1 s m #[Value.ref b] below meth c cells slots (lw_Z below #[Value.ref b] s) D G ρ 9 1761 [some (xR 40 0 0), some (xR 0 0 0), some (xR 20 0 0), some (xR 26 0 0), some (xI i), x5, x6, x7, x8] [xI (SLx xs (i + 1)), xR 0 0 0] M
  refine xl_st hC c0 s0 (xs_aload_n (i := 3) dL_law_1761 rfl) ?_
  show XWW p l e room_1 s m #[Value.ref b] below meth c cells slots (lw_Z below #[Value.ref b] s) D G ρ 9 1762 [some (xR 40 0 0), some (xR 0 0 0), some (xR 20 0 0), some (xR 26 0 0), some (xI i), x5, x6, x7, x8] [xR 26 0 0, xI (SLx xs (i + 1)), xR 0 0 0] M
  refine xl_call (n := 3) (As := [xR 0 0 0, xI (SLx xs (i + 1)), xR 26 0 0]) (st := []) kL_setting ⟨⟨rfl, rfl, by decide, by decide⟩, ⟨by decide, by decide, by decide +kernel⟩, tw_1009, tw_1010, tw_0, twL_setting⟩ dL_law_1762 hC hl hE hc hs rfl (by decide) ⟨(SLx xs (i + 1)), rfl, lc_setting hZ h (SL_in _ _)⟩ (fun rv N1 hq => ?_)
  obtain ⟨k, rfl, ⟨k0, k3⟩, href⟩ := hq
  show XWW p l e room_1 s m #[Value.ref b] below meth c (cells + 1) (slots + 6) (lw_Z below #[Value.ref b] s) D G ρ 9 1765 [some (xR 40 0 0), some (xR 0 0 0), some (xR 20 0 0), some (xR 26 0 0), some (xI i), x5, x6, x7, x8] [xI k] N1
  refine xl_st hC hc hs (xs_istore dL_law_1765 (by decide)) ?_
  show XWW p l e room_1 s m #[Value.ref b] below meth c (cells + 1) (slots + 6) (lw_Z below #[Value.ref b] s) D G ρ 9 1767 [some (xR 40 0 0), some (xR 0 0 0), some (xR 20 0 0), some (xR 26 0 0), some (xI i), some (xI k), x6, x7, x8] [] N1
  refine xl_st hC hc hs (xs_aload_n (i := 2) dL_law_1767 rfl) ?_
  show XWW p l e room_1 s m #[Value.ref b] below meth c (cells + 1) (slots + 6) (lw_Z below #[Value.ref b] s) D G ρ 9 1768 [some (xR 40 0 0), some (xR 0 0 0), some (xR 20 0 0), some (xR 26 0 0), some (xI i), some (xI k), x6, x7, x8] [xR 20 0 0] N1
  refine xl_st hC hc hs (xs_aload_n (i := 0) dL_law_1768 rfl) ?_
  show XWW p l e room_1 s m #[Value.ref b] below meth c (cells + 1) (slots + 6) (lw_Z below #[Value.ref b] s) D G ρ 9 1769 [some (xR 40 0 0), some (xR 0 0 0), some (xR 20 0 0), some (xR 26 0 0), some (xI i), some (xI k), x6, x7, x8] [xR 40 0 0, xR 20 0 0] N1
  refine xl_st hC hc hs (xs_iload dL_law_1769) ?_
  show XWW p l e room_1 s m #[Value.ref b] below meth c (cells + 1) (slots + 6) (lw_Z below #[Value.ref b] s) D G ρ 9 1771 [some (xR 40 0 0), some (xR 0 0 0), some (xR 20 0 0), some (xR 26 0 0), some (xI i), some (xI k), x6, x7, x8] [xI i, xR 40 0 0, xR 20 0 0] N1
  refine xl_st hC hc hs (xs_iconst dL_law_1771) ?_
  show XWW p l e room_1 s m #[Value.ref b] below meth c (cells + 1) (slots + 6) (lw_Z below #[Value.ref b] s) D G ρ 9 1772 [some (xR 40 0 0), some (xR 0 0 0), some (xR 20 0 0), some (xR 26 0 0), some (xI i), some (xI k), x6, x7, x8] [xI 1, xI i, xR 40 0 0, xR 20 0 0] N1
  refine xl_st hC hc hs (xs_iadd dL_law_1772) ?_
  show XWW p l e room_1 s m #[Value.ref b] below meth c (cells + 1) (slots + 6) (lw_Z below #[Value.ref b] s) D G ρ 9 1773 [some (xR 40 0 0), some (xR 0 0 0), some (xR 20 0 0), some (xR 26 0 0), some (xI i), some (xI k), x6, x7, x8] [xI (i + 1), xR 40 0 0, xR 20 0 0] N1
  refine xl_sld hC hX (by omega) (by omega) dL_law_1773 ?_
  show XWW p l e room_1 s m #[Value.ref b] below meth c (cells + 1) (slots + 6) (lw_Z below #[Value.ref b] s) D G ρ 9 1774 [some (xR 40 0 0), some (xR 0 0 0), some (xR 20 0 0), some (xR 26 0 0), some (xI i), some (xI k), x6, x7, x8] [xI (SLx xs (i + 1)), xR 20 0 0] N1
  refine xl_st hC hc hs (xs_V1 kX8_setting ⟨⟨rfl, rfl, by decide, by decide⟩, ⟨by decide, by decide, by decide +kernel⟩, ⟨tw_1412, tw_1413, tw_1414, tw_9, tw_1415⟩, 8, TX8, _, rfl, fun G ρ f i k => ⟨_, rfl⟩⟩ dL_law_1774) ⟨⟨rfl, xvz_20, by decide⟩, href⟩
set_option maxRecDepth 100000 in
theorem cs_ifPassed {p : Program} {l : Launch} {e : Env} {s : State} {m : MethodId} {below : List Frame} {meth : Method} {c : Code} {D : va_G} {G : Nat → ClassId} {ρ : XOb → Nat} {b Ln : Nat} {xs : Nat → Int32} {cells slots : Nat} (hC : XCX p room_1 s m #[Value.ref b] c 0 0 D G ρ cL_law 9 RL (Cond.initialized RL :: xT)) (hl : l.stackTraces = false) (hE : (XEw s ∧ XEs s ∧ XEz (XA ρ s.heap.size) s s.heap) ∧ XEc s) (hX : XSc s ρ b Ln xs) (hc : cells + 1 ≤ 601024) (hs : slots + 6 ≤ 7293034) {i : Int} (h0 : 0 ≤ i) (h6 : i + 6 ≤ Ln) {M : XM} (h : RR M) {x5 x6 x7 x8 : Option XV} (next : ∀ (y5 y6 y7 y8 : Option XV) (N : XM), RR N → XWW p l e room_1 s m #[Value.ref b] below meth c (cells + 1) (slots + 6) (lw_Z below #[Value.ref b] s) D G ρ 9 2181 [some (xR 40 0 0), some (xR 0 0 0), some (xR 20 0 0), some (xR 26 0 0), some (xI i), y5, y6, y7, y8] [] N) : XWW p l e room_1 s m #[Value.ref b] below meth c cells slots (lw_Z below #[Value.ref b] s) D G ρ 9 1810 [some (xR 40 0 0), some (xR 0 0 0), some (xR 20 0 0), some (xR 26 0 0), some (xI i), x5, x6, x7, x8] [] M := by
  have c0 : cells ≤ room_1.cells := Nat.le_trans (Nat.le_succ _) hc
  have s0 : slots ≤ room_1.slots := Nat.le_trans (Nat.le_add_right _ 6) hs
  have hZ : ∀ (k : Int) (rv : List XV) (N : XM), 0 ≤ k → k ≤ 3 → LE k rv N → (fun (k : Int) (rv : List XV) (N : XM) => XWW p l e room_1 s m #[Value.ref b] below meth c (cells + 1) (slots + 6) (lw_Z below #[Value.ref b] s) D G ρ 9 1845 [some (xR 40 0 0), some (xR 0 0 0), some (xR 20 0 0), some (xR 26 0 0), some (xI i), some (xI k), x6, x7, x8] (rv ++ []) N) k rv N := by
    intro k rv N k0 k3 hLE
    obtain ⟨v, rfl, hR, h5, h26⟩ := hLE
    show XWW p l e room_1 s m #[Value.ref b] below meth c (cells + 1) (slots + 6) (lw_Z below #[Value.ref b] s) D G ρ 9 1845 [some (xR 40 0 0), some (xR 0 0 0), some (xR 20 0 0), some (xR 26 0 0), some (xI i), some (xI k), x6, x7, x8] [xI v] N
    refine xl_st hC hc hs (xs_istore dL_law_1845 (by decide)) ?_
    show XWW p l e room_1 s m #[Value.ref b] below meth c (cells + 1) (slots + 6) (lw_Z below #[Value.ref b] s) D G ρ 9 1847 [some (xR 40 0 0), some (xR 0 0 0), some (xR 20 0 0), some (xR 26 0 0), some (xI i), some (xI k), some (xI v), x7, x8] [] N
    refine xl_st hC hc hs (xs_aload_n (i := 2) dL_law_1847 rfl) ?_
    show XWW p l e room_1 s m #[Value.ref b] below meth c (cells + 1) (slots + 6) (lw_Z below #[Value.ref b] s) D G ρ 9 1848 [some (xR 40 0 0), some (xR 0 0 0), some (xR 20 0 0), some (xR 26 0 0), some (xI i), some (xI k), some (xI v), x7, x8] [xR 20 0 0] N
    refine xl_st hC hc hs (xs_V0 kX8_thrown ⟨⟨rfl, rfl, by decide, by decide⟩, ⟨by decide, by decide, by decide +kernel⟩, ⟨tw_1091, tw_1092, tw_1093, tw_9, tw_1094⟩, 8, TX8, _, rfl, fun G ρ f i k => ⟨_, rfl⟩⟩ dL_law_1848) ⟨⟨rfl, xvz_20, by decide⟩, ⟨rfl, xvz_20⟩, ?_⟩
    show XWW p l e room_1 s m #[Value.ref b] below meth c (cells + 1) (slots + 6) (lw_Z below #[Value.ref b] s) D G ρ 9 1851 [some (xR 40 0 0), some (xR 0 0 0), some (xR 20 0 0), some (xR 26 0 0), some (xI i), some (xI k), some (xI v), x7, x8] [xI (N 20 0 0 5)] N
    refine xl_st hC hc hs (xs_iload dL_law_1851) ?_
    show XWW p l e room_1 s m #[Value.ref b] below meth c (cells + 1) (slots + 6) (lw_Z below #[Value.ref b] s) D G ρ 9 1853 [some (xR 40 0 0), some (xR 0 0 0), some (xR 20 0 0), some (xR 26 0 0), some (xI i), some (xI k), some (xI v), x7, x8] [xI k, xI (N 20 0 0 5)] N
    refine xl_st hC hc hs (xs_icmp_eq (t := 1858) dL_law_1853 (by decide)) ⟨⟨by rw [h5]; exact ⟨by omega, by omega⟩, ⟨by omega, by omega⟩⟩, fun _ => ?_, fun q => absurd h5 q⟩
    show XWW p l e room_1 s m #[Value.ref b] below meth c (cells + 1) (slots + 6) (lw_Z below #[Value.ref b] s) D G ρ 9 1858 [some (xR 40 0 0), some (xR 0 0 0), some (xR 20 0 0), some (xR 26 0 0), some (xI i), some (xI k), some (xI v), x7, x8] [] N
    refine xl_st hC hc hs (xs_iload dL_law_1858) ?_
    show XWW p l e room_1 s m #[Value.ref b] below meth c (cells + 1) (slots + 6) (lw_Z below #[Value.ref b] s) D G ρ 9 1860 [some (xR 40 0 0), some (xR 0 0 0), some (xR 20 0 0), some (xR 26 0 0), some (xI i), some (xI k), some (xI v), x7, x8] [xI k] N
    refine xl_st hC hc hs (xs_if_ne (t := 1875) dL_law_1860 (by decide)) ⟨⟨by omega, by omega⟩, fun _ => ?_, fun q => ?_⟩
    · show XWW p l e room_1 s m #[Value.ref b] below meth c (cells + 1) (slots + 6) (lw_Z below #[Value.ref b] s) D G ρ 9 1875 [some (xR 40 0 0), some (xR 0 0 0), some (xR 20 0 0), some (xR 26 0 0), some (xI i), some (xI k), some (xI v), x7, x8] [] N
      refine xl_st hC hc hs (xs_goto (t := 2181) dL_law_1875 (by decide)) ?_
      show XWW p l e room_1 s m #[Value.ref b] below meth c (cells + 1) (slots + 6) (lw_Z below #[Value.ref b] s) D G ρ 9 2181 [some (xR 40 0 0), some (xR 0 0 0), some (xR 20 0 0), some (xR 26 0 0), some (xI i), some (xI k), some (xI v), x7, x8] [] N
      exact next _ _ _ _ N hR
    · show XWW p l e room_1 s m #[Value.ref b] below meth c (cells + 1) (slots + 6) (lw_Z below #[Value.ref b] s) D G ρ 9 1863 [some (xR 40 0 0), some (xR 0 0 0), some (xR 20 0 0), some (xR 26 0 0), some (xI i), some (xI k), some (xI v), x7, x8] [] N
      refine xl_st hC hc hs (xs_aload_n (i := 3) dL_law_1863 rfl) ?_
      show XWW p l e room_1 s m #[Value.ref b] below meth c (cells + 1) (slots + 6) (lw_Z below #[Value.ref b] s) D G ρ 9 1864 [some (xR 40 0 0), some (xR 0 0 0), some (xR 20 0 0), some (xR 26 0 0), some (xI i), some (xI k), some (xI v), x7, x8] [xR 26 0 0] N
      refine xl_st hC hc hs (xs_iconst dL_law_1864) ?_
      show XWW p l e room_1 s m #[Value.ref b] below meth c (cells + 1) (slots + 6) (lw_Z below #[Value.ref b] s) D G ρ 9 1865 [some (xR 40 0 0), some (xR 0 0 0), some (xR 20 0 0), some (xR 26 0 0), some (xI i), some (xI k), some (xI v), x7, x8] [xI 0, xR 26 0 0] N
      refine xl_st hC hc hs (xs_lald dL_law_1865) ⟨⟨rfl, rfl, rfl, rfl⟩, ?_⟩
      show XWW p l e room_1 s m #[Value.ref b] below meth c (cells + 1) (slots + 6) (lw_Z below #[Value.ref b] s) D G ρ 9 1866 [some (xR 40 0 0), some (xR 0 0 0), some (xR 20 0 0), some (xR 26 0 0), some (xI i), some (xI k), some (xI v), x7, x8] [xJ (N 26 0 0 0)] N
      refine xl_st hC hc hs (xs_iload dL_law_1866) ?_
      show XWW p l e room_1 s m #[Value.ref b] below meth c (cells + 1) (slots + 6) (lw_Z below #[Value.ref b] s) D G ρ 9 1868 [some (xR 40 0 0), some (xR 0 0 0), some (xR 20 0 0), some (xR 26 0 0), some (xI i), some (xI k), some (xI v), x7, x8] [xI v, xJ (N 26 0 0 0)] N
      refine xl_st hC hc hs (xs_i2lw dL_law_1868) ?_
      show XWW p l e room_1 s m #[Value.ref b] below meth c (cells + 1) (slots + 6) (lw_Z below #[Value.ref b] s) D G ρ 9 1869 [some (xR 40 0 0), some (xR 0 0 0), some (xR 20 0 0), some (xR 26 0 0), some (xI i), some (xI k), some (xI v), x7, x8] [xJ (w32 v), xJ (N 26 0 0 0)] N
      refine xl_st hC hc hs (xs_lcmp dL_law_1869) ⟨h26 q, ?_⟩
      show XWW p l e room_1 s m #[Value.ref b] below meth c (cells + 1) (slots + 6) (lw_Z below #[Value.ref b] s) D G ρ 9 1870 [some (xR 40 0 0), some (xR 0 0 0), some (xR 20 0 0), some (xR 26 0 0), some (xI i), some (xI k), some (xI v), x7, x8] [xI 0] N
      refine xl_st hC hc hs (xs_if_eq (t := 1875) dL_law_1870 (by decide)) ⟨x_r0, fun _ => ?_, fun q => absurd rfl q⟩
      show XWW p l e room_1 s m #[Value.ref b] below meth c (cells + 1) (slots + 6) (lw_Z below #[Value.ref b] s) D G ρ 9 1875 [some (xR 40 0 0), some (xR 0 0 0), some (xR 20 0 0), some (xR 26 0 0), some (xI i), some (xI k), some (xI v), x7, x8] [] N
      refine xl_st hC hc hs (xs_goto (t := 2181) dL_law_1875 (by decide)) ?_
      show XWW p l e room_1 s m #[Value.ref b] below meth c (cells + 1) (slots + 6) (lw_Z below #[Value.ref b] s) D G ρ 9 2181 [some (xR 40 0 0), some (xR 0 0 0), some (xR 20 0 0), some (xR 26 0 0), some (xI i), some (xI k), some (xI v), x7, x8] [] N
      exact next _ _ _ _ N hR
  show XWW p l e room_1 s m #[Value.ref b] below meth c cells slots (lw_Z below #[Value.ref b] s) D G ρ 9 1810 [some (xR 40 0 0), some (xR 0 0 0), some (xR 20 0 0), some (xR 26 0 0), some (xI i), x5, x6, x7, x8] [] M
  refine xl_st hC c0 s0 (xs_aload_n (i := 1) dL_law_1810 rfl) ?_
  show XWW p l e room_1 s m #[Value.ref b] below meth c cells slots (lw_Z below #[Value.ref b] s) D G ρ 9 1811 [some (xR 40 0 0), some (xR 0 0 0), some (xR 20 0 0), some (xR 26 0 0), some (xI i), x5, x6, x7, x8] [xR 0 0 0] M
  refine xl_st hC c0 s0 (xs_aload_n (i := 0) dL_law_1811 rfl) ?_
  show XWW p l e room_1 s m #[Value.ref b] below meth c cells slots (lw_Z below #[Value.ref b] s) D G ρ 9 1812 [some (xR 40 0 0), some (xR 0 0 0), some (xR 20 0 0), some (xR 26 0 0), some (xI i), x5, x6, x7, x8] [xR 40 0 0, xR 0 0 0] M
  refine xl_st hC c0 s0 (xs_iload dL_law_1812) ?_
  show XWW p l e room_1 s m #[Value.ref b] below meth c cells slots (lw_Z below #[Value.ref b] s) D G ρ 9 1814 [some (xR 40 0 0), some (xR 0 0 0), some (xR 20 0 0), some (xR 26 0 0), some (xI i), x5, x6, x7, x8] [xI i, xR 40 0 0, xR 0 0 0] M
  refine xl_st hC c0 s0 (xs_iconst dL_law_1814) ?_
  show XWW p l e room_1 s m #[Value.ref b] below meth c cells slots (lw_Z below #[Value.ref b] s) D G ρ 9 1815 [some (xR 40 0 0), some (xR 0 0 0), some (xR 20 0 0), some (xR 26 0 0), some (xI i), x5, x6, x7, x8] [xI 1, xI i, xR 40 0 0, xR 0 0 0] M
  refine xl_st hC c0 s0 (xs_iadd dL_law_1815) ?_
  show XWW p l e room_1 s m #[Value.ref b] below meth c cells slots (lw_Z below #[Value.ref b] s) D G ρ 9 1816 [some (xR 40 0 0), some (xR 0 0 0), some (xR 20 0 0), some (xR 26 0 0), some (xI i), x5, x6, x7, x8] [xI (i + 1), xR 40 0 0, xR 0 0 0] M
  refine xl_sld hC hX (by omega) (by omega) dL_law_1816 ?_
  show XWW p l e room_1 s m #[Value.ref b] below meth c cells slots (lw_Z below #[Value.ref b] s) D G ρ 9 1817 [some (xR 40 0 0), some (xR 0 0 0), some (xR 20 0 0), some (xR 26 0 0), some (xI i), x5, x6, x7, x8] [xI (SLx xs (i + 1)), xR 0 0 0] M
  refine xl_st hC c0 s0 (xs_aload_n (i := 0) dL_law_1817 rfl) ?_
  show XWW p l e room_1 s m #[Value.ref b] below meth c cells slots (lw_Z below #[Value.ref b] s) D G ρ 9 1818 [some (xR 40 0 0), some (xR 0 0 0), some (xR 20 0 0), some (xR 26 0 0), some (xI i), x5, x6, x7, x8] [xR 40 0 0, xI (SLx xs (i + 1)), xR 0 0 0] M
  refine xl_st hC c0 s0 (xs_iload dL_law_1818) ?_
  show XWW p l e room_1 s m #[Value.ref b] below meth c cells slots (lw_Z below #[Value.ref b] s) D G ρ 9 1820 [some (xR 40 0 0), some (xR 0 0 0), some (xR 20 0 0), some (xR 26 0 0), some (xI i), x5, x6, x7, x8] [xI i, xR 40 0 0, xI (SLx xs (i + 1)), xR 0 0 0] M
  refine xl_st hC c0 s0 (xs_iconst dL_law_1820) ?_
  show XWW p l e room_1 s m #[Value.ref b] below meth c cells slots (lw_Z below #[Value.ref b] s) D G ρ 9 1821 [some (xR 40 0 0), some (xR 0 0 0), some (xR 20 0 0), some (xR 26 0 0), some (xI i), x5, x6, x7, x8] [xI 2, xI i, xR 40 0 0, xI (SLx xs (i + 1)), xR 0 0 0] M
  refine xl_st hC c0 s0 (xs_iadd dL_law_1821) ?_
  show XWW p l e room_1 s m #[Value.ref b] below meth c cells slots (lw_Z below #[Value.ref b] s) D G ρ 9 1822 [some (xR 40 0 0), some (xR 0 0 0), some (xR 20 0 0), some (xR 26 0 0), some (xI i), x5, x6, x7, x8] [xI (i + 2), xR 40 0 0, xI (SLx xs (i + 1)), xR 0 0 0] M
  refine xl_sld hC hX (by omega) (by omega) dL_law_1822 ?_
  show XWW p l e room_1 s m #[Value.ref b] below meth c cells slots (lw_Z below #[Value.ref b] s) D G ρ 9 1823 [some (xR 40 0 0), some (xR 0 0 0), some (xR 20 0 0), some (xR 26 0 0), some (xI i), x5, x6, x7, x8] [xI (SLx xs (i + 2)), xI (SLx xs (i + 1)), xR 0 0 0] M
  refine xl_st hC c0 s0 (xs_aload_n (i := 3) dL_law_1823 rfl) ?_
  show XWW p l e room_1 s m #[Value.ref b] below meth c cells slots (lw_Z below #[Value.ref b] s) D G ρ 9 1824 [some (xR 40 0 0), some (xR 0 0 0), some (xR 20 0 0), some (xR 26 0 0), some (xI i), x5, x6, x7, x8] [xR 26 0 0, xI (SLx xs (i + 2)), xI (SLx xs (i + 1)), xR 0 0 0] M
  refine xl_call (n := 4) (As := [xR 0 0 0, xI (SLx xs (i + 1)), xI (SLx xs (i + 2)), xR 26 0 0]) (st := []) kL_ifPassed ⟨⟨rfl, rfl, by decide, by decide⟩, ⟨by decide, by decide, by decide +kernel⟩, tw_1016, tw_1017, tw_0, twL_ifPassed⟩ dL_law_1824 hC hl hE hc hs rfl (by decide) ⟨(SLx xs (i + 1)), (SLx xs (i + 2)), rfl, lc_ifPassed hZ h (SL_in _ _) (SL_in _ _)⟩ (fun rv N1 hq => ?_)
  obtain ⟨k, rfl, ⟨k0, k3⟩, href⟩ := hq
  show XWW p l e room_1 s m #[Value.ref b] below meth c (cells + 1) (slots + 6) (lw_Z below #[Value.ref b] s) D G ρ 9 1827 [some (xR 40 0 0), some (xR 0 0 0), some (xR 20 0 0), some (xR 26 0 0), some (xI i), x5, x6, x7, x8] [xI k] N1
  refine xl_st hC hc hs (xs_istore dL_law_1827 (by decide)) ?_
  show XWW p l e room_1 s m #[Value.ref b] below meth c (cells + 1) (slots + 6) (lw_Z below #[Value.ref b] s) D G ρ 9 1829 [some (xR 40 0 0), some (xR 0 0 0), some (xR 20 0 0), some (xR 26 0 0), some (xI i), some (xI k), x6, x7, x8] [] N1
  refine xl_st hC hc hs (xs_aload_n (i := 2) dL_law_1829 rfl) ?_
  show XWW p l e room_1 s m #[Value.ref b] below meth c (cells + 1) (slots + 6) (lw_Z below #[Value.ref b] s) D G ρ 9 1830 [some (xR 40 0 0), some (xR 0 0 0), some (xR 20 0 0), some (xR 26 0 0), some (xI i), some (xI k), x6, x7, x8] [xR 20 0 0] N1
  refine xl_st hC hc hs (xs_aload_n (i := 0) dL_law_1830 rfl) ?_
  show XWW p l e room_1 s m #[Value.ref b] below meth c (cells + 1) (slots + 6) (lw_Z below #[Value.ref b] s) D G ρ 9 1831 [some (xR 40 0 0), some (xR 0 0 0), some (xR 20 0 0), some (xR 26 0 0), some (xI i), some (xI k), x6, x7, x8] [xR 40 0 0, xR 20 0 0] N1
  refine xl_st hC hc hs (xs_iload dL_law_1831) ?_
  show XWW p l e room_1 s m #[Value.ref b] below meth c (cells + 1) (slots + 6) (lw_Z below #[Value.ref b] s) D G ρ 9 1833 [some (xR 40 0 0), some (xR 0 0 0), some (xR 20 0 0), some (xR 26 0 0), some (xI i), some (xI k), x6, x7, x8] [xI i, xR 40 0 0, xR 20 0 0] N1
  refine xl_st hC hc hs (xs_iconst dL_law_1833) ?_
  show XWW p l e room_1 s m #[Value.ref b] below meth c (cells + 1) (slots + 6) (lw_Z below #[Value.ref b] s) D G ρ 9 1834 [some (xR 40 0 0), some (xR 0 0 0), some (xR 20 0 0), some (xR 26 0 0), some (xI i), some (xI k), x6, x7, x8] [xI 1, xI i, xR 40 0 0, xR 20 0 0] N1
  refine xl_st hC hc hs (xs_iadd dL_law_1834) ?_
  show XWW p l e room_1 s m #[Value.ref b] below meth c (cells + 1) (slots + 6) (lw_Z below #[Value.ref b] s) D G ρ 9 1835 [some (xR 40 0 0), some (xR 0 0 0), some (xR 20 0 0), some (xR 26 0 0), some (xI i), some (xI k), x6, x7, x8] [xI (i + 1), xR 40 0 0, xR 20 0 0] N1
  refine xl_sld hC hX (by omega) (by omega) dL_law_1835 ?_
  show XWW p l e room_1 s m #[Value.ref b] below meth c (cells + 1) (slots + 6) (lw_Z below #[Value.ref b] s) D G ρ 9 1836 [some (xR 40 0 0), some (xR 0 0 0), some (xR 20 0 0), some (xR 26 0 0), some (xI i), some (xI k), x6, x7, x8] [xI (SLx xs (i + 1)), xR 20 0 0] N1
  refine xl_st hC hc hs (xs_aload_n (i := 0) dL_law_1836 rfl) ?_
  show XWW p l e room_1 s m #[Value.ref b] below meth c (cells + 1) (slots + 6) (lw_Z below #[Value.ref b] s) D G ρ 9 1837 [some (xR 40 0 0), some (xR 0 0 0), some (xR 20 0 0), some (xR 26 0 0), some (xI i), some (xI k), x6, x7, x8] [xR 40 0 0, xI (SLx xs (i + 1)), xR 20 0 0] N1
  refine xl_st hC hc hs (xs_iload dL_law_1837) ?_
  show XWW p l e room_1 s m #[Value.ref b] below meth c (cells + 1) (slots + 6) (lw_Z below #[Value.ref b] s) D G ρ 9 1839 [some (xR 40 0 0), some (xR 0 0 0), some (xR 20 0 0), some (xR 26 0 0), some (xI i), some (xI k), x6, x7, x8] [xI i, xR 40 0 0, xI (SLx xs (i + 1)), xR 20 0 0] N1
  refine xl_st hC hc hs (xs_iconst dL_law_1839) ?_
  show XWW p l e room_1 s m #[Value.ref b] below meth c (cells + 1) (slots + 6) (lw_Z below #[Value.ref b] s) D G ρ 9 1840 [some (xR 40 0 0), some (xR 0 0 0), some (xR 20 0 0), some (xR 26 0 0), some (xI i), some (xI k), x6, x7, x8] [xI 2, xI i, xR 40 0 0, xI (SLx xs (i + 1)), xR 20 0 0] N1
  refine xl_st hC hc hs (xs_iadd dL_law_1840) ?_
  show XWW p l e room_1 s m #[Value.ref b] below meth c (cells + 1) (slots + 6) (lw_Z below #[Value.ref b] s) D G ρ 9 1841 [some (xR 40 0 0), some (xR 0 0 0), some (xR 20 0 0), some (xR 26 0 0), some (xI i), some (xI k), x6, x7, x8] [xI (i + 2), xR 40 0 0, xI (SLx xs (i + 1)), xR 20 0 0] N1
  refine xl_sld hC hX (by omega) (by omega) dL_law_1841 ?_
  show XWW p l e room_1 s m #[Value.ref b] below meth c (cells + 1) (slots + 6) (lw_Z below #[Value.ref b] s) D G ρ 9 1842 [some (xR 40 0 0), some (xR 0 0 0), some (xR 20 0 0), some (xR 26 0 0), some (xI i), some (xI k), x6, x7, x8] [xI (SLx xs (i + 2)), xI (SLx xs (i + 1)), xR 20 0 0] N1
  refine xl_st hC hc hs (xs_V2 kX8_ifPassed ⟨⟨rfl, rfl, by decide, by decide⟩, ⟨by decide, by decide, by decide +kernel⟩, ⟨tw_1416, tw_1417, tw_1418, tw_9, tw_1419⟩, 8, TX8, _, rfl, fun G ρ f i k => ⟨_, rfl⟩⟩ dL_law_1842) ⟨⟨rfl, xvz_20, by decide⟩, href⟩
set_option maxRecDepth 100000 in
theorem cs_callsIn {p : Program} {l : Launch} {e : Env} {s : State} {m : MethodId} {below : List Frame} {meth : Method} {c : Code} {D : va_G} {G : Nat → ClassId} {ρ : XOb → Nat} {b Ln : Nat} {xs : Nat → Int32} {cells slots : Nat} (hC : XCX p room_1 s m #[Value.ref b] c 0 0 D G ρ cL_law 9 RL (Cond.initialized RL :: xT)) (hl : l.stackTraces = false) (hE : (XEw s ∧ XEs s ∧ XEz (XA ρ s.heap.size) s s.heap) ∧ XEc s) (hX : XSc s ρ b Ln xs) (hc : cells + 1 ≤ 601024) (hs : slots + 6 ≤ 7293034) {i : Int} (h0 : 0 ≤ i) (h6 : i + 6 ≤ Ln) {M : XM} (h : RR M) {x5 x6 x7 x8 : Option XV} (next : ∀ (y5 y6 y7 y8 : Option XV) (N : XM), RR N → XWW p l e room_1 s m #[Value.ref b] below meth c (cells + 1) (slots + 6) (lw_Z below #[Value.ref b] s) D G ρ 9 2181 [some (xR 40 0 0), some (xR 0 0 0), some (xR 20 0 0), some (xR 26 0 0), some (xI i), y5, y6, y7, y8] [] N) : XWW p l e room_1 s m #[Value.ref b] below meth c cells slots (lw_Z below #[Value.ref b] s) D G ρ 9 1878 [some (xR 40 0 0), some (xR 0 0 0), some (xR 20 0 0), some (xR 26 0 0), some (xI i), x5, x6, x7, x8] [] M := by
  have c0 : cells ≤ room_1.cells := Nat.le_trans (Nat.le_succ _) hc
  have s0 : slots ≤ room_1.slots := Nat.le_trans (Nat.le_add_right _ 6) hs
  have hZ : ∀ (k : Int) (rv : List XV) (N : XM), 0 ≤ k → k ≤ 3 → LE k rv N → (fun (k : Int) (rv : List XV) (N : XM) => XWW p l e room_1 s m #[Value.ref b] below meth c (cells + 1) (slots + 6) (lw_Z below #[Value.ref b] s) D G ρ 9 1913 [some (xR 40 0 0), some (xR 0 0 0), some (xR 20 0 0), some (xR 26 0 0), some (xI i), some (xI k), x6, x7, x8] (rv ++ []) N) k rv N := by
    intro k rv N k0 k3 hLE
    obtain ⟨v, rfl, hR, h5, h26⟩ := hLE
    show XWW p l e room_1 s m #[Value.ref b] below meth c (cells + 1) (slots + 6) (lw_Z below #[Value.ref b] s) D G ρ 9 1913 [some (xR 40 0 0), some (xR 0 0 0), some (xR 20 0 0), some (xR 26 0 0), some (xI i), some (xI k), x6, x7, x8] [xI v] N
    refine xl_st hC hc hs (xs_istore dL_law_1913 (by decide)) ?_
    show XWW p l e room_1 s m #[Value.ref b] below meth c (cells + 1) (slots + 6) (lw_Z below #[Value.ref b] s) D G ρ 9 1915 [some (xR 40 0 0), some (xR 0 0 0), some (xR 20 0 0), some (xR 26 0 0), some (xI i), some (xI k), some (xI v), x7, x8] [] N
    refine xl_st hC hc hs (xs_aload_n (i := 2) dL_law_1915 rfl) ?_
    show XWW p l e room_1 s m #[Value.ref b] below meth c (cells + 1) (slots + 6) (lw_Z below #[Value.ref b] s) D G ρ 9 1916 [some (xR 40 0 0), some (xR 0 0 0), some (xR 20 0 0), some (xR 26 0 0), some (xI i), some (xI k), some (xI v), x7, x8] [xR 20 0 0] N
    refine xl_st hC hc hs (xs_V0 kX8_thrown ⟨⟨rfl, rfl, by decide, by decide⟩, ⟨by decide, by decide, by decide +kernel⟩, ⟨tw_1091, tw_1092, tw_1093, tw_9, tw_1094⟩, 8, TX8, _, rfl, fun G ρ f i k => ⟨_, rfl⟩⟩ dL_law_1916) ⟨⟨rfl, xvz_20, by decide⟩, ⟨rfl, xvz_20⟩, ?_⟩
    show XWW p l e room_1 s m #[Value.ref b] below meth c (cells + 1) (slots + 6) (lw_Z below #[Value.ref b] s) D G ρ 9 1919 [some (xR 40 0 0), some (xR 0 0 0), some (xR 20 0 0), some (xR 26 0 0), some (xI i), some (xI k), some (xI v), x7, x8] [xI (N 20 0 0 5)] N
    refine xl_st hC hc hs (xs_iload dL_law_1919) ?_
    show XWW p l e room_1 s m #[Value.ref b] below meth c (cells + 1) (slots + 6) (lw_Z below #[Value.ref b] s) D G ρ 9 1921 [some (xR 40 0 0), some (xR 0 0 0), some (xR 20 0 0), some (xR 26 0 0), some (xI i), some (xI k), some (xI v), x7, x8] [xI k, xI (N 20 0 0 5)] N
    refine xl_st hC hc hs (xs_icmp_eq (t := 1926) dL_law_1921 (by decide)) ⟨⟨by rw [h5]; exact ⟨by omega, by omega⟩, ⟨by omega, by omega⟩⟩, fun _ => ?_, fun q => absurd h5 q⟩
    show XWW p l e room_1 s m #[Value.ref b] below meth c (cells + 1) (slots + 6) (lw_Z below #[Value.ref b] s) D G ρ 9 1926 [some (xR 40 0 0), some (xR 0 0 0), some (xR 20 0 0), some (xR 26 0 0), some (xI i), some (xI k), some (xI v), x7, x8] [] N
    refine xl_st hC hc hs (xs_iload dL_law_1926) ?_
    show XWW p l e room_1 s m #[Value.ref b] below meth c (cells + 1) (slots + 6) (lw_Z below #[Value.ref b] s) D G ρ 9 1928 [some (xR 40 0 0), some (xR 0 0 0), some (xR 20 0 0), some (xR 26 0 0), some (xI i), some (xI k), some (xI v), x7, x8] [xI k] N
    refine xl_st hC hc hs (xs_if_ne (t := 1943) dL_law_1928 (by decide)) ⟨⟨by omega, by omega⟩, fun _ => ?_, fun q => ?_⟩
    · show XWW p l e room_1 s m #[Value.ref b] below meth c (cells + 1) (slots + 6) (lw_Z below #[Value.ref b] s) D G ρ 9 1943 [some (xR 40 0 0), some (xR 0 0 0), some (xR 20 0 0), some (xR 26 0 0), some (xI i), some (xI k), some (xI v), x7, x8] [] N
      refine xl_st hC hc hs (xs_goto (t := 2181) dL_law_1943 (by decide)) ?_
      show XWW p l e room_1 s m #[Value.ref b] below meth c (cells + 1) (slots + 6) (lw_Z below #[Value.ref b] s) D G ρ 9 2181 [some (xR 40 0 0), some (xR 0 0 0), some (xR 20 0 0), some (xR 26 0 0), some (xI i), some (xI k), some (xI v), x7, x8] [] N
      exact next _ _ _ _ N hR
    · show XWW p l e room_1 s m #[Value.ref b] below meth c (cells + 1) (slots + 6) (lw_Z below #[Value.ref b] s) D G ρ 9 1931 [some (xR 40 0 0), some (xR 0 0 0), some (xR 20 0 0), some (xR 26 0 0), some (xI i), some (xI k), some (xI v), x7, x8] [] N
      refine xl_st hC hc hs (xs_aload_n (i := 3) dL_law_1931 rfl) ?_
      show XWW p l e room_1 s m #[Value.ref b] below meth c (cells + 1) (slots + 6) (lw_Z below #[Value.ref b] s) D G ρ 9 1932 [some (xR 40 0 0), some (xR 0 0 0), some (xR 20 0 0), some (xR 26 0 0), some (xI i), some (xI k), some (xI v), x7, x8] [xR 26 0 0] N
      refine xl_st hC hc hs (xs_iconst dL_law_1932) ?_
      show XWW p l e room_1 s m #[Value.ref b] below meth c (cells + 1) (slots + 6) (lw_Z below #[Value.ref b] s) D G ρ 9 1933 [some (xR 40 0 0), some (xR 0 0 0), some (xR 20 0 0), some (xR 26 0 0), some (xI i), some (xI k), some (xI v), x7, x8] [xI 0, xR 26 0 0] N
      refine xl_st hC hc hs (xs_lald dL_law_1933) ⟨⟨rfl, rfl, rfl, rfl⟩, ?_⟩
      show XWW p l e room_1 s m #[Value.ref b] below meth c (cells + 1) (slots + 6) (lw_Z below #[Value.ref b] s) D G ρ 9 1934 [some (xR 40 0 0), some (xR 0 0 0), some (xR 20 0 0), some (xR 26 0 0), some (xI i), some (xI k), some (xI v), x7, x8] [xJ (N 26 0 0 0)] N
      refine xl_st hC hc hs (xs_iload dL_law_1934) ?_
      show XWW p l e room_1 s m #[Value.ref b] below meth c (cells + 1) (slots + 6) (lw_Z below #[Value.ref b] s) D G ρ 9 1936 [some (xR 40 0 0), some (xR 0 0 0), some (xR 20 0 0), some (xR 26 0 0), some (xI i), some (xI k), some (xI v), x7, x8] [xI v, xJ (N 26 0 0 0)] N
      refine xl_st hC hc hs (xs_i2lw dL_law_1936) ?_
      show XWW p l e room_1 s m #[Value.ref b] below meth c (cells + 1) (slots + 6) (lw_Z below #[Value.ref b] s) D G ρ 9 1937 [some (xR 40 0 0), some (xR 0 0 0), some (xR 20 0 0), some (xR 26 0 0), some (xI i), some (xI k), some (xI v), x7, x8] [xJ (w32 v), xJ (N 26 0 0 0)] N
      refine xl_st hC hc hs (xs_lcmp dL_law_1937) ⟨h26 q, ?_⟩
      show XWW p l e room_1 s m #[Value.ref b] below meth c (cells + 1) (slots + 6) (lw_Z below #[Value.ref b] s) D G ρ 9 1938 [some (xR 40 0 0), some (xR 0 0 0), some (xR 20 0 0), some (xR 26 0 0), some (xI i), some (xI k), some (xI v), x7, x8] [xI 0] N
      refine xl_st hC hc hs (xs_if_eq (t := 1943) dL_law_1938 (by decide)) ⟨x_r0, fun _ => ?_, fun q => absurd rfl q⟩
      show XWW p l e room_1 s m #[Value.ref b] below meth c (cells + 1) (slots + 6) (lw_Z below #[Value.ref b] s) D G ρ 9 1943 [some (xR 40 0 0), some (xR 0 0 0), some (xR 20 0 0), some (xR 26 0 0), some (xI i), some (xI k), some (xI v), x7, x8] [] N
      refine xl_st hC hc hs (xs_goto (t := 2181) dL_law_1943 (by decide)) ?_
      show XWW p l e room_1 s m #[Value.ref b] below meth c (cells + 1) (slots + 6) (lw_Z below #[Value.ref b] s) D G ρ 9 2181 [some (xR 40 0 0), some (xR 0 0 0), some (xR 20 0 0), some (xR 26 0 0), some (xI i), some (xI k), some (xI v), x7, x8] [] N
      exact next _ _ _ _ N hR
  show XWW p l e room_1 s m #[Value.ref b] below meth c cells slots (lw_Z below #[Value.ref b] s) D G ρ 9 1878 [some (xR 40 0 0), some (xR 0 0 0), some (xR 20 0 0), some (xR 26 0 0), some (xI i), x5, x6, x7, x8] [] M
  refine xl_st hC c0 s0 (xs_aload_n (i := 1) dL_law_1878 rfl) ?_
  show XWW p l e room_1 s m #[Value.ref b] below meth c cells slots (lw_Z below #[Value.ref b] s) D G ρ 9 1879 [some (xR 40 0 0), some (xR 0 0 0), some (xR 20 0 0), some (xR 26 0 0), some (xI i), x5, x6, x7, x8] [xR 0 0 0] M
  refine xl_st hC c0 s0 (xs_aload_n (i := 0) dL_law_1879 rfl) ?_
  show XWW p l e room_1 s m #[Value.ref b] below meth c cells slots (lw_Z below #[Value.ref b] s) D G ρ 9 1880 [some (xR 40 0 0), some (xR 0 0 0), some (xR 20 0 0), some (xR 26 0 0), some (xI i), x5, x6, x7, x8] [xR 40 0 0, xR 0 0 0] M
  refine xl_st hC c0 s0 (xs_iload dL_law_1880) ?_
  show XWW p l e room_1 s m #[Value.ref b] below meth c cells slots (lw_Z below #[Value.ref b] s) D G ρ 9 1882 [some (xR 40 0 0), some (xR 0 0 0), some (xR 20 0 0), some (xR 26 0 0), some (xI i), x5, x6, x7, x8] [xI i, xR 40 0 0, xR 0 0 0] M
  refine xl_st hC c0 s0 (xs_iconst dL_law_1882) ?_
  show XWW p l e room_1 s m #[Value.ref b] below meth c cells slots (lw_Z below #[Value.ref b] s) D G ρ 9 1883 [some (xR 40 0 0), some (xR 0 0 0), some (xR 20 0 0), some (xR 26 0 0), some (xI i), x5, x6, x7, x8] [xI 1, xI i, xR 40 0 0, xR 0 0 0] M
  refine xl_st hC c0 s0 (xs_iadd dL_law_1883) ?_
  show XWW p l e room_1 s m #[Value.ref b] below meth c cells slots (lw_Z below #[Value.ref b] s) D G ρ 9 1884 [some (xR 40 0 0), some (xR 0 0 0), some (xR 20 0 0), some (xR 26 0 0), some (xI i), x5, x6, x7, x8] [xI (i + 1), xR 40 0 0, xR 0 0 0] M
  refine xl_sld hC hX (by omega) (by omega) dL_law_1884 ?_
  show XWW p l e room_1 s m #[Value.ref b] below meth c cells slots (lw_Z below #[Value.ref b] s) D G ρ 9 1885 [some (xR 40 0 0), some (xR 0 0 0), some (xR 20 0 0), some (xR 26 0 0), some (xI i), x5, x6, x7, x8] [xI (SLx xs (i + 1)), xR 0 0 0] M
  refine xl_st hC c0 s0 (xs_aload_n (i := 0) dL_law_1885 rfl) ?_
  show XWW p l e room_1 s m #[Value.ref b] below meth c cells slots (lw_Z below #[Value.ref b] s) D G ρ 9 1886 [some (xR 40 0 0), some (xR 0 0 0), some (xR 20 0 0), some (xR 26 0 0), some (xI i), x5, x6, x7, x8] [xR 40 0 0, xI (SLx xs (i + 1)), xR 0 0 0] M
  refine xl_st hC c0 s0 (xs_iload dL_law_1886) ?_
  show XWW p l e room_1 s m #[Value.ref b] below meth c cells slots (lw_Z below #[Value.ref b] s) D G ρ 9 1888 [some (xR 40 0 0), some (xR 0 0 0), some (xR 20 0 0), some (xR 26 0 0), some (xI i), x5, x6, x7, x8] [xI i, xR 40 0 0, xI (SLx xs (i + 1)), xR 0 0 0] M
  refine xl_st hC c0 s0 (xs_iconst dL_law_1888) ?_
  show XWW p l e room_1 s m #[Value.ref b] below meth c cells slots (lw_Z below #[Value.ref b] s) D G ρ 9 1889 [some (xR 40 0 0), some (xR 0 0 0), some (xR 20 0 0), some (xR 26 0 0), some (xI i), x5, x6, x7, x8] [xI 2, xI i, xR 40 0 0, xI (SLx xs (i + 1)), xR 0 0 0] M
  refine xl_st hC c0 s0 (xs_iadd dL_law_1889) ?_
  show XWW p l e room_1 s m #[Value.ref b] below meth c cells slots (lw_Z below #[Value.ref b] s) D G ρ 9 1890 [some (xR 40 0 0), some (xR 0 0 0), some (xR 20 0 0), some (xR 26 0 0), some (xI i), x5, x6, x7, x8] [xI (i + 2), xR 40 0 0, xI (SLx xs (i + 1)), xR 0 0 0] M
  refine xl_sld hC hX (by omega) (by omega) dL_law_1890 ?_
  show XWW p l e room_1 s m #[Value.ref b] below meth c cells slots (lw_Z below #[Value.ref b] s) D G ρ 9 1891 [some (xR 40 0 0), some (xR 0 0 0), some (xR 20 0 0), some (xR 26 0 0), some (xI i), x5, x6, x7, x8] [xI (SLx xs (i + 2)), xI (SLx xs (i + 1)), xR 0 0 0] M
  refine xl_st hC c0 s0 (xs_aload_n (i := 3) dL_law_1891 rfl) ?_
  show XWW p l e room_1 s m #[Value.ref b] below meth c cells slots (lw_Z below #[Value.ref b] s) D G ρ 9 1892 [some (xR 40 0 0), some (xR 0 0 0), some (xR 20 0 0), some (xR 26 0 0), some (xI i), x5, x6, x7, x8] [xR 26 0 0, xI (SLx xs (i + 2)), xI (SLx xs (i + 1)), xR 0 0 0] M
  refine xl_call (n := 4) (As := [xR 0 0 0, xI (SLx xs (i + 1)), xI (SLx xs (i + 2)), xR 26 0 0]) (st := []) kL_callsIn ⟨⟨rfl, rfl, by decide, by decide⟩, ⟨by decide, by decide, by decide +kernel⟩, tw_1023, tw_1024, tw_0, twL_callsIn⟩ dL_law_1892 hC hl hE hc hs rfl (by decide) ⟨(SLx xs (i + 1)), (SLx xs (i + 2)), rfl, lc_callsIn hZ h (SL_in _ _) (SL_in _ _)⟩ (fun rv N1 hq => ?_)
  obtain ⟨k, rfl, ⟨k0, k3⟩, href⟩ := hq
  show XWW p l e room_1 s m #[Value.ref b] below meth c (cells + 1) (slots + 6) (lw_Z below #[Value.ref b] s) D G ρ 9 1895 [some (xR 40 0 0), some (xR 0 0 0), some (xR 20 0 0), some (xR 26 0 0), some (xI i), x5, x6, x7, x8] [xI k] N1
  refine xl_st hC hc hs (xs_istore dL_law_1895 (by decide)) ?_
  show XWW p l e room_1 s m #[Value.ref b] below meth c (cells + 1) (slots + 6) (lw_Z below #[Value.ref b] s) D G ρ 9 1897 [some (xR 40 0 0), some (xR 0 0 0), some (xR 20 0 0), some (xR 26 0 0), some (xI i), some (xI k), x6, x7, x8] [] N1
  refine xl_st hC hc hs (xs_aload_n (i := 2) dL_law_1897 rfl) ?_
  show XWW p l e room_1 s m #[Value.ref b] below meth c (cells + 1) (slots + 6) (lw_Z below #[Value.ref b] s) D G ρ 9 1898 [some (xR 40 0 0), some (xR 0 0 0), some (xR 20 0 0), some (xR 26 0 0), some (xI i), some (xI k), x6, x7, x8] [xR 20 0 0] N1
  refine xl_st hC hc hs (xs_aload_n (i := 0) dL_law_1898 rfl) ?_
  show XWW p l e room_1 s m #[Value.ref b] below meth c (cells + 1) (slots + 6) (lw_Z below #[Value.ref b] s) D G ρ 9 1899 [some (xR 40 0 0), some (xR 0 0 0), some (xR 20 0 0), some (xR 26 0 0), some (xI i), some (xI k), x6, x7, x8] [xR 40 0 0, xR 20 0 0] N1
  refine xl_st hC hc hs (xs_iload dL_law_1899) ?_
  show XWW p l e room_1 s m #[Value.ref b] below meth c (cells + 1) (slots + 6) (lw_Z below #[Value.ref b] s) D G ρ 9 1901 [some (xR 40 0 0), some (xR 0 0 0), some (xR 20 0 0), some (xR 26 0 0), some (xI i), some (xI k), x6, x7, x8] [xI i, xR 40 0 0, xR 20 0 0] N1
  refine xl_st hC hc hs (xs_iconst dL_law_1901) ?_
  show XWW p l e room_1 s m #[Value.ref b] below meth c (cells + 1) (slots + 6) (lw_Z below #[Value.ref b] s) D G ρ 9 1902 [some (xR 40 0 0), some (xR 0 0 0), some (xR 20 0 0), some (xR 26 0 0), some (xI i), some (xI k), x6, x7, x8] [xI 1, xI i, xR 40 0 0, xR 20 0 0] N1
  refine xl_st hC hc hs (xs_iadd dL_law_1902) ?_
  show XWW p l e room_1 s m #[Value.ref b] below meth c (cells + 1) (slots + 6) (lw_Z below #[Value.ref b] s) D G ρ 9 1903 [some (xR 40 0 0), some (xR 0 0 0), some (xR 20 0 0), some (xR 26 0 0), some (xI i), some (xI k), x6, x7, x8] [xI (i + 1), xR 40 0 0, xR 20 0 0] N1
  refine xl_sld hC hX (by omega) (by omega) dL_law_1903 ?_
  show XWW p l e room_1 s m #[Value.ref b] below meth c (cells + 1) (slots + 6) (lw_Z below #[Value.ref b] s) D G ρ 9 1904 [some (xR 40 0 0), some (xR 0 0 0), some (xR 20 0 0), some (xR 26 0 0), some (xI i), some (xI k), x6, x7, x8] [xI (SLx xs (i + 1)), xR 20 0 0] N1
  refine xl_st hC hc hs (xs_aload_n (i := 0) dL_law_1904 rfl) ?_
  show XWW p l e room_1 s m #[Value.ref b] below meth c (cells + 1) (slots + 6) (lw_Z below #[Value.ref b] s) D G ρ 9 1905 [some (xR 40 0 0), some (xR 0 0 0), some (xR 20 0 0), some (xR 26 0 0), some (xI i), some (xI k), x6, x7, x8] [xR 40 0 0, xI (SLx xs (i + 1)), xR 20 0 0] N1
  refine xl_st hC hc hs (xs_iload dL_law_1905) ?_
  show XWW p l e room_1 s m #[Value.ref b] below meth c (cells + 1) (slots + 6) (lw_Z below #[Value.ref b] s) D G ρ 9 1907 [some (xR 40 0 0), some (xR 0 0 0), some (xR 20 0 0), some (xR 26 0 0), some (xI i), some (xI k), x6, x7, x8] [xI i, xR 40 0 0, xI (SLx xs (i + 1)), xR 20 0 0] N1
  refine xl_st hC hc hs (xs_iconst dL_law_1907) ?_
  show XWW p l e room_1 s m #[Value.ref b] below meth c (cells + 1) (slots + 6) (lw_Z below #[Value.ref b] s) D G ρ 9 1908 [some (xR 40 0 0), some (xR 0 0 0), some (xR 20 0 0), some (xR 26 0 0), some (xI i), some (xI k), x6, x7, x8] [xI 2, xI i, xR 40 0 0, xI (SLx xs (i + 1)), xR 20 0 0] N1
  refine xl_st hC hc hs (xs_iadd dL_law_1908) ?_
  show XWW p l e room_1 s m #[Value.ref b] below meth c (cells + 1) (slots + 6) (lw_Z below #[Value.ref b] s) D G ρ 9 1909 [some (xR 40 0 0), some (xR 0 0 0), some (xR 20 0 0), some (xR 26 0 0), some (xI i), some (xI k), x6, x7, x8] [xI (i + 2), xR 40 0 0, xI (SLx xs (i + 1)), xR 20 0 0] N1
  refine xl_sld hC hX (by omega) (by omega) dL_law_1909 ?_
  show XWW p l e room_1 s m #[Value.ref b] below meth c (cells + 1) (slots + 6) (lw_Z below #[Value.ref b] s) D G ρ 9 1910 [some (xR 40 0 0), some (xR 0 0 0), some (xR 20 0 0), some (xR 26 0 0), some (xI i), some (xI k), x6, x7, x8] [xI (SLx xs (i + 2)), xI (SLx xs (i + 1)), xR 20 0 0] N1
  refine xl_st hC hc hs (xs_V2 kX8_callsIn ⟨⟨rfl, rfl, by decide, by decide⟩, ⟨by decide, by decide, by decide +kernel⟩, ⟨tw_1424, tw_1425, tw_1426, tw_9, tw_1427⟩, 8, TX8, _, rfl, fun G ρ f i k => ⟨_, rfl⟩⟩ dL_law_1910) ⟨⟨rfl, xvz_20, by decide⟩, href⟩
set_option maxRecDepth 100000 in
theorem cs_canCook {p : Program} {l : Launch} {e : Env} {s : State} {m : MethodId} {below : List Frame} {meth : Method} {c : Code} {D : va_G} {G : Nat → ClassId} {ρ : XOb → Nat} {b Ln : Nat} {xs : Nat → Int32} {cells slots : Nat} (hC : XCX p room_1 s m #[Value.ref b] c 0 0 D G ρ cL_law 9 RL (Cond.initialized RL :: xT)) (hl : l.stackTraces = false) (hE : (XEw s ∧ XEs s ∧ XEz (XA ρ s.heap.size) s s.heap) ∧ XEc s) (hX : XSc s ρ b Ln xs) (hc : cells + 1 ≤ 601024) (hs : slots + 6 ≤ 7293034) {i : Int} (h0 : 0 ≤ i) (h6 : i + 6 ≤ Ln) {M : XM} (h : RR M) {x5 x6 x7 x8 : Option XV} (next : ∀ (y5 y6 y7 y8 : Option XV) (N : XM), RR N → XWW p l e room_1 s m #[Value.ref b] below meth c (cells + 1) (slots + 6) (lw_Z below #[Value.ref b] s) D G ρ 9 2181 [some (xR 40 0 0), some (xR 0 0 0), some (xR 20 0 0), some (xR 26 0 0), some (xI i), y5, y6, y7, y8] [] N) : XWW p l e room_1 s m #[Value.ref b] below meth c cells slots (lw_Z below #[Value.ref b] s) D G ρ 9 1946 [some (xR 40 0 0), some (xR 0 0 0), some (xR 20 0 0), some (xR 26 0 0), some (xI i), x5, x6, x7, x8] [] M := by
  have c0 : cells ≤ room_1.cells := Nat.le_trans (Nat.le_succ _) hc
  have s0 : slots ≤ room_1.slots := Nat.le_trans (Nat.le_add_right _ 6) hs
  have hZ : ∀ (k : Int) (rv : List XV) (N : XM), 0 ≤ k → k ≤ 3 → LE k rv N → (fun (k : Int) (rv : List XV) (N : XM) => XWW p l e room_1 s m #[Value.ref b] below meth c (cells + 1) (slots + 6) (lw_Z below #[Value.ref b] s) D G ρ 9 1981 [some (xR 40 0 0), some (xR 0 0 0), some (xR 20 0 0), some (xR 26 0 0), some (xI i), some (xI k), x6, x7, x8] (rv ++ []) N) k rv N := by
    intro k rv N k0 k3 hLE
    obtain ⟨v, rfl, hR, h5, h26⟩ := hLE
    show XWW p l e room_1 s m #[Value.ref b] below meth c (cells + 1) (slots + 6) (lw_Z below #[Value.ref b] s) D G ρ 9 1981 [some (xR 40 0 0), some (xR 0 0 0), some (xR 20 0 0), some (xR 26 0 0), some (xI i), some (xI k), x6, x7, x8] [xI v] N
    refine xl_st hC hc hs (xs_istore dL_law_1981 (by decide)) ?_
    show XWW p l e room_1 s m #[Value.ref b] below meth c (cells + 1) (slots + 6) (lw_Z below #[Value.ref b] s) D G ρ 9 1983 [some (xR 40 0 0), some (xR 0 0 0), some (xR 20 0 0), some (xR 26 0 0), some (xI i), some (xI k), some (xI v), x7, x8] [] N
    refine xl_st hC hc hs (xs_aload_n (i := 2) dL_law_1983 rfl) ?_
    show XWW p l e room_1 s m #[Value.ref b] below meth c (cells + 1) (slots + 6) (lw_Z below #[Value.ref b] s) D G ρ 9 1984 [some (xR 40 0 0), some (xR 0 0 0), some (xR 20 0 0), some (xR 26 0 0), some (xI i), some (xI k), some (xI v), x7, x8] [xR 20 0 0] N
    refine xl_st hC hc hs (xs_V0 kX8_thrown ⟨⟨rfl, rfl, by decide, by decide⟩, ⟨by decide, by decide, by decide +kernel⟩, ⟨tw_1091, tw_1092, tw_1093, tw_9, tw_1094⟩, 8, TX8, _, rfl, fun G ρ f i k => ⟨_, rfl⟩⟩ dL_law_1984) ⟨⟨rfl, xvz_20, by decide⟩, ⟨rfl, xvz_20⟩, ?_⟩
    show XWW p l e room_1 s m #[Value.ref b] below meth c (cells + 1) (slots + 6) (lw_Z below #[Value.ref b] s) D G ρ 9 1987 [some (xR 40 0 0), some (xR 0 0 0), some (xR 20 0 0), some (xR 26 0 0), some (xI i), some (xI k), some (xI v), x7, x8] [xI (N 20 0 0 5)] N
    refine xl_st hC hc hs (xs_iload dL_law_1987) ?_
    show XWW p l e room_1 s m #[Value.ref b] below meth c (cells + 1) (slots + 6) (lw_Z below #[Value.ref b] s) D G ρ 9 1989 [some (xR 40 0 0), some (xR 0 0 0), some (xR 20 0 0), some (xR 26 0 0), some (xI i), some (xI k), some (xI v), x7, x8] [xI k, xI (N 20 0 0 5)] N
    refine xl_st hC hc hs (xs_icmp_eq (t := 1994) dL_law_1989 (by decide)) ⟨⟨by rw [h5]; exact ⟨by omega, by omega⟩, ⟨by omega, by omega⟩⟩, fun _ => ?_, fun q => absurd h5 q⟩
    show XWW p l e room_1 s m #[Value.ref b] below meth c (cells + 1) (slots + 6) (lw_Z below #[Value.ref b] s) D G ρ 9 1994 [some (xR 40 0 0), some (xR 0 0 0), some (xR 20 0 0), some (xR 26 0 0), some (xI i), some (xI k), some (xI v), x7, x8] [] N
    refine xl_st hC hc hs (xs_iload dL_law_1994) ?_
    show XWW p l e room_1 s m #[Value.ref b] below meth c (cells + 1) (slots + 6) (lw_Z below #[Value.ref b] s) D G ρ 9 1996 [some (xR 40 0 0), some (xR 0 0 0), some (xR 20 0 0), some (xR 26 0 0), some (xI i), some (xI k), some (xI v), x7, x8] [xI k] N
    refine xl_st hC hc hs (xs_if_ne (t := 2011) dL_law_1996 (by decide)) ⟨⟨by omega, by omega⟩, fun _ => ?_, fun q => ?_⟩
    · show XWW p l e room_1 s m #[Value.ref b] below meth c (cells + 1) (slots + 6) (lw_Z below #[Value.ref b] s) D G ρ 9 2011 [some (xR 40 0 0), some (xR 0 0 0), some (xR 20 0 0), some (xR 26 0 0), some (xI i), some (xI k), some (xI v), x7, x8] [] N
      refine xl_st hC hc hs (xs_goto (t := 2181) dL_law_2011 (by decide)) ?_
      show XWW p l e room_1 s m #[Value.ref b] below meth c (cells + 1) (slots + 6) (lw_Z below #[Value.ref b] s) D G ρ 9 2181 [some (xR 40 0 0), some (xR 0 0 0), some (xR 20 0 0), some (xR 26 0 0), some (xI i), some (xI k), some (xI v), x7, x8] [] N
      exact next _ _ _ _ N hR
    · show XWW p l e room_1 s m #[Value.ref b] below meth c (cells + 1) (slots + 6) (lw_Z below #[Value.ref b] s) D G ρ 9 1999 [some (xR 40 0 0), some (xR 0 0 0), some (xR 20 0 0), some (xR 26 0 0), some (xI i), some (xI k), some (xI v), x7, x8] [] N
      refine xl_st hC hc hs (xs_aload_n (i := 3) dL_law_1999 rfl) ?_
      show XWW p l e room_1 s m #[Value.ref b] below meth c (cells + 1) (slots + 6) (lw_Z below #[Value.ref b] s) D G ρ 9 2000 [some (xR 40 0 0), some (xR 0 0 0), some (xR 20 0 0), some (xR 26 0 0), some (xI i), some (xI k), some (xI v), x7, x8] [xR 26 0 0] N
      refine xl_st hC hc hs (xs_iconst dL_law_2000) ?_
      show XWW p l e room_1 s m #[Value.ref b] below meth c (cells + 1) (slots + 6) (lw_Z below #[Value.ref b] s) D G ρ 9 2001 [some (xR 40 0 0), some (xR 0 0 0), some (xR 20 0 0), some (xR 26 0 0), some (xI i), some (xI k), some (xI v), x7, x8] [xI 0, xR 26 0 0] N
      refine xl_st hC hc hs (xs_lald dL_law_2001) ⟨⟨rfl, rfl, rfl, rfl⟩, ?_⟩
      show XWW p l e room_1 s m #[Value.ref b] below meth c (cells + 1) (slots + 6) (lw_Z below #[Value.ref b] s) D G ρ 9 2002 [some (xR 40 0 0), some (xR 0 0 0), some (xR 20 0 0), some (xR 26 0 0), some (xI i), some (xI k), some (xI v), x7, x8] [xJ (N 26 0 0 0)] N
      refine xl_st hC hc hs (xs_iload dL_law_2002) ?_
      show XWW p l e room_1 s m #[Value.ref b] below meth c (cells + 1) (slots + 6) (lw_Z below #[Value.ref b] s) D G ρ 9 2004 [some (xR 40 0 0), some (xR 0 0 0), some (xR 20 0 0), some (xR 26 0 0), some (xI i), some (xI k), some (xI v), x7, x8] [xI v, xJ (N 26 0 0 0)] N
      refine xl_st hC hc hs (xs_i2lw dL_law_2004) ?_
      show XWW p l e room_1 s m #[Value.ref b] below meth c (cells + 1) (slots + 6) (lw_Z below #[Value.ref b] s) D G ρ 9 2005 [some (xR 40 0 0), some (xR 0 0 0), some (xR 20 0 0), some (xR 26 0 0), some (xI i), some (xI k), some (xI v), x7, x8] [xJ (w32 v), xJ (N 26 0 0 0)] N
      refine xl_st hC hc hs (xs_lcmp dL_law_2005) ⟨h26 q, ?_⟩
      show XWW p l e room_1 s m #[Value.ref b] below meth c (cells + 1) (slots + 6) (lw_Z below #[Value.ref b] s) D G ρ 9 2006 [some (xR 40 0 0), some (xR 0 0 0), some (xR 20 0 0), some (xR 26 0 0), some (xI i), some (xI k), some (xI v), x7, x8] [xI 0] N
      refine xl_st hC hc hs (xs_if_eq (t := 2011) dL_law_2006 (by decide)) ⟨x_r0, fun _ => ?_, fun q => absurd rfl q⟩
      show XWW p l e room_1 s m #[Value.ref b] below meth c (cells + 1) (slots + 6) (lw_Z below #[Value.ref b] s) D G ρ 9 2011 [some (xR 40 0 0), some (xR 0 0 0), some (xR 20 0 0), some (xR 26 0 0), some (xI i), some (xI k), some (xI v), x7, x8] [] N
      refine xl_st hC hc hs (xs_goto (t := 2181) dL_law_2011 (by decide)) ?_
      show XWW p l e room_1 s m #[Value.ref b] below meth c (cells + 1) (slots + 6) (lw_Z below #[Value.ref b] s) D G ρ 9 2181 [some (xR 40 0 0), some (xR 0 0 0), some (xR 20 0 0), some (xR 26 0 0), some (xI i), some (xI k), some (xI v), x7, x8] [] N
      exact next _ _ _ _ N hR
  show XWW p l e room_1 s m #[Value.ref b] below meth c cells slots (lw_Z below #[Value.ref b] s) D G ρ 9 1946 [some (xR 40 0 0), some (xR 0 0 0), some (xR 20 0 0), some (xR 26 0 0), some (xI i), x5, x6, x7, x8] [] M
  refine xl_st hC c0 s0 (xs_aload_n (i := 1) dL_law_1946 rfl) ?_
  show XWW p l e room_1 s m #[Value.ref b] below meth c cells slots (lw_Z below #[Value.ref b] s) D G ρ 9 1947 [some (xR 40 0 0), some (xR 0 0 0), some (xR 20 0 0), some (xR 26 0 0), some (xI i), x5, x6, x7, x8] [xR 0 0 0] M
  refine xl_st hC c0 s0 (xs_aload_n (i := 0) dL_law_1947 rfl) ?_
  show XWW p l e room_1 s m #[Value.ref b] below meth c cells slots (lw_Z below #[Value.ref b] s) D G ρ 9 1948 [some (xR 40 0 0), some (xR 0 0 0), some (xR 20 0 0), some (xR 26 0 0), some (xI i), x5, x6, x7, x8] [xR 40 0 0, xR 0 0 0] M
  refine xl_st hC c0 s0 (xs_iload dL_law_1948) ?_
  show XWW p l e room_1 s m #[Value.ref b] below meth c cells slots (lw_Z below #[Value.ref b] s) D G ρ 9 1950 [some (xR 40 0 0), some (xR 0 0 0), some (xR 20 0 0), some (xR 26 0 0), some (xI i), x5, x6, x7, x8] [xI i, xR 40 0 0, xR 0 0 0] M
  refine xl_st hC c0 s0 (xs_iconst dL_law_1950) ?_
  show XWW p l e room_1 s m #[Value.ref b] below meth c cells slots (lw_Z below #[Value.ref b] s) D G ρ 9 1951 [some (xR 40 0 0), some (xR 0 0 0), some (xR 20 0 0), some (xR 26 0 0), some (xI i), x5, x6, x7, x8] [xI 1, xI i, xR 40 0 0, xR 0 0 0] M
  refine xl_st hC c0 s0 (xs_iadd dL_law_1951) ?_
  show XWW p l e room_1 s m #[Value.ref b] below meth c cells slots (lw_Z below #[Value.ref b] s) D G ρ 9 1952 [some (xR 40 0 0), some (xR 0 0 0), some (xR 20 0 0), some (xR 26 0 0), some (xI i), x5, x6, x7, x8] [xI (i + 1), xR 40 0 0, xR 0 0 0] M
  refine xl_sld hC hX (by omega) (by omega) dL_law_1952 ?_
  show XWW p l e room_1 s m #[Value.ref b] below meth c cells slots (lw_Z below #[Value.ref b] s) D G ρ 9 1953 [some (xR 40 0 0), some (xR 0 0 0), some (xR 20 0 0), some (xR 26 0 0), some (xI i), x5, x6, x7, x8] [xI (SLx xs (i + 1)), xR 0 0 0] M
  refine xl_st hC c0 s0 (xs_aload_n (i := 0) dL_law_1953 rfl) ?_
  show XWW p l e room_1 s m #[Value.ref b] below meth c cells slots (lw_Z below #[Value.ref b] s) D G ρ 9 1954 [some (xR 40 0 0), some (xR 0 0 0), some (xR 20 0 0), some (xR 26 0 0), some (xI i), x5, x6, x7, x8] [xR 40 0 0, xI (SLx xs (i + 1)), xR 0 0 0] M
  refine xl_st hC c0 s0 (xs_iload dL_law_1954) ?_
  show XWW p l e room_1 s m #[Value.ref b] below meth c cells slots (lw_Z below #[Value.ref b] s) D G ρ 9 1956 [some (xR 40 0 0), some (xR 0 0 0), some (xR 20 0 0), some (xR 26 0 0), some (xI i), x5, x6, x7, x8] [xI i, xR 40 0 0, xI (SLx xs (i + 1)), xR 0 0 0] M
  refine xl_st hC c0 s0 (xs_iconst dL_law_1956) ?_
  show XWW p l e room_1 s m #[Value.ref b] below meth c cells slots (lw_Z below #[Value.ref b] s) D G ρ 9 1957 [some (xR 40 0 0), some (xR 0 0 0), some (xR 20 0 0), some (xR 26 0 0), some (xI i), x5, x6, x7, x8] [xI 2, xI i, xR 40 0 0, xI (SLx xs (i + 1)), xR 0 0 0] M
  refine xl_st hC c0 s0 (xs_iadd dL_law_1957) ?_
  show XWW p l e room_1 s m #[Value.ref b] below meth c cells slots (lw_Z below #[Value.ref b] s) D G ρ 9 1958 [some (xR 40 0 0), some (xR 0 0 0), some (xR 20 0 0), some (xR 26 0 0), some (xI i), x5, x6, x7, x8] [xI (i + 2), xR 40 0 0, xI (SLx xs (i + 1)), xR 0 0 0] M
  refine xl_sld hC hX (by omega) (by omega) dL_law_1958 ?_
  show XWW p l e room_1 s m #[Value.ref b] below meth c cells slots (lw_Z below #[Value.ref b] s) D G ρ 9 1959 [some (xR 40 0 0), some (xR 0 0 0), some (xR 20 0 0), some (xR 26 0 0), some (xI i), x5, x6, x7, x8] [xI (SLx xs (i + 2)), xI (SLx xs (i + 1)), xR 0 0 0] M
  refine xl_st hC c0 s0 (xs_aload_n (i := 3) dL_law_1959 rfl) ?_
  show XWW p l e room_1 s m #[Value.ref b] below meth c cells slots (lw_Z below #[Value.ref b] s) D G ρ 9 1960 [some (xR 40 0 0), some (xR 0 0 0), some (xR 20 0 0), some (xR 26 0 0), some (xI i), x5, x6, x7, x8] [xR 26 0 0, xI (SLx xs (i + 2)), xI (SLx xs (i + 1)), xR 0 0 0] M
  refine xl_call (n := 4) (As := [xR 0 0 0, xI (SLx xs (i + 1)), xI (SLx xs (i + 2)), xR 26 0 0]) (st := []) kL_canCook ⟨⟨rfl, rfl, by decide, by decide⟩, ⟨by decide, by decide, by decide +kernel⟩, tw_1027, tw_1028, tw_0, twL_canCook⟩ dL_law_1960 hC hl hE hc hs rfl (by decide) ⟨(SLx xs (i + 1)), (SLx xs (i + 2)), rfl, lc_canCook hZ h (SL_in _ _) (SL_in _ _)⟩ (fun rv N1 hq => ?_)
  obtain ⟨k, rfl, ⟨k0, k3⟩, href⟩ := hq
  show XWW p l e room_1 s m #[Value.ref b] below meth c (cells + 1) (slots + 6) (lw_Z below #[Value.ref b] s) D G ρ 9 1963 [some (xR 40 0 0), some (xR 0 0 0), some (xR 20 0 0), some (xR 26 0 0), some (xI i), x5, x6, x7, x8] [xI k] N1
  refine xl_st hC hc hs (xs_istore dL_law_1963 (by decide)) ?_
  show XWW p l e room_1 s m #[Value.ref b] below meth c (cells + 1) (slots + 6) (lw_Z below #[Value.ref b] s) D G ρ 9 1965 [some (xR 40 0 0), some (xR 0 0 0), some (xR 20 0 0), some (xR 26 0 0), some (xI i), some (xI k), x6, x7, x8] [] N1
  refine xl_st hC hc hs (xs_aload_n (i := 2) dL_law_1965 rfl) ?_
  show XWW p l e room_1 s m #[Value.ref b] below meth c (cells + 1) (slots + 6) (lw_Z below #[Value.ref b] s) D G ρ 9 1966 [some (xR 40 0 0), some (xR 0 0 0), some (xR 20 0 0), some (xR 26 0 0), some (xI i), some (xI k), x6, x7, x8] [xR 20 0 0] N1
  refine xl_st hC hc hs (xs_aload_n (i := 0) dL_law_1966 rfl) ?_
  show XWW p l e room_1 s m #[Value.ref b] below meth c (cells + 1) (slots + 6) (lw_Z below #[Value.ref b] s) D G ρ 9 1967 [some (xR 40 0 0), some (xR 0 0 0), some (xR 20 0 0), some (xR 26 0 0), some (xI i), some (xI k), x6, x7, x8] [xR 40 0 0, xR 20 0 0] N1
  refine xl_st hC hc hs (xs_iload dL_law_1967) ?_
  show XWW p l e room_1 s m #[Value.ref b] below meth c (cells + 1) (slots + 6) (lw_Z below #[Value.ref b] s) D G ρ 9 1969 [some (xR 40 0 0), some (xR 0 0 0), some (xR 20 0 0), some (xR 26 0 0), some (xI i), some (xI k), x6, x7, x8] [xI i, xR 40 0 0, xR 20 0 0] N1
  refine xl_st hC hc hs (xs_iconst dL_law_1969) ?_
  show XWW p l e room_1 s m #[Value.ref b] below meth c (cells + 1) (slots + 6) (lw_Z below #[Value.ref b] s) D G ρ 9 1970 [some (xR 40 0 0), some (xR 0 0 0), some (xR 20 0 0), some (xR 26 0 0), some (xI i), some (xI k), x6, x7, x8] [xI 1, xI i, xR 40 0 0, xR 20 0 0] N1
  refine xl_st hC hc hs (xs_iadd dL_law_1970) ?_
  show XWW p l e room_1 s m #[Value.ref b] below meth c (cells + 1) (slots + 6) (lw_Z below #[Value.ref b] s) D G ρ 9 1971 [some (xR 40 0 0), some (xR 0 0 0), some (xR 20 0 0), some (xR 26 0 0), some (xI i), some (xI k), x6, x7, x8] [xI (i + 1), xR 40 0 0, xR 20 0 0] N1
  refine xl_sld hC hX (by omega) (by omega) dL_law_1971 ?_
  show XWW p l e room_1 s m #[Value.ref b] below meth c (cells + 1) (slots + 6) (lw_Z below #[Value.ref b] s) D G ρ 9 1972 [some (xR 40 0 0), some (xR 0 0 0), some (xR 20 0 0), some (xR 26 0 0), some (xI i), some (xI k), x6, x7, x8] [xI (SLx xs (i + 1)), xR 20 0 0] N1
  refine xl_st hC hc hs (xs_aload_n (i := 0) dL_law_1972 rfl) ?_
  show XWW p l e room_1 s m #[Value.ref b] below meth c (cells + 1) (slots + 6) (lw_Z below #[Value.ref b] s) D G ρ 9 1973 [some (xR 40 0 0), some (xR 0 0 0), some (xR 20 0 0), some (xR 26 0 0), some (xI i), some (xI k), x6, x7, x8] [xR 40 0 0, xI (SLx xs (i + 1)), xR 20 0 0] N1
  refine xl_st hC hc hs (xs_iload dL_law_1973) ?_
  show XWW p l e room_1 s m #[Value.ref b] below meth c (cells + 1) (slots + 6) (lw_Z below #[Value.ref b] s) D G ρ 9 1975 [some (xR 40 0 0), some (xR 0 0 0), some (xR 20 0 0), some (xR 26 0 0), some (xI i), some (xI k), x6, x7, x8] [xI i, xR 40 0 0, xI (SLx xs (i + 1)), xR 20 0 0] N1
  refine xl_st hC hc hs (xs_iconst dL_law_1975) ?_
  show XWW p l e room_1 s m #[Value.ref b] below meth c (cells + 1) (slots + 6) (lw_Z below #[Value.ref b] s) D G ρ 9 1976 [some (xR 40 0 0), some (xR 0 0 0), some (xR 20 0 0), some (xR 26 0 0), some (xI i), some (xI k), x6, x7, x8] [xI 2, xI i, xR 40 0 0, xI (SLx xs (i + 1)), xR 20 0 0] N1
  refine xl_st hC hc hs (xs_iadd dL_law_1976) ?_
  show XWW p l e room_1 s m #[Value.ref b] below meth c (cells + 1) (slots + 6) (lw_Z below #[Value.ref b] s) D G ρ 9 1977 [some (xR 40 0 0), some (xR 0 0 0), some (xR 20 0 0), some (xR 26 0 0), some (xI i), some (xI k), x6, x7, x8] [xI (i + 2), xR 40 0 0, xI (SLx xs (i + 1)), xR 20 0 0] N1
  refine xl_sld hC hX (by omega) (by omega) dL_law_1977 ?_
  show XWW p l e room_1 s m #[Value.ref b] below meth c (cells + 1) (slots + 6) (lw_Z below #[Value.ref b] s) D G ρ 9 1978 [some (xR 40 0 0), some (xR 0 0 0), some (xR 20 0 0), some (xR 26 0 0), some (xI i), some (xI k), x6, x7, x8] [xI (SLx xs (i + 2)), xI (SLx xs (i + 1)), xR 20 0 0] N1
  refine xl_st hC hc hs (xs_V2 kX8_canCook ⟨⟨rfl, rfl, by decide, by decide⟩, ⟨by decide, by decide, by decide +kernel⟩, ⟨tw_1432, tw_1433, tw_1434, tw_9, tw_1435⟩, 8, TX8, _, rfl, fun G ρ f i k => ⟨_, rfl⟩⟩ dL_law_1978) ⟨⟨rfl, xvz_20, by decide⟩, href⟩
set_option maxRecDepth 100000 in
theorem cs_bestLorry {p : Program} {l : Launch} {e : Env} {s : State} {m : MethodId} {below : List Frame} {meth : Method} {c : Code} {D : va_G} {G : Nat → ClassId} {ρ : XOb → Nat} {b Ln : Nat} {xs : Nat → Int32} {cells slots : Nat} (hC : XCX p room_1 s m #[Value.ref b] c 0 0 D G ρ cL_law 9 RL (Cond.initialized RL :: xT)) (hl : l.stackTraces = false) (hE : (XEw s ∧ XEs s ∧ XEz (XA ρ s.heap.size) s s.heap) ∧ XEc s) (hX : XSc s ρ b Ln xs) (hc : cells + 1 ≤ 601024) (hs : slots + 6 ≤ 7293034) {i : Int} (h0 : 0 ≤ i) (h6 : i + 6 ≤ Ln) {M : XM} (h : RR M) {x5 x6 x7 x8 : Option XV} (next : ∀ (y5 y6 y7 y8 : Option XV) (N : XM), RR N → XWW p l e room_1 s m #[Value.ref b] below meth c (cells + 1) (slots + 6) (lw_Z below #[Value.ref b] s) D G ρ 9 2181 [some (xR 40 0 0), some (xR 0 0 0), some (xR 20 0 0), some (xR 26 0 0), some (xI i), y5, y6, y7, y8] [] N) : XWW p l e room_1 s m #[Value.ref b] below meth c cells slots (lw_Z below #[Value.ref b] s) D G ρ 9 2014 [some (xR 40 0 0), some (xR 0 0 0), some (xR 20 0 0), some (xR 26 0 0), some (xI i), x5, x6, x7, x8] [] M := by
  have c0 : cells ≤ room_1.cells := Nat.le_trans (Nat.le_succ _) hc
  have s0 : slots ≤ room_1.slots := Nat.le_trans (Nat.le_add_right _ 6) hs
  have hZ : ∀ (k : Int) (rv : List XV) (N : XM), 0 ≤ k → k ≤ 3 → LE k rv N → (fun (k : Int) (rv : List XV) (N : XM) => XWW p l e room_1 s m #[Value.ref b] below meth c (cells + 1) (slots + 6) (lw_Z below #[Value.ref b] s) D G ρ 9 2037 [some (xR 40 0 0), some (xR 0 0 0), some (xR 20 0 0), some (xR 26 0 0), some (xI i), some (xI k), x6, x7, x8] (rv ++ []) N) k rv N := by
    intro k rv N k0 k3 hLE
    obtain ⟨v, rfl, hR, h5, h26⟩ := hLE
    show XWW p l e room_1 s m #[Value.ref b] below meth c (cells + 1) (slots + 6) (lw_Z below #[Value.ref b] s) D G ρ 9 2037 [some (xR 40 0 0), some (xR 0 0 0), some (xR 20 0 0), some (xR 26 0 0), some (xI i), some (xI k), x6, x7, x8] [xI v] N
    refine xl_st hC hc hs (xs_istore dL_law_2037 (by decide)) ?_
    show XWW p l e room_1 s m #[Value.ref b] below meth c (cells + 1) (slots + 6) (lw_Z below #[Value.ref b] s) D G ρ 9 2039 [some (xR 40 0 0), some (xR 0 0 0), some (xR 20 0 0), some (xR 26 0 0), some (xI i), some (xI k), some (xI v), x7, x8] [] N
    refine xl_st hC hc hs (xs_aload_n (i := 2) dL_law_2039 rfl) ?_
    show XWW p l e room_1 s m #[Value.ref b] below meth c (cells + 1) (slots + 6) (lw_Z below #[Value.ref b] s) D G ρ 9 2040 [some (xR 40 0 0), some (xR 0 0 0), some (xR 20 0 0), some (xR 26 0 0), some (xI i), some (xI k), some (xI v), x7, x8] [xR 20 0 0] N
    refine xl_st hC hc hs (xs_V0 kX8_thrown ⟨⟨rfl, rfl, by decide, by decide⟩, ⟨by decide, by decide, by decide +kernel⟩, ⟨tw_1091, tw_1092, tw_1093, tw_9, tw_1094⟩, 8, TX8, _, rfl, fun G ρ f i k => ⟨_, rfl⟩⟩ dL_law_2040) ⟨⟨rfl, xvz_20, by decide⟩, ⟨rfl, xvz_20⟩, ?_⟩
    show XWW p l e room_1 s m #[Value.ref b] below meth c (cells + 1) (slots + 6) (lw_Z below #[Value.ref b] s) D G ρ 9 2043 [some (xR 40 0 0), some (xR 0 0 0), some (xR 20 0 0), some (xR 26 0 0), some (xI i), some (xI k), some (xI v), x7, x8] [xI (N 20 0 0 5)] N
    refine xl_st hC hc hs (xs_iload dL_law_2043) ?_
    show XWW p l e room_1 s m #[Value.ref b] below meth c (cells + 1) (slots + 6) (lw_Z below #[Value.ref b] s) D G ρ 9 2045 [some (xR 40 0 0), some (xR 0 0 0), some (xR 20 0 0), some (xR 26 0 0), some (xI i), some (xI k), some (xI v), x7, x8] [xI k, xI (N 20 0 0 5)] N
    refine xl_st hC hc hs (xs_icmp_eq (t := 2050) dL_law_2045 (by decide)) ⟨⟨by rw [h5]; exact ⟨by omega, by omega⟩, ⟨by omega, by omega⟩⟩, fun _ => ?_, fun q => absurd h5 q⟩
    show XWW p l e room_1 s m #[Value.ref b] below meth c (cells + 1) (slots + 6) (lw_Z below #[Value.ref b] s) D G ρ 9 2050 [some (xR 40 0 0), some (xR 0 0 0), some (xR 20 0 0), some (xR 26 0 0), some (xI i), some (xI k), some (xI v), x7, x8] [] N
    refine xl_st hC hc hs (xs_iload dL_law_2050) ?_
    show XWW p l e room_1 s m #[Value.ref b] below meth c (cells + 1) (slots + 6) (lw_Z below #[Value.ref b] s) D G ρ 9 2052 [some (xR 40 0 0), some (xR 0 0 0), some (xR 20 0 0), some (xR 26 0 0), some (xI i), some (xI k), some (xI v), x7, x8] [xI k] N
    refine xl_st hC hc hs (xs_if_ne (t := 2067) dL_law_2052 (by decide)) ⟨⟨by omega, by omega⟩, fun _ => ?_, fun q => ?_⟩
    · show XWW p l e room_1 s m #[Value.ref b] below meth c (cells + 1) (slots + 6) (lw_Z below #[Value.ref b] s) D G ρ 9 2067 [some (xR 40 0 0), some (xR 0 0 0), some (xR 20 0 0), some (xR 26 0 0), some (xI i), some (xI k), some (xI v), x7, x8] [] N
      refine xl_st hC hc hs (xs_goto (t := 2181) dL_law_2067 (by decide)) ?_
      show XWW p l e room_1 s m #[Value.ref b] below meth c (cells + 1) (slots + 6) (lw_Z below #[Value.ref b] s) D G ρ 9 2181 [some (xR 40 0 0), some (xR 0 0 0), some (xR 20 0 0), some (xR 26 0 0), some (xI i), some (xI k), some (xI v), x7, x8] [] N
      exact next _ _ _ _ N hR
    · show XWW p l e room_1 s m #[Value.ref b] below meth c (cells + 1) (slots + 6) (lw_Z below #[Value.ref b] s) D G ρ 9 2055 [some (xR 40 0 0), some (xR 0 0 0), some (xR 20 0 0), some (xR 26 0 0), some (xI i), some (xI k), some (xI v), x7, x8] [] N
      refine xl_st hC hc hs (xs_aload_n (i := 3) dL_law_2055 rfl) ?_
      show XWW p l e room_1 s m #[Value.ref b] below meth c (cells + 1) (slots + 6) (lw_Z below #[Value.ref b] s) D G ρ 9 2056 [some (xR 40 0 0), some (xR 0 0 0), some (xR 20 0 0), some (xR 26 0 0), some (xI i), some (xI k), some (xI v), x7, x8] [xR 26 0 0] N
      refine xl_st hC hc hs (xs_iconst dL_law_2056) ?_
      show XWW p l e room_1 s m #[Value.ref b] below meth c (cells + 1) (slots + 6) (lw_Z below #[Value.ref b] s) D G ρ 9 2057 [some (xR 40 0 0), some (xR 0 0 0), some (xR 20 0 0), some (xR 26 0 0), some (xI i), some (xI k), some (xI v), x7, x8] [xI 0, xR 26 0 0] N
      refine xl_st hC hc hs (xs_lald dL_law_2057) ⟨⟨rfl, rfl, rfl, rfl⟩, ?_⟩
      show XWW p l e room_1 s m #[Value.ref b] below meth c (cells + 1) (slots + 6) (lw_Z below #[Value.ref b] s) D G ρ 9 2058 [some (xR 40 0 0), some (xR 0 0 0), some (xR 20 0 0), some (xR 26 0 0), some (xI i), some (xI k), some (xI v), x7, x8] [xJ (N 26 0 0 0)] N
      refine xl_st hC hc hs (xs_iload dL_law_2058) ?_
      show XWW p l e room_1 s m #[Value.ref b] below meth c (cells + 1) (slots + 6) (lw_Z below #[Value.ref b] s) D G ρ 9 2060 [some (xR 40 0 0), some (xR 0 0 0), some (xR 20 0 0), some (xR 26 0 0), some (xI i), some (xI k), some (xI v), x7, x8] [xI v, xJ (N 26 0 0 0)] N
      refine xl_st hC hc hs (xs_i2lw dL_law_2060) ?_
      show XWW p l e room_1 s m #[Value.ref b] below meth c (cells + 1) (slots + 6) (lw_Z below #[Value.ref b] s) D G ρ 9 2061 [some (xR 40 0 0), some (xR 0 0 0), some (xR 20 0 0), some (xR 26 0 0), some (xI i), some (xI k), some (xI v), x7, x8] [xJ (w32 v), xJ (N 26 0 0 0)] N
      refine xl_st hC hc hs (xs_lcmp dL_law_2061) ⟨h26 q, ?_⟩
      show XWW p l e room_1 s m #[Value.ref b] below meth c (cells + 1) (slots + 6) (lw_Z below #[Value.ref b] s) D G ρ 9 2062 [some (xR 40 0 0), some (xR 0 0 0), some (xR 20 0 0), some (xR 26 0 0), some (xI i), some (xI k), some (xI v), x7, x8] [xI 0] N
      refine xl_st hC hc hs (xs_if_eq (t := 2067) dL_law_2062 (by decide)) ⟨x_r0, fun _ => ?_, fun q => absurd rfl q⟩
      show XWW p l e room_1 s m #[Value.ref b] below meth c (cells + 1) (slots + 6) (lw_Z below #[Value.ref b] s) D G ρ 9 2067 [some (xR 40 0 0), some (xR 0 0 0), some (xR 20 0 0), some (xR 26 0 0), some (xI i), some (xI k), some (xI v), x7, x8] [] N
      refine xl_st hC hc hs (xs_goto (t := 2181) dL_law_2067 (by decide)) ?_
      show XWW p l e room_1 s m #[Value.ref b] below meth c (cells + 1) (slots + 6) (lw_Z below #[Value.ref b] s) D G ρ 9 2181 [some (xR 40 0 0), some (xR 0 0 0), some (xR 20 0 0), some (xR 26 0 0), some (xI i), some (xI k), some (xI v), x7, x8] [] N
      exact next _ _ _ _ N hR
  show XWW p l e room_1 s m #[Value.ref b] below meth c cells slots (lw_Z below #[Value.ref b] s) D G ρ 9 2014 [some (xR 40 0 0), some (xR 0 0 0), some (xR 20 0 0), some (xR 26 0 0), some (xI i), x5, x6, x7, x8] [] M
  refine xl_st hC c0 s0 (xs_aload_n (i := 1) dL_law_2014 rfl) ?_
  show XWW p l e room_1 s m #[Value.ref b] below meth c cells slots (lw_Z below #[Value.ref b] s) D G ρ 9 2015 [some (xR 40 0 0), some (xR 0 0 0), some (xR 20 0 0), some (xR 26 0 0), some (xI i), x5, x6, x7, x8] [xR 0 0 0] M
  refine xl_st hC c0 s0 (xs_aload_n (i := 0) dL_law_2015 rfl) ?_
  show XWW p l e room_1 s m #[Value.ref b] below meth c cells slots (lw_Z below #[Value.ref b] s) D G ρ 9 2016 [some (xR 40 0 0), some (xR 0 0 0), some (xR 20 0 0), some (xR 26 0 0), some (xI i), x5, x6, x7, x8] [xR 40 0 0, xR 0 0 0] M
  refine xl_st hC c0 s0 (xs_iload dL_law_2016) ?_
  show XWW p l e room_1 s m #[Value.ref b] below meth c cells slots (lw_Z below #[Value.ref b] s) D G ρ 9 2018 [some (xR 40 0 0), some (xR 0 0 0), some (xR 20 0 0), some (xR 26 0 0), some (xI i), x5, x6, x7, x8] [xI i, xR 40 0 0, xR 0 0 0] M
  refine xl_st hC c0 s0 (xs_iconst dL_law_2018) ?_
  show XWW p l e room_1 s m #[Value.ref b] below meth c cells slots (lw_Z below #[Value.ref b] s) D G ρ 9 2019 [some (xR 40 0 0), some (xR 0 0 0), some (xR 20 0 0), some (xR 26 0 0), some (xI i), x5, x6, x7, x8] [xI 1, xI i, xR 40 0 0, xR 0 0 0] M
  refine xl_st hC c0 s0 (xs_iadd dL_law_2019) ?_
  show XWW p l e room_1 s m #[Value.ref b] below meth c cells slots (lw_Z below #[Value.ref b] s) D G ρ 9 2020 [some (xR 40 0 0), some (xR 0 0 0), some (xR 20 0 0), some (xR 26 0 0), some (xI i), x5, x6, x7, x8] [xI (i + 1), xR 40 0 0, xR 0 0 0] M
  refine xl_sld hC hX (by omega) (by omega) dL_law_2020 ?_
  show XWW p l e room_1 s m #[Value.ref b] below meth c cells slots (lw_Z below #[Value.ref b] s) D G ρ 9 2021 [some (xR 40 0 0), some (xR 0 0 0), some (xR 20 0 0), some (xR 26 0 0), some (xI i), x5, x6, x7, x8] [xI (SLx xs (i + 1)), xR 0 0 0] M
  refine xl_st hC c0 s0 (xs_aload_n (i := 3) dL_law_2021 rfl) ?_
  show XWW p l e room_1 s m #[Value.ref b] below meth c cells slots (lw_Z below #[Value.ref b] s) D G ρ 9 2022 [some (xR 40 0 0), some (xR 0 0 0), some (xR 20 0 0), some (xR 26 0 0), some (xI i), x5, x6, x7, x8] [xR 26 0 0, xI (SLx xs (i + 1)), xR 0 0 0] M
  refine xl_call (n := 3) (As := [xR 0 0 0, xI (SLx xs (i + 1)), xR 26 0 0]) (st := []) kL_bestLorry ⟨⟨rfl, rfl, by decide, by decide⟩, ⟨by decide, by decide, by decide +kernel⟩, tw_1031, tw_1032, tw_0, twL_bestLorry⟩ dL_law_2022 hC hl hE hc hs rfl (by decide) ⟨(SLx xs (i + 1)), rfl, lc_bestLorry hZ h (SL_in _ _)⟩ (fun rv N1 hq => ?_)
  obtain ⟨k, rfl, ⟨k0, k3⟩, href⟩ := hq
  show XWW p l e room_1 s m #[Value.ref b] below meth c (cells + 1) (slots + 6) (lw_Z below #[Value.ref b] s) D G ρ 9 2025 [some (xR 40 0 0), some (xR 0 0 0), some (xR 20 0 0), some (xR 26 0 0), some (xI i), x5, x6, x7, x8] [xI k] N1
  refine xl_st hC hc hs (xs_istore dL_law_2025 (by decide)) ?_
  show XWW p l e room_1 s m #[Value.ref b] below meth c (cells + 1) (slots + 6) (lw_Z below #[Value.ref b] s) D G ρ 9 2027 [some (xR 40 0 0), some (xR 0 0 0), some (xR 20 0 0), some (xR 26 0 0), some (xI i), some (xI k), x6, x7, x8] [] N1
  refine xl_st hC hc hs (xs_aload_n (i := 2) dL_law_2027 rfl) ?_
  show XWW p l e room_1 s m #[Value.ref b] below meth c (cells + 1) (slots + 6) (lw_Z below #[Value.ref b] s) D G ρ 9 2028 [some (xR 40 0 0), some (xR 0 0 0), some (xR 20 0 0), some (xR 26 0 0), some (xI i), some (xI k), x6, x7, x8] [xR 20 0 0] N1
  refine xl_st hC hc hs (xs_aload_n (i := 0) dL_law_2028 rfl) ?_
  show XWW p l e room_1 s m #[Value.ref b] below meth c (cells + 1) (slots + 6) (lw_Z below #[Value.ref b] s) D G ρ 9 2029 [some (xR 40 0 0), some (xR 0 0 0), some (xR 20 0 0), some (xR 26 0 0), some (xI i), some (xI k), x6, x7, x8] [xR 40 0 0, xR 20 0 0] N1
  refine xl_st hC hc hs (xs_iload dL_law_2029) ?_
  show XWW p l e room_1 s m #[Value.ref b] below meth c (cells + 1) (slots + 6) (lw_Z below #[Value.ref b] s) D G ρ 9 2031 [some (xR 40 0 0), some (xR 0 0 0), some (xR 20 0 0), some (xR 26 0 0), some (xI i), some (xI k), x6, x7, x8] [xI i, xR 40 0 0, xR 20 0 0] N1
  refine xl_st hC hc hs (xs_iconst dL_law_2031) ?_
  show XWW p l e room_1 s m #[Value.ref b] below meth c (cells + 1) (slots + 6) (lw_Z below #[Value.ref b] s) D G ρ 9 2032 [some (xR 40 0 0), some (xR 0 0 0), some (xR 20 0 0), some (xR 26 0 0), some (xI i), some (xI k), x6, x7, x8] [xI 1, xI i, xR 40 0 0, xR 20 0 0] N1
  refine xl_st hC hc hs (xs_iadd dL_law_2032) ?_
  show XWW p l e room_1 s m #[Value.ref b] below meth c (cells + 1) (slots + 6) (lw_Z below #[Value.ref b] s) D G ρ 9 2033 [some (xR 40 0 0), some (xR 0 0 0), some (xR 20 0 0), some (xR 26 0 0), some (xI i), some (xI k), x6, x7, x8] [xI (i + 1), xR 40 0 0, xR 20 0 0] N1
  refine xl_sld hC hX (by omega) (by omega) dL_law_2033 ?_
  show XWW p l e room_1 s m #[Value.ref b] below meth c (cells + 1) (slots + 6) (lw_Z below #[Value.ref b] s) D G ρ 9 2034 [some (xR 40 0 0), some (xR 0 0 0), some (xR 20 0 0), some (xR 26 0 0), some (xI i), some (xI k), x6, x7, x8] [xI (SLx xs (i + 1)), xR 20 0 0] N1
  refine xl_st hC hc hs (xs_V1 kX8_bestLorry ⟨⟨rfl, rfl, by decide, by decide⟩, ⟨by decide, by decide, by decide +kernel⟩, ⟨tw_1436, tw_1437, tw_1438, tw_9, tw_1439⟩, 8, TX8, _, rfl, fun G ρ f i k => ⟨_, rfl⟩⟩ dL_law_2034) ⟨⟨rfl, xvz_20, by decide⟩, href⟩
set_option maxRecDepth 100000 in
theorem cs_enoughGrace {p : Program} {l : Launch} {e : Env} {s : State} {m : MethodId} {below : List Frame} {meth : Method} {c : Code} {D : va_G} {G : Nat → ClassId} {ρ : XOb → Nat} {b Ln : Nat} {xs : Nat → Int32} {cells slots : Nat} (hC : XCX p room_1 s m #[Value.ref b] c 0 0 D G ρ cL_law 9 RL (Cond.initialized RL :: xT)) (hl : l.stackTraces = false) (hE : (XEw s ∧ XEs s ∧ XEz (XA ρ s.heap.size) s s.heap) ∧ XEc s) (hX : XSc s ρ b Ln xs) (hc : cells + 1 ≤ 601024) (hs : slots + 6 ≤ 7293034) {i : Int} (h0 : 0 ≤ i) (h6 : i + 6 ≤ Ln) {M : XM} (h : RR M) {x5 x6 x7 x8 : Option XV} (next : ∀ (y5 y6 y7 y8 : Option XV) (N : XM), RR N → XWW p l e room_1 s m #[Value.ref b] below meth c (cells + 1) (slots + 6) (lw_Z below #[Value.ref b] s) D G ρ 9 2181 [some (xR 40 0 0), some (xR 0 0 0), some (xR 20 0 0), some (xR 26 0 0), some (xI i), y5, y6, y7, y8] [] N) : XWW p l e room_1 s m #[Value.ref b] below meth c cells slots (lw_Z below #[Value.ref b] s) D G ρ 9 2070 [some (xR 40 0 0), some (xR 0 0 0), some (xR 20 0 0), some (xR 26 0 0), some (xI i), x5, x6, x7, x8] [] M := by
  have c0 : cells ≤ room_1.cells := Nat.le_trans (Nat.le_succ _) hc
  have s0 : slots ≤ room_1.slots := Nat.le_trans (Nat.le_add_right _ 6) hs
  have hZ : ∀ (k : Int) (rv : List XV) (N : XM), 0 ≤ k → k ≤ 3 → LE k rv N → (fun (k : Int) (rv : List XV) (N : XM) => XWW p l e room_1 s m #[Value.ref b] below meth c (cells + 1) (slots + 6) (lw_Z below #[Value.ref b] s) D G ρ 9 2093 [some (xR 40 0 0), some (xR 0 0 0), some (xR 20 0 0), some (xR 26 0 0), some (xI i), some (xI k), x6, x7, x8] (rv ++ []) N) k rv N := by
    intro k rv N k0 k3 hLE
    obtain ⟨v, rfl, hR, h5, h26⟩ := hLE
    show XWW p l e room_1 s m #[Value.ref b] below meth c (cells + 1) (slots + 6) (lw_Z below #[Value.ref b] s) D G ρ 9 2093 [some (xR 40 0 0), some (xR 0 0 0), some (xR 20 0 0), some (xR 26 0 0), some (xI i), some (xI k), x6, x7, x8] [xI v] N
    refine xl_st hC hc hs (xs_istore dL_law_2093 (by decide)) ?_
    show XWW p l e room_1 s m #[Value.ref b] below meth c (cells + 1) (slots + 6) (lw_Z below #[Value.ref b] s) D G ρ 9 2095 [some (xR 40 0 0), some (xR 0 0 0), some (xR 20 0 0), some (xR 26 0 0), some (xI i), some (xI k), some (xI v), x7, x8] [] N
    refine xl_st hC hc hs (xs_aload_n (i := 2) dL_law_2095 rfl) ?_
    show XWW p l e room_1 s m #[Value.ref b] below meth c (cells + 1) (slots + 6) (lw_Z below #[Value.ref b] s) D G ρ 9 2096 [some (xR 40 0 0), some (xR 0 0 0), some (xR 20 0 0), some (xR 26 0 0), some (xI i), some (xI k), some (xI v), x7, x8] [xR 20 0 0] N
    refine xl_st hC hc hs (xs_V0 kX8_thrown ⟨⟨rfl, rfl, by decide, by decide⟩, ⟨by decide, by decide, by decide +kernel⟩, ⟨tw_1091, tw_1092, tw_1093, tw_9, tw_1094⟩, 8, TX8, _, rfl, fun G ρ f i k => ⟨_, rfl⟩⟩ dL_law_2096) ⟨⟨rfl, xvz_20, by decide⟩, ⟨rfl, xvz_20⟩, ?_⟩
    show XWW p l e room_1 s m #[Value.ref b] below meth c (cells + 1) (slots + 6) (lw_Z below #[Value.ref b] s) D G ρ 9 2099 [some (xR 40 0 0), some (xR 0 0 0), some (xR 20 0 0), some (xR 26 0 0), some (xI i), some (xI k), some (xI v), x7, x8] [xI (N 20 0 0 5)] N
    refine xl_st hC hc hs (xs_iload dL_law_2099) ?_
    show XWW p l e room_1 s m #[Value.ref b] below meth c (cells + 1) (slots + 6) (lw_Z below #[Value.ref b] s) D G ρ 9 2101 [some (xR 40 0 0), some (xR 0 0 0), some (xR 20 0 0), some (xR 26 0 0), some (xI i), some (xI k), some (xI v), x7, x8] [xI k, xI (N 20 0 0 5)] N
    refine xl_st hC hc hs (xs_icmp_eq (t := 2106) dL_law_2101 (by decide)) ⟨⟨by rw [h5]; exact ⟨by omega, by omega⟩, ⟨by omega, by omega⟩⟩, fun _ => ?_, fun q => absurd h5 q⟩
    show XWW p l e room_1 s m #[Value.ref b] below meth c (cells + 1) (slots + 6) (lw_Z below #[Value.ref b] s) D G ρ 9 2106 [some (xR 40 0 0), some (xR 0 0 0), some (xR 20 0 0), some (xR 26 0 0), some (xI i), some (xI k), some (xI v), x7, x8] [] N
    refine xl_st hC hc hs (xs_iload dL_law_2106) ?_
    show XWW p l e room_1 s m #[Value.ref b] below meth c (cells + 1) (slots + 6) (lw_Z below #[Value.ref b] s) D G ρ 9 2108 [some (xR 40 0 0), some (xR 0 0 0), some (xR 20 0 0), some (xR 26 0 0), some (xI i), some (xI k), some (xI v), x7, x8] [xI k] N
    refine xl_st hC hc hs (xs_if_ne (t := 2123) dL_law_2108 (by decide)) ⟨⟨by omega, by omega⟩, fun _ => ?_, fun q => ?_⟩
    · show XWW p l e room_1 s m #[Value.ref b] below meth c (cells + 1) (slots + 6) (lw_Z below #[Value.ref b] s) D G ρ 9 2123 [some (xR 40 0 0), some (xR 0 0 0), some (xR 20 0 0), some (xR 26 0 0), some (xI i), some (xI k), some (xI v), x7, x8] [] N
      refine xl_st hC hc hs (xs_goto (t := 2181) dL_law_2123 (by decide)) ?_
      show XWW p l e room_1 s m #[Value.ref b] below meth c (cells + 1) (slots + 6) (lw_Z below #[Value.ref b] s) D G ρ 9 2181 [some (xR 40 0 0), some (xR 0 0 0), some (xR 20 0 0), some (xR 26 0 0), some (xI i), some (xI k), some (xI v), x7, x8] [] N
      exact next _ _ _ _ N hR
    · show XWW p l e room_1 s m #[Value.ref b] below meth c (cells + 1) (slots + 6) (lw_Z below #[Value.ref b] s) D G ρ 9 2111 [some (xR 40 0 0), some (xR 0 0 0), some (xR 20 0 0), some (xR 26 0 0), some (xI i), some (xI k), some (xI v), x7, x8] [] N
      refine xl_st hC hc hs (xs_aload_n (i := 3) dL_law_2111 rfl) ?_
      show XWW p l e room_1 s m #[Value.ref b] below meth c (cells + 1) (slots + 6) (lw_Z below #[Value.ref b] s) D G ρ 9 2112 [some (xR 40 0 0), some (xR 0 0 0), some (xR 20 0 0), some (xR 26 0 0), some (xI i), some (xI k), some (xI v), x7, x8] [xR 26 0 0] N
      refine xl_st hC hc hs (xs_iconst dL_law_2112) ?_
      show XWW p l e room_1 s m #[Value.ref b] below meth c (cells + 1) (slots + 6) (lw_Z below #[Value.ref b] s) D G ρ 9 2113 [some (xR 40 0 0), some (xR 0 0 0), some (xR 20 0 0), some (xR 26 0 0), some (xI i), some (xI k), some (xI v), x7, x8] [xI 0, xR 26 0 0] N
      refine xl_st hC hc hs (xs_lald dL_law_2113) ⟨⟨rfl, rfl, rfl, rfl⟩, ?_⟩
      show XWW p l e room_1 s m #[Value.ref b] below meth c (cells + 1) (slots + 6) (lw_Z below #[Value.ref b] s) D G ρ 9 2114 [some (xR 40 0 0), some (xR 0 0 0), some (xR 20 0 0), some (xR 26 0 0), some (xI i), some (xI k), some (xI v), x7, x8] [xJ (N 26 0 0 0)] N
      refine xl_st hC hc hs (xs_iload dL_law_2114) ?_
      show XWW p l e room_1 s m #[Value.ref b] below meth c (cells + 1) (slots + 6) (lw_Z below #[Value.ref b] s) D G ρ 9 2116 [some (xR 40 0 0), some (xR 0 0 0), some (xR 20 0 0), some (xR 26 0 0), some (xI i), some (xI k), some (xI v), x7, x8] [xI v, xJ (N 26 0 0 0)] N
      refine xl_st hC hc hs (xs_i2lw dL_law_2116) ?_
      show XWW p l e room_1 s m #[Value.ref b] below meth c (cells + 1) (slots + 6) (lw_Z below #[Value.ref b] s) D G ρ 9 2117 [some (xR 40 0 0), some (xR 0 0 0), some (xR 20 0 0), some (xR 26 0 0), some (xI i), some (xI k), some (xI v), x7, x8] [xJ (w32 v), xJ (N 26 0 0 0)] N
      refine xl_st hC hc hs (xs_lcmp dL_law_2117) ⟨h26 q, ?_⟩
      show XWW p l e room_1 s m #[Value.ref b] below meth c (cells + 1) (slots + 6) (lw_Z below #[Value.ref b] s) D G ρ 9 2118 [some (xR 40 0 0), some (xR 0 0 0), some (xR 20 0 0), some (xR 26 0 0), some (xI i), some (xI k), some (xI v), x7, x8] [xI 0] N
      refine xl_st hC hc hs (xs_if_eq (t := 2123) dL_law_2118 (by decide)) ⟨x_r0, fun _ => ?_, fun q => absurd rfl q⟩
      show XWW p l e room_1 s m #[Value.ref b] below meth c (cells + 1) (slots + 6) (lw_Z below #[Value.ref b] s) D G ρ 9 2123 [some (xR 40 0 0), some (xR 0 0 0), some (xR 20 0 0), some (xR 26 0 0), some (xI i), some (xI k), some (xI v), x7, x8] [] N
      refine xl_st hC hc hs (xs_goto (t := 2181) dL_law_2123 (by decide)) ?_
      show XWW p l e room_1 s m #[Value.ref b] below meth c (cells + 1) (slots + 6) (lw_Z below #[Value.ref b] s) D G ρ 9 2181 [some (xR 40 0 0), some (xR 0 0 0), some (xR 20 0 0), some (xR 26 0 0), some (xI i), some (xI k), some (xI v), x7, x8] [] N
      exact next _ _ _ _ N hR
  show XWW p l e room_1 s m #[Value.ref b] below meth c cells slots (lw_Z below #[Value.ref b] s) D G ρ 9 2070 [some (xR 40 0 0), some (xR 0 0 0), some (xR 20 0 0), some (xR 26 0 0), some (xI i), x5, x6, x7, x8] [] M
  refine xl_st hC c0 s0 (xs_aload_n (i := 1) dL_law_2070 rfl) ?_
  show XWW p l e room_1 s m #[Value.ref b] below meth c cells slots (lw_Z below #[Value.ref b] s) D G ρ 9 2071 [some (xR 40 0 0), some (xR 0 0 0), some (xR 20 0 0), some (xR 26 0 0), some (xI i), x5, x6, x7, x8] [xR 0 0 0] M
  refine xl_st hC c0 s0 (xs_aload_n (i := 0) dL_law_2071 rfl) ?_
  show XWW p l e room_1 s m #[Value.ref b] below meth c cells slots (lw_Z below #[Value.ref b] s) D G ρ 9 2072 [some (xR 40 0 0), some (xR 0 0 0), some (xR 20 0 0), some (xR 26 0 0), some (xI i), x5, x6, x7, x8] [xR 40 0 0, xR 0 0 0] M
  refine xl_st hC c0 s0 (xs_iload dL_law_2072) ?_
  show XWW p l e room_1 s m #[Value.ref b] below meth c cells slots (lw_Z below #[Value.ref b] s) D G ρ 9 2074 [some (xR 40 0 0), some (xR 0 0 0), some (xR 20 0 0), some (xR 26 0 0), some (xI i), x5, x6, x7, x8] [xI i, xR 40 0 0, xR 0 0 0] M
  refine xl_st hC c0 s0 (xs_iconst dL_law_2074) ?_
  show XWW p l e room_1 s m #[Value.ref b] below meth c cells slots (lw_Z below #[Value.ref b] s) D G ρ 9 2075 [some (xR 40 0 0), some (xR 0 0 0), some (xR 20 0 0), some (xR 26 0 0), some (xI i), x5, x6, x7, x8] [xI 1, xI i, xR 40 0 0, xR 0 0 0] M
  refine xl_st hC c0 s0 (xs_iadd dL_law_2075) ?_
  show XWW p l e room_1 s m #[Value.ref b] below meth c cells slots (lw_Z below #[Value.ref b] s) D G ρ 9 2076 [some (xR 40 0 0), some (xR 0 0 0), some (xR 20 0 0), some (xR 26 0 0), some (xI i), x5, x6, x7, x8] [xI (i + 1), xR 40 0 0, xR 0 0 0] M
  refine xl_sld hC hX (by omega) (by omega) dL_law_2076 ?_
  show XWW p l e room_1 s m #[Value.ref b] below meth c cells slots (lw_Z below #[Value.ref b] s) D G ρ 9 2077 [some (xR 40 0 0), some (xR 0 0 0), some (xR 20 0 0), some (xR 26 0 0), some (xI i), x5, x6, x7, x8] [xI (SLx xs (i + 1)), xR 0 0 0] M
  refine xl_st hC c0 s0 (xs_aload_n (i := 3) dL_law_2077 rfl) ?_
  show XWW p l e room_1 s m #[Value.ref b] below meth c cells slots (lw_Z below #[Value.ref b] s) D G ρ 9 2078 [some (xR 40 0 0), some (xR 0 0 0), some (xR 20 0 0), some (xR 26 0 0), some (xI i), x5, x6, x7, x8] [xR 26 0 0, xI (SLx xs (i + 1)), xR 0 0 0] M
  refine xl_call (n := 3) (As := [xR 0 0 0, xI (SLx xs (i + 1)), xR 26 0 0]) (st := []) kL_enoughGrace ⟨⟨rfl, rfl, by decide, by decide⟩, ⟨by decide, by decide, by decide +kernel⟩, tw_1035, tw_1036, tw_0, twL_enoughGrace⟩ dL_law_2078 hC hl hE hc hs rfl (by decide) ⟨(SLx xs (i + 1)), rfl, lc_enoughGrace hZ h (SL_in _ _)⟩ (fun rv N1 hq => ?_)
  obtain ⟨k, rfl, ⟨k0, k3⟩, href⟩ := hq
  show XWW p l e room_1 s m #[Value.ref b] below meth c (cells + 1) (slots + 6) (lw_Z below #[Value.ref b] s) D G ρ 9 2081 [some (xR 40 0 0), some (xR 0 0 0), some (xR 20 0 0), some (xR 26 0 0), some (xI i), x5, x6, x7, x8] [xI k] N1
  refine xl_st hC hc hs (xs_istore dL_law_2081 (by decide)) ?_
  show XWW p l e room_1 s m #[Value.ref b] below meth c (cells + 1) (slots + 6) (lw_Z below #[Value.ref b] s) D G ρ 9 2083 [some (xR 40 0 0), some (xR 0 0 0), some (xR 20 0 0), some (xR 26 0 0), some (xI i), some (xI k), x6, x7, x8] [] N1
  refine xl_st hC hc hs (xs_aload_n (i := 2) dL_law_2083 rfl) ?_
  show XWW p l e room_1 s m #[Value.ref b] below meth c (cells + 1) (slots + 6) (lw_Z below #[Value.ref b] s) D G ρ 9 2084 [some (xR 40 0 0), some (xR 0 0 0), some (xR 20 0 0), some (xR 26 0 0), some (xI i), some (xI k), x6, x7, x8] [xR 20 0 0] N1
  refine xl_st hC hc hs (xs_aload_n (i := 0) dL_law_2084 rfl) ?_
  show XWW p l e room_1 s m #[Value.ref b] below meth c (cells + 1) (slots + 6) (lw_Z below #[Value.ref b] s) D G ρ 9 2085 [some (xR 40 0 0), some (xR 0 0 0), some (xR 20 0 0), some (xR 26 0 0), some (xI i), some (xI k), x6, x7, x8] [xR 40 0 0, xR 20 0 0] N1
  refine xl_st hC hc hs (xs_iload dL_law_2085) ?_
  show XWW p l e room_1 s m #[Value.ref b] below meth c (cells + 1) (slots + 6) (lw_Z below #[Value.ref b] s) D G ρ 9 2087 [some (xR 40 0 0), some (xR 0 0 0), some (xR 20 0 0), some (xR 26 0 0), some (xI i), some (xI k), x6, x7, x8] [xI i, xR 40 0 0, xR 20 0 0] N1
  refine xl_st hC hc hs (xs_iconst dL_law_2087) ?_
  show XWW p l e room_1 s m #[Value.ref b] below meth c (cells + 1) (slots + 6) (lw_Z below #[Value.ref b] s) D G ρ 9 2088 [some (xR 40 0 0), some (xR 0 0 0), some (xR 20 0 0), some (xR 26 0 0), some (xI i), some (xI k), x6, x7, x8] [xI 1, xI i, xR 40 0 0, xR 20 0 0] N1
  refine xl_st hC hc hs (xs_iadd dL_law_2088) ?_
  show XWW p l e room_1 s m #[Value.ref b] below meth c (cells + 1) (slots + 6) (lw_Z below #[Value.ref b] s) D G ρ 9 2089 [some (xR 40 0 0), some (xR 0 0 0), some (xR 20 0 0), some (xR 26 0 0), some (xI i), some (xI k), x6, x7, x8] [xI (i + 1), xR 40 0 0, xR 20 0 0] N1
  refine xl_sld hC hX (by omega) (by omega) dL_law_2089 ?_
  show XWW p l e room_1 s m #[Value.ref b] below meth c (cells + 1) (slots + 6) (lw_Z below #[Value.ref b] s) D G ρ 9 2090 [some (xR 40 0 0), some (xR 0 0 0), some (xR 20 0 0), some (xR 26 0 0), some (xI i), some (xI k), x6, x7, x8] [xI (SLx xs (i + 1)), xR 20 0 0] N1
  refine xl_st hC hc hs (xs_V1 kX8_enoughGrace ⟨⟨rfl, rfl, by decide, by decide⟩, ⟨by decide, by decide, by decide +kernel⟩, ⟨tw_1448, tw_1449, tw_1450, tw_9, tw_1451⟩, 8, TX8, _, rfl, fun G ρ f i k => ⟨_, rfl⟩⟩ dL_law_2090) ⟨⟨rfl, xvz_20, by decide⟩, href⟩
set_option maxRecDepth 100000 in
theorem cs_servedShare {p : Program} {l : Launch} {e : Env} {s : State} {m : MethodId} {below : List Frame} {meth : Method} {c : Code} {D : va_G} {G : Nat → ClassId} {ρ : XOb → Nat} {b Ln : Nat} {xs : Nat → Int32} {cells slots : Nat} (hC : XCX p room_1 s m #[Value.ref b] c 0 0 D G ρ cL_law 9 RL (Cond.initialized RL :: xT)) (hl : l.stackTraces = false) (hE : (XEw s ∧ XEs s ∧ XEz (XA ρ s.heap.size) s s.heap) ∧ XEc s) (hX : XSc s ρ b Ln xs) (hc : cells + 1 ≤ 601024) (hs : slots + 6 ≤ 7293034) {i : Int} (h0 : 0 ≤ i) (h6 : i + 6 ≤ Ln) {M : XM} (h : RR M) {x5 x6 x7 x8 : Option XV} (next : ∀ (y5 y6 y7 y8 : Option XV) (N : XM), RR N → XWW p l e room_1 s m #[Value.ref b] below meth c (cells + 1) (slots + 6) (lw_Z below #[Value.ref b] s) D G ρ 9 2181 [some (xR 40 0 0), some (xR 0 0 0), some (xR 20 0 0), some (xR 26 0 0), some (xI i), y5, y6, y7, y8] [] N) : XWW p l e room_1 s m #[Value.ref b] below meth c cells slots (lw_Z below #[Value.ref b] s) D G ρ 9 2126 [some (xR 40 0 0), some (xR 0 0 0), some (xR 20 0 0), some (xR 26 0 0), some (xI i), x5, x6, x7, x8] [] M := by
  have c0 : cells ≤ room_1.cells := Nat.le_trans (Nat.le_succ _) hc
  have s0 : slots ≤ room_1.slots := Nat.le_trans (Nat.le_add_right _ 6) hs
  have hZ : ∀ (a : UInt64) (N : XM), shOK a → RR N → (fun (a : UInt64) (rv : List XV) (N : XM) => XWW p l e room_1 s m #[Value.ref b] below meth c cells slots (lw_Z below #[Value.ref b] s) D G ρ 9 2136 [some (xR 40 0 0), some (xR 0 0 0), some (xR 20 0 0), some (xR 26 0 0), some (xI i), some (xF a), none, x7, x8] (rv ++ []) N) a [xF a] N := by
    intro a N ra hR
    show XWW p l e room_1 s m #[Value.ref b] below meth c cells slots (lw_Z below #[Value.ref b] s) D G ρ 9 2136 [some (xR 40 0 0), some (xR 0 0 0), some (xR 20 0 0), some (xR 26 0 0), some (xI i), some (xF a), none, x7, x8] [xF a] N
    refine xl_st hC c0 s0 (xs_dstore dL_law_2136 (by decide)) ?_
    show XWW p l e room_1 s m #[Value.ref b] below meth c cells slots (lw_Z below #[Value.ref b] s) D G ρ 9 2138 [some (xR 40 0 0), some (xR 0 0 0), some (xR 20 0 0), some (xR 26 0 0), some (xI i), some (xF a), none, some (xF a), none] [] N
    refine xl_st hC c0 s0 (xs_dload dL_law_2138) ?_
    show XWW p l e room_1 s m #[Value.ref b] below meth c cells slots (lw_Z below #[Value.ref b] s) D G ρ 9 2140 [some (xR 40 0 0), some (xR 0 0 0), some (xR 20 0 0), some (xR 26 0 0), some (xI i), some (xF a), none, some (xF a), none] [xF a] N
    refine xl_st hC c0 s0 (xs_dload dL_law_2140) ?_
    show XWW p l e room_1 s m #[Value.ref b] below meth c cells slots (lw_Z below #[Value.ref b] s) D G ρ 9 2142 [some (xR 40 0 0), some (xR 0 0 0), some (xR 20 0 0), some (xR 26 0 0), some (xI i), some (xF a), none, some (xF a), none] [xF a, xF a] N
    refine xl_st hC c0 s0 (xs_dcp dL_law_2142) ?_
    show XWW p l e room_1 s m #[Value.ref b] below meth c cells slots (lw_Z below #[Value.ref b] s) D G ρ 9 2143 [some (xR 40 0 0), some (xR 0 0 0), some (xR 20 0 0), some (xR 26 0 0), some (xI i), some (xF a), none, some (xF a), none] [xI (dcV .l a a)] N
    refine xl_st hC c0 s0 (xs_if_eq (t := 2164) dL_law_2143 (by decide)) ⟨dcV_in, fun _ => ?_, fun q => absurd (dcV_eq (shOK_self ra)) q⟩
    show XWW p l e room_1 s m #[Value.ref b] below meth c cells slots (lw_Z below #[Value.ref b] s) D G ρ 9 2164 [some (xR 40 0 0), some (xR 0 0 0), some (xR 20 0 0), some (xR 26 0 0), some (xI i), some (xF a), none, some (xF a), none] [] N
    refine xl_st hC c0 s0 (xs_goto (t := 2181) dL_law_2164 (by decide)) ?_
    show XWW p l e room_1 s m #[Value.ref b] below meth c cells slots (lw_Z below #[Value.ref b] s) D G ρ 9 2181 [some (xR 40 0 0), some (xR 0 0 0), some (xR 20 0 0), some (xR 26 0 0), some (xI i), some (xF a), none, some (xF a), none] [] N
    exact xl_widen (Nat.le_succ _) (Nat.le_add_right _ 6) (next _ _ _ _ N hR)
  show XWW p l e room_1 s m #[Value.ref b] below meth c cells slots (lw_Z below #[Value.ref b] s) D G ρ 9 2126 [some (xR 40 0 0), some (xR 0 0 0), some (xR 20 0 0), some (xR 26 0 0), some (xI i), x5, x6, x7, x8] [] M
  refine xl_st hC c0 s0 (xs_aload_n (i := 1) dL_law_2126 rfl) ?_
  show XWW p l e room_1 s m #[Value.ref b] below meth c cells slots (lw_Z below #[Value.ref b] s) D G ρ 9 2127 [some (xR 40 0 0), some (xR 0 0 0), some (xR 20 0 0), some (xR 26 0 0), some (xI i), x5, x6, x7, x8] [xR 0 0 0] M
  have hY : ∀ (rv : List XV) (N : XM), LF (fun N => sX8_servedShare [xR 20 0 0] N) (fun (a : UInt64) (rv : List XV) (N : XM) => XWW p l e room_1 s m #[Value.ref b] below meth c cells slots (lw_Z below #[Value.ref b] s) D G ρ 9 2136 [some (xR 40 0 0), some (xR 0 0 0), some (xR 20 0 0), some (xR 26 0 0), some (xI i), some (xF a), none, x7, x8] (rv ++ []) N) rv N → XWW p l e room_1 s m #[Value.ref b] below meth c cells slots (lw_Z below #[Value.ref b] s) D G ρ 9 2130 [some (xR 40 0 0), some (xR 0 0 0), some (xR 20 0 0), some (xR 26 0 0), some (xI i), x5, x6, x7, x8] (rv ++ []) N := by
    intro rv N hq
    obtain ⟨a, rfl, ra, href⟩ := hq
    show XWW p l e room_1 s m #[Value.ref b] below meth c cells slots (lw_Z below #[Value.ref b] s) D G ρ 9 2130 [some (xR 40 0 0), some (xR 0 0 0), some (xR 20 0 0), some (xR 26 0 0), some (xI i), x5, x6, x7, x8] [xF a] N
    refine xl_st hC c0 s0 (xs_dstore dL_law_2130 (by decide)) ?_
    show XWW p l e room_1 s m #[Value.ref b] below meth c cells slots (lw_Z below #[Value.ref b] s) D G ρ 9 2132 [some (xR 40 0 0), some (xR 0 0 0), some (xR 20 0 0), some (xR 26 0 0), some (xI i), some (xF a), none, x7, x8] [] N
    refine xl_st hC c0 s0 (xs_aload_n (i := 2) dL_law_2132 rfl) ?_
    show XWW p l e room_1 s m #[Value.ref b] below meth c cells slots (lw_Z below #[Value.ref b] s) D G ρ 9 2133 [some (xR 40 0 0), some (xR 0 0 0), some (xR 20 0 0), some (xR 26 0 0), some (xI i), some (xF a), none, x7, x8] [xR 20 0 0] N
    refine xl_st hC c0 s0 (xs_V0 kX8_servedShare ⟨⟨rfl, rfl, by decide, by decide⟩, ⟨by decide, by decide, by decide +kernel⟩, ⟨tw_1456, tw_1457, tw_1458, tw_9, tw_1459⟩, 8, TX8, _, rfl, fun G ρ f i k => ⟨_, rfl⟩⟩ dL_law_2133) ⟨⟨rfl, xvz_20, by decide⟩, href⟩
  refine xl_st hC c0 s0 (xs_V0 kX7_servedShare ⟨⟨rfl, rfl, by decide, by decide⟩, ⟨by decide, by decide, by decide +kernel⟩, ⟨tw_346, tw_347, tw_348, tw_1, tw_349⟩, 7, TX7, _, rfl, fun G ρ f i k => ⟨_, rfl⟩⟩ dL_law_2127) ⟨⟨rfl, xvz_0, by decide⟩, lc_servedShare hY hZ h⟩
set_option maxRecDepth 100000 in
theorem cs_digest {p : Program} {l : Launch} {e : Env} {s : State} {m : MethodId} {below : List Frame} {meth : Method} {c : Code} {D : va_G} {G : Nat → ClassId} {ρ : XOb → Nat} {b Ln : Nat} {xs : Nat → Int32} {cells slots : Nat} (hC : XCX p room_1 s m #[Value.ref b] c 0 0 D G ρ cL_law 9 RL (Cond.initialized RL :: xT)) (hl : l.stackTraces = false) (hE : (XEw s ∧ XEs s ∧ XEz (XA ρ s.heap.size) s s.heap) ∧ XEc s) (hX : XSc s ρ b Ln xs) (hc : cells + 1 ≤ 601024) (hs : slots + 6 ≤ 7293034) {i : Int} (h0 : 0 ≤ i) (h6 : i + 6 ≤ Ln) {M : XM} (h : RR M) {x5 x6 x7 x8 : Option XV} (next : ∀ (y5 y6 y7 y8 : Option XV) (N : XM), RR N → XWW p l e room_1 s m #[Value.ref b] below meth c (cells + 1) (slots + 6) (lw_Z below #[Value.ref b] s) D G ρ 9 2181 [some (xR 40 0 0), some (xR 0 0 0), some (xR 20 0 0), some (xR 26 0 0), some (xI i), y5, y6, y7, y8] [] N) : XWW p l e room_1 s m #[Value.ref b] below meth c cells slots (lw_Z below #[Value.ref b] s) D G ρ 9 2167 [some (xR 40 0 0), some (xR 0 0 0), some (xR 20 0 0), some (xR 26 0 0), some (xI i), x5, x6, x7, x8] [] M := by
  have c0 : cells ≤ room_1.cells := Nat.le_trans (Nat.le_succ _) hc
  have s0 : slots ≤ room_1.slots := Nat.le_trans (Nat.le_add_right _ 6) hs
  have hZ : ∀ (a : Int) (N : XM), RR N → (fun (a : Int) (rv : List XV) (N : XM) => XWW p l e room_1 s m #[Value.ref b] below meth c cells slots (lw_Z below #[Value.ref b] s) D G ρ 9 2175 [some (xR 40 0 0), some (xR 0 0 0), some (xR 20 0 0), some (xR 26 0 0), some (xI i), x5, x6, x7, x8] (rv ++ [xJ a]) N) a [xJ a] N := by
    intro a N hR
    show XWW p l e room_1 s m #[Value.ref b] below meth c cells slots (lw_Z below #[Value.ref b] s) D G ρ 9 2175 [some (xR 40 0 0), some (xR 0 0 0), some (xR 20 0 0), some (xR 26 0 0), some (xI i), x5, x6, x7, x8] [xJ a, xJ a] N
    refine xl_st hC c0 s0 (xs_lcmp dL_law_2175) ⟨rfl, ?_⟩
    show XWW p l e room_1 s m #[Value.ref b] below meth c cells slots (lw_Z below #[Value.ref b] s) D G ρ 9 2176 [some (xR 40 0 0), some (xR 0 0 0), some (xR 20 0 0), some (xR 26 0 0), some (xI i), x5, x6, x7, x8] [xI 0] N
    refine xl_st hC c0 s0 (xs_if_eq (t := 2181) dL_law_2176 (by decide)) ⟨x_r0, fun _ => ?_, fun q => absurd rfl q⟩
    show XWW p l e room_1 s m #[Value.ref b] below meth c cells slots (lw_Z below #[Value.ref b] s) D G ρ 9 2181 [some (xR 40 0 0), some (xR 0 0 0), some (xR 20 0 0), some (xR 26 0 0), some (xI i), x5, x6, x7, x8] [] N
    exact xl_widen (Nat.le_succ _) (Nat.le_add_right _ 6) (next _ _ _ _ N hR)
  show XWW p l e room_1 s m #[Value.ref b] below meth c cells slots (lw_Z below #[Value.ref b] s) D G ρ 9 2167 [some (xR 40 0 0), some (xR 0 0 0), some (xR 20 0 0), some (xR 26 0 0), some (xI i), x5, x6, x7, x8] [] M
  refine xl_st hC c0 s0 (xs_aload_n (i := 1) dL_law_2167 rfl) ?_
  show XWW p l e room_1 s m #[Value.ref b] below meth c cells slots (lw_Z below #[Value.ref b] s) D G ρ 9 2168 [some (xR 40 0 0), some (xR 0 0 0), some (xR 20 0 0), some (xR 26 0 0), some (xI i), x5, x6, x7, x8] [xR 0 0 0] M
  have hY : ∀ (rv : List XV) (N : XM), LJ (fun N => sX8_digest [xR 20 0 0] N) (fun (a : Int) (rv : List XV) (N : XM) => XWW p l e room_1 s m #[Value.ref b] below meth c cells slots (lw_Z below #[Value.ref b] s) D G ρ 9 2175 [some (xR 40 0 0), some (xR 0 0 0), some (xR 20 0 0), some (xR 26 0 0), some (xI i), x5, x6, x7, x8] (rv ++ [xJ a]) N) rv N → XWW p l e room_1 s m #[Value.ref b] below meth c cells slots (lw_Z below #[Value.ref b] s) D G ρ 9 2171 [some (xR 40 0 0), some (xR 0 0 0), some (xR 20 0 0), some (xR 26 0 0), some (xI i), x5, x6, x7, x8] (rv ++ []) N := by
    intro rv N hq
    obtain ⟨a, rfl, href⟩ := hq
    show XWW p l e room_1 s m #[Value.ref b] below meth c cells slots (lw_Z below #[Value.ref b] s) D G ρ 9 2171 [some (xR 40 0 0), some (xR 0 0 0), some (xR 20 0 0), some (xR 26 0 0), some (xI i), x5, x6, x7, x8] [xJ a] N
    refine xl_st hC c0 s0 (xs_aload_n (i := 2) dL_law_2171 rfl) ?_
    show XWW p l e room_1 s m #[Value.ref b] below meth c cells slots (lw_Z below #[Value.ref b] s) D G ρ 9 2172 [some (xR 40 0 0), some (xR 0 0 0), some (xR 20 0 0), some (xR 26 0 0), some (xI i), x5, x6, x7, x8] [xR 20 0 0, xJ a] N
    refine xl_st hC c0 s0 (xs_V0 kX8_digest ⟨⟨rfl, rfl, by decide, by decide⟩, ⟨by decide, by decide, by decide +kernel⟩, ⟨tw_1464, tw_1465, tw_1466, tw_9, tw_1467⟩, 8, TX8, _, rfl, fun G ρ f i k => ⟨_, rfl⟩⟩ dL_law_2172) ⟨⟨rfl, xvz_20, (show (2 : Nat) ≤ 8 by decide)⟩, href⟩
  refine xl_st hC c0 s0 (xs_V0 kX7_digest ⟨⟨rfl, rfl, by decide, by decide⟩, ⟨by decide, by decide, by decide +kernel⟩, ⟨tw_354, tw_355, tw_356, tw_1, tw_357⟩, 7, TX7, _, rfl, fun G ρ f i k => ⟨_, rfl⟩⟩ dL_law_2168) ⟨⟨rfl, xvz_0, by decide⟩, lc_digest hY hZ h⟩
end XLz

