section XL4
variable {R : Room} {cc : ByteArray} {nL : Nat} {own : String} {Ts : List Cond} {ret : Option FieldType} {Post : XPo} {pc : Nat}
theorem xs_icmp_eq {off : Int} {t : Nat} (d : decode cc pc = .ok (.if_icmp .eq off, 3)) (ht : (pc : Int) + off = (t : Int)) : XSnd R cc nL own Ts ret Post pc (j_ieq t) := by
  intro p l e s m args below meth c cells slots Q D G ρ hC hR L st M K h hk H locs ls hP hS hl
  simp only [j_ieq] at h
  split at h
  next b a st' => exact lv_icmp_eq (x := Int32.ofInt a) (y := Int32.ofInt b) (rest := st'.map (xcv ρ)) hC.1.1 hC.1.2.1 d ht (fun z => hk _ _ _ _ (h.2.1 ((x_eq h.1.1 h.1.2).mp z)) H locs ls hP hS hl) (fun z => hk _ _ _ _ (h.2.2 (fun g => z ((x_eq h.1.1 h.1.2).mpr g))) H locs ls hP hS hl)
  next => exact h.elim
theorem xs_if_eq {off : Int} {t : Nat} (d : decode cc pc = .ok (.ifCond .eq off, 3)) (ht : (pc : Int) + off = (t : Int)) : XSnd R cc nL own Ts ret Post pc (j_eq t) := by
  intro p l e s m args below meth c cells slots Q D G ρ hC hR L st M K h hk H locs ls hP hS hl
  simp only [j_eq] at h
  split at h
  next a st' => exact lv_if_eq (x := Int32.ofInt a) (rest := st'.map (xcv ρ)) hC.1.1 hC.1.2.1 d ht (fun z => hk _ _ _ _ (h.2.1 ((x_eq h.1 x_r0).mp z)) H locs ls hP hS hl) (fun z => hk _ _ _ _ (h.2.2 (fun g => z ((x_eq h.1 x_r0).mpr g))) H locs ls hP hS hl)
  next => exact h.elim
theorem xs_icmp_ne {off : Int} {t : Nat} (d : decode cc pc = .ok (.if_icmp .ne off, 3)) (ht : (pc : Int) + off = (t : Int)) : XSnd R cc nL own Ts ret Post pc (j_ine t) := by
  intro p l e s m args below meth c cells slots Q D G ρ hC hR L st M K h hk H locs ls hP hS hl
  simp only [j_ine] at h
  split at h
  next b a st' => exact lv_icmp_ne (x := Int32.ofInt a) (y := Int32.ofInt b) (rest := st'.map (xcv ρ)) hC.1.1 hC.1.2.1 d ht (fun z => hk _ _ _ _ (h.2.1 (fun g => z ((x_eq h.1.1 h.1.2).mpr g))) H locs ls hP hS hl) (fun z => hk _ _ _ _ (h.2.2 ((x_eq h.1.1 h.1.2).mp z)) H locs ls hP hS hl)
  next => exact h.elim
theorem xs_if_ne {off : Int} {t : Nat} (d : decode cc pc = .ok (.ifCond .ne off, 3)) (ht : (pc : Int) + off = (t : Int)) : XSnd R cc nL own Ts ret Post pc (j_ne t) := by
  intro p l e s m args below meth c cells slots Q D G ρ hC hR L st M K h hk H locs ls hP hS hl
  simp only [j_ne] at h
  split at h
  next a st' => exact lv_if_ne (x := Int32.ofInt a) (rest := st'.map (xcv ρ)) hC.1.1 hC.1.2.1 d ht (fun z => hk _ _ _ _ (h.2.1 (fun g => z ((x_eq h.1 x_r0).mpr g))) H locs ls hP hS hl) (fun z => hk _ _ _ _ (h.2.2 ((x_eq h.1 x_r0).mp z)) H locs ls hP hS hl)
  next => exact h.elim
theorem xs_icmp_lt {off : Int} {t : Nat} (d : decode cc pc = .ok (.if_icmp .lt off, 3)) (ht : (pc : Int) + off = (t : Int)) : XSnd R cc nL own Ts ret Post pc (j_ilt t) := by
  intro p l e s m args below meth c cells slots Q D G ρ hC hR L st M K h hk H locs ls hP hS hl
  simp only [j_ilt] at h
  split at h
  next b a st' => exact lv_icmp_lt (x := Int32.ofInt a) (y := Int32.ofInt b) (rest := st'.map (xcv ρ)) hC.1.1 hC.1.2.1 d ht (fun z => hk _ _ _ _ (h.2.1 ((x_lt h.1.1 h.1.2).mp z)) H locs ls hP hS hl) (fun z => hk _ _ _ _ (h.2.2 (fun g => z ((x_lt h.1.1 h.1.2).mpr g))) H locs ls hP hS hl)
  next => exact h.elim
theorem xs_if_lt {off : Int} {t : Nat} (d : decode cc pc = .ok (.ifCond .lt off, 3)) (ht : (pc : Int) + off = (t : Int)) : XSnd R cc nL own Ts ret Post pc (j_lt t) := by
  intro p l e s m args below meth c cells slots Q D G ρ hC hR L st M K h hk H locs ls hP hS hl
  simp only [j_lt] at h
  split at h
  next a st' => exact lv_if_lt (x := Int32.ofInt a) (rest := st'.map (xcv ρ)) hC.1.1 hC.1.2.1 d ht (fun z => hk _ _ _ _ (h.2.1 ((x_lt h.1 x_r0).mp z)) H locs ls hP hS hl) (fun z => hk _ _ _ _ (h.2.2 (fun g => z ((x_lt h.1 x_r0).mpr g))) H locs ls hP hS hl)
  next => exact h.elim
theorem xs_icmp_ge {off : Int} {t : Nat} (d : decode cc pc = .ok (.if_icmp .ge off, 3)) (ht : (pc : Int) + off = (t : Int)) : XSnd R cc nL own Ts ret Post pc (j_ige t) := by
  intro p l e s m args below meth c cells slots Q D G ρ hC hR L st M K h hk H locs ls hP hS hl
  simp only [j_ige] at h
  split at h
  next b a st' => exact lv_icmp_ge (x := Int32.ofInt a) (y := Int32.ofInt b) (rest := st'.map (xcv ρ)) hC.1.1 hC.1.2.1 d ht (fun z => hk _ _ _ _ (h.2.1 ((x_le h.1.2 h.1.1).mp z)) H locs ls hP hS hl) (fun z => hk _ _ _ _ (h.2.2 (fun g => z ((x_le h.1.2 h.1.1).mpr g))) H locs ls hP hS hl)
  next => exact h.elim
theorem xs_if_ge {off : Int} {t : Nat} (d : decode cc pc = .ok (.ifCond .ge off, 3)) (ht : (pc : Int) + off = (t : Int)) : XSnd R cc nL own Ts ret Post pc (j_ge t) := by
  intro p l e s m args below meth c cells slots Q D G ρ hC hR L st M K h hk H locs ls hP hS hl
  simp only [j_ge] at h
  split at h
  next a st' => exact lv_if_ge (x := Int32.ofInt a) (rest := st'.map (xcv ρ)) hC.1.1 hC.1.2.1 d ht (fun z => hk _ _ _ _ (h.2.1 ((x_le x_r0 h.1).mp z)) H locs ls hP hS hl) (fun z => hk _ _ _ _ (h.2.2 (fun g => z ((x_le x_r0 h.1).mpr g))) H locs ls hP hS hl)
  next => exact h.elim
theorem xs_icmp_gt {off : Int} {t : Nat} (d : decode cc pc = .ok (.if_icmp .gt off, 3)) (ht : (pc : Int) + off = (t : Int)) : XSnd R cc nL own Ts ret Post pc (j_igt t) := by
  intro p l e s m args below meth c cells slots Q D G ρ hC hR L st M K h hk H locs ls hP hS hl
  simp only [j_igt] at h
  split at h
  next b a st' => exact lv_icmp_gt (x := Int32.ofInt a) (y := Int32.ofInt b) (rest := st'.map (xcv ρ)) hC.1.1 hC.1.2.1 d ht (fun z => hk _ _ _ _ (h.2.1 ((x_lt h.1.2 h.1.1).mp z)) H locs ls hP hS hl) (fun z => hk _ _ _ _ (h.2.2 (fun g => z ((x_lt h.1.2 h.1.1).mpr g))) H locs ls hP hS hl)
  next => exact h.elim
theorem xs_if_gt {off : Int} {t : Nat} (d : decode cc pc = .ok (.ifCond .gt off, 3)) (ht : (pc : Int) + off = (t : Int)) : XSnd R cc nL own Ts ret Post pc (j_gt t) := by
  intro p l e s m args below meth c cells slots Q D G ρ hC hR L st M K h hk H locs ls hP hS hl
  simp only [j_gt] at h
  split at h
  next a st' => exact lv_if_gt (x := Int32.ofInt a) (rest := st'.map (xcv ρ)) hC.1.1 hC.1.2.1 d ht (fun z => hk _ _ _ _ (h.2.1 ((x_lt x_r0 h.1).mp z)) H locs ls hP hS hl) (fun z => hk _ _ _ _ (h.2.2 (fun g => z ((x_lt x_r0 h.1).mpr g))) H locs ls hP hS hl)
  next => exact h.elim
theorem xs_icmp_le {off : Int} {t : Nat} (d : decode cc pc = .ok (.if_icmp .le off, 3)) (ht : (pc : Int) + off = (t : Int)) : XSnd R cc nL own Ts ret Post pc (j_ile t) := by
  intro p l e s m args below meth c cells slots Q D G ρ hC hR L st M K h hk H locs ls hP hS hl
  simp only [j_ile] at h
  split at h
  next b a st' => exact lv_icmp_le (x := Int32.ofInt a) (y := Int32.ofInt b) (rest := st'.map (xcv ρ)) hC.1.1 hC.1.2.1 d ht (fun z => hk _ _ _ _ (h.2.1 ((x_le h.1.1 h.1.2).mp z)) H locs ls hP hS hl) (fun z => hk _ _ _ _ (h.2.2 (fun g => z ((x_le h.1.1 h.1.2).mpr g))) H locs ls hP hS hl)
  next => exact h.elim
theorem xs_if_le {off : Int} {t : Nat} (d : decode cc pc = .ok (.ifCond .le off, 3)) (ht : (pc : Int) + off = (t : Int)) : XSnd R cc nL own Ts ret Post pc (j_le t) := by
  intro p l e s m args below meth c cells slots Q D G ρ hC hR L st M K h hk H locs ls hP hS hl
  simp only [j_le] at h
  split at h
  next a st' => exact lv_if_le (x := Int32.ofInt a) (rest := st'.map (xcv ρ)) hC.1.1 hC.1.2.1 d ht (fun z => hk _ _ _ _ (h.2.1 ((x_le h.1 x_r0).mp z)) H locs ls hP hS hl) (fun z => hk _ _ _ _ (h.2.2 (fun g => z ((x_le h.1 x_r0).mpr g))) H locs ls hP hS hl)
  next => exact h.elim
theorem xsw_at {L : XLs} {st : List XV} {M : XM} {K : XK} {x : Int} : ∀ {ts : List Nat} {n : Int}, xsw L st M K x n ts → ∀ (j t : Nat), ts[j]? = some t → x = n + j → K t L st M
  | [], _, _, j, t, h, _ => by simp at h
  | u :: ts, n, h, 0, t, hj, hx => by
    simp only [List.getElem?_cons_zero, Option.some.injEq] at hj
    subst hj
    exact h.1 (by omega)
  | u :: ts, n, h, j + 1, t, hj, hx => xsw_at h.2 j t (by simpa using hj) (by omega)
theorem xs_tsw {dflt lo hi : Int} {offs : Array Int} {len t : Nat} {ts : List Nat} (d : decode cc pc = .ok (.tableswitch dflt lo hi offs, len)) (ht : (pc : Int) + dflt = (t : Int)) (hlen : (hi - lo + 1).toNat = ts.length) (hts : ∀ j : Nat, j < ts.length → ∃ off u, offs[j]? = some off ∧ ts[j]? = some u ∧ (pc : Int) + off = (u : Int)) : XSnd R cc nL own Ts ret Post pc (j_tsw lo ts hi t) := by
  intro p l e s m args below meth c cells slots Q D G ρ hC hR L st M K h hk H locs ls hP hS hl
  simp only [j_tsw] at h
  split at h
  next x st' =>
    obtain ⟨h1, h2, h3⟩ := h
    by_cases hx : x < lo ∨ hi < x
    · exact lv_tableOut (x := Int32.ofInt x) (rest := st'.map (xcv ρ)) hC.1.1 hC.1.2.1 d (by rw [xtI h1]; exact hx) ht (hk _ _ _ _ (h3 hx) H locs ls hP hS hl)
    · obtain ⟨off, u, g1, g2, g3⟩ := hts (x - lo).toNat (by omega)
      exact lv_tableIn (x := Int32.ofInt x) (rest := st'.map (xcv ρ)) hC.1.1 hC.1.2.1 d (by rw [xtI h1]; omega) (by rw [xtI h1]; omega) (by rw [xtI h1]; exact g1) g3 (hk _ _ _ _ (xsw_at h2 _ u g2 (by omega)) H locs ls hP hS hl)
  next => exact h.elim
/-! fields -/
theorem xs_gI {ci N k index t : Nat} {C : String} {T : u_T} {sl : Int} (hc : vwCl[ci]? = some (C, T, N)) (hk' : k < N) (hin : ∀ w ∈ u_ws C T N, w ∈ Ts) (hcell : ∀ (G : Nat → ClassId) (ρ : XOb → Nat) (f : Int → Int) (i k' : Int), ∃ fs, xcf G ρ f t i k' = .inr (ci, fs) ∧ fs[k]? = some (xcn f sl))
    (hlw : Cond.fieldLink own index (T k).1 (T k).2.1 (T k).2.2.1 ∈ Ts) (d : decode cc pc = .ok (.getfield index, 3)) : XSnd R cc nL own Ts ret Post pc (j_gI t sl) := by
  intro p l e s m args below meth c cells slots Q D G ρ hC hR L st M K h hk H locs ls hP hS hl
  simp only [j_gI] at h
  split at h
  next t' i k2 st' =>
    obtain ⟨rfl, hv, h⟩ := h
    obtain ⟨q0, hq⟩ := xw_at hv
    obtain ⟨fs, e1, e2⟩ := hcell G ρ (M t' i k2) i k2
    exact va_get (rest := st'.map (xcv ρ)) hC.1.1 hC.1.2.1 hC.1.2.2.2.2 hin hC.1.2.2.2.1 hC.2.1 hP q0 (by rw [xw_get hq, e1]) hc k hk' (hC.1.2.2.2.2 _ hlw) (fun _ z => z) e2 d (hk _ _ _ _ h H locs ls hP hS hl)
  next => exact h.elim
theorem xs_gJ {ci N k index t : Nat} {C : String} {T : u_T} {sl : Int} (hc : vwCl[ci]? = some (C, T, N)) (hk' : k < N) (hin : ∀ w ∈ u_ws C T N, w ∈ Ts) (hcell : ∀ (G : Nat → ClassId) (ρ : XOb → Nat) (f : Int → Int) (i k' : Int), ∃ fs, xcf G ρ f t i k' = .inr (ci, fs) ∧ fs[k]? = some (.long (Int64.ofInt (f sl))))
    (hlw : Cond.fieldLink own index (T k).1 (T k).2.1 (T k).2.2.1 ∈ Ts) (d : decode cc pc = .ok (.getfield index, 3)) : XSnd R cc nL own Ts ret Post pc (j_gJ t sl) := by
  intro p l e s m args below meth c cells slots Q D G ρ hC hR L st M K h hk H locs ls hP hS hl
  simp only [j_gJ] at h
  split at h
  next t' i k2 st' =>
    obtain ⟨rfl, hv, h⟩ := h
    obtain ⟨q0, hq⟩ := xw_at hv
    obtain ⟨fs, e1, e2⟩ := hcell G ρ (M t' i k2) i k2
    exact va_get (rest := st'.map (xcv ρ)) hC.1.1 hC.1.2.1 hC.1.2.2.2.2 hin hC.1.2.2.2.1 hC.2.1 hP q0 (by rw [xw_get hq, e1]) hc k hk' (hC.1.2.2.2.2 _ hlw) (fun _ z => z) e2 d (hk _ _ _ _ h H locs ls hP hS hl)
  next => exact h.elim
theorem xs_gR {ci N k index t : Nat} {C : String} {T : u_T} {g : Int → Int → XOb} (hc : vwCl[ci]? = some (C, T, N)) (hk' : k < N) (hin : ∀ w ∈ u_ws C T N, w ∈ Ts) (hcell : ∀ (G : Nat → ClassId) (ρ : XOb → Nat) (f : Int → Int) (i k' : Int), ∃ fs, xcf G ρ f t i k' = .inr (ci, fs) ∧ fs[k]? = some (.ref (ρ (g i k'))))
    (hlw : Cond.fieldLink own index (T k).1 (T k).2.1 (T k).2.2.1 ∈ Ts) (d : decode cc pc = .ok (.getfield index, 3)) : XSnd R cc nL own Ts ret Post pc (j_gR t g) := by
  intro p l e s m args below meth c cells slots Q D G ρ hC hR L st M K h hk H locs ls hP hS hl
  simp only [j_gR] at h
  split at h
  next t' i k2 st' =>
    obtain ⟨rfl, hv, h⟩ := h
    obtain ⟨q0, hq⟩ := xw_at hv
    obtain ⟨fs, e1, e2⟩ := hcell G ρ (M t' i k2) i k2
    exact va_get (rest := st'.map (xcv ρ)) hC.1.1 hC.1.2.1 hC.1.2.2.2.2 hin hC.1.2.2.2.1 hC.2.1 hP q0 (by rw [xw_get hq, e1]) hc k hk' (hC.1.2.2.2.2 _ hlw) (fun _ z => z) e2 d (hk _ _ _ _ h H locs ls hP hS hl)
  next => exact h.elim
theorem xs_pI {ci N k index t : Nat} {C : String} {T : u_T} {ty : Nat → FieldType} {sl : Int} (hc : vwCl[ci]? = some (C, T, N)) (hk' : k < N) (hin : ∀ w ∈ u_ws C T N, w ∈ Ts) (hty : ∀ k, k < N → parseFieldDescriptor (T k).2.2.1 = some (ty k)) (hnm : ∀ a, a < N → ∀ b, b < N → a ≠ b → (T a).2.1 ≠ (T b).2.1)
    (hfin : (T k).2.2.2 = false) (htk : ty k = .int) (hcell : ∀ (G : Nat → ClassId) (ρ : XOb → Nat) (f : Int → Int) (i k' v : Int), ∃ fs, xcf G ρ f t i k' = .inr (ci, fs) ∧ xcf G ρ (fun s' => if s' = sl then v else f s') t i k' = .inr (ci, fs.set k (.int (Int32.ofInt v))) ∧ k < fs.length)
    (hlw : Cond.fieldLink own index (T k).1 (T k).2.1 (T k).2.2.1 ∈ Ts) (d : decode cc pc = .ok (.putfield index, 3)) : XSnd R cc nL own Ts ret Post pc (j_pI t sl) := by
  intro p l e s m args below meth c cells slots Q D G ρ hC hR L st M K h hk H locs ls hP hS hl
  simp only [j_pI] at h
  split at h
  next v t' i k2 st' =>
    obtain ⟨rfl, hv, h⟩ := h
    obtain ⟨q0, hq⟩ := xw_at hv
    obtain ⟨fs, e1, e2, e3⟩ := hcell G ρ (M t' i k2) i k2 v
    refine va_put (ty := .int) (v := .int (Int32.ofInt v)) (rest := st'.map (xcv ρ)) hC.1.1 hC.1.2.1 hC.1.2.2.2.2 hin ty hty hnm hC.1.2.2.2.1 hC.2.1 hP (xw_D hC.2.2.1 (fun o ho => XA_in ho)) hS q0 (by rw [xw_get hq, e1]) hc k hk' (hC.1.2.2.2.2 _ hlw) (fun _ z => z) hfin (by rw [hty k hk', htk]) rfl rfl e3 d (fun H1 locs1 hP1 hD1 hS1 => ?_)
    rw [xw_set (M' := xup M t' i k2 sl v) hq (by rw [xup_at, e2]) (fun a b c2 hn => xup_off a b c2 hn)] at hP1
    exact hk _ _ _ _ h H1 locs1 ls hP1 hS1 hl
  next => exact h.elim
theorem xs_pJ {ci N k index t : Nat} {C : String} {T : u_T} {ty : Nat → FieldType} {sl : Int} (hc : vwCl[ci]? = some (C, T, N)) (hk' : k < N) (hin : ∀ w ∈ u_ws C T N, w ∈ Ts) (hty : ∀ k, k < N → parseFieldDescriptor (T k).2.2.1 = some (ty k)) (hnm : ∀ a, a < N → ∀ b, b < N → a ≠ b → (T a).2.1 ≠ (T b).2.1)
    (hfin : (T k).2.2.2 = false) (htk : ty k = .long) (hcell : ∀ (G : Nat → ClassId) (ρ : XOb → Nat) (f : Int → Int) (i k' v : Int), ∃ fs, xcf G ρ f t i k' = .inr (ci, fs) ∧ xcf G ρ (fun s' => if s' = sl then v else f s') t i k' = .inr (ci, fs.set k (.long (Int64.ofInt v))) ∧ k < fs.length)
    (hlw : Cond.fieldLink own index (T k).1 (T k).2.1 (T k).2.2.1 ∈ Ts) (d : decode cc pc = .ok (.putfield index, 3)) : XSnd R cc nL own Ts ret Post pc (j_pJ t sl) := by
  intro p l e s m args below meth c cells slots Q D G ρ hC hR L st M K h hk H locs ls hP hS hl
  simp only [j_pJ] at h
  split at h
  next v t' i k2 st' =>
    obtain ⟨rfl, hv, h⟩ := h
    obtain ⟨q0, hq⟩ := xw_at hv
    obtain ⟨fs, e1, e2, e3⟩ := hcell G ρ (M t' i k2) i k2 v
    refine va_put (ty := .long) (v := .long (Int64.ofInt v)) (rest := st'.map (xcv ρ)) hC.1.1 hC.1.2.1 hC.1.2.2.2.2 hin ty hty hnm hC.1.2.2.2.1 hC.2.1 hP (xw_D hC.2.2.1 (fun o ho => XA_in ho)) hS q0 (by rw [xw_get hq, e1]) hc k hk' (hC.1.2.2.2.2 _ hlw) (fun _ z => z) hfin (by rw [hty k hk', htk]) rfl rfl e3 d (fun H1 locs1 hP1 hD1 hS1 => ?_)
    rw [xw_set (M' := xup M t' i k2 sl v) hq (by rw [xup_at, e2]) (fun a b c2 hn => xup_off a b c2 hn)] at hP1
    exact hk _ _ _ _ h H1 locs1 ls hP1 hS1 hl
  next => exact h.elim
/-! static rows -/
theorem xs_gs {index t N : Nat} {C n : String} (hm : (C, n, t, N) ∈ xstats) (hlw : Cond.fieldLink own index C n "[I" ∈ Ts) (d : decode cc pc = .ok (.getstatic index, 3)) : XSnd R cc nL own Ts ret Post pc (j_gs t) := by
  intro p l e s m args below meth c cells slots Q D G ρ hC hR L st M K h hk H locs ls hP hS hl
  exact va_gets hC.1.1 hC.1.2.1 (hC.2.2.2.1 _ hm).1 hS hC.1.2.2.2.1 (hC.1.2.2.2.2 _ hlw) (fun _ z => z) d (hk _ _ _ _ h H locs ls hP hS hl)
theorem xs_gsN (d : decode cc pc = .ok (.getstatic 48, 3)) : XSnd R cc nL "UnitKitchens$Kitchen" Ts ret Post pc (j_gs 31) := by
  intro p l e s m args below meth c cells slots Q D G ρ hC hR L st M K h hk H locs ls hP hS hl
  exact va_getsN hC.1.1 hC.1.2.1 (hC.2.2.2.1 ("UnitKitchens", "NEEDS", 31, 9) (by simp [xstats])).1 hS hC.1.2.2.2.1 (va_Nw.use rfl hC.2.2.2.2.1.2) (fun _ z => z) d (hk _ _ _ _ h H locs ls hP hS hl)
/-! rows -/
theorem xs_iald (d : decode cc pc = .ok (.iaload, 1)) : XSnd R cc nL own Ts ret Post pc j_iald := by
  intro p l e s m args below meth c cells slots Q D G ρ hC hR L st M K h hk H locs ls hP hS hl
  simp only [j_iald] at h
  split at h
  next j t i k st' =>
    obtain ⟨⟨hr, h0, h1⟩, h⟩ := h
    have hle := xlen_le t
    rcases hr with ⟨g1, rfl, rfl⟩ | ⟨g1, g2, g3⟩
    · have hm : ∃ C n N, (C, n, t, N) ∈ xstats ∧ xlen t = (N : Int) := by
        rcases g1 with rfl | rfl
        · exact ⟨"UnitKitchens", "NEEDS", 9, by simp [xstats], rfl⟩
        · exact ⟨"UnitKitchens", "FIRST_SETTING", 6, by simp [xstats], rfl⟩
      obtain ⟨C, n, N, hm, hN⟩ := hm
      have hT : va_T .int (ρ (t, 0, 0)) N (fun q => .int (Int32.ofInt ((xst t).getD q 0))) (XA ρ s.heap.size) s s.heap := (hC.2.2.2.1 _ hm).2
      refine va_ti (rest := st'.map (xcv ρ)) (i := Int32.ofInt j) (v := .int (Int32.ofInt (xrd M t 0 0 j))) hC.1.1 hC.1.2.1 hT hS (x_in h0 (by omega) (by omega)) ?_ d (hk _ _ _ _ h H locs ls hP hS hl)
      rw [x_nat h0 (by omega)]
      simp only [xrd]
      rw [if_neg (show ¬ t < 30 by omega)]
    · obtain ⟨q0, hq⟩ := xw_at g3
      have e1 := xw_get (G := G) (ρ := ρ) (M := M) hq
      rw [xrow_cell g1 g2] at e1
      refine va_iald (rest := st'.map (xcv ρ)) (i := Int32.ofInt j) hC.1.1 hC.1.2.1 hC.2.1 hP q0 0 e1 rfl (x_in h0 (by omega) (by omega)) d ?_
      rw [x_nat h0 (by omega), Int.toNat_of_nonneg h0]
      simp only [xrd] at h
      rw [if_pos g1] at h
      exact hk _ _ _ _ h H locs ls hP hS hl
  next => exact h.elim
theorem xs_iast (d : decode cc pc = .ok (.iastore, 1)) : XSnd R cc nL own Ts ret Post pc j_iast := by
  intro p l e s m args below meth c cells slots Q D G ρ hC hR L st M K h hk H locs ls hP hS hl
  simp only [j_iast] at h
  split at h
  next v j t i k st' =>
    obtain ⟨⟨⟨g1, g2, g3⟩, h0, h1⟩, h⟩ := h
    have hle := xlen_le t
    obtain ⟨q0, hq⟩ := xw_at g3
    have e1 := xw_get (G := G) (ρ := ρ) (M := M) hq
    rw [xrow_cell g1 g2] at e1
    refine va_iast (rest := st'.map (xcv ρ)) (i := Int32.ofInt j) (x := Int32.ofInt v) hC.1.1 hC.1.2.1 hC.2.1 hP (xw_D hC.2.2.1 (fun o ho => XA_in ho)) hS q0 0 e1 rfl (x_in h0 (by omega) (by omega)) d (fun H1 locs1 hP1 hD1 hS1 => ?_)
    rw [x_upd _ h0 (by omega)] at hP1
    have e3 := xw_set (G := G) (ρ := ρ) (M := M) (M' := xup M t i k j v) (e := xca (G 0) (xlen t).toNat (fun s => if s = j then v else M t i k s)) hq (by rw [xup_at, xrow_cell g1 g2]) (fun a b c2 hn => xup_off a b c2 hn)
    exact hk _ _ _ _ h H1 locs1 ls (by rw [← e3]; exact hP1) hS1 hl
  next => exact h.elim
theorem xs_cald (d : decode cc pc = .ok (.caload, 1)) : XSnd R cc nL own Ts ret Post pc j_cald := by
  intro p l e s m args below meth c cells slots Q D G ρ hC hR L st M K h hk H locs ls hP hS hl
  simp only [j_cald] at h
  split at h
  next j t i k st' =>
    obtain ⟨⟨rfl, rfl, rfl, h0, h1⟩, h⟩ := h
    obtain ⟨q0, hq⟩ := xw_at (t := 17) (i := 0) (k := 0) (by simp [xval, xvi, xvk])
    have e1 := xw_get (G := G) (ρ := ρ) (M := M) hq
    refine va_cald (rest := st'.map (xcv ρ)) (i := Int32.ofInt j) (n := 60) (f := fun q => Int32.ofInt (M 17 0 0 (q : Int))) hC.1.1 hC.1.2.1 hC.2.1 hP q0 1 e1 rfl (x_in h0 (by omega) (by omega)) d ?_
    rw [x_nat h0 (by omega), Int.toNat_of_nonneg h0]
    exact hk _ _ _ _ h H locs ls hP hS hl
  next => exact h.elim
theorem x_narC {v : Int} (h0 : 0 ≤ v) (h1 : v < 65536) : vp_nar .char (Int32.ofInt v) = Int32.ofInt v := by
  have h := (pk_charN (q := v.toNat) (by omega)).1
  rw [x_ofN h0]
  simp only [vp_nar, h]
theorem xs_cast (d : decode cc pc = .ok (.castore, 1)) : XSnd R cc nL own Ts ret Post pc j_cast := by
  intro p l e s m args below meth c cells slots Q D G ρ hC hR L st M K h hk H locs ls hP hS hl
  simp only [j_cast] at h
  split at h
  next v j t i k st' =>
    obtain ⟨⟨rfl, rfl, rfl, h0, h1, h2, h3⟩, h⟩ := h
    obtain ⟨q0, hq⟩ := xw_at (t := 17) (i := 0) (k := 0) (by simp [xval, xvi, xvk])
    have e1 := xw_get (G := G) (ρ := ρ) (M := M) hq
    refine va_cast (rest := st'.map (xcv ρ)) (i := Int32.ofInt j) (x := Int32.ofInt v) (n := 60) (f := fun q => Int32.ofInt (M 17 0 0 (q : Int))) hC.1.1 hC.1.2.1 hC.2.1 hP (xw_D hC.2.2.1 (fun o ho => XA_in ho)) hS q0 1 e1 rfl (x_in h0 (by omega) (by omega)) d (fun H1 locs1 hP1 hD1 hS1 => ?_)
    rw [x_narC h2 h3, x_upd _ h0 (by omega)] at hP1
    have e3 := xw_set (G := G) (ρ := ρ) (M := M) (M' := xup M 17 0 0 j v) (e := xca (G 1) 60 (fun s => if s = j then v else M 17 0 0 s)) hq (by rw [xup_at]; rfl) (fun a b c2 hn => xup_off a b c2 hn)
    exact hk _ _ _ _ h H1 locs1 ls (by rw [← e3]; exact hP1) hS1 hl
  next => exact h.elim
theorem xs_aald (d : decode cc pc = .ok (.aaload, 1)) : XSnd R cc nL own Ts ret Post pc j_aald := by
  intro p l e s m args below meth c cells slots Q D G ρ hC hR L st M K h hk H locs ls hP hS hl
  simp only [j_aald] at h
  split at h
  next j t i k st' =>
    have go : ∀ (n : Nat) (g : Int → Nat) (tt : Nat) (C : String) (w : XV), n < 2147483648 → (xtys G)[tt]? = some ((xtys G)[tt]!.1, .object C) → (∀ f, xcf G ρ f t i k = xcq ((xtys G)[tt]!.1) n g) → xval t i k → 0 ≤ j → j < n → xcv ρ w = .ref (g j) → K (pc + 1) L (w :: st') M → W p l e R s m args below meth c H locs cells slots Q (F0 m pc ls (List.map (xcv ρ) (Sum.inl j :: Sum.inr (Sum.inl (some (t, i, k))) :: st'))) := by
      intro n g tt C w hn htt hcell hv h0 h1 hw hK
      obtain ⟨q0, hq⟩ := xw_at hv
      have e1 := xw_get (G := G) (ρ := ρ) (M := M) hq
      rw [hcell] at e1
      refine va_aldq (rest := st'.map (xcv ρ)) (i := Int32.ofInt j) (n := n) (f := fun q => some (g (q : Int))) (C := C) hC.1.1 hC.1.2.1 hC.2.1 hP q0 tt e1 htt (x_in h0 h1 hn) d ?_
      rw [x_nat h0 (by omega), Int.toNat_of_nonneg h0]
      have h9 := hk _ _ _ _ hK H locs ls hP hS hl
      simp only [List.map_cons, hw] at h9
      exact h9
    split at h
    · exact go 3 (fun j => ρ (8, i, j)) 3 "UnitKitchens$Kitchen" (xR 8 i j) (by decide) rfl (fun f => rfl) h.1.1 h.1.2.1 h.1.2.2 rfl h.2
    · exact go 4 (fun j => ρ (13, i, j)) 4 "UnitKitchens$Lorry" (xR 13 i j) (by decide) rfl (fun f => rfl) h.1.1 h.1.2.1 h.1.2.2 rfl h.2
    · exact go 12 (fun j => ρ (14, i, j)) 5 "UnitKitchens$Unit" (xR 14 i j) (by decide) rfl (fun f => rfl) h.1.1 h.1.2.1 h.1.2.2 rfl h.2
    · exact go 6 (fun j => ρ (1, j + 2, 0)) 6 "UnitKitchens$Film" (xR 1 (j + 2) 0) (by decide) rfl (fun f => rfl) h.1.1 h.1.2.1 h.1.2.2 rfl h.2
    · exact h.elim
  next => exact h.elim
theorem xcp_at (M : XM) (t : Nat) (i k i2 k2 : Int) : (xcp M t i k i2 k2) t i2 k2 = fun s' => if 0 ≤ s' ∧ s' < xlen t then M t i k s' else M t i2 k2 s' := by
  funext s'
  simp [xcp]
theorem xcp_off {M : XM} {t : Nat} {i k i2 k2 : Int} (t' : Nat) (i' k' : Int) (h : ¬ (t' = t ∧ i' = i2 ∧ k' = k2)) : (xcp M t i k i2 k2) t' i' k' = M t' i' k' := by
  funext s'
  simp only [xcp]
  rw [if_neg]
  rintro ⟨a, b, c, -⟩
  exact h ⟨a, b, c⟩
theorem xs_cpy {index : Nat} (hR1 : 1 ≤ R.frames) (hR2 : 4 + (nativeFrameWords "java/lang/System" "arraycopy" 5 + 11) ≤ R.locals) (h1 : Cond.methodLink own index arraycopyName ∈ Ts) (h2 : Cond.native arraycopyName ∈ Ts) (h3 : Cond.static arraycopyName ∈ Ts) (h4 : Cond.initialized "java/lang/System" ∈ Ts) (d : decode cc pc = .ok (.invokestatic index, 3)) : XSnd R cc nL own Ts ret Post pc j_cpy := by
  intro p l e s m args below meth c cells slots Q D G ρ hC hR L st M K h hk H locs ls hP hS hl
  simp only [j_cpy] at h
  split at h
  next n dd t2 i2 k2 b t i k st' =>
    obtain ⟨⟨rfl, g1, g2, g3, g4, rfl, rfl, rfl, g5⟩, h⟩ := h
    have hle := xlen_le t2
    obtain ⟨q0, hq⟩ := xw_at g3
    obtain ⟨q1, hq1⟩ := xw_at g4
    have e0 := xw_get (G := G) (ρ := ρ) (M := M) hq
    have e1 := xw_get (G := G) (ρ := ρ) (M := M) hq1
    rw [xrow_cell g1 g2] at e0 e1
    have hn : (Int32.ofInt (xlen t2)).toNatClampNeg = (xlen t2).toNat := x_nat (by omega) (by omega)
    have hz : (Int32.ofInt 0).toNatClampNeg = 0 := rfl
    have hnn : ¬ Int32.ofInt (xlen t2) < 0 := by
      rw [show (0 : Int32) = Int32.ofInt 0 from rfl, x_lt ⟨by omega, by omega⟩ x_r0]
      omega
    refine va_copyi (rest := st'.map (xcv ρ)) (sp := Int32.ofInt 0) (dp := Int32.ofInt 0) (n := Int32.ofInt (xlen t2)) (ty := .int) hC.1.1 hC.1.2.1 (by rw [hl.1]; exact hC.1.2.2.1) hC.1.2.2.2.1 (hC.1.2.2.2.2 _ h1) (hC.1.2.2.2.2 _ h2) (hC.1.2.2.2.2 _ h3) (hC.1.2.2.2.2 _ h4) hC.2.1 hP (xw_D hC.2.2.1 (fun o ho => XA_in ho)) hS q0 q1 0 0 e0 e1 rfl rfl rfl (by decide) (by decide) hnn (by rw [hn, hz]; omega) (by rw [hn, hz]; omega) (fun _ _ => rfl) hR1 (by rw [xcat_eq]; omega) d (fun H1 locs1 hP1 hD1 hS1 => ?_)
    rw [hn, hz] at hP1
    have e4 : va_cpy (fun q : Nat => Int32.ofInt (M t2 i k (q : Int))) (fun q : Nat => Int32.ofInt (M t2 i2 k2 (q : Int))) 0 0 (xlen t2).toNat = fun q : Nat => Int32.ofInt ((fun s' => if 0 ≤ s' ∧ s' < xlen t2 then M t2 i k s' else M t2 i2 k2 s') (q : Int)) := by
      funext q
      simp only [va_cpy]
      by_cases hq : q < (xlen t2).toNat
      · rw [if_pos (by omega), if_pos (by omega)]
        simp
      · rw [if_neg (by omega), if_neg (by omega)]
    rw [e4] at hP1
    have e3 := xw_set (G := G) (ρ := ρ) (M := M) (M' := xcp M t2 i k i2 k2) (e := xca (G 0) (xlen t2).toNat (fun s' => if 0 ≤ s' ∧ s' < xlen t2 then M t2 i k s' else M t2 i2 k2 s')) hq1 (by rw [xcp_at, xrow_cell g1 g2]) (fun a b c2 hn => xcp_off a b c2 hn)
    exact hk _ _ _ _ h H1 locs1 ls (by rw [← e3]; exact hP1) hS1 hl
  next => exact h.elim
theorem xs_min {index : Nat} (hR1 : 1 ≤ R.frames) (hR2 : 21 ≤ R.locals) (h1 : Cond.methodLink own index Lib.Math.min.name ∈ Ts) (h2 : Cond.static Lib.Math.min.name ∈ Ts) (h3 : Cond.initialized "java/lang/Math" ∈ Ts) (h4 : Cond.code Lib.Math.min.name Lib.Math.min.code 2 (some .int) ∈ Ts) (d : decode cc pc = .ok (.invokestatic index, 3)) : XSnd R cc nL own Ts ret Post pc j_min := by
  intro p l e s m args below meth c cells slots Q D G ρ hC hR L st M K h hk H locs ls hP hS hl
  simp only [j_min] at h
  split at h
  next b a st' =>
    obtain ⟨⟨g1, g2, g3⟩, h⟩ := h
    refine va_mmin (rest := st'.map (xcv ρ)) (x := Int32.ofInt a) (y := Int32.ofInt b) hC.1.1 hC.1.2.1 (by rw [hl.1]; exact hC.1.2.2.1) hC.1.2.2.2.1 (hC.1.2.2.2.2 _ h1) (hC.1.2.2.2.2 _ h2) (hC.1.2.2.2.2 _ h3) (hC.1.2.2.2.2 _ h4) hR1 (by rw [xcat_eq]; omega) hC.2.2.2.2.2.1 hC.2.2.2.2.2.2 d ?_
    have e1 : (if Int32.ofInt b < Int32.ofInt a then Int32.ofInt b else Int32.ofInt a) = Int32.ofInt (min a b) := by
      by_cases q : b < a
      · rw [if_pos ((x_lt g2 g1).mpr q), Int.min_eq_right (by omega)]
      · rw [if_neg (fun z => q ((x_lt g2 g1).mp z)), Int.min_eq_left (by omega)]
    rw [e1]
    exact hk _ _ _ _ h H locs ls hP hS hl
  next => exact h.elim
theorem xs_max {index : Nat} (hR1 : 1 ≤ R.frames) (hR2 : 21 ≤ R.locals) (h1 : Cond.methodLink own index Lib.Math.max.name ∈ Ts) (h2 : Cond.static Lib.Math.max.name ∈ Ts) (h3 : Cond.initialized "java/lang/Math" ∈ Ts) (h4 : Cond.code Lib.Math.max.name Lib.Math.max.code 2 (some .int) ∈ Ts) (d : decode cc pc = .ok (.invokestatic index, 3)) : XSnd R cc nL own Ts ret Post pc j_max := by
  intro p l e s m args below meth c cells slots Q D G ρ hC hR L st M K h hk H locs ls hP hS hl
  simp only [j_max] at h
  split at h
  next b a st' =>
    obtain ⟨⟨g1, g2, g3⟩, h⟩ := h
    refine va_mmax (rest := st'.map (xcv ρ)) (x := Int32.ofInt a) (y := Int32.ofInt b) hC.1.1 hC.1.2.1 (by rw [hl.1]; exact hC.1.2.2.1) hC.1.2.2.2.1 (hC.1.2.2.2.2 _ h1) (hC.1.2.2.2.2 _ h2) (hC.1.2.2.2.2 _ h3) (hC.1.2.2.2.2 _ h4) hR1 (by rw [xcat_eq]; omega) hC.2.2.2.2.2.1 hC.2.2.2.2.2.2 d ?_
    have e1 : (if Int32.ofInt a < Int32.ofInt b then Int32.ofInt b else Int32.ofInt a) = Int32.ofInt (max a b) := by
      by_cases q : a < b
      · rw [if_pos ((x_lt g1 g2).mpr q), Int.max_eq_right (by omega)]
      · rw [if_neg (fun z => q ((x_lt g1 g2).mp z)), Int.max_eq_left (by omega)]
    rw [e1]
    exact hk _ _ _ _ h H locs ls hP hS hl
  next => exact h.elim
theorem xs_abs {index : Nat} (hR1 : 1 ≤ R.frames) (hR2 : 21 ≤ R.locals) (h1 : Cond.methodLink own index Lib.Math.abs.name ∈ Ts) (h2 : Cond.static Lib.Math.abs.name ∈ Ts) (h3 : Cond.initialized "java/lang/Math" ∈ Ts) (h4 : Cond.code Lib.Math.abs.name Lib.Math.abs.code 1 (some .int) ∈ Ts) (d : decode cc pc = .ok (.invokestatic index, 3)) : XSnd R cc nL own Ts ret Post pc j_abs := by
  intro p l e s m args below meth c cells slots Q D G ρ hC hR L st M K h hk H locs ls hP hS hl
  simp only [j_abs] at h
  split at h
  next a st' =>
    obtain ⟨⟨g1, g3⟩, h⟩ := h
    refine va_mabs (rest := st'.map (xcv ρ)) (x := Int32.ofInt a) hC.1.1 hC.1.2.1 (by rw [hl.1]; exact hC.1.2.2.1) hC.1.2.2.2.1 (hC.1.2.2.2.2 _ h1) (hC.1.2.2.2.2 _ h2) (hC.1.2.2.2.2 _ h3) (hC.1.2.2.2.2 _ h4) hR1 (by rw [xcat_eq]; omega) hC.2.2.2.2.2.1 hC.2.2.2.2.2.2 d ?_
    have e1 : (if 0 ≤ Int32.ofInt a then Int32.ofInt a else 0 - Int32.ofInt a) = Int32.ofInt (if 0 ≤ a then a else 0 - a) := by
      by_cases q : 0 ≤ a
      · rw [if_pos (show (0 : Int32) ≤ _ from (x_le x_r0 g1).mpr q), if_pos q]
      · rw [if_neg (show ¬ (0 : Int32) ≤ _ from fun z => q ((x_le x_r0 g1).mp z)), if_neg q, Int32.ofInt_sub]
        rfl
    rw [e1]
    exact hk _ _ _ _ h H locs ls hP hS hl
  next => exact h.elim
/-! ends -/
theorem xs_iret (hret : ret = some .int) (d : decode cc pc = .ok (.ireturn, 1)) : XSnd R cc nL own Ts ret Post pc (j_iret Post) := by
  intro p l e s m args below meth c cells slots Q D G ρ hC hR L st M K h hk H locs ls hP hS hl
  simp only [j_iret] at h
  split at h
  next x =>
    rcases hR with hR | ⟨rfl, rfl, rfl, hrt, hlocks⟩
    · exact absurd h (hR _ _)
    · exact W.iret (v := Int32.ofInt x) hC.1.1 hC.1.2.1 (by rw [hrt, hret]) (fun t ht hW => ⟨⟨some (xI x), M, rfl, h, by rw [ht]; exact hP⟩, hS.F ht⟩) hS.2.2 d hlocks
  next => exact h.elim
theorem xs_zret (hret : ret = some .boolean) (d : decode cc pc = .ok (.ireturn, 1)) : XSnd R cc nL own Ts ret Post pc (j_zret Post) := by
  intro p l e s m args below meth c cells slots Q D G ρ hC hR L st M K h hk H locs ls hP hS hl
  simp only [j_zret] at h
  split at h
  next x =>
    obtain ⟨h1, h⟩ := h
    rcases hR with hR | ⟨rfl, rfl, rfl, hrt, hlocks⟩
    · exact absurd h (hR _ _)
    · exact W.zret (v := Int32.ofInt x) (ty := .boolean) hC.1.1 hC.1.2.1 (by rw [hrt, hret]) (by rcases h1 with rfl | rfl <;> rfl) (fun t ht hW => ⟨⟨some (xI x), M, rfl, h, by rw [ht]; exact hP⟩, hS.F ht⟩) hS.2.2 d hlocks
  next => exact h.elim
theorem xs_lret (hret : ret = some .long) (d : decode cc pc = .ok (.lreturn, 1)) : XSnd R cc nL own Ts ret Post pc (j_lret Post) := by
  intro p l e s m args below meth c cells slots Q D G ρ hC hR L st M K h hk H locs ls hP hS hl
  simp only [j_lret] at h
  split at h
  next x =>
    rcases hR with hR | ⟨rfl, rfl, rfl, hrt, hlocks⟩
    · exact absurd h (hR _ _)
    · exact W.lret (v := Int64.ofInt x) hC.1.1 hC.1.2.1 (by rw [hrt, hret]) (fun t ht hW => ⟨⟨some (xJ x), M, rfl, h, by rw [ht]; exact hP⟩, hS.F ht⟩) hS.2.2 d hlocks
  next => exact h.elim
theorem xs_dret (hret : ret = some .double) (d : decode cc pc = .ok (.dreturn, 1)) : XSnd R cc nL own Ts ret Post pc (j_dret Post) := by
  intro p l e s m args below meth c cells slots Q D G ρ hC hR L st M K h hk H locs ls hP hS hl
  simp only [j_dret] at h
  split at h
  next x =>
    rcases hR with hR | ⟨rfl, rfl, rfl, hrt, hlocks⟩
    · exact absurd h (hR _ _)
    · exact W.dret (v := x) hC.1.1 hC.1.2.1 (by rw [hrt, hret]) (fun t ht hW => ⟨⟨some (xF x), M, rfl, h, by rw [ht]; exact hP⟩, hS.F ht⟩) hS.2.2 d hlocks
  next => exact h.elim
theorem xs_vret (hret : ret = none) (d : decode cc pc = .ok (.return_, 1)) : XSnd R cc nL own Ts ret Post pc (j_ret0 Post) := by
  intro p l e s m args below meth c cells slots Q D G ρ hC hR L st M K h hk H locs ls hP hS hl
  simp only [j_ret0] at h
  split at h
  next =>
    rcases hR with hR | ⟨rfl, rfl, rfl, hrt, hlocks⟩
    · exact absurd h (hR _ _)
    · exact W.vret hC.1.1 hC.1.2.1 (by rw [hrt, hret]) (fun t ht hW => ⟨⟨none, M, rfl, h, by rw [ht]; exact hP⟩, hS.F ht⟩) hS.2.2 d hlocks
  next => exact h.elim
end XL4
/-! calls -/
section XL5
def xT : List Cond := lw_tbl.filter goodWord
theorem xT_in (i : Nat) {w : Cond} (h : tables_1[i]? = some w) (g : goodWord w = true) : w ∈ xT := List.mem_filter.mpr ⟨List.mem_append_right _ (List.mem_of_getElem? h), g⟩
theorem xT_inp (i : Nat) {w : Cond} (h : (k2_sels lw_privs)[i]? = some w) (g : goodWord w = true) : w ∈ xT := List.mem_filter.mpr ⟨List.mem_append_left _ (List.mem_of_getElem? h), g⟩
theorem xgood {q : Cond} {ws : List Cond} (h : ∀ w ∈ ws, w ∈ xT) : GoodIn (q :: xT) ws := fun w hw => ⟨List.mem_cons_of_mem _ (h w hw), good_of_word (List.mem_filter.mp (h w hw)).2⟩
theorem xgood1 {q w : Cond} (h : w ∈ xT) : w ∈ q :: xT := List.mem_cons_of_mem _ h
theorem xblind (av : List XV) (D : va_G) (G : Nat → ClassId) (ρ : XOb → Nat) (sz : Nat) (M : XM) : FrameBlind (va_Pc (av.map (xcv ρ)) (XB D G ρ sz M)) := by
  intro a U g mk q
  obtain ⟨q0, q1, qP, qK, qD, qF, qN⟩ := q
  exact ⟨q0, q1, qP, va_K.moved (u := U) (U := U.calling g mk a) (Vm.Alike.refl U.vm) qK, qD, XSF.moved (u := U) (U := U.calling g mk a) (Vm.Alike.refl U.vm) qF, XNw.same (u := U) (U := U.calling g mk a) rfl qN⟩
section
variable {R : Room} {cc : ByteArray} {nL : Nat} {own : String} {Ts : List Cond} {pc : Nat}
variable {p : Program} {l : Launch} {e : Env} {s : State} {m : MethodId} {args : Array Value} {below : List Frame} {meth : Method} {c : Code} {cells slots : Nat} {Q : State → Prop} {D : va_G} {G : Nat → ClassId} {ρ : XOb → Nat}
theorem xbegin (hC : XCX p R s m args c cells slots D G ρ cc nL own Ts) {H : Heap} {locs : List Loc} {M : XM} (hP : va_P D vwCl (xworld G ρ M) H) (hS : va_S (XA ρ s.heap.size) s.heap H locs) : ∀ U : State, U.heap = H → s.WarmedH U.vm → XB D G ρ H.size M U := by
  intro U hU hW
  refine ⟨by rw [hU], by rw [hU]; exact hP, va_K.moved hW.alike hC.2.1, hC.2.2.1, ?_, XNw.warm hW hC.2.2.2.2.1⟩
  have h1 := (hC.2.2.2.1).kept (H1 := H) (fun a h1 h2 => hS.2.1 a h1 h2)
  rw [hU]
  exact (XSF.moved hW.alike h1).narrow (fun q h => XA_le hS.1 q h)
theorem xgo {H : Heap} {locs : List Loc} {ls : Array Slot} {L : XLs} {st : List XV} {st0 : List Value} {K : XK} {a : Array Value} (hr : va_Run p l e R s m args below meth c H locs cells slots 0 0 (F0 m pc ls st0) (st.map (xcv ρ)) (XQ D G ρ (XA ρ H.size) (fun rv M' => K (pc + 3) L (rv ++ st) M') a) (XA ρ H.size)) (hS : va_S (XA ρ s.heap.size) s.heap H locs) (hl : lv_has ls nL (xlv ρ 0 L))
    (hk : ∀ pc' L' st' M', K pc' L' st' M' → XWW p l e R s m args below meth c cells slots Q D G ρ nL pc' L' st' M') : W p l e R s m args below meth c H locs cells slots Q (F0 m pc ls st0) := by
  intro T hT X
  obtain ⟨v, st₀, t, T', L2, h0, X', hL, e1, e2, ⟨⟨rv, M', hv, hp, hP'⟩, hz, hq⟩, stp⟩ := hr T hT X
  cases hv
  rw [h0] at hz hq
  have hS' : va_S (XA ρ s.heap.size) s.heap T'.heap (locs ++ L2) := ⟨Nat.le_trans hS.1 (by rw [e1]; exact hz), fun q h1 h2 => by
      rw [e1, hq q (Nat.lt_of_lt_of_le h1 hS.1) (fun z => h2 (XA_le hS.1 q z))]
      exact hS.2.1 q h1 h2, fun q hq => by
      rcases List.mem_append.mp hq with h | h
      · exact hS.2.2 q h
      · exact XA_le hS.1 _ (hL q h)⟩
  have h9 := hk _ _ _ _ hp T'.heap (locs ++ L2) ls (by rw [e1]; exact hP') hS' hl
  obtain ⟨t2, a1, b1⟩ := h9 T' rfl X'
  refine ⟨t2, stp t2 ?_, b1⟩
  have : (rv.toList ++ st).map (xcv ρ) = (rv.map (xcv ρ)).toList ++ st.map (xcv ρ) := by cases rv <;> rfl
  rw [this] at a1
  exact a1
end
variable {R : Room} {cc : ByteArray} {nL : Nat} {own : String} {q0 : Cond} {ret : Option FieldType} {Post : XPo} {pc : Nat}
/-- what a virtual call needs -/
def XcV (R : Room) (own : String) (index t n : Nat) (y : MethodName) (cb : ByteArray) (mL : Nat) (rt : Option FieldType) (rm : Room) : Prop :=
  (rm.cells = 0 ∧ rm.slots = 0 ∧ rm.frames + 1 ≤ R.frames ∧ 8 + (mL + 11) + rm.locals ≤ R.locals) ∧
  (y.cls ≠ "java/lang/invoke/MethodHandle" ∧ y.cls ≠ "java/lang/invoke/VarHandle" ∧ (parseMethodDescriptor y.desc).map (fun d => d.parameters.length) = some n) ∧
  (Cond.methodLink own index y ∈ xT ∧ Cond.instanceMethod y ∈ xT ∧ Cond.selects y.cls y y ∈ xT ∧ Cond.initialized y.cls ∈ xT ∧ Cond.code y cb mL rt ∈ xT) ∧
  ∃ (ci : Nat) (T : u_T) (N : Nat), vwCl[ci]? = some (y.cls, T, N) ∧ ∀ (G : Nat → ClassId) (ρ : XOb → Nat) (f : Int → Int) (i k : Int), ∃ fs, xcf G ρ f t i k = .inr (ci, fs)
theorem xs_callV {index t n : Nat} {y : MethodName} {cb : ByteArray} {mL : Nat} {rt : Option FieldType} {rm : Room} {sp : XSp} (hM : XCn y (Cond.code y cb mL rt :: xT) rm sp) (hV : XcV R own index t n y cb mL rt rm) (d : decode cc pc = .ok (.invokevirtual index, 3))
    (p : Program) (l : Launch) (e : Env) (s : State) (m : MethodId) (args : Array Value) (below : List Frame) (meth : Method) (c : Code) (cells slots : Nat) (Q : State → Prop) (D : va_G) (G : Nat → ClassId) (ρ : XOb → Nat) (hC : XCX p R s m args c cells slots D G ρ cc nL own (q0 :: xT))
    (L : XLs) (M : XM) (As st : List XV) (i k : Int) (K : XK) (hn : As.length = n) (hv : xval t i k) (hcat : xcat st ≤ 8) (h : sp (xR t i k :: As) M (fun rv M' => K (pc + 3) L (rv ++ st) M')) (hk : ∀ pc' L' st' M', K pc' L' st' M' → XWW p l e R s m args below meth c cells slots Q D G ρ nL pc' L' st' M') :
    XWW p l e R s m args below meth c cells slots Q D G ρ nL pc L (As.reverse ++ xR t i k :: st) M := by
  intro H locs ls hP hS hl
  obtain ⟨⟨hrc, hrs, hr1, hr2⟩, hd, ⟨m1, m2, m3, m4, m5⟩, ci, T, N, hci, hcell⟩ := hV
  obtain ⟨w0, hw0⟩ := xw_at hv
  obtain ⟨fs, e1⟩ := hcell G ρ (M t i k) i k
  have hMet := hM l D G ρ H.size (xR t i k :: As) M _ h
  have hcw : CallW R s args own y.cls index y cb mL rt (Cond.code y cb mL rt :: xT) rm 0 0 n := cwV n hC.1.2.2.2.2 (by
    refine goodIn_app (xgood ?_) (xgood ?_)
    · intro w hw
      simp only [List.mem_cons, List.not_mem_nil, or_false] at hw
      rcases hw with rfl | rfl | rfl | rfl <;> assumption
    · intro w hw
      rcases List.mem_cons.mp hw with rfl | hw
      · exact m5
      · exact hw) rfl hrc hrs ⟨rfl, hd⟩ ⟨hr1, hr2⟩
  exact xgo (st := st) (va_runV (b := ρ (t, i, k)) (As := As.map (xcv ρ)) (rest := st.map (xcv ρ)) hC.1 hMet hcw ⟨xblind (xR t i k :: As) D G ρ H.size M, va_recv hC.2.1 hP hci (by rw [xw_get hw0, e1]), fun U hU hW => ⟨rfl, xbegin hC hP hS U hU hW⟩⟩ rfl (by simpa using hn) hl.1
    (by simp [xcv]) (lv_room (by rw [xcat_eq]; exact hcat)) d ⟨hC.2.2.2.2.2.1, hC.2.2.2.2.2.2⟩) hS hl hk
theorem xs_V0 {index t : Nat} {y : MethodName} {cb : ByteArray} {mL : Nat} {rt : Option FieldType} {rm : Room} {sp : XSp} (hM : XCn y (Cond.code y cb mL rt :: xT) rm sp) (hV : XcV R own index t 0 y cb mL rt rm) (d : decode cc pc = .ok (.invokevirtual index, 3)) : XSnd R cc nL own (q0 :: xT) ret Post pc (j_V0 t sp) := by
  intro p l e s m args below meth c cells slots Q D G ρ hC hR L st M K h hk
  simp only [j_V0] at h
  split at h
  next t' i k st' =>
    obtain ⟨⟨rfl, hv, hc⟩, h⟩ := h
    exact xs_callV hM hV d p l e s m args below meth c cells slots Q D G ρ hC L M [] st' i k K rfl hv hc h hk
  next => exact h.elim
theorem xs_V1 {index t : Nat} {y : MethodName} {cb : ByteArray} {mL : Nat} {rt : Option FieldType} {rm : Room} {sp : XSp} (hM : XCn y (Cond.code y cb mL rt :: xT) rm sp) (hV : XcV R own index t 1 y cb mL rt rm) (d : decode cc pc = .ok (.invokevirtual index, 3)) : XSnd R cc nL own (q0 :: xT) ret Post pc (j_V1 t sp) := by
  intro p l e s m args below meth c cells slots Q D G ρ hC hR L st M K h hk
  simp only [j_V1] at h
  split at h
  next a t' i k st' =>
    obtain ⟨⟨rfl, hv, hc⟩, h⟩ := h
    exact xs_callV hM hV d p l e s m args below meth c cells slots Q D G ρ hC L M [a] st' i k K rfl hv hc h hk
  next => exact h.elim
theorem xs_V2 {index t : Nat} {y : MethodName} {cb : ByteArray} {mL : Nat} {rt : Option FieldType} {rm : Room} {sp : XSp} (hM : XCn y (Cond.code y cb mL rt :: xT) rm sp) (hV : XcV R own index t 2 y cb mL rt rm) (d : decode cc pc = .ok (.invokevirtual index, 3)) : XSnd R cc nL own (q0 :: xT) ret Post pc (j_V2 t sp) := by
  intro p l e s m args below meth c cells slots Q D G ρ hC hR L st M K h hk
  simp only [j_V2] at h
  split at h
  next b a t' i k st' =>
    obtain ⟨⟨rfl, hv, hc⟩, h⟩ := h
    exact xs_callV hM hV d p l e s m args below meth c cells slots Q D G ρ hC L M [a, b] st' i k K rfl hv hc h hk
  next => exact h.elim
theorem xs_V3 {index t : Nat} {y : MethodName} {cb : ByteArray} {mL : Nat} {rt : Option FieldType} {rm : Room} {sp : XSp} (hM : XCn y (Cond.code y cb mL rt :: xT) rm sp) (hV : XcV R own index t 3 y cb mL rt rm) (d : decode cc pc = .ok (.invokevirtual index, 3)) : XSnd R cc nL own (q0 :: xT) ret Post pc (j_V3 t sp) := by
  intro p l e s m args below meth c cells slots Q D G ρ hC hR L st M K h hk
  simp only [j_V3] at h
  split at h
  next c1 b a t' i k st' =>
    obtain ⟨⟨rfl, hv, hc⟩, h⟩ := h
    exact xs_callV hM hV d p l e s m args below meth c cells slots Q D G ρ hC L M [a, b, c1] st' i k K rfl hv hc h hk
  next => exact h.elim
theorem xs_V4 {index t : Nat} {y : MethodName} {cb : ByteArray} {mL : Nat} {rt : Option FieldType} {rm : Room} {sp : XSp} (hM : XCn y (Cond.code y cb mL rt :: xT) rm sp) (hV : XcV R own index t 4 y cb mL rt rm) (d : decode cc pc = .ok (.invokevirtual index, 3)) : XSnd R cc nL own (q0 :: xT) ret Post pc (j_V4 t sp) := by
  intro p l e s m args below meth c cells slots Q D G ρ hC hR L st M K h hk
  simp only [j_V4] at h
  split at h
  next d1 c1 b a t' i k st' =>
    obtain ⟨⟨rfl, hv, hc⟩, h⟩ := h
    exact xs_callV hM hV d p l e s m args below meth c cells slots Q D G ρ hC L M [a, b, c1, d1] st' i k K rfl hv hc h hk
  next => exact h.elim
theorem xs_V5 {index t : Nat} {y : MethodName} {cb : ByteArray} {mL : Nat} {rt : Option FieldType} {rm : Room} {sp : XSp} (hM : XCn y (Cond.code y cb mL rt :: xT) rm sp) (hV : XcV R own index t 5 y cb mL rt rm) (d : decode cc pc = .ok (.invokevirtual index, 3)) : XSnd R cc nL own (q0 :: xT) ret Post pc (j_V5 t sp) := by
  intro p l e s m args below meth c cells slots Q D G ρ hC hR L st M K h hk
  simp only [j_V5] at h
  split at h
  next f1 d1 c1 b a t' i k st' =>
    obtain ⟨⟨rfl, hv, hc⟩, h⟩ := h
    exact xs_callV hM hV d p l e s m args below meth c cells slots Q D G ρ hC L M [a, b, c1, d1, f1] st' i k K rfl hv hc h hk
  next => exact h.elim
/-- what a static call needs -/
def XcS (R : Room) (own : String) (index n : Nat) (y : MethodName) (cb : ByteArray) (mL : Nat) (rt : Option FieldType) (rm : Room) : Prop :=
  (rm.cells = 0 ∧ rm.slots = 0 ∧ rm.frames + 1 ≤ R.frames ∧ 8 + (mL + 11) + rm.locals ≤ R.locals) ∧
  (y.cls ≠ "java/lang/invoke/MethodHandle" ∧ y.cls ≠ "java/lang/invoke/VarHandle" ∧ (parseMethodDescriptor y.desc).map (fun d => d.parameters.length) = some n) ∧
  (Cond.methodLink own index y ∈ xT ∧ Cond.static y ∈ xT ∧ Cond.initialized y.cls ∈ xT ∧ Cond.code y cb mL rt ∈ xT)
theorem xs_callS {index n : Nat} {y : MethodName} {cb : ByteArray} {mL : Nat} {rt : Option FieldType} {rm : Room} {sp : XSp} (hM : XCn y (Cond.code y cb mL rt :: xT) rm sp) (hV : XcS R own index n y cb mL rt rm) (d : decode cc pc = .ok (.invokestatic index, 3))
    (p : Program) (l : Launch) (e : Env) (s : State) (m : MethodId) (args : Array Value) (below : List Frame) (meth : Method) (c : Code) (cells slots : Nat) (Q : State → Prop) (D : va_G) (G : Nat → ClassId) (ρ : XOb → Nat) (hC : XCX p R s m args c cells slots D G ρ cc nL own (q0 :: xT))
    (L : XLs) (M : XM) (As st : List XV) (K : XK) (hn : As.length = n) (hcat : xcat st ≤ 8) (h : sp As M (fun rv M' => K (pc + 3) L (rv ++ st) M')) (hk : ∀ pc' L' st' M', K pc' L' st' M' → XWW p l e R s m args below meth c cells slots Q D G ρ nL pc' L' st' M') :
    XWW p l e R s m args below meth c cells slots Q D G ρ nL pc L (As.reverse ++ st) M := by
  intro H locs ls hP hS hl
  obtain ⟨⟨hrc, hrs, hr1, hr2⟩, hd, m1, m2, m4, m5⟩ := hV
  have hMet := hM l D G ρ H.size As M _ h
  have ht : ∀ w ∈ xT, w.before args s = true := fun w hw => hC.1.2.2.2.2 w (xgood1 hw)
  have hcw : CallB R s args own index y cb mL rt (Cond.code y cb mL rt :: xT) rm 0 0 n ∧ (Cond.static y).before args s = true := ⟨callB_of n hC.1.2.2.2.2 (by
    refine xgood ?_
    intro w hw
    rcases List.mem_cons.mp hw with rfl | hw
    · exact m5
    · exact hw) rfl hrc hrs (ht _ m4) (ht _ m1) hd ⟨hr1, hr2⟩, ht _ m2⟩
  exact xgo (st := st) (va_runS (As := As.map (xcv ρ)) (rest := st.map (xcv ρ)) hC.1 hMet hcw ⟨xblind As D G ρ H.size M, fun U hU hW => ⟨rfl, xbegin hC hP hS U hU hW⟩⟩ rfl (by simpa using hn) hl.1
    (by simp) (lv_room (by rw [xcat_eq]; exact hcat)) d ⟨hC.2.2.2.2.2.1, hC.2.2.2.2.2.2⟩) hS hl hk
theorem xs_S1 {index : Nat} {y : MethodName} {cb : ByteArray} {mL : Nat} {rt : Option FieldType} {rm : Room} {sp : XSp} (hM : XCn y (Cond.code y cb mL rt :: xT) rm sp) (hV : XcS R own index 1 y cb mL rt rm) (d : decode cc pc = .ok (.invokestatic index, 3)) : XSnd R cc nL own (q0 :: xT) ret Post pc (j_S1 sp) := by
  intro p l e s m args below meth c cells slots Q D G ρ hC hR L st M K h hk
  simp only [j_S1] at h
  split at h
  next a st' => exact xs_callS hM hV d p l e s m args below meth c cells slots Q D G ρ hC L M [a] st' K rfl h.1 h.2 hk
  next => exact h.elim
theorem xs_S2 {index : Nat} {y : MethodName} {cb : ByteArray} {mL : Nat} {rt : Option FieldType} {rm : Room} {sp : XSp} (hM : XCn y (Cond.code y cb mL rt :: xT) rm sp) (hV : XcS R own index 2 y cb mL rt rm) (d : decode cc pc = .ok (.invokestatic index, 3)) : XSnd R cc nL own (q0 :: xT) ret Post pc (j_S2 sp) := by
  intro p l e s m args below meth c cells slots Q D G ρ hC hR L st M K h hk
  simp only [j_S2] at h
  split at h
  next b a st' => exact xs_callS hM hV d p l e s m args below meth c cells slots Q D G ρ hC L M [a, b] st' K rfl h.1 h.2 hk
  next => exact h.elim
theorem xs_S3 {index : Nat} {y : MethodName} {cb : ByteArray} {mL : Nat} {rt : Option FieldType} {rm : Room} {sp : XSp} (hM : XCn y (Cond.code y cb mL rt :: xT) rm sp) (hV : XcS R own index 3 y cb mL rt rm) (d : decode cc pc = .ok (.invokestatic index, 3)) : XSnd R cc nL own (q0 :: xT) ret Post pc (j_S3 sp) := by
  intro p l e s m args below meth c cells slots Q D G ρ hC hR L st M K h hk
  simp only [j_S3] at h
  split at h
  next c1 b a st' => exact xs_callS hM hV d p l e s m args below meth c cells slots Q D G ρ hC L M [a, b, c1] st' K rfl h.1 h.2 hk
  next => exact h.elim
/-- dividedUp, called from Film -/
theorem xs_SN {y : MethodName} {cb : ByteArray} {mL : Nat} {rt : Option FieldType} {rm : Room} {sp : XSp} (hy : y = ⟨"UnitKitchens", "dividedUp", "(II)I"⟩) (hM : XCn y (Cond.code y cb mL rt :: xT) rm sp) (hV : (rm.cells = 0 ∧ rm.slots = 0 ∧ rm.frames + 1 ≤ R.frames ∧ 8 + (mL + 11) + rm.locals ≤ R.locals) ∧ (parseMethodDescriptor y.desc).map (fun d => d.parameters.length) = some 2 ∧ Cond.static y ∈ xT ∧ Cond.initialized y.cls ∈ xT ∧ Cond.code y cb mL rt ∈ xT) (d : decode cc pc = .ok (.invokestatic 196, 3)) : XSnd R cc nL "UnitKitchens$Film" (q0 :: xT) ret Post pc (j_S2 sp) := by
  intro p l e s m args below meth c cells slots Q D G ρ hC hR L st M K h hk
  simp only [j_S2] at h
  split at h
  next b a st' =>
    intro H locs ls hP hS hl
    obtain ⟨⟨hrc, hrs, hr1, hr2⟩, hd, m2, m4, m5⟩ := hV
    have hMet := hM l D G ρ H.size [a, b] M _ h.2
    have ht : ∀ w ∈ xT, w.before args s = true := fun w hw => hC.1.2.2.2.2 w (xgood1 hw)
    have hnw : va_Nw (.methodLinkNest "UnitKitchens$Film" 196 y "UnitKitchens") s := by rw [hy]; exact hC.2.2.2.2.1.1
    have hcw := va_cnB (R := R) 2 hC.1.2.2.2.2 (xgood (q := q0) (ws := Cond.code y cb mL rt :: xT) (by
      intro w hw
      rcases List.mem_cons.mp hw with rfl | hw
      · exact m5
      · exact hw)) rfl hrc hrs hnw (ht _ m4) (by rw [hy] at hd ⊢; exact ⟨by decide, by decide, hd⟩) ⟨hr1, hr2⟩
    exact xgo (st := st') (va_runSN (As := [a, b].map (xcv ρ)) (rest := st'.map (xcv ρ)) hC.1 hMet ⟨hcw, ht _ m2, trivial⟩ ⟨xblind [a, b] D G ρ H.size M, fun U hU hW => ⟨rfl, xbegin hC hP hS U hU hW⟩⟩ rfl rfl hl.1
      rfl (lv_room (by rw [xcat_eq]; exact h.1)) d ⟨hC.2.2.2.2.2.1, hC.2.2.2.2.2.2⟩) hS hl hk
  next => exact h.elim
end XL5
