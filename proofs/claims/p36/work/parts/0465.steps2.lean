section XL9
/-- a switch over two numbers -/
def j_lsw2 (a : Int) (ta : Nat) (b : Int) (tb d : Nat) : XStp := fun _ L st M K => match st with
  | .inl x :: st => XInR x ∧ (x = a → K ta L st M) ∧ (x = b → K tb L st M) ∧ (¬ x = a → ¬ x = b → K d L st M)
  | _ => False
section
variable {R : Room} {cc : ByteArray} {nL : Nat} {own : String} {Ts : List Cond} {ret : Option FieldType} {Post : XPo} {pc : Nat}
theorem xs_lsw2 {dflt a oa b ob : Int} {len ta tb t : Nat} (d : decode cc pc = .ok (.lookupswitch dflt #[(a, oa), (b, ob)], len)) (hab : a < b) (h1 : (pc : Int) + oa = (ta : Int)) (h2 : (pc : Int) + ob = (tb : Int)) (h3 : (pc : Int) + dflt = (t : Int)) : XSnd R cc nL own Ts ret Post pc (j_lsw2 a ta b tb t) := by
  intro p l e s m args below meth c cells slots Q D G ρ hC hR L st M K h hk H locs ls hP hS hl
  simp only [j_lsw2] at h
  split at h
  next x st' =>
    obtain ⟨hr, ha, hb, hd⟩ := h
    have hs : (([(a, oa), (b, ob)] : List (Int × Int)).zip (([(a, oa), (b, ob)] : List (Int × Int)).drop 1)).all (fun (a, next) => a.1 < next.1) = true := by simp [hab]
    by_cases e1 : x = a
    · refine lv_lookup (x := Int32.ofInt x) (rest := st'.map (xcv ρ)) hC.1.1 hC.1.2.1 d hs (off := oa) ?_ h1 (hk _ _ _ _ (ha e1) H locs ls hP hS hl)
      rw [xtI hr, Op.lookupswitch.offset_cons, if_pos e1.symm]
    · by_cases e2 : x = b
      · refine lv_lookup (x := Int32.ofInt x) (rest := st'.map (xcv ρ)) hC.1.1 hC.1.2.1 d hs (off := ob) ?_ h2 (hk _ _ _ _ (hb e2) H locs ls hP hS hl)
        rw [xtI hr, Op.lookupswitch.offset_cons, if_neg (fun z => e1 z.symm), Op.lookupswitch.offset_cons, if_pos e2.symm]
      · refine lv_lookup (x := Int32.ofInt x) (rest := st'.map (xcv ρ)) hC.1.1 hC.1.2.1 d hs (off := dflt) ?_ h3 (hk _ _ _ _ (hd e1 e2) H locs ls hP hS hl)
        rw [xtI hr, Op.lookupswitch.offset_cons, if_neg (fun z => e1 z.symm), Op.lookupswitch.offset_cons, if_neg (fun z => e2 z.symm), Op.lookupswitch.offset_nil]
  next => exact h.elim
end
/-! symbolic running that the kernel can't unfold -/
theorem yru_ex : ∃ f : (Nat → XStp) → List Nat → XK → Nat → XK, f = xru := ⟨_, rfl⟩
noncomputable def yru : (Nat → XStp) → List Nat → XK → Nat → XK := Classical.choose yru_ex
theorem yru_eq : yru = xru := Classical.choose_spec yru_ex
theorem ykk_ex : ∃ f : (Nat → XStp) → List Nat → XK → Nat → XK, f = xkk := ⟨_, rfl⟩
noncomputable def ykk : (Nat → XStp) → List Nat → XK → Nat → XK := Classical.choose ykk_ex
theorem ykk_eq : ykk = xkk := Classical.choose_spec ykk_ex
theorem ykk_ap (P : Nat → XStp) (cut : List Nat) (WW : XK) (n pc : Nat) (L : XLs) (st : List XV) (M : XM) : ykk P cut WW n pc L st M = if pc ∈ cut then WW pc L st M else yru P cut WW n pc L st M := by
  rw [ykk_eq, yru_eq]
  rfl
theorem yru_ok {P : Nat → XStp} {WW : XK} (hC : XCl P WW) (cut : List Nat) (n pc : Nat) (L : XLs) (st : List XV) (M : XM) (h : yru P cut WW n pc L st M) : WW pc L st M := by
  rw [yru_eq] at h
  exact xru_ok hC cut n pc L st M h
theorem yf {P : Nat → XStp} {cut : List Nat} {WW : XK} {n pc : Nat} {L : XLs} {st : List XV} {M : XM} {σ : XStp} (h : P pc = σ) : yru P cut WW (n + 1) pc L st M = σ pc L st M (ykk P cut WW n) := by
  rw [yru_eq, ykk_eq, ← h]
  rfl
end XL9

