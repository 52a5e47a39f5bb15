section XSt
/-! what holds at the law's entry -/
theorem ow_31 : (Jvm.Cond.fieldLinkNest "UnitKitchens$Film" (9 : Nat) "UnitKitchens" "FIRST_SETTING" "[I" "UnitKitchens") ∈ lw_tbl := List.mem_append_right _ (List.mem_of_getElem? (i := 31) (by decide +kernel))
theorem ow_32 : (Jvm.Cond.laysStatic "UnitKitchens" "FIRST_SETTING" "[I") ∈ lw_tbl := List.mem_append_right _ (List.mem_of_getElem? (i := 32) (by decide +kernel))
theorem ow_38 : (Jvm.Cond.castable "[I" "java/lang/Cloneable") ∈ lw_tbl := List.mem_append_right _ (List.mem_of_getElem? (i := 38) (by decide +kernel))
theorem ow_41 : (Jvm.Cond.arrayOver (Jvm.ClassFile.FieldType.object "UnitKitchens$Kitchen")) ∈ lw_tbl := List.mem_append_right _ (List.mem_of_getElem? (i := 41) (by decide +kernel))
theorem ow_43 : (Jvm.Cond.arrayOver (Jvm.ClassFile.FieldType.object "UnitKitchens$Lorry")) ∈ lw_tbl := List.mem_append_right _ (List.mem_of_getElem? (i := 43) (by decide +kernel))
theorem ow_45 : (Jvm.Cond.arrayOver (Jvm.ClassFile.FieldType.object "UnitKitchens$Unit")) ∈ lw_tbl := List.mem_append_right _ (List.mem_of_getElem? (i := 45) (by decide +kernel))
theorem ow_47 : (Jvm.Cond.methodLinkNest "UnitKitchens$Film" (47 : Nat) ({ cls := "UnitKitchens$Kitchen", name := "<init>", desc := "()V" } : Jvm.MethodName) "UnitKitchens") ∈ lw_tbl := List.mem_append_right _ (List.mem_of_getElem? (i := 47) (by decide +kernel))
theorem ow_53 : (Jvm.Cond.methodLinkNest "UnitKitchens$Kitchen" (21 : Nat) ({ cls := "UnitKitchens$Meals", name := "<init>", desc := "()V" } : Jvm.MethodName) "UnitKitchens") ∈ lw_tbl := List.mem_append_right _ (List.mem_of_getElem? (i := 53) (by decide +kernel))
theorem ow_99 : (Jvm.Cond.methodLinkNest "UnitKitchens$Film" (48 : Nat) ({ cls := "UnitKitchens$Lorry", name := "<init>", desc := "()V" } : Jvm.MethodName) "UnitKitchens") ∈ lw_tbl := List.mem_append_right _ (List.mem_of_getElem? (i := 99) (by decide +kernel))
theorem ow_104 : (Jvm.Cond.methodLinkNest "UnitKitchens$Lorry" (20 : Nat) ({ cls := "UnitKitchens$Meals", name := "<init>", desc := "()V" } : Jvm.MethodName) "UnitKitchens") ∈ lw_tbl := List.mem_append_right _ (List.mem_of_getElem? (i := 104) (by decide +kernel))
theorem ow_133 : (Jvm.Cond.methodLinkNest "UnitKitchens$Film" (49 : Nat) ({ cls := "UnitKitchens$Unit", name := "<init>", desc := "()V" } : Jvm.MethodName) "UnitKitchens") ∈ lw_tbl := List.mem_append_right _ (List.mem_of_getElem? (i := 133) (by decide +kernel))
theorem ow_246 : (Jvm.Cond.arrayOver (Jvm.ClassFile.FieldType.object "UnitKitchens$Film")) ∈ lw_tbl := List.mem_append_right _ (List.mem_of_getElem? (i := 246) (by decide +kernel))
theorem ow_261 : (Jvm.Cond.methodLinkNest "UnitKitchens" (32 : Nat) ({ cls := "UnitKitchens$SheetReader", name := "<init>", desc := "()V" } : Jvm.MethodName) "UnitKitchens") ∈ lw_tbl := List.mem_append_right _ (List.mem_of_getElem? (i := 261) (by decide +kernel))
theorem ow_302 : (Jvm.Cond.castable "java/lang/IllegalArgumentException" "java/lang/IllegalArgumentException") ∈ lw_tbl := List.mem_append_right _ (List.mem_of_getElem? (i := 302) (by decide +kernel))
theorem ow_304 : (Jvm.Cond.declares ({ cls := "java/lang/RuntimeException", name := "<init>", desc := "(Ljava/lang/String;)V" } : Jvm.MethodName)) ∈ lw_tbl := List.mem_append_right _ (List.mem_of_getElem? (i := 304) (by decide +kernel))
theorem ow_306 : (Jvm.Cond.declares ({ cls := "java/lang/Exception", name := "<init>", desc := "(Ljava/lang/String;)V" } : Jvm.MethodName)) ∈ lw_tbl := List.mem_append_right _ (List.mem_of_getElem? (i := 306) (by decide +kernel))
theorem ow_308 : (Jvm.Cond.declares ({ cls := "java/lang/Throwable", name := "<init>", desc := "(Ljava/lang/String;)V" } : Jvm.MethodName)) ∈ lw_tbl := List.mem_append_right _ (List.mem_of_getElem? (i := 308) (by decide +kernel))
theorem ow_327 : (Jvm.Cond.laysStatic "java/lang/Throwable" "UNASSIGNED_STACK" "[Ljava/lang/StackTraceElement;") ∈ lw_tbl := List.mem_append_right _ (List.mem_of_getElem? (i := 327) (by decide +kernel))
theorem ow_329 : (Jvm.Cond.laysStatic "java/lang/Throwable" "SUPPRESSED_SENTINEL" "Ljava/util/List;") ∈ lw_tbl := List.mem_append_right _ (List.mem_of_getElem? (i := 329) (by decide +kernel))
theorem ow_341 : (Jvm.Cond.stringRef "UnitKitchens" (334 : Nat) "an argument is out of range") ∈ lw_tbl := List.mem_append_right _ (List.mem_of_getElem? (i := 341) (by decide +kernel))
theorem ow_433 : (Jvm.Cond.castable "java/lang/IndexOutOfBoundsException" "java/lang/IndexOutOfBoundsException") ∈ lw_tbl := List.mem_append_right _ (List.mem_of_getElem? (i := 433) (by decide +kernel))
theorem ow_440 : (Jvm.Cond.stringRef "UnitKitchens" (331 : Nat) "there is no such number") ∈ lw_tbl := List.mem_append_right _ (List.mem_of_getElem? (i := 440) (by decide +kernel))
theorem ow_639 : (Jvm.Cond.methodLinkNest "UnitKitchens$Film" (196 : Nat) ({ cls := "UnitKitchens", name := "dividedUp", desc := "(II)I" } : Jvm.MethodName) "UnitKitchens") ∈ lw_tbl := List.mem_append_right _ (List.mem_of_getElem? (i := 639) (by decide +kernel))
theorem ow_605 : (Jvm.Cond.fieldLinkNest "UnitKitchens$Kitchen" (48 : Nat) "UnitKitchens" "NEEDS" "[I" "UnitKitchens") ∈ lw_tbl := List.mem_append_right _ (List.mem_of_getElem? (i := 605) (by decide +kernel))
theorem ow_606 : (Jvm.Cond.laysStatic "UnitKitchens" "NEEDS" "[I") ∈ lw_tbl := List.mem_append_right _ (List.mem_of_getElem? (i := 606) (by decide +kernel))
theorem ow_373 : (Jvm.Cond.castable "java/lang/IllegalStateException" "java/lang/IllegalStateException") ∈ lw_tbl := List.mem_append_right _ (List.mem_of_getElem? (i := 373) (by decide +kernel))
theorem ow_380 : (Jvm.Cond.stringRef "UnitKitchens" (338 : Nat) "the film does not allow it now") ∈ lw_tbl := List.mem_append_right _ (List.mem_of_getElem? (i := 380) (by decide +kernel))
theorem ow_686 : (Jvm.Cond.stringRef "UnitKitchens" (179 : Nat) "a unit cannot join itself") ∈ lw_tbl := List.mem_append_right _ (List.mem_of_getElem? (i := 686) (by decide +kernel))
def stC : Cond := Jvm.Cond.and given_1 narrow_1
theorem st_x {w : Cond} (h : w ∈ xT) : w ∈ lw_tbl := (List.mem_filter.mp h).1
section
variable {s : State} {args : Array Value}
theorem st_D (hts : ∀ w ∈ lw_tbl, w.before args s = true) : ∃ D : va_G, ∀ (k : Nat) (q : vw_C), vwCl[k]? = some q → u_Kn s q.1 q.2.1 q.2.2 (D.1 k) (D.2 k) := by
  have h : ∀ k : Nat, ∃ x : ClassId × (Nat → Nat), ∀ q : vw_C, vwCl[k]? = some q → u_Kn s q.1 q.2.1 q.2.2 x.1 x.2 := by
    intro k
    have key : ∀ (k : Nat) (C : String) (T : u_T) (N n : Nat), vwCl[k]? = some (C, T, N) → (∀ w ∈ u_ws C T N, w ∈ xT) → Cond.instantiable C n ∈ xT → ∃ x : ClassId × (Nat → Nat), ∀ q : vw_C, vwCl[k]? = some q → u_Kn s q.1 q.2.1 q.2.2 x.1 x.2 := by
      intro k C T N n hk hin hi
      obtain ⟨cC, iS, h⟩ := u_known (ws := xT) (fun w hw => hts w (st_x hw)) hin (hts _ (st_x hi))
      exact ⟨(cC, iS), fun q hq => by cases hk.symm.trans hq; exact h⟩
    match k with
    | 0 => exact key _ _ _ _ _ yc0.1 yc0.2.1 tw_26
    | 1 => exact key _ _ _ _ _ yc1.1 yc1.2.1 tw_46
    | 2 => exact key _ _ _ _ _ yc2.1 yc2.2.1 tw_98
    | 3 => exact key _ _ _ _ _ yc3.1 yc3.2.1 tw_52
    | 4 => exact key _ _ _ _ _ yc4.1 yc4.2.1 tw_240
    | 5 => exact key _ _ _ _ _ yc5.1 yc5.2.1 tw_260
    | 6 => exact key _ _ _ _ _ yc6.1 yc6.2.1 tw_132
    | 7 => exact key _ _ _ _ _ yc7.1 yc7.2.1 tw_18
    | k + 8 => exact ⟨(0, fun _ => 0), fun q hq => by simp [vwCl] at hq⟩
  exact ⟨(fun k => (Classical.choose (h k)).1, fun k => (Classical.choose (h k)).2), fun k q hq => Classical.choose_spec (h k) q hq⟩
theorem st_Gi {ty : FieldType} (h : (Cond.arrayClass ty).before args s = true) (hn : ∀ g : ClassId, s.vm.findClass ("[" ++ ty.toString) = some g → va_RA s g ty) : ∃ g : ClassId, ArrOfT s g ty ∧ va_RA s g ty := by
  obtain ⟨g, k, comp, h1, h2, h3⟩ := Cond.arrayClass_spec h
  exact ⟨g, fun n z => ⟨fun k h => (by cases h), k, h2, comp, h3⟩, hn g h1⟩
theorem st_Gq {C : String} (h : (Cond.arrayOver (.object C)).before args s = true) : ∃ g : ClassId, ArrOfT s g (.object C) ∧ va_RA s g (.object C) := by
  obtain ⟨comp, g, k, h1, -, h3, h4, h5⟩ := Cond.arrayOver_spec h
  exact ⟨g, fun n z => ⟨fun k h => (by cases h), k, h3, comp, h4⟩, k, comp, h3, h4, h1, h5⟩
theorem st_G (hts : ∀ w ∈ lw_tbl, w.before args s = true) : ∃ G : Nat → ClassId, ∀ (k : Nat) (q : ClassId × FieldType), (xtys G)[k]? = some q → ArrOfT s q.1 q.2 ∧ va_RA s q.1 q.2 := by
  obtain ⟨g0, h0⟩ := st_Gi (ty := .int) (hts _ (st_x tw_67)) (fun _ h => h)
  obtain ⟨g1, h1⟩ := st_Gi (ty := .char) (hts _ (st_x tw_273)) (fun _ h => h)
  obtain ⟨g2, h2⟩ := st_Gi (ty := .int) (hts _ (st_x tw_67)) (fun _ h => h)
  obtain ⟨g3, h3⟩ := st_Gq (hts _ ow_41)
  obtain ⟨g4, h4⟩ := st_Gq (hts _ ow_43)
  obtain ⟨g5, h5⟩ := st_Gq (hts _ ow_45)
  obtain ⟨g6, h6⟩ := st_Gq (hts _ ow_246)
  refine ⟨fun k => match k with | 0 => g0 | 1 => g1 | 2 => g2 | 3 => g3 | 4 => g4 | 5 => g5 | _ => g6, fun k q hq => ?_⟩
  match k, hq with
  | 0, hq => cases hq; exact h0
  | 1, hq => cases hq; exact h1
  | 2, hq => cases hq; exact h2
  | 3, hq => cases hq; exact h3
  | 4, hq => cases hq; exact h4
  | 5, hq => cases hq; exact h5
  | 6, hq => cases hq; exact h6
  | k + 7, hq => simp [xtys] at hq
theorem st_row {C n : String} {t N : Nat} (hts : ∀ w ∈ lw_tbl, w.before args s = true) (hgv : stC.before args s = true) (hN : N < 2 ^ 31) (hl : Cond.laysStatic C n "[I" ∈ lw_tbl) (hini : Cond.initialized C ∈ lw_tbl) (harr : Cond.arrayOf (.static C n "[I") .int ∈ flatC stC) (hlen : Cond.eq (.length (.static C n "[I")) (.int (Int32.ofNat N)) ∈ flatC stC) (hel : ∀ j : Nat, j < N → Cond.eq (.elem (.static C n "[I") (.int (Int32.ofNat j))) (.int (Int32.ofInt ((xst t).getD j 0))) ∈ flatC stC) :
    ∃ a : Nat, a < s.heap.size ∧ (Term.static C n "[I").eval args s none [] s = some (.ref a) ∧ ∀ A : Nat → Prop, (∀ q : Nat, q < s.heap.size → ¬ A q) → va_Z C n "[I" (.ref a) A s s.heap ∧ va_T .int a N (fun j => .int (Int32.ofInt ((xst t).getD j 0))) A s s.heap := by
  have hs := flat_of_before _ hgv
  obtain ⟨a, h1, h2⟩ := va_Tof (A := fun _ => False) (f := fun j => .int (Int32.ofInt ((xst t).getD j 0))) hN (hs _ harr) (va_eqt (hs _ hlen)) (fun j hj => va_eqt (hs _ (hel j hj))) (fun _ _ z => z)
  obtain ⟨cell, q1, q2, q3, q4, q5, q6, -⟩ := h2
  have ha : a < s.heap.size := (Array.getElem?_eq_some_iff.mp q1).1
  exact ⟨a, ha, h1, fun A hA => ⟨va_Zof (hts _ hl) (hts _ hini) h1 hA, cell, q1, q2, q3, q4, q5, q6, hA a ha⟩⟩
theorem st_r31 (hts : ∀ w ∈ lw_tbl, w.before args s = true) (hgv : stC.before args s = true) : ∃ a : Nat, a < s.heap.size ∧ (Term.static "UnitKitchens" "NEEDS" "[I").eval args s none [] s = some (.ref a) ∧ ∀ A : Nat → Prop, (∀ q : Nat, q < s.heap.size → ¬ A q) → va_Z "UnitKitchens" "NEEDS" "[I" (.ref a) A s s.heap ∧ va_T .int a 9 (fun j => .int (Int32.ofInt ((xst 31).getD j 0))) A s s.heap :=
  st_row (t := 31) (N := 9) hts hgv (by decide) ow_606 (st_x tw_1) (by decide +kernel) (by decide +kernel) (by decide +kernel)
theorem st_r34 (hts : ∀ w ∈ lw_tbl, w.before args s = true) (hgv : stC.before args s = true) : ∃ a : Nat, a < s.heap.size ∧ (Term.static "UnitKitchens" "FIRST_SETTING" "[I").eval args s none [] s = some (.ref a) ∧ ∀ A : Nat → Prop, (∀ q : Nat, q < s.heap.size → ¬ A q) → va_Z "UnitKitchens" "FIRST_SETTING" "[I" (.ref a) A s s.heap ∧ va_T .int a 6 (fun j => .int (Int32.ofInt ((xst 34).getD j 0))) A s s.heap :=
  st_row (t := 34) (N := 6) hts hgv (by decide) ow_32 (st_x tw_1) (by decide +kernel) (by decide +kernel) (by decide +kernel)
theorem st_SF (hts : ∀ w ∈ lw_tbl, w.before args s = true) (hgv : stC.before args s = true) : ∃ sr : Nat → Nat, ∀ (ρ : XOb → Nat) (A : Nat → Prop), (∀ t : Nat, 31 ≤ t → t ≤ 34 → ρ (t, 0, 0) = sr t) → (∀ q : Nat, q < s.heap.size → ¬ A q) → XSF ρ A s s.heap := by
  obtain ⟨a31, -, -, r31⟩ := st_r31 hts hgv
  obtain ⟨a34, -, -, r34⟩ := st_r34 hts hgv
  refine ⟨fun t => match t with | 31 => a31 | _ => a34, fun ρ A hρ hA q hq => ?_⟩
  have g31 : ρ (31, 0, 0) = a31 := hρ 31 (by decide) (by decide)
  have g34 : ρ (34, 0, 0) = a34 := hρ 34 (by decide) (by decide)
  simp only [xstats, List.mem_cons, List.not_mem_nil, or_false] at hq
  rcases hq with rfl | rfl
  · show va_Z "UnitKitchens" "NEEDS" "[I" (.ref (ρ (31, 0, 0))) A s s.heap ∧ va_T .int (ρ (31, 0, 0)) 9 (fun j => .int (Int32.ofInt ((xst 31).getD j 0))) A s s.heap
    rw [g31]
    exact r31 A hA
  · show va_Z "UnitKitchens" "FIRST_SETTING" "[I" (.ref (ρ (34, 0, 0))) A s s.heap ∧ va_T .int (ρ (34, 0, 0)) 6 (fun j => .int (Int32.ofInt ((xst 34).getD j 0))) A s s.heap
    rw [g34]
    exact r34 A hA
theorem st_S1 {G : Nat → ClassId} (hts : ∀ w ∈ lw_tbl, w.before args s = true) (hgv : stC.before args s = true) (hG : va_RA s (G 0) .int) : S1 G s.heap.size s := by
  have hs := flat_of_before _ hgv
  refine ⟨fun q hq => ?_, va_Nw.of rfl (hts _ ow_31), va_Nw.of rfl (hts _ ow_38), fun C hC => ?_, ?_⟩
  · simp only [ynl, List.mem_cons, List.not_mem_nil, or_false] at hq
    rcases hq with rfl | rfl | rfl | rfl | rfl | rfl
    · exact va_Nw.of rfl (hts _ ow_47)
    · exact va_Nw.of rfl (hts _ ow_53)
    · exact va_Nw.of rfl (hts _ ow_99)
    · exact va_Nw.of rfl (hts _ ow_104)
    · exact va_Nw.of rfl (hts _ ow_133)
    · exact va_Nw.of rfl (hts _ ow_261)
  · simp only [List.mem_cons, List.not_mem_nil, or_false] at hC
    rcases hC with rfl | rfl | rfl | rfl
    · exact va_AO.of (hts _ ow_41)
    · exact va_AO.of (hts _ ow_43)
    · exact va_AO.of (hts _ ow_45)
    · exact va_AO.of (hts _ ow_246)
  · obtain ⟨r0, hr0, he, hr⟩ := st_r34 hts hgv
    obtain ⟨hZ, hT⟩ := hr (yA s.heap.size) (fun q h1 h2 => absurd (show s.heap.size ≤ q from h2) (Nat.not_le.mpr h1))
    obtain ⟨cell, q1, q2, q3, q4, q5, q6, -⟩ := hT
    obtain ⟨a, c, cell2, k, h1, h2, h3, h4, h5, h6, -⟩ := Cond.exactly_spec (hs (Cond.exactly (.static "UnitKitchens" "FIRST_SETTING" "[I") "[I") (by decide +kernel))
    cases he.symm.trans h1
    cases q1.symm.trans h3
    have hlen := va_eqt (hs (Cond.eq (.length (.static "UnitKitchens" "FIRST_SETTING" "[I")) (.int 6)) (by decide +kernel))
    obtain ⟨a2, cell3, t1, t2, -⟩ := Term.length_spec hlen
    cases he.symm.trans t1
    obtain ⟨u1, -⟩ := State.arrayAt?_spec t2
    cases q1.symm.trans u1
    have hz : cell.slots.size = 6 := by
      have e0 : (Term.static "UnitKitchens" "FIRST_SETTING" "[I").eval args s none [] s = some (.ref r0) := he
      rw [Term.eval] at hlen
      simp only [e0, t2, Option.bind_eq_bind, Option.bind_some] at hlen
      split at hlen
      next hlt =>
        have e1 : Value.int cell.slots.size.toInt32 = Value.int 6 := Option.some.inj hlen
        have e2 : Int32.ofNat cell.slots.size = 6 := by injection e1
        have e3 := congrArg Int32.toNatClampNeg e2
        rw [Int32.toNatClampNeg_ofNat_of_lt hlt] at e3
        exact e3.trans rfl
      next => cases hlen
    refine ⟨r0, cell, hr0, hZ, q1, h6.trans (Option.some.inj (h2.symm.trans hG)), q3, fun k e => ?_, ?_⟩
    · rw [e] at h5
      cases h5
    · refine Array.ext_getElem? (fun i => ?_)
      by_cases hi : i < 6
      · rw [q6 i hi, Array.getElem?_ofFn, dif_pos hi]
      · rw [Array.getElem?_eq_none (by omega), Array.getElem?_eq_none (by simp; omega)]
theorem st_Nw (hts : ∀ w ∈ lw_tbl, w.before args s = true) : XNw s := ⟨va_Nw.of rfl (hts _ ow_639), va_Nw.of rfl (hts _ ow_605)⟩
end
end XSt
