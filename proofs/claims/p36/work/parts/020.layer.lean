/-! THE LAYER. Both systems' objects by names (tag, i, k), their whole numbers in one memory M : tag, i, k, slot -> Int
(an Int32 cell holds Int32.ofInt of it). A method's code is a list of steps; XCl P WW says that WW is closed under them.
A contract XCn y ws rm sp: from every memory and every Post with 'sp args M Post', y returns with Post. -/
section XL0
abbrev XOb : Type := Nat × Int × Int
abbrev XM : Type := Nat → Int → Int → Int → Int
abbrev XV : Type := Int ⊕ (Option XOb ⊕ (Int ⊕ UInt64))
abbrev xI (x : Int) : XV := Sum.inl x
abbrev xR (t : Nat) (i k : Int) : XV := Sum.inr (Sum.inl (some (t, i, k)))
abbrev xJ (x : Int) : XV := Sum.inr (Sum.inr (Sum.inl x))
abbrev xF (x : UInt64) : XV := Sum.inr (Sum.inr (Sum.inr x))
abbrev XLs : Type := List (Option XV)
abbrev XK : Type := Nat → XLs → List XV → XM → Prop
abbrev XStp : Type := Nat → XLs → List XV → XM → XK → Prop
abbrev XPo : Type := List XV → XM → Prop
abbrev XSp : Type := List XV → XM → XPo → Prop
def xcv (ρ : XOb → Nat) : XV → Value
  | .inl x => .int (Int32.ofInt x)
  | .inr (.inl none) => .null
  | .inr (.inl (some o)) => .ref (ρ o)
  | .inr (.inr (.inl x)) => .long (Int64.ofInt x)
  | .inr (.inr (.inr d)) => .double d
def xc1 : XV → Nat
  | .inl _ => 1
  | .inr (.inl _) => 1
  | .inr (.inr _) => 2
def xcat : List XV → Nat
  | [] => 0
  | v :: t => xc1 v + xcat t
theorem xc1_eq (ρ : XOb → Nat) (v : XV) : (xcv ρ v).category = xc1 v := by
  rcases v with x | (_ | o) | x | d <;> rfl
theorem xcat_eq (ρ : XOb → Nat) (st : List XV) : ((st.map (xcv ρ)).map fun v => v.category).sum = xcat st := by
  induction st with
  | nil => rfl
  | cons v t ih =>
    simp only [List.map_cons, List.sum_cons, xcat, xc1_eq]
    rw [ih]
def xget : XLs → Nat → Option XV
  | [], _ => none
  | x :: _, 0 => x
  | _ :: t, n + 1 => xget t n
def xclr : Option XV → Option XV
  | some (.inr (.inr _)) => none
  | x => x
def xset : XLs → Nat → XV → XLs
  | [], _, _ => []
  | _ :: t, 0, v => some v :: t
  | x :: t, 1, v => xclr x :: xset t 0 v
  | x :: t, n + 2, v => x :: xset t (n + 1) v
def xset2 : XLs → Nat → XV → XLs
  | [], _, _ => []
  | [_], 0, v => [some v]
  | _ :: _ :: t, 0, v => some v :: none :: t
  | x :: t, 1, v => xclr x :: xset2 t 0 v
  | x :: t, n + 2, v => x :: xset2 t (n + 1) v
/-- fewer known locals -/
def XLe : XLs → XLs → Prop
  | [], _ => True
  | none :: a, [] => XLe a []
  | none :: a, _ :: b => XLe a b
  | some _ :: _, [] => False
  | some v :: a, x :: b => x = some v ∧ XLe a b
theorem XLe_get : ∀ {a b : XLs}, XLe a b → ∀ (j : Nat) (v : XV), xget a j = some v → xget b j = some v
  | [], _, _, _, _, h => by simp [xget] at h
  | none :: a, [], h, 0, v, e => by simp [xget] at e
  | none :: a, [], h, j + 1, v, e => by
    have := XLe_get (a := a) (b := []) h j v (by simpa [xget] using e)
    simp [xget] at this
  | none :: a, _ :: b, h, 0, v, e => by simp [xget] at e
  | none :: a, _ :: b, h, j + 1, v, e => XLe_get (a := a) (b := b) h j v (by simpa [xget] using e)
  | some _ :: _, [], h, _, _, _ => by simp [XLe] at h
  | some w :: a, x :: b, h, 0, v, e => by
    simp only [XLe] at h
    simp only [xget] at e ⊢
    rw [h.1, e]
  | some w :: a, x :: b, h, j + 1, v, e => by
    simp only [XLe] at h
    simp only [xget] at e ⊢
    exact XLe_get h.2 j v e
def xlv (ρ : XOb → Nat) : Nat → XLs → List (Nat × Value)
  | _, [] => []
  | n, none :: t => xlv ρ (n + 1) t
  | n, some v :: t => (n, xcv ρ v) :: xlv ρ (n + 1) t
theorem xlv_mem {ρ : XOb → Nat} : ∀ (L : XLs) (n : Nat) (q : Nat × Value), q ∈ xlv ρ n L ↔ ∃ (i : Nat) (v : XV), q = (n + i, xcv ρ v) ∧ xget L i = some v
  | [], n, q => by simp [xlv, xget]
  | none :: t, n, q => by
    simp only [xlv]
    rw [xlv_mem t (n + 1) q]
    constructor
    · rintro ⟨i, v, h1, h2⟩
      exact ⟨i + 1, v, by rw [h1]; simp; omega, by simpa [xget] using h2⟩
    · rintro ⟨i, v, h1, h2⟩
      cases i with
      | zero => simp [xget] at h2
      | succ i => exact ⟨i, v, by rw [h1]; simp; omega, by simpa [xget] using h2⟩
  | some w :: t, n, q => by
    simp only [xlv, List.mem_cons]
    rw [xlv_mem t (n + 1) q]
    constructor
    · rintro (h | ⟨i, v, h1, h2⟩)
      · exact ⟨0, w, by simpa using h, by simp [xget]⟩
      · exact ⟨i + 1, v, by rw [h1]; simp; omega, by simpa [xget] using h2⟩
    · rintro ⟨i, v, h1, h2⟩
      cases i with
      | zero =>
        simp only [xget] at h2
        cases h2
        exact Or.inl (by simpa using h1)
      | succ i => exact Or.inr ⟨i, v, by rw [h1]; simp; omega, by simpa [xget] using h2⟩
theorem xclr_get {x : Option XV} {v : XV} (h : xclr x = some v) : x = some v ∧ xc1 v = 1 := by
  rcases x with _ | (x | (_ | o) | x | d) <;> simp [xclr] at h <;> subst h <;> simp [xc1]
theorem xset_get : ∀ (L : XLs) (i : Nat) (v : XV) (j : Nat) (w : XV), xget (xset L i v) j = some w → (j = i ∧ w = v) ∨ (j ≠ i ∧ xget L j = some w ∧ (j + 1 = i → xc1 w = 1))
  | [], i, v, j, w, h => by simp [xset, xget] at h
  | x :: t, 0, v, 0, w, h => by
    simp only [xset, xget] at h
    cases h
    exact Or.inl ⟨rfl, rfl⟩
  | x :: t, 0, v, j + 1, w, h => by
    simp only [xset, xget] at h
    exact Or.inr ⟨by omega, by simpa [xget] using h, by omega⟩
  | x :: t, 1, v, 0, w, h => by
    simp only [xset, xget] at h
    obtain ⟨h1, h2⟩ := xclr_get h
    exact Or.inr ⟨by omega, by simpa [xget] using h1, fun _ => h2⟩
  | x :: t, 1, v, j + 1, w, h => by
    simp only [xset, xget] at h
    rcases xset_get t 0 v j w h with ⟨h1, h2⟩ | ⟨h1, h2, h3⟩
    · exact Or.inl ⟨by omega, h2⟩
    · exact Or.inr ⟨by omega, by simpa [xget] using h2, by omega⟩
  | x :: t, n + 2, v, 0, w, h => by
    simp only [xset, xget] at h
    exact Or.inr ⟨by omega, by simpa [xget] using h, by omega⟩
  | x :: t, n + 2, v, j + 1, w, h => by
    simp only [xset, xget] at h
    rcases xset_get t (n + 1) v j w h with ⟨h1, h2⟩ | ⟨h1, h2, h3⟩
    · exact Or.inl ⟨by omega, h2⟩
    · exact Or.inr ⟨by omega, by simpa [xget] using h2, fun e => h3 (by omega)⟩
theorem xset2_get : ∀ (L : XLs) (i : Nat) (v : XV) (j : Nat) (w : XV), xget (xset2 L i v) j = some w → (j = i ∧ w = v) ∨ (j ≠ i ∧ j ≠ i + 1 ∧ xget L j = some w ∧ (j + 1 = i → xc1 w = 1))
  | [], i, v, j, w, h => by simp [xset2, xget] at h
  | [x], 0, v, 0, w, h => by
    simp only [xset2, xget] at h
    cases h
    exact Or.inl ⟨rfl, rfl⟩
  | [x], 0, v, j + 1, w, h => by simp [xset2, xget] at h
  | x :: y :: t, 0, v, 0, w, h => by
    simp only [xset2, xget] at h
    cases h
    exact Or.inl ⟨rfl, rfl⟩
  | x :: y :: t, 0, v, 1, w, h => by simp [xset2, xget] at h
  | x :: y :: t, 0, v, j + 2, w, h => by
    simp only [xset2, xget] at h
    exact Or.inr ⟨by omega, by omega, by simpa [xget] using h, by omega⟩
  | x :: t, 1, v, 0, w, h => by
    simp only [xset2, xget] at h
    obtain ⟨h1, h2⟩ := xclr_get h
    exact Or.inr ⟨by omega, by omega, by simpa [xget] using h1, fun _ => h2⟩
  | x :: t, 1, v, j + 1, w, h => by
    simp only [xset2, xget] at h
    rcases xset2_get t 0 v j w h with ⟨h1, h2⟩ | ⟨h1, h0, h2, h3⟩
    · exact Or.inl ⟨by omega, h2⟩
    · exact Or.inr ⟨by omega, by omega, by simpa [xget] using h2, by omega⟩
  | x :: t, n + 2, v, 0, w, h => by
    simp only [xset2, xget] at h
    exact Or.inr ⟨by omega, by omega, by simpa [xget] using h, by omega⟩
  | x :: t, n + 2, v, j + 1, w, h => by
    simp only [xset2, xget] at h
    rcases xset2_get t (n + 1) v j w h with ⟨h1, h2⟩ | ⟨h1, h0, h2, h3⟩
    · exact Or.inl ⟨by omega, h2⟩
    · exact Or.inr ⟨by omega, by omega, by simpa [xget] using h2, fun e => h3 (by omega)⟩
theorem xlv_at {ρ : XOb → Nat} {ls : Array Slot} {nL : Nat} {L : XLs} (h : lv_has ls nL (xlv ρ 0 L)) {i : Nat} {v : XV} (hg : xget L i = some v) : ls[i]? = some (.val (xcv ρ v)) :=
  h.2.2 (i, xcv ρ v) ((xlv_mem L 0 _).mpr ⟨i, v, by simp, hg⟩)
theorem lv_less {ls : Array Slot} {nL : Nat} {l l' : List (Nat × Value)} (h : lv_has ls nL l) (hs : ∀ q ∈ l', q ∈ l) : lv_has ls nL l' := ⟨h.1, h.2.1, fun q hq => h.2.2 q (hs q hq)⟩
theorem xlv_weak {ρ : XOb → Nat} {ls : Array Slot} {nL : Nat} {L L' : XLs} (hle : XLe L' L) (h : lv_has ls nL (xlv ρ 0 L)) : lv_has ls nL (xlv ρ 0 L') := by
  refine lv_less h fun q hq => ?_
  obtain ⟨i, v, h1, h2⟩ := (xlv_mem L' 0 q).mp hq
  exact (xlv_mem L 0 q).mpr ⟨i, v, h1, XLe_get hle i v h2⟩
theorem xlv_set {ρ : XOb → Nat} {ls : Array Slot} {nL i : Nat} {L : XLs} {v : XV} (h : lv_has ls nL ((i, xcv ρ v) :: (xlv ρ 0 L).filter (fun q => !(q.1 == i) && !(q.1 + 1 == i && q.2.category == 2)))) : lv_has ls nL (xlv ρ 0 (xset L i v)) := by
  refine lv_less h fun q hq => ?_
  obtain ⟨j, w, rfl, h2⟩ := (xlv_mem _ 0 q).mp hq
  rcases xset_get L i v j w h2 with ⟨rfl, rfl⟩ | ⟨h3, h4, h5⟩
  · simp
  · refine List.mem_cons_of_mem _ (List.mem_filter.mpr ⟨(xlv_mem L 0 _).mpr ⟨j, w, rfl, h4⟩, ?_⟩)
    simp only [Nat.zero_add, xc1_eq]
    by_cases hj : j + 1 = i
    · simp [h3, h5 hj]
    · simp [h3, hj]
theorem xlv_set2 {ρ : XOb → Nat} {ls : Array Slot} {nL i : Nat} {L : XLs} {v : XV} (h : lv_has ls nL ((i, xcv ρ v) :: (xlv ρ 0 L).filter (fun q => !(q.1 == i) && (!(q.1 == i + 1) && !(q.1 + 1 == i && q.2.category == 2))))) : lv_has ls nL (xlv ρ 0 (xset2 L i v)) := by
  refine lv_less h fun q hq => ?_
  obtain ⟨j, w, rfl, h2⟩ := (xlv_mem _ 0 q).mp hq
  rcases xset2_get L i v j w h2 with ⟨rfl, rfl⟩ | ⟨h3, h0, h4, h5⟩
  · simp
  · refine List.mem_cons_of_mem _ (List.mem_filter.mpr ⟨(xlv_mem L 0 _).mpr ⟨j, w, rfl, h4⟩, ?_⟩)
    simp only [Nat.zero_add, xc1_eq]
    by_cases hj : j + 1 = i
    · simp [h3, h0, h5 hj]
    · simp [h3, h0, hj]
/-- the locals with which a method begins -/
def xen : List XV → XLs
  | [] => []
  | v :: t => if xc1 v = 2 then some v :: none :: xen t else some v :: xen t
def xent (n : Nat) (av : List XV) : XLs := xen av ++ List.replicate (n - (xen av).length) none
theorem xget_app : ∀ (a : XLs) (k j : Nat) (v : XV), xget (a ++ List.replicate k none) j = some v → xget a j = some v
  | [], 0, j, v, h => by simp [xget] at h
  | [], k + 1, 0, v, h => by simp [List.replicate_succ, xget] at h
  | [], k + 1, j + 1, v, h => by
    simp only [List.nil_append, List.replicate_succ, xget] at h
    exact xget_app [] k j v (by simpa using h)
  | x :: a, k, 0, v, h => by simpa [xget] using h
  | x :: a, k, j + 1, v, h => by
    simp only [List.cons_append, xget] at h ⊢
    exact xget_app a k j v h
theorem xen_args {ρ : XOb → Nat} : ∀ (av : List XV) (n i : Nat) (v : XV), xget (xen av) i = some v → (n + i, xcv ρ v) ∈ lv_args n (av.map (xcv ρ))
  | [], n, i, v, h => by simp [xen, xget] at h
  | w :: t, n, i, v, h => by
    simp only [List.map_cons, lv_args, xc1_eq]
    by_cases hc : xc1 w = 2
    · simp only [xen, if_pos hc] at h ⊢
      match i, h with
      | 0, h =>
        simp only [xget] at h
        cases h
        exact List.mem_cons_self
      | 1, h => simp [xget] at h
      | i + 2, h =>
        simp only [xget] at h
        refine List.mem_cons_of_mem _ ?_
        have := xen_args (ρ := ρ) t (n + 2) i v h
        rw [show n + (i + 2) = n + 2 + i from by omega]
        exact this
    · simp only [xen, if_neg hc] at h ⊢
      match i, h with
      | 0, h =>
        simp only [xget] at h
        cases h
        exact List.mem_cons_self
      | i + 1, h =>
        simp only [xget] at h
        refine List.mem_cons_of_mem _ ?_
        have := xen_args (ρ := ρ) t (n + 1) i v h
        rw [show n + (i + 1) = n + 1 + i from by omega]
        exact this
theorem xent_has {ρ : XOb → Nat} {ls : Array Slot} {nL n : Nat} {av : List XV} (h : lv_has ls nL (lv_args 0 (av.map (xcv ρ)))) : lv_has ls nL (xlv ρ 0 (xent n av)) := by
  refine lv_less h fun q hq => ?_
  obtain ⟨i, v, rfl, h2⟩ := (xlv_mem _ 0 q).mp hq
  exact xen_args av 0 i v (xget_app _ _ _ _ h2)
end XL0
