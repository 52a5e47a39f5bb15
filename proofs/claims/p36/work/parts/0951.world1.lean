section XKj
def WL (G : Nat → ClassId) (q7 : Nat) (x7 : B7) (qs : Nat → Nat) : va_W := (qs 29, .inl (G 0, 64, .inl (fun _ => 0))) :: (qs 28, .inl (G 0, 60, .inl (fun _ => 0))) :: (qs 27, .inl (G 0, 4, .inl (fun _ => 0))) :: (qs 26, .inl (G 0, 4, .inl (fun _ => 0))) :: (qs 25, .inl (G 0, 3, .inl (fun _ => 0))) :: (qs 24, .inl (G 0, 3, .inl (fun _ => 0))) :: (qs 23, .inl (G 0, 9, .inl (fun _ => 0))) :: (qs 22, .inl (G 0, 3, .inl (fun _ => 0))) :: (qs 21, .inl (G 0, 8, .inl (fun _ => 0))) :: (qs 20, .inl (G 0, 19, .inl (fun _ => 0))) :: (bk7 G q7 x7 ++ [])
def fobs : List (Nat × Int) := [(1, 0), (7, 0), (14, 11), (14, 10), (14, 9), (14, 8), (14, 7), (14, 6), (14, 5), (14, 4), (14, 3), (14, 2), (14, 1), (14, 0), (6, 0), (13, 3), (10, 6), (11, 6), (12, 6), (13, 2), (10, 5), (11, 5), (12, 5), (13, 1), (10, 4), (11, 4), (12, 4), (13, 0), (10, 3), (11, 3), (12, 3), (5, 0), (8, 2), (9, 2), (10, 2), (11, 2), (12, 2), (8, 1), (9, 1), (10, 1), (11, 1), (12, 1), (8, 0), (9, 0), (10, 0), (11, 0), (12, 0), (4, 0), (3, 0), (2, 0)]
def wfi (i : Int) : List XOb := fobs.map fun o => (o.1, i, o.2)
def wall : List XOb := (29, 0, 0) :: (28, 0, 0) :: (27, 0, 0) :: (26, 0, 0) :: (25, 0, 0) :: (24, 0, 0) :: (23, 0, 0) :: (22, 0, 0) :: (21, 0, 0) :: (20, 0, 0) :: ((0, 0, 0) :: ([(18, 0, 0), (19, 0, 0)] ++ ((17, 0, 0) :: ((15, 0, 0) :: (16, 0, 0) :: (wfi 7 ++ (wfi 6 ++ (wfi 5 ++ (wfi 4 ++ (wfi 3 ++ wfi 2))))) ++ (wfi 1 ++ wfi 0)))))
set_option maxRecDepth 100000 in
theorem fo_fst (G : Nat → ClassId) (q : Nat) (x : FB) : (bk0 G q x).map Prod.fst = fobs.map (fun o => phi (q, x) o.1 o.2) := rfl
set_option maxRecDepth 100000 in
theorem wall_ok : ∀ o ∈ xobs, o ∈ wall := by decide +kernel
section
variable {G : Nat → ClassId} {b : Nat} {sr : Nat → Nat} {q7 : Nat} {x7 : B7} {qs : Nat → Nat}
theorem rh_film {t : Nat} {i k : Int} (h1 : 1 ≤ t) (h2 : t ≤ 14) : rh b sr q7 x7 qs (t, i, k) = phi (fm x7 i) t k := by
  rcases (show t = 1 ∨ t = 2 ∨ t = 3 ∨ t = 4 ∨ t = 5 ∨ t = 6 ∨ t = 7 ∨ t = 8 ∨ t = 9 ∨ t = 10 ∨ t = 11 ∨ t = 12 ∨ t = 13 ∨ t = 14 by omega) with rfl | rfl | rfl | rfl | rfl | rfl | rfl | rfl | rfl | rfl | rfl | rfl | rfl | rfl <;> rfl
theorem fobs_in : ∀ o ∈ fobs, 1 ≤ o.1 ∧ o.1 ≤ 14 := by decide
theorem wfi_fst (i : Int) : (wfi i).map (rh b sr q7 x7 qs) = (bk0 G (fm x7 i).1 (fm x7 i).2).map Prod.fst := by
  rw [fo_fst]
  unfold wfi
  rw [List.map_map]
  refine List.map_congr_left (fun o ho => ?_)
  have h := fobs_in o ho
  exact rh_film h.1 h.2
set_option maxRecDepth 100000 in
theorem wall_fst : (WL G q7 x7 qs).map Prod.fst = wall.map (rh b sr q7 x7 qs) := by
  unfold WL wall bk7 bk4
  simp only [List.map_cons, List.map_append, List.append_nil, List.cons_append, List.nil_append, wfi_fst (G := G)]
  rfl
end
theorem nd_inj {α : Type} {l : List α} {g : α → Nat} (h : (l.map g).Pairwise (fun a b => a ≠ b)) : ∀ a ∈ l, ∀ b ∈ l, g a = g b → a = b := by
  intro a ha b hb e
  obtain ⟨i, hi⟩ := List.getElem?_of_mem ha
  obtain ⟨j, hj⟩ := List.getElem?_of_mem hb
  obtain ⟨hi', rfl⟩ := List.getElem?_eq_some_iff.mp hi
  obtain ⟨hj', rfl⟩ := List.getElem?_eq_some_iff.mp hj
  have g' := List.pairwise_iff_getElem.mp (List.pairwise_map.mp h)
  rcases Nat.lt_trichotomy i j with z | z | z
  · exact absurd e (g' i j hi' hj' z)
  · subst z
    rfl
  · exact absurd e.symm (g' j i hj' hi' z)
theorem rh_inj {G : Nat → ClassId} {b : Nat} {sr : Nat → Nat} {q7 : Nat} {x7 : B7} {qs : Nat → Nat} {A : Nat → Prop} (hD : va_D A (WL G q7 x7 qs)) : XInj (rh b sr q7 x7 qs) := by
  have h := (va_D_iff.mp hD).1
  have h2 : ((WL G q7 x7 qs).map Prod.fst).Pairwise (fun a b => a ≠ b) := List.pairwise_map.mpr h
  rw [wall_fst (b := b) (sr := sr)] at h2
  exact fun a ha c hc e => nd_inj h2 a (wall_ok a ha) c (wall_ok c hc) e
theorem rh_A {G : Nat → ClassId} {b : Nat} {sr : Nat → Nat} {q7 : Nat} {x7 : B7} {qs : Nat → Nat} {A : Nat → Prop} (hD : va_D A (WL G q7 x7 qs)) : ∀ o ∈ xobs, A (rh b sr q7 x7 qs o) := by
  intro o ho
  have h1 : rh b sr q7 x7 qs o ∈ wall.map (rh b sr q7 x7 qs) := List.mem_map.mpr ⟨o, wall_ok o ho, rfl⟩
  rw [← wall_fst (G := G)] at h1
  obtain ⟨q, hq, e⟩ := List.mem_map.mp h1
  rw [← e]
  exact (va_D_iff.mp hD).2 q hq
end XKj
