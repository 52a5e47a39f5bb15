section XKk
section
variable {D : va_G} {G : Nat → ClassId} {H : Heap} {b : Nat} {sr : Nat → Nat} {q7 : Nat} {x7 : B7} {qs : Nat → Nat}
theorem w0_film (hP : ∀ q ∈ WL G q7 x7 qs, va_at D vwCl q H) {i : Int} (hi : 0 ≤ i ∧ i < 8) : ∀ q ∈ bk0 G (fm x7 i).1 (fm x7 i).2, va_at D vwCl q H := by
  intro q hq
  rcases (show i = 0 ∨ i = 1 ∨ i = 2 ∨ i = 3 ∨ i = 4 ∨ i = 5 ∨ i = 6 ∨ i = 7 by omega) with rfl | rfl | rfl | rfl | rfl | rfl | rfl | rfl
  · exact hP q (List.mem_cons_of_mem _ (List.mem_cons_of_mem _ (List.mem_cons_of_mem _ (List.mem_cons_of_mem _ (List.mem_cons_of_mem _ (List.mem_cons_of_mem _ (List.mem_cons_of_mem _ (List.mem_cons_of_mem _ (List.mem_cons_of_mem _ (List.mem_cons_of_mem _ (List.mem_append_left _ (List.mem_cons_of_mem _ (List.mem_append_right _ (List.mem_cons_of_mem _ (List.mem_append_right _ (List.mem_append_right _ hq))))))))))))))))
  · exact hP q (List.mem_cons_of_mem _ (List.mem_cons_of_mem _ (List.mem_cons_of_mem _ (List.mem_cons_of_mem _ (List.mem_cons_of_mem _ (List.mem_cons_of_mem _ (List.mem_cons_of_mem _ (List.mem_cons_of_mem _ (List.mem_cons_of_mem _ (List.mem_cons_of_mem _ (List.mem_append_left _ (List.mem_cons_of_mem _ (List.mem_append_right _ (List.mem_cons_of_mem _ (List.mem_append_right _ (List.mem_append_left _ hq))))))))))))))))
  · exact hP q (List.mem_cons_of_mem _ (List.mem_cons_of_mem _ (List.mem_cons_of_mem _ (List.mem_cons_of_mem _ (List.mem_cons_of_mem _ (List.mem_cons_of_mem _ (List.mem_cons_of_mem _ (List.mem_cons_of_mem _ (List.mem_cons_of_mem _ (List.mem_cons_of_mem _ (List.mem_append_left _ (List.mem_cons_of_mem _ (List.mem_append_right _ (List.mem_cons_of_mem _ (List.mem_append_left _ (List.mem_cons_of_mem _ (List.mem_cons_of_mem _ (List.mem_append_right _ (List.mem_append_right _ (List.mem_append_right _ (List.mem_append_right _ (List.mem_append_right _ hq))))))))))))))))))))))
  · exact hP q (List.mem_cons_of_mem _ (List.mem_cons_of_mem _ (List.mem_cons_of_mem _ (List.mem_cons_of_mem _ (List.mem_cons_of_mem _ (List.mem_cons_of_mem _ (List.mem_cons_of_mem _ (List.mem_cons_of_mem _ (List.mem_cons_of_mem _ (List.mem_cons_of_mem _ (List.mem_append_left _ (List.mem_cons_of_mem _ (List.mem_append_right _ (List.mem_cons_of_mem _ (List.mem_append_left _ (List.mem_cons_of_mem _ (List.mem_cons_of_mem _ (List.mem_append_right _ (List.mem_append_right _ (List.mem_append_right _ (List.mem_append_right _ (List.mem_append_left _ hq))))))))))))))))))))))
  · exact hP q (List.mem_cons_of_mem _ (List.mem_cons_of_mem _ (List.mem_cons_of_mem _ (List.mem_cons_of_mem _ (List.mem_cons_of_mem _ (List.mem_cons_of_mem _ (List.mem_cons_of_mem _ (List.mem_cons_of_mem _ (List.mem_cons_of_mem _ (List.mem_cons_of_mem _ (List.mem_append_left _ (List.mem_cons_of_mem _ (List.mem_append_right _ (List.mem_cons_of_mem _ (List.mem_append_left _ (List.mem_cons_of_mem _ (List.mem_cons_of_mem _ (List.mem_append_right _ (List.mem_append_right _ (List.mem_append_right _ (List.mem_append_left _ hq)))))))))))))))))))))
  · exact hP q (List.mem_cons_of_mem _ (List.mem_cons_of_mem _ (List.mem_cons_of_mem _ (List.mem_cons_of_mem _ (List.mem_cons_of_mem _ (List.mem_cons_of_mem _ (List.mem_cons_of_mem _ (List.mem_cons_of_mem _ (List.mem_cons_of_mem _ (List.mem_cons_of_mem _ (List.mem_append_left _ (List.mem_cons_of_mem _ (List.mem_append_right _ (List.mem_cons_of_mem _ (List.mem_append_left _ (List.mem_cons_of_mem _ (List.mem_cons_of_mem _ (List.mem_append_right _ (List.mem_append_right _ (List.mem_append_left _ hq))))))))))))))))))))
  · exact hP q (List.mem_cons_of_mem _ (List.mem_cons_of_mem _ (List.mem_cons_of_mem _ (List.mem_cons_of_mem _ (List.mem_cons_of_mem _ (List.mem_cons_of_mem _ (List.mem_cons_of_mem _ (List.mem_cons_of_mem _ (List.mem_cons_of_mem _ (List.mem_cons_of_mem _ (List.mem_append_left _ (List.mem_cons_of_mem _ (List.mem_append_right _ (List.mem_cons_of_mem _ (List.mem_append_left _ (List.mem_cons_of_mem _ (List.mem_cons_of_mem _ (List.mem_append_right _ (List.mem_append_left _ hq)))))))))))))))))))
  · exact hP q (List.mem_cons_of_mem _ (List.mem_cons_of_mem _ (List.mem_cons_of_mem _ (List.mem_cons_of_mem _ (List.mem_cons_of_mem _ (List.mem_cons_of_mem _ (List.mem_cons_of_mem _ (List.mem_cons_of_mem _ (List.mem_cons_of_mem _ (List.mem_cons_of_mem _ (List.mem_append_left _ (List.mem_cons_of_mem _ (List.mem_append_right _ (List.mem_cons_of_mem _ (List.mem_append_left _ (List.mem_cons_of_mem _ (List.mem_cons_of_mem _ (List.mem_append_left _ hq))))))))))))))))))
set_option maxRecDepth 100000 in
theorem w0_P (hP0 : va_P D vwCl (WL G q7 x7 qs) H) : va_P D vwCl (xworld G (rh b sr q7 x7 qs) M0) H := by
  have hP := va_P_iff.mp hP0
  refine va_P_iff.mpr (fun q hq => ?_)
  obtain ⟨⟨t, i, k⟩, ho, rfl⟩ := List.mem_map.mp hq
  obtain ⟨i0, i1, k0, k1⟩ := xval_of ho
  have ht : t < 30 := by
    rcases Nat.lt_or_ge t 30 with z | z
    · exact z
    · have e : xvi t = 0 := xvi_big z
      have z1 : i < xvi t := i1
      have z0 : 0 ≤ i := i0
      omega
  rcases (show (1 ≤ t ∧ t ≤ 14) ∨ t = 0 ∨ t = 15 ∨ t = 16 ∨ t = 17 ∨ t = 18 ∨ t = 19 ∨ t = 20 ∨ t = 21 ∨ t = 22 ∨ t = 23 ∨ t = 24 ∨ t = 25 ∨ t = 26 ∨ t = 27 ∨ t = 28 ∨ t = 29 by omega) with h | rfl | rfl | rfl | rfl | rfl | rfl | rfl | rfl | rfl | rfl | rfl | rfl | rfl | rfl | rfl | rfl
  · have e8 : xvi t = 8 := by rcases (show t = 1 ∨ t = 2 ∨ t = 3 ∨ t = 4 ∨ t = 5 ∨ t = 6 ∨ t = 7 ∨ t = 8 ∨ t = 9 ∨ t = 10 ∨ t = 11 ∨ t = 12 ∨ t = 13 ∨ t = 14 by omega) with rfl | rfl | rfl | rfl | rfl | rfl | rfl | rfl | rfl | rfl | rfl | rfl | rfl | rfl <;> rfl
    have hi : i < xvi t := i1
    have hi0 : 0 ≤ i := i0
    exact film_at (f := fm x7 i) (w0_film hP ⟨hi0, by omega⟩) (fun t k a b => rh_film a b) h ⟨k0, k1⟩
  · have ei : i = 0 := by
      have z0 : 0 ≤ i := i0
      have z1 : i < 1 := i1
      omega
    have ek : k = 0 := by
      have z0 : 0 ≤ k := k0
      have z1 : k < 1 := k1
      omega
    subst ei
    subst ek
    exact hP _ (List.mem_cons_of_mem _ (List.mem_cons_of_mem _ (List.mem_cons_of_mem _ (List.mem_cons_of_mem _ (List.mem_cons_of_mem _ (List.mem_cons_of_mem _ (List.mem_cons_of_mem _ (List.mem_cons_of_mem _ (List.mem_cons_of_mem _ (List.mem_cons_of_mem _ (List.mem_append_left _ List.mem_cons_self)))))))))))
  · have ei : i = 0 := by
      have z0 : 0 ≤ i := i0
      have z1 : i < 1 := i1
      omega
    have ek : k = 0 := by
      have z0 : 0 ≤ k := k0
      have z1 : k < 1 := k1
      omega
    subst ei
    subst ek
    exact hP _ (List.mem_cons_of_mem _ (List.mem_cons_of_mem _ (List.mem_cons_of_mem _ (List.mem_cons_of_mem _ (List.mem_cons_of_mem _ (List.mem_cons_of_mem _ (List.mem_cons_of_mem _ (List.mem_cons_of_mem _ (List.mem_cons_of_mem _ (List.mem_cons_of_mem _ (List.mem_append_left _ (List.mem_cons_of_mem _ (List.mem_append_right _ (List.mem_cons_of_mem _ (List.mem_append_left _ List.mem_cons_self)))))))))))))))
  · have ei : i = 0 := by
      have z0 : 0 ≤ i := i0
      have z1 : i < 1 := i1
      omega
    have ek : k = 0 := by
      have z0 : 0 ≤ k := k0
      have z1 : k < 1 := k1
      omega
    subst ei
    subst ek
    have q := hP _ (List.mem_cons_of_mem _ (List.mem_cons_of_mem _ (List.mem_cons_of_mem _ (List.mem_cons_of_mem _ (List.mem_cons_of_mem _ (List.mem_cons_of_mem _ (List.mem_cons_of_mem _ (List.mem_cons_of_mem _ (List.mem_cons_of_mem _ (List.mem_cons_of_mem _ (List.mem_append_left _ (List.mem_cons_of_mem _ (List.mem_append_right _ (List.mem_cons_of_mem _ (List.mem_append_left _ (List.mem_cons_of_mem _ List.mem_cons_self))))))))))))))))
    refine Eq.trans q (congrArg some (cell_q (fun j hj => ?_)))
    rcases (show j = 0 ∨ j = 1 ∨ j = 2 ∨ j = 3 ∨ j = 4 ∨ j = 5 by omega) with rfl | rfl | rfl | rfl | rfl | rfl <;> rfl
  · have ei : i = 0 := by
      have z0 : 0 ≤ i := i0
      have z1 : i < 1 := i1
      omega
    have ek : k = 0 := by
      have z0 : 0 ≤ k := k0
      have z1 : k < 1 := k1
      omega
    subst ei
    subst ek
    exact hP _ (List.mem_cons_of_mem _ (List.mem_cons_of_mem _ (List.mem_cons_of_mem _ (List.mem_cons_of_mem _ (List.mem_cons_of_mem _ (List.mem_cons_of_mem _ (List.mem_cons_of_mem _ (List.mem_cons_of_mem _ (List.mem_cons_of_mem _ (List.mem_cons_of_mem _ (List.mem_append_left _ (List.mem_cons_of_mem _ (List.mem_append_right _ List.mem_cons_self)))))))))))))
  · have ei : i = 0 := by
      have z0 : 0 ≤ i := i0
      have z1 : i < 1 := i1
      omega
    have ek : k = 0 := by
      have z0 : 0 ≤ k := k0
      have z1 : k < 1 := k1
      omega
    subst ei
    subst ek
    exact hP _ (List.mem_cons_of_mem _ (List.mem_cons_of_mem _ (List.mem_cons_of_mem _ (List.mem_cons_of_mem _ (List.mem_cons_of_mem _ (List.mem_cons_of_mem _ (List.mem_cons_of_mem _ (List.mem_cons_of_mem _ (List.mem_cons_of_mem _ (List.mem_cons_of_mem _ (List.mem_append_left _ (List.mem_cons_of_mem _ (List.mem_append_left _ List.mem_cons_self)))))))))))))
  · have ei : i = 0 := by
      have z0 : 0 ≤ i := i0
      have z1 : i < 1 := i1
      omega
    have ek : k = 0 := by
      have z0 : 0 ≤ k := k0
      have z1 : k < 1 := k1
      omega
    subst ei
    subst ek
    exact hP _ (List.mem_cons_of_mem _ (List.mem_cons_of_mem _ (List.mem_cons_of_mem _ (List.mem_cons_of_mem _ (List.mem_cons_of_mem _ (List.mem_cons_of_mem _ (List.mem_cons_of_mem _ (List.mem_cons_of_mem _ (List.mem_cons_of_mem _ (List.mem_cons_of_mem _ (List.mem_append_left _ (List.mem_cons_of_mem _ (List.mem_append_left _ (List.mem_cons_of_mem _ List.mem_cons_self))))))))))))))
  · have ei : i = 0 := by
      have z0 : 0 ≤ i := i0
      have z1 : i < 1 := i1
      omega
    have ek : k = 0 := by
      have z0 : 0 ≤ k := k0
      have z1 : k < 1 := k1
      omega
    subst ei
    subst ek
    exact hP _ (List.mem_cons_of_mem _ (List.mem_cons_of_mem _ (List.mem_cons_of_mem _ (List.mem_cons_of_mem _ (List.mem_cons_of_mem _ (List.mem_cons_of_mem _ (List.mem_cons_of_mem _ (List.mem_cons_of_mem _ (List.mem_cons_of_mem _ List.mem_cons_self)))))))))
  · have ei : i = 0 := by
      have z0 : 0 ≤ i := i0
      have z1 : i < 1 := i1
      omega
    have ek : k = 0 := by
      have z0 : 0 ≤ k := k0
      have z1 : k < 1 := k1
      omega
    subst ei
    subst ek
    exact hP _ (List.mem_cons_of_mem _ (List.mem_cons_of_mem _ (List.mem_cons_of_mem _ (List.mem_cons_of_mem _ (List.mem_cons_of_mem _ (List.mem_cons_of_mem _ (List.mem_cons_of_mem _ (List.mem_cons_of_mem _ List.mem_cons_self))))))))
  · have ei : i = 0 := by
      have z0 : 0 ≤ i := i0
      have z1 : i < 1 := i1
      omega
    have ek : k = 0 := by
      have z0 : 0 ≤ k := k0
      have z1 : k < 1 := k1
      omega
    subst ei
    subst ek
    exact hP _ (List.mem_cons_of_mem _ (List.mem_cons_of_mem _ (List.mem_cons_of_mem _ (List.mem_cons_of_mem _ (List.mem_cons_of_mem _ (List.mem_cons_of_mem _ (List.mem_cons_of_mem _ List.mem_cons_self)))))))
  · have ei : i = 0 := by
      have z0 : 0 ≤ i := i0
      have z1 : i < 1 := i1
      omega
    have ek : k = 0 := by
      have z0 : 0 ≤ k := k0
      have z1 : k < 1 := k1
      omega
    subst ei
    subst ek
    exact hP _ (List.mem_cons_of_mem _ (List.mem_cons_of_mem _ (List.mem_cons_of_mem _ (List.mem_cons_of_mem _ (List.mem_cons_of_mem _ (List.mem_cons_of_mem _ List.mem_cons_self))))))
  · have ei : i = 0 := by
      have z0 : 0 ≤ i := i0
      have z1 : i < 1 := i1
      omega
    have ek : k = 0 := by
      have z0 : 0 ≤ k := k0
      have z1 : k < 1 := k1
      omega
    subst ei
    subst ek
    exact hP _ (List.mem_cons_of_mem _ (List.mem_cons_of_mem _ (List.mem_cons_of_mem _ (List.mem_cons_of_mem _ (List.mem_cons_of_mem _ List.mem_cons_self)))))
  · have ei : i = 0 := by
      have z0 : 0 ≤ i := i0
      have z1 : i < 1 := i1
      omega
    have ek : k = 0 := by
      have z0 : 0 ≤ k := k0
      have z1 : k < 1 := k1
      omega
    subst ei
    subst ek
    exact hP _ (List.mem_cons_of_mem _ (List.mem_cons_of_mem _ (List.mem_cons_of_mem _ (List.mem_cons_of_mem _ List.mem_cons_self))))
  · have ei : i = 0 := by
      have z0 : 0 ≤ i := i0
      have z1 : i < 1 := i1
      omega
    have ek : k = 0 := by
      have z0 : 0 ≤ k := k0
      have z1 : k < 1 := k1
      omega
    subst ei
    subst ek
    exact hP _ (List.mem_cons_of_mem _ (List.mem_cons_of_mem _ (List.mem_cons_of_mem _ List.mem_cons_self)))
  · have ei : i = 0 := by
      have z0 : 0 ≤ i := i0
      have z1 : i < 1 := i1
      omega
    have ek : k = 0 := by
      have z0 : 0 ≤ k := k0
      have z1 : k < 1 := k1
      omega
    subst ei
    subst ek
    exact hP _ (List.mem_cons_of_mem _ (List.mem_cons_of_mem _ List.mem_cons_self))
  · have ei : i = 0 := by
      have z0 : 0 ≤ i := i0
      have z1 : i < 1 := i1
      omega
    have ek : k = 0 := by
      have z0 : 0 ≤ k := k0
      have z1 : k < 1 := k1
      omega
    subst ei
    subst ek
    exact hP _ (List.mem_cons_of_mem _ List.mem_cons_self)
  · have ei : i = 0 := by
      have z0 : 0 ≤ i := i0
      have z1 : i < 1 := i1
      omega
    have ek : k = 0 := by
      have z0 : 0 ≤ k := k0
      have z1 : k < 1 := k1
      omega
    subst ei
    subst ek
    exact hP _ List.mem_cons_self
end
end XKk
