section XKi
/-! the world at the start of the law's loop -/
def fm (x7 : B7) (i : Int) : Nat × FB := if i = 0 then x7.1 else if i = 1 then x7.2.1 else if i = 2 then x7.2.2.1.2.2.1 else if i = 3 then x7.2.2.1.2.2.2.1 else if i = 4 then x7.2.2.1.2.2.2.2.1 else if i = 5 then x7.2.2.1.2.2.2.2.2.1 else if i = 6 then x7.2.2.1.2.2.2.2.2.2.1 else x7.2.2.1.2.2.2.2.2.2.2
def phi (f : Nat × FB) (t : Nat) (k : Int) : Nat := match t with
  | 1 => f.1
  | 2 => f.2.1
  | 3 => f.2.2.1
  | 4 => f.2.2.2.1
  | 5 => f.2.2.2.2.1
  | 6 => f.2.2.2.2.2.1
  | 7 => f.2.2.2.2.2.2.1
  | 8 => (f.2.2.2.2.2.2.2.1 k.toNat).1
  | 9 => (f.2.2.2.2.2.2.2.1 k.toNat).2.1
  | 10 => if k < 3 then (f.2.2.2.2.2.2.2.1 k.toNat).2.2.1 else (f.2.2.2.2.2.2.2.2.1 (k - 3).toNat).2.1
  | 11 => if k < 3 then (f.2.2.2.2.2.2.2.1 k.toNat).2.2.2.1 else (f.2.2.2.2.2.2.2.2.1 (k - 3).toNat).2.2.1
  | 12 => if k < 3 then (f.2.2.2.2.2.2.2.1 k.toNat).2.2.2.2 else (f.2.2.2.2.2.2.2.2.1 (k - 3).toNat).2.2.2
  | 13 => (f.2.2.2.2.2.2.2.2.1 k.toNat).1
  | _ => f.2.2.2.2.2.2.2.2.2 k.toNat
def rh (b : Nat) (sr : Nat → Nat) (q7 : Nat) (x7 : B7) (qs : Nat → Nat) : XOb → Nat := fun o => match o.1 with
  | 0 => q7
  | 15 => x7.2.2.1.1
  | 16 => x7.2.2.1.2.1
  | 17 => x7.2.2.2.1
  | 18 => x7.2.2.2.2.1
  | 19 => x7.2.2.2.2.2
  | 40 => b
  | 20 => qs 20
  | 21 => qs 21
  | 22 => qs 22
  | 23 => qs 23
  | 24 => qs 24
  | 25 => qs 25
  | 26 => qs 26
  | 27 => qs 27
  | 28 => qs 28
  | 29 => qs 29
  | t => if t < 15 then phi (fm x7 o.2.1) t o.2.2 else sr t
def M0 : XM := fun t _ _ s => match t with
  | 2 => (xst 34).getD s.toNat 0
  | 8 => if s = 2 then -1 else 0
  | 13 => if s = 0 ∨ s = 1 then -1 else 0
  | 14 => if s = 8 then -1 else 0
  | _ => 0
theorem cell_q {c : ClassId} {n : Nat} {f g : Nat → Option Nat} (h : ∀ j, j < n → f j = g j) : vp_cell c (n, .inr (.inr (.inr (.inr f)))) = vp_cell c (n, .inr (.inr (.inr (.inr g)))) := by
  have e : (fun j : Fin n => va_rf (f j.val)) = fun j => va_rf (g j.val) := funext fun j => by rw [h j.val j.isLt]
  show ({ cls := c, slots := Array.ofFn (n := n) fun j => va_rf (f j.val), vm := .none } : Cell) = { cls := c, slots := Array.ofFn (n := n) fun j => va_rf (g j.val), vm := .none }
  rw [e]
theorem cell_i {c : ClassId} {n : Nat} {f g : Nat → Int32} (h : ∀ j, j < n → f j = g j) : vp_cell c (n, .inl f) = vp_cell c (n, .inl g) := by
  have e : (fun j : Fin n => Value.int (f j.val)) = fun j => Value.int (g j.val) := funext fun j => by rw [h j.val j.isLt]
  show ({ cls := c, slots := Array.ofFn (n := n) fun j => Value.int (f j.val), vm := .none } : Cell) = { cls := c, slots := Array.ofFn (n := n) fun j => Value.int (g j.val), vm := .none }
  rw [e]
section
variable {D : va_G} {G : Nat → ClassId} {H : Heap} {f : Nat × FB} {ρ : XOb → Nat} {i : Int}
theorem fa_1_0 (hP : ∀ q ∈ bk0 G f.1 f.2, va_at D vwCl q H) (hρ : ∀ (t : Nat) (k : Int), 1 ≤ t → t ≤ 14 → ρ (t, i, k) = phi f t k) : va_at D vwCl (ρ (1, i, 0), xcf G ρ (M0 1 i 0) 1 i 0) H := by
  show va_at D vwCl (ρ (1, i, 0), .inr (0, [xcn (M0 1 i 0) 0, xcn (M0 1 i 0) 1, .ref (ρ (2, i, 0)), xcn (M0 1 i 0) 3, .ref (ρ (3, i, 0)), .ref (ρ (4, i, 0)), xcn (M0 1 i 0) 6, .ref (ρ (5, i, 0)), xcn (M0 1 i 0) 8, .ref (ρ (6, i, 0)), xcn (M0 1 i 0) 10, .ref (ρ (7, i, 0))])) H
  rw [hρ 1 0 (by decide) (by decide), hρ 2 0 (by decide) (by decide), hρ 3 0 (by decide) (by decide), hρ 4 0 (by decide) (by decide), hρ 5 0 (by decide) (by decide), hρ 6 0 (by decide) (by decide), hρ 7 0 (by decide) (by decide)]
  exact hP _ List.mem_cons_self
theorem fa_2_0 (hP : ∀ q ∈ bk0 G f.1 f.2, va_at D vwCl q H) (hρ : ∀ (t : Nat) (k : Int), 1 ≤ t → t ≤ 14 → ρ (t, i, k) = phi f t k) : va_at D vwCl (ρ (2, i, 0), xcf G ρ (M0 2 i 0) 2 i 0) H := by
  rw [hρ 2 0 (by decide) (by decide)]
  exact hP _ (List.mem_cons_of_mem _ (List.mem_cons_of_mem _ (List.mem_append_right _ (List.mem_append_right _ (List.mem_append_right _ (List.mem_append_right _ (List.mem_append_right _ (List.mem_append_right _ (List.mem_append_right _ (List.mem_append_right _ (List.mem_append_right _ (List.mem_append_right _ (List.mem_append_right _ (List.mem_append_right _ (List.mem_cons_of_mem _ (List.mem_append_right _ (List.mem_append_right _ (List.mem_append_right _ (List.mem_append_right _ (List.mem_cons_of_mem _ (List.mem_append_right _ (List.mem_append_right _ (List.mem_append_right _ (List.mem_cons_of_mem _ (List.mem_cons_of_mem _ List.mem_cons_self)))))))))))))))))))))))))
theorem fa_3_0 (hP : ∀ q ∈ bk0 G f.1 f.2, va_at D vwCl q H) (hρ : ∀ (t : Nat) (k : Int), 1 ≤ t → t ≤ 14 → ρ (t, i, k) = phi f t k) : va_at D vwCl (ρ (3, i, 0), xcf G ρ (M0 3 i 0) 3 i 0) H := by
  rw [hρ 3 0 (by decide) (by decide)]
  exact hP _ (List.mem_cons_of_mem _ (List.mem_cons_of_mem _ (List.mem_append_right _ (List.mem_append_right _ (List.mem_append_right _ (List.mem_append_right _ (List.mem_append_right _ (List.mem_append_right _ (List.mem_append_right _ (List.mem_append_right _ (List.mem_append_right _ (List.mem_append_right _ (List.mem_append_right _ (List.mem_append_right _ (List.mem_cons_of_mem _ (List.mem_append_right _ (List.mem_append_right _ (List.mem_append_right _ (List.mem_append_right _ (List.mem_cons_of_mem _ (List.mem_append_right _ (List.mem_append_right _ (List.mem_append_right _ (List.mem_cons_of_mem _ List.mem_cons_self))))))))))))))))))))))))
theorem fa_4_0 (hP : ∀ q ∈ bk0 G f.1 f.2, va_at D vwCl q H) (hρ : ∀ (t : Nat) (k : Int), 1 ≤ t → t ≤ 14 → ρ (t, i, k) = phi f t k) : va_at D vwCl (ρ (4, i, 0), xcf G ρ (M0 4 i 0) 4 i 0) H := by
  rw [hρ 4 0 (by decide) (by decide)]
  exact hP _ (List.mem_cons_of_mem _ (List.mem_cons_of_mem _ (List.mem_append_right _ (List.mem_append_right _ (List.mem_append_right _ (List.mem_append_right _ (List.mem_append_right _ (List.mem_append_right _ (List.mem_append_right _ (List.mem_append_right _ (List.mem_append_right _ (List.mem_append_right _ (List.mem_append_right _ (List.mem_append_right _ (List.mem_cons_of_mem _ (List.mem_append_right _ (List.mem_append_right _ (List.mem_append_right _ (List.mem_append_right _ (List.mem_cons_of_mem _ (List.mem_append_right _ (List.mem_append_right _ (List.mem_append_right _ List.mem_cons_self)))))))))))))))))))))))
theorem fa_5_0 (hP : ∀ q ∈ bk0 G f.1 f.2, va_at D vwCl q H) (hρ : ∀ (t : Nat) (k : Int), 1 ≤ t → t ≤ 14 → ρ (t, i, k) = phi f t k) : va_at D vwCl (ρ (5, i, 0), xcf G ρ (M0 5 i 0) 5 i 0) H := by
  show H[ρ (5, i, 0)]? = some (vp_cell (G 3) (3, .inr (.inr (.inr (.inr (fun j => some (ρ (8, i, (j : Int)))))))))
  have q := hP _ (List.mem_cons_of_mem _ (List.mem_cons_of_mem _ (List.mem_append_right _ (List.mem_append_right _ (List.mem_append_right _ (List.mem_append_right _ (List.mem_append_right _ (List.mem_append_right _ (List.mem_append_right _ (List.mem_append_right _ (List.mem_append_right _ (List.mem_append_right _ (List.mem_append_right _ (List.mem_append_right _ (List.mem_cons_of_mem _ (List.mem_append_right _ (List.mem_append_right _ (List.mem_append_right _ (List.mem_append_right _ List.mem_cons_self)))))))))))))))))))
  rw [hρ 5 0 (by decide) (by decide)]
  refine Eq.trans q (congrArg some (cell_q (fun j hj => ?_)))
  rw [hρ 8 j (by decide) (by decide)]
  rcases (show j = 0 ∨ j = 1 ∨ j = 2 by omega) with rfl | rfl | rfl <;> rfl
theorem fa_6_0 (hP : ∀ q ∈ bk0 G f.1 f.2, va_at D vwCl q H) (hρ : ∀ (t : Nat) (k : Int), 1 ≤ t → t ≤ 14 → ρ (t, i, k) = phi f t k) : va_at D vwCl (ρ (6, i, 0), xcf G ρ (M0 6 i 0) 6 i 0) H := by
  show H[ρ (6, i, 0)]? = some (vp_cell (G 4) (4, .inr (.inr (.inr (.inr (fun j => some (ρ (13, i, (j : Int)))))))))
  have q := hP _ (List.mem_cons_of_mem _ (List.mem_cons_of_mem _ (List.mem_append_right _ (List.mem_append_right _ (List.mem_append_right _ (List.mem_append_right _ (List.mem_append_right _ (List.mem_append_right _ (List.mem_append_right _ (List.mem_append_right _ (List.mem_append_right _ (List.mem_append_right _ (List.mem_append_right _ (List.mem_append_right _ List.mem_cons_self))))))))))))))
  rw [hρ 6 0 (by decide) (by decide)]
  refine Eq.trans q (congrArg some (cell_q (fun j hj => ?_)))
  rw [hρ 13 j (by decide) (by decide)]
  rcases (show j = 0 ∨ j = 1 ∨ j = 2 ∨ j = 3 by omega) with rfl | rfl | rfl | rfl <;> rfl
theorem fa_7_0 (hP : ∀ q ∈ bk0 G f.1 f.2, va_at D vwCl q H) (hρ : ∀ (t : Nat) (k : Int), 1 ≤ t → t ≤ 14 → ρ (t, i, k) = phi f t k) : va_at D vwCl (ρ (7, i, 0), xcf G ρ (M0 7 i 0) 7 i 0) H := by
  show H[ρ (7, i, 0)]? = some (vp_cell (G 5) (12, .inr (.inr (.inr (.inr (fun j => some (ρ (14, i, (j : Int)))))))))
  have q := hP _ (List.mem_cons_of_mem _ List.mem_cons_self)
  rw [hρ 7 0 (by decide) (by decide)]
  refine Eq.trans q (congrArg some (cell_q (fun j hj => ?_)))
  rw [hρ 14 j (by decide) (by decide)]
  rcases (show j = 0 ∨ j = 1 ∨ j = 2 ∨ j = 3 ∨ j = 4 ∨ j = 5 ∨ j = 6 ∨ j = 7 ∨ j = 8 ∨ j = 9 ∨ j = 10 ∨ j = 11 by omega) with rfl | rfl | rfl | rfl | rfl | rfl | rfl | rfl | rfl | rfl | rfl | rfl <;> rfl
theorem fa_8_0 (hP : ∀ q ∈ bk0 G f.1 f.2, va_at D vwCl q H) (hρ : ∀ (t : Nat) (k : Int), 1 ≤ t → t ≤ 14 → ρ (t, i, k) = phi f t k) : va_at D vwCl (ρ (8, i, 0), xcf G ρ (M0 8 i 0) 8 i 0) H := by
  show va_at D vwCl (ρ (8, i, 0), .inr (1, [xcn (M0 8 i 0) 0, .ref (ρ (9, i, 0)), xcn (M0 8 i 0) 2, xcn (M0 8 i 0) 3, .ref (ρ (10, i, 0)), xcn (M0 8 i 0) 5, xcn (M0 8 i 0) 6])) H
  rw [hρ 8 0 (by decide) (by decide), hρ 9 0 (by decide) (by decide), hρ 10 0 (by decide) (by decide)]
  exact hP _ (List.mem_cons_of_mem _ (List.mem_cons_of_mem _ (List.mem_append_right _ (List.mem_append_right _ (List.mem_append_right _ (List.mem_append_right _ (List.mem_append_right _ (List.mem_append_right _ (List.mem_append_right _ (List.mem_append_right _ (List.mem_append_right _ (List.mem_append_right _ (List.mem_append_right _ (List.mem_append_right _ (List.mem_cons_of_mem _ (List.mem_append_right _ (List.mem_append_right _ (List.mem_append_right _ (List.mem_append_right _ (List.mem_cons_of_mem _ (List.mem_append_right _ (List.mem_append_right _ (List.mem_append_left _ List.mem_cons_self)))))))))))))))))))))))
theorem fa_8_1 (hP : ∀ q ∈ bk0 G f.1 f.2, va_at D vwCl q H) (hρ : ∀ (t : Nat) (k : Int), 1 ≤ t → t ≤ 14 → ρ (t, i, k) = phi f t k) : va_at D vwCl (ρ (8, i, 1), xcf G ρ (M0 8 i 1) 8 i 1) H := by
  show va_at D vwCl (ρ (8, i, 1), .inr (1, [xcn (M0 8 i 1) 0, .ref (ρ (9, i, 1)), xcn (M0 8 i 1) 2, xcn (M0 8 i 1) 3, .ref (ρ (10, i, 1)), xcn (M0 8 i 1) 5, xcn (M0 8 i 1) 6])) H
  rw [hρ 8 1 (by decide) (by decide), hρ 9 1 (by decide) (by decide), hρ 10 1 (by decide) (by decide)]
  exact hP _ (List.mem_cons_of_mem _ (List.mem_cons_of_mem _ (List.mem_append_right _ (List.mem_append_right _ (List.mem_append_right _ (List.mem_append_right _ (List.mem_append_right _ (List.mem_append_right _ (List.mem_append_right _ (List.mem_append_right _ (List.mem_append_right _ (List.mem_append_right _ (List.mem_append_right _ (List.mem_append_right _ (List.mem_cons_of_mem _ (List.mem_append_right _ (List.mem_append_right _ (List.mem_append_right _ (List.mem_append_right _ (List.mem_cons_of_mem _ (List.mem_append_right _ (List.mem_append_left _ List.mem_cons_self))))))))))))))))))))))
theorem fa_8_2 (hP : ∀ q ∈ bk0 G f.1 f.2, va_at D vwCl q H) (hρ : ∀ (t : Nat) (k : Int), 1 ≤ t → t ≤ 14 → ρ (t, i, k) = phi f t k) : va_at D vwCl (ρ (8, i, 2), xcf G ρ (M0 8 i 2) 8 i 2) H := by
  show va_at D vwCl (ρ (8, i, 2), .inr (1, [xcn (M0 8 i 2) 0, .ref (ρ (9, i, 2)), xcn (M0 8 i 2) 2, xcn (M0 8 i 2) 3, .ref (ρ (10, i, 2)), xcn (M0 8 i 2) 5, xcn (M0 8 i 2) 6])) H
  rw [hρ 8 2 (by decide) (by decide), hρ 9 2 (by decide) (by decide), hρ 10 2 (by decide) (by decide)]
  exact hP _ (List.mem_cons_of_mem _ (List.mem_cons_of_mem _ (List.mem_append_right _ (List.mem_append_right _ (List.mem_append_right _ (List.mem_append_right _ (List.mem_append_right _ (List.mem_append_right _ (List.mem_append_right _ (List.mem_append_right _ (List.mem_append_right _ (List.mem_append_right _ (List.mem_append_right _ (List.mem_append_right _ (List.mem_cons_of_mem _ (List.mem_append_right _ (List.mem_append_right _ (List.mem_append_right _ (List.mem_append_right _ (List.mem_cons_of_mem _ (List.mem_append_left _ List.mem_cons_self)))))))))))))))))))))
theorem fa_9_0 (hP : ∀ q ∈ bk0 G f.1 f.2, va_at D vwCl q H) (hρ : ∀ (t : Nat) (k : Int), 1 ≤ t → t ≤ 14 → ρ (t, i, k) = phi f t k) : va_at D vwCl (ρ (9, i, 0), xcf G ρ (M0 9 i 0) 9 i 0) H := by
  rw [hρ 9 0 (by decide) (by decide)]
  exact hP _ (List.mem_cons_of_mem _ (List.mem_cons_of_mem _ (List.mem_append_right _ (List.mem_append_right _ (List.mem_append_right _ (List.mem_append_right _ (List.mem_append_right _ (List.mem_append_right _ (List.mem_append_right _ (List.mem_append_right _ (List.mem_append_right _ (List.mem_append_right _ (List.mem_append_right _ (List.mem_append_right _ (List.mem_cons_of_mem _ (List.mem_append_right _ (List.mem_append_right _ (List.mem_append_right _ (List.mem_append_right _ (List.mem_cons_of_mem _ (List.mem_append_right _ (List.mem_append_right _ (List.mem_append_left _ (List.mem_cons_of_mem _ List.mem_cons_self))))))))))))))))))))))))
theorem fa_9_1 (hP : ∀ q ∈ bk0 G f.1 f.2, va_at D vwCl q H) (hρ : ∀ (t : Nat) (k : Int), 1 ≤ t → t ≤ 14 → ρ (t, i, k) = phi f t k) : va_at D vwCl (ρ (9, i, 1), xcf G ρ (M0 9 i 1) 9 i 1) H := by
  rw [hρ 9 1 (by decide) (by decide)]
  exact hP _ (List.mem_cons_of_mem _ (List.mem_cons_of_mem _ (List.mem_append_right _ (List.mem_append_right _ (List.mem_append_right _ (List.mem_append_right _ (List.mem_append_right _ (List.mem_append_right _ (List.mem_append_right _ (List.mem_append_right _ (List.mem_append_right _ (List.mem_append_right _ (List.mem_append_right _ (List.mem_append_right _ (List.mem_cons_of_mem _ (List.mem_append_right _ (List.mem_append_right _ (List.mem_append_right _ (List.mem_append_right _ (List.mem_cons_of_mem _ (List.mem_append_right _ (List.mem_append_left _ (List.mem_cons_of_mem _ List.mem_cons_self)))))))))))))))))))))))
theorem fa_9_2 (hP : ∀ q ∈ bk0 G f.1 f.2, va_at D vwCl q H) (hρ : ∀ (t : Nat) (k : Int), 1 ≤ t → t ≤ 14 → ρ (t, i, k) = phi f t k) : va_at D vwCl (ρ (9, i, 2), xcf G ρ (M0 9 i 2) 9 i 2) H := by
  rw [hρ 9 2 (by decide) (by decide)]
  exact hP _ (List.mem_cons_of_mem _ (List.mem_cons_of_mem _ (List.mem_append_right _ (List.mem_append_right _ (List.mem_append_right _ (List.mem_append_right _ (List.mem_append_right _ (List.mem_append_right _ (List.mem_append_right _ (List.mem_append_right _ (List.mem_append_right _ (List.mem_append_right _ (List.mem_append_right _ (List.mem_append_right _ (List.mem_cons_of_mem _ (List.mem_append_right _ (List.mem_append_right _ (List.mem_append_right _ (List.mem_append_right _ (List.mem_cons_of_mem _ (List.mem_append_left _ (List.mem_cons_of_mem _ List.mem_cons_self))))))))))))))))))))))
theorem fa_10_0 (hP : ∀ q ∈ bk0 G f.1 f.2, va_at D vwCl q H) (hρ : ∀ (t : Nat) (k : Int), 1 ≤ t → t ≤ 14 → ρ (t, i, k) = phi f t k) : va_at D vwCl (ρ (10, i, 0), xcf G ρ (M0 10 i 0) 10 i 0) H := by
  show va_at D vwCl (ρ (10, i, 0), .inr (3, [.ref (ρ (11, i, 0)), .ref (ρ (12, i, 0))])) H
  rw [hρ 10 0 (by decide) (by decide), hρ 11 0 (by decide) (by decide), hρ 12 0 (by decide) (by decide)]
  exact hP _ (List.mem_cons_of_mem _ (List.mem_cons_of_mem _ (List.mem_append_right _ (List.mem_append_right _ (List.mem_append_right _ (List.mem_append_right _ (List.mem_append_right _ (List.mem_append_right _ (List.mem_append_right _ (List.mem_append_right _ (List.mem_append_right _ (List.mem_append_right _ (List.mem_append_right _ (List.mem_append_right _ (List.mem_cons_of_mem _ (List.mem_append_right _ (List.mem_append_right _ (List.mem_append_right _ (List.mem_append_right _ (List.mem_cons_of_mem _ (List.mem_append_right _ (List.mem_append_right _ (List.mem_append_left _ (List.mem_cons_of_mem _ (List.mem_cons_of_mem _ List.mem_cons_self)))))))))))))))))))))))))
theorem fa_10_1 (hP : ∀ q ∈ bk0 G f.1 f.2, va_at D vwCl q H) (hρ : ∀ (t : Nat) (k : Int), 1 ≤ t → t ≤ 14 → ρ (t, i, k) = phi f t k) : va_at D vwCl (ρ (10, i, 1), xcf G ρ (M0 10 i 1) 10 i 1) H := by
  show va_at D vwCl (ρ (10, i, 1), .inr (3, [.ref (ρ (11, i, 1)), .ref (ρ (12, i, 1))])) H
  rw [hρ 10 1 (by decide) (by decide), hρ 11 1 (by decide) (by decide), hρ 12 1 (by decide) (by decide)]
  exact hP _ (List.mem_cons_of_mem _ (List.mem_cons_of_mem _ (List.mem_append_right _ (List.mem_append_right _ (List.mem_append_right _ (List.mem_append_right _ (List.mem_append_right _ (List.mem_append_right _ (List.mem_append_right _ (List.mem_append_right _ (List.mem_append_right _ (List.mem_append_right _ (List.mem_append_right _ (List.mem_append_right _ (List.mem_cons_of_mem _ (List.mem_append_right _ (List.mem_append_right _ (List.mem_append_right _ (List.mem_append_right _ (List.mem_cons_of_mem _ (List.mem_append_right _ (List.mem_append_left _ (List.mem_cons_of_mem _ (List.mem_cons_of_mem _ List.mem_cons_self))))))))))))))))))))))))
theorem fa_10_2 (hP : ∀ q ∈ bk0 G f.1 f.2, va_at D vwCl q H) (hρ : ∀ (t : Nat) (k : Int), 1 ≤ t → t ≤ 14 → ρ (t, i, k) = phi f t k) : va_at D vwCl (ρ (10, i, 2), xcf G ρ (M0 10 i 2) 10 i 2) H := by
  show va_at D vwCl (ρ (10, i, 2), .inr (3, [.ref (ρ (11, i, 2)), .ref (ρ (12, i, 2))])) H
  rw [hρ 10 2 (by decide) (by decide), hρ 11 2 (by decide) (by decide), hρ 12 2 (by decide) (by decide)]
  exact hP _ (List.mem_cons_of_mem _ (List.mem_cons_of_mem _ (List.mem_append_right _ (List.mem_append_right _ (List.mem_append_right _ (List.mem_append_right _ (List.mem_append_right _ (List.mem_append_right _ (List.mem_append_right _ (List.mem_append_right _ (List.mem_append_right _ (List.mem_append_right _ (List.mem_append_right _ (List.mem_append_right _ (List.mem_cons_of_mem _ (List.mem_append_right _ (List.mem_append_right _ (List.mem_append_right _ (List.mem_append_right _ (List.mem_cons_of_mem _ (List.mem_append_left _ (List.mem_cons_of_mem _ (List.mem_cons_of_mem _ List.mem_cons_self)))))))))))))))))))))))
theorem fa_10_3 (hP : ∀ q ∈ bk0 G f.1 f.2, va_at D vwCl q H) (hρ : ∀ (t : Nat) (k : Int), 1 ≤ t → t ≤ 14 → ρ (t, i, k) = phi f t k) : va_at D vwCl (ρ (10, i, 3), xcf G ρ (M0 10 i 3) 10 i 3) H := by
  show va_at D vwCl (ρ (10, i, 3), .inr (3, [.ref (ρ (11, i, 3)), .ref (ρ (12, i, 3))])) H
  rw [hρ 10 3 (by decide) (by decide), hρ 11 3 (by decide) (by decide), hρ 12 3 (by decide) (by decide)]
  exact hP _ (List.mem_cons_of_mem _ (List.mem_cons_of_mem _ (List.mem_append_right _ (List.mem_append_right _ (List.mem_append_right _ (List.mem_append_right _ (List.mem_append_right _ (List.mem_append_right _ (List.mem_append_right _ (List.mem_append_right _ (List.mem_append_right _ (List.mem_append_right _ (List.mem_append_right _ (List.mem_append_right _ (List.mem_cons_of_mem _ (List.mem_append_right _ (List.mem_append_right _ (List.mem_append_right _ (List.mem_append_left _ (List.mem_cons_of_mem _ List.mem_cons_self))))))))))))))))))))
theorem fa_10_4 (hP : ∀ q ∈ bk0 G f.1 f.2, va_at D vwCl q H) (hρ : ∀ (t : Nat) (k : Int), 1 ≤ t → t ≤ 14 → ρ (t, i, k) = phi f t k) : va_at D vwCl (ρ (10, i, 4), xcf G ρ (M0 10 i 4) 10 i 4) H := by
  show va_at D vwCl (ρ (10, i, 4), .inr (3, [.ref (ρ (11, i, 4)), .ref (ρ (12, i, 4))])) H
  rw [hρ 10 4 (by decide) (by decide), hρ 11 4 (by decide) (by decide), hρ 12 4 (by decide) (by decide)]
  exact hP _ (List.mem_cons_of_mem _ (List.mem_cons_of_mem _ (List.mem_append_right _ (List.mem_append_right _ (List.mem_append_right _ (List.mem_append_right _ (List.mem_append_right _ (List.mem_append_right _ (List.mem_append_right _ (List.mem_append_right _ (List.mem_append_right _ (List.mem_append_right _ (List.mem_append_right _ (List.mem_append_right _ (List.mem_cons_of_mem _ (List.mem_append_right _ (List.mem_append_right _ (List.mem_append_left _ (List.mem_cons_of_mem _ List.mem_cons_self)))))))))))))))))))
theorem fa_10_5 (hP : ∀ q ∈ bk0 G f.1 f.2, va_at D vwCl q H) (hρ : ∀ (t : Nat) (k : Int), 1 ≤ t → t ≤ 14 → ρ (t, i, k) = phi f t k) : va_at D vwCl (ρ (10, i, 5), xcf G ρ (M0 10 i 5) 10 i 5) H := by
  show va_at D vwCl (ρ (10, i, 5), .inr (3, [.ref (ρ (11, i, 5)), .ref (ρ (12, i, 5))])) H
  rw [hρ 10 5 (by decide) (by decide), hρ 11 5 (by decide) (by decide), hρ 12 5 (by decide) (by decide)]
  exact hP _ (List.mem_cons_of_mem _ (List.mem_cons_of_mem _ (List.mem_append_right _ (List.mem_append_right _ (List.mem_append_right _ (List.mem_append_right _ (List.mem_append_right _ (List.mem_append_right _ (List.mem_append_right _ (List.mem_append_right _ (List.mem_append_right _ (List.mem_append_right _ (List.mem_append_right _ (List.mem_append_right _ (List.mem_cons_of_mem _ (List.mem_append_right _ (List.mem_append_left _ (List.mem_cons_of_mem _ List.mem_cons_self))))))))))))))))))
theorem fa_10_6 (hP : ∀ q ∈ bk0 G f.1 f.2, va_at D vwCl q H) (hρ : ∀ (t : Nat) (k : Int), 1 ≤ t → t ≤ 14 → ρ (t, i, k) = phi f t k) : va_at D vwCl (ρ (10, i, 6), xcf G ρ (M0 10 i 6) 10 i 6) H := by
  show va_at D vwCl (ρ (10, i, 6), .inr (3, [.ref (ρ (11, i, 6)), .ref (ρ (12, i, 6))])) H
  rw [hρ 10 6 (by decide) (by decide), hρ 11 6 (by decide) (by decide), hρ 12 6 (by decide) (by decide)]
  exact hP _ (List.mem_cons_of_mem _ (List.mem_cons_of_mem _ (List.mem_append_right _ (List.mem_append_right _ (List.mem_append_right _ (List.mem_append_right _ (List.mem_append_right _ (List.mem_append_right _ (List.mem_append_right _ (List.mem_append_right _ (List.mem_append_right _ (List.mem_append_right _ (List.mem_append_right _ (List.mem_append_right _ (List.mem_cons_of_mem _ (List.mem_append_left _ (List.mem_cons_of_mem _ List.mem_cons_self)))))))))))))))))
theorem fa_11_0 (hP : ∀ q ∈ bk0 G f.1 f.2, va_at D vwCl q H) (hρ : ∀ (t : Nat) (k : Int), 1 ≤ t → t ≤ 14 → ρ (t, i, k) = phi f t k) : va_at D vwCl (ρ (11, i, 0), xcf G ρ (M0 11 i 0) 11 i 0) H := by
  rw [hρ 11 0 (by decide) (by decide)]
  exact hP _ (List.mem_cons_of_mem _ (List.mem_cons_of_mem _ (List.mem_append_right _ (List.mem_append_right _ (List.mem_append_right _ (List.mem_append_right _ (List.mem_append_right _ (List.mem_append_right _ (List.mem_append_right _ (List.mem_append_right _ (List.mem_append_right _ (List.mem_append_right _ (List.mem_append_right _ (List.mem_append_right _ (List.mem_cons_of_mem _ (List.mem_append_right _ (List.mem_append_right _ (List.mem_append_right _ (List.mem_append_right _ (List.mem_cons_of_mem _ (List.mem_append_right _ (List.mem_append_right _ (List.mem_append_left _ (List.mem_cons_of_mem _ (List.mem_cons_of_mem _ (List.mem_cons_of_mem _ List.mem_cons_self))))))))))))))))))))))))))
theorem fa_11_1 (hP : ∀ q ∈ bk0 G f.1 f.2, va_at D vwCl q H) (hρ : ∀ (t : Nat) (k : Int), 1 ≤ t → t ≤ 14 → ρ (t, i, k) = phi f t k) : va_at D vwCl (ρ (11, i, 1), xcf G ρ (M0 11 i 1) 11 i 1) H := by
  rw [hρ 11 1 (by decide) (by decide)]
  exact hP _ (List.mem_cons_of_mem _ (List.mem_cons_of_mem _ (List.mem_append_right _ (List.mem_append_right _ (List.mem_append_right _ (List.mem_append_right _ (List.mem_append_right _ (List.mem_append_right _ (List.mem_append_right _ (List.mem_append_right _ (List.mem_append_right _ (List.mem_append_right _ (List.mem_append_right _ (List.mem_append_right _ (List.mem_cons_of_mem _ (List.mem_append_right _ (List.mem_append_right _ (List.mem_append_right _ (List.mem_append_right _ (List.mem_cons_of_mem _ (List.mem_append_right _ (List.mem_append_left _ (List.mem_cons_of_mem _ (List.mem_cons_of_mem _ (List.mem_cons_of_mem _ List.mem_cons_self)))))))))))))))))))))))))
theorem fa_11_2 (hP : ∀ q ∈ bk0 G f.1 f.2, va_at D vwCl q H) (hρ : ∀ (t : Nat) (k : Int), 1 ≤ t → t ≤ 14 → ρ (t, i, k) = phi f t k) : va_at D vwCl (ρ (11, i, 2), xcf G ρ (M0 11 i 2) 11 i 2) H := by
  rw [hρ 11 2 (by decide) (by decide)]
  exact hP _ (List.mem_cons_of_mem _ (List.mem_cons_of_mem _ (List.mem_append_right _ (List.mem_append_right _ (List.mem_append_right _ (List.mem_append_right _ (List.mem_append_right _ (List.mem_append_right _ (List.mem_append_right _ (List.mem_append_right _ (List.mem_append_right _ (List.mem_append_right _ (List.mem_append_right _ (List.mem_append_right _ (List.mem_cons_of_mem _ (List.mem_append_right _ (List.mem_append_right _ (List.mem_append_right _ (List.mem_append_right _ (List.mem_cons_of_mem _ (List.mem_append_left _ (List.mem_cons_of_mem _ (List.mem_cons_of_mem _ (List.mem_cons_of_mem _ List.mem_cons_self))))))))))))))))))))))))
theorem fa_11_3 (hP : ∀ q ∈ bk0 G f.1 f.2, va_at D vwCl q H) (hρ : ∀ (t : Nat) (k : Int), 1 ≤ t → t ≤ 14 → ρ (t, i, k) = phi f t k) : va_at D vwCl (ρ (11, i, 3), xcf G ρ (M0 11 i 3) 11 i 3) H := by
  rw [hρ 11 3 (by decide) (by decide)]
  exact hP _ (List.mem_cons_of_mem _ (List.mem_cons_of_mem _ (List.mem_append_right _ (List.mem_append_right _ (List.mem_append_right _ (List.mem_append_right _ (List.mem_append_right _ (List.mem_append_right _ (List.mem_append_right _ (List.mem_append_right _ (List.mem_append_right _ (List.mem_append_right _ (List.mem_append_right _ (List.mem_append_right _ (List.mem_cons_of_mem _ (List.mem_append_right _ (List.mem_append_right _ (List.mem_append_right _ (List.mem_append_left _ (List.mem_cons_of_mem _ (List.mem_cons_of_mem _ List.mem_cons_self)))))))))))))))))))))
theorem fa_11_4 (hP : ∀ q ∈ bk0 G f.1 f.2, va_at D vwCl q H) (hρ : ∀ (t : Nat) (k : Int), 1 ≤ t → t ≤ 14 → ρ (t, i, k) = phi f t k) : va_at D vwCl (ρ (11, i, 4), xcf G ρ (M0 11 i 4) 11 i 4) H := by
  rw [hρ 11 4 (by decide) (by decide)]
  exact hP _ (List.mem_cons_of_mem _ (List.mem_cons_of_mem _ (List.mem_append_right _ (List.mem_append_right _ (List.mem_append_right _ (List.mem_append_right _ (List.mem_append_right _ (List.mem_append_right _ (List.mem_append_right _ (List.mem_append_right _ (List.mem_append_right _ (List.mem_append_right _ (List.mem_append_right _ (List.mem_append_right _ (List.mem_cons_of_mem _ (List.mem_append_right _ (List.mem_append_right _ (List.mem_append_left _ (List.mem_cons_of_mem _ (List.mem_cons_of_mem _ List.mem_cons_self))))))))))))))))))))
theorem fa_11_5 (hP : ∀ q ∈ bk0 G f.1 f.2, va_at D vwCl q H) (hρ : ∀ (t : Nat) (k : Int), 1 ≤ t → t ≤ 14 → ρ (t, i, k) = phi f t k) : va_at D vwCl (ρ (11, i, 5), xcf G ρ (M0 11 i 5) 11 i 5) H := by
  rw [hρ 11 5 (by decide) (by decide)]
  exact hP _ (List.mem_cons_of_mem _ (List.mem_cons_of_mem _ (List.mem_append_right _ (List.mem_append_right _ (List.mem_append_right _ (List.mem_append_right _ (List.mem_append_right _ (List.mem_append_right _ (List.mem_append_right _ (List.mem_append_right _ (List.mem_append_right _ (List.mem_append_right _ (List.mem_append_right _ (List.mem_append_right _ (List.mem_cons_of_mem _ (List.mem_append_right _ (List.mem_append_left _ (List.mem_cons_of_mem _ (List.mem_cons_of_mem _ List.mem_cons_self)))))))))))))))))))
theorem fa_11_6 (hP : ∀ q ∈ bk0 G f.1 f.2, va_at D vwCl q H) (hρ : ∀ (t : Nat) (k : Int), 1 ≤ t → t ≤ 14 → ρ (t, i, k) = phi f t k) : va_at D vwCl (ρ (11, i, 6), xcf G ρ (M0 11 i 6) 11 i 6) H := by
  rw [hρ 11 6 (by decide) (by decide)]
  exact hP _ (List.mem_cons_of_mem _ (List.mem_cons_of_mem _ (List.mem_append_right _ (List.mem_append_right _ (List.mem_append_right _ (List.mem_append_right _ (List.mem_append_right _ (List.mem_append_right _ (List.mem_append_right _ (List.mem_append_right _ (List.mem_append_right _ (List.mem_append_right _ (List.mem_append_right _ (List.mem_append_right _ (List.mem_cons_of_mem _ (List.mem_append_left _ (List.mem_cons_of_mem _ (List.mem_cons_of_mem _ List.mem_cons_self))))))))))))))))))
theorem fa_12_0 (hP : ∀ q ∈ bk0 G f.1 f.2, va_at D vwCl q H) (hρ : ∀ (t : Nat) (k : Int), 1 ≤ t → t ≤ 14 → ρ (t, i, k) = phi f t k) : va_at D vwCl (ρ (12, i, 0), xcf G ρ (M0 12 i 0) 12 i 0) H := by
  rw [hρ 12 0 (by decide) (by decide)]
  exact hP _ (List.mem_cons_of_mem _ (List.mem_cons_of_mem _ (List.mem_append_right _ (List.mem_append_right _ (List.mem_append_right _ (List.mem_append_right _ (List.mem_append_right _ (List.mem_append_right _ (List.mem_append_right _ (List.mem_append_right _ (List.mem_append_right _ (List.mem_append_right _ (List.mem_append_right _ (List.mem_append_right _ (List.mem_cons_of_mem _ (List.mem_append_right _ (List.mem_append_right _ (List.mem_append_right _ (List.mem_append_right _ (List.mem_cons_of_mem _ (List.mem_append_right _ (List.mem_append_right _ (List.mem_append_left _ (List.mem_cons_of_mem _ (List.mem_cons_of_mem _ (List.mem_cons_of_mem _ (List.mem_cons_of_mem _ List.mem_cons_self)))))))))))))))))))))))))))
theorem fa_12_1 (hP : ∀ q ∈ bk0 G f.1 f.2, va_at D vwCl q H) (hρ : ∀ (t : Nat) (k : Int), 1 ≤ t → t ≤ 14 → ρ (t, i, k) = phi f t k) : va_at D vwCl (ρ (12, i, 1), xcf G ρ (M0 12 i 1) 12 i 1) H := by
  rw [hρ 12 1 (by decide) (by decide)]
  exact hP _ (List.mem_cons_of_mem _ (List.mem_cons_of_mem _ (List.mem_append_right _ (List.mem_append_right _ (List.mem_append_right _ (List.mem_append_right _ (List.mem_append_right _ (List.mem_append_right _ (List.mem_append_right _ (List.mem_append_right _ (List.mem_append_right _ (List.mem_append_right _ (List.mem_append_right _ (List.mem_append_right _ (List.mem_cons_of_mem _ (List.mem_append_right _ (List.mem_append_right _ (List.mem_append_right _ (List.mem_append_right _ (List.mem_cons_of_mem _ (List.mem_append_right _ (List.mem_append_left _ (List.mem_cons_of_mem _ (List.mem_cons_of_mem _ (List.mem_cons_of_mem _ (List.mem_cons_of_mem _ List.mem_cons_self))))))))))))))))))))))))))
theorem fa_12_2 (hP : ∀ q ∈ bk0 G f.1 f.2, va_at D vwCl q H) (hρ : ∀ (t : Nat) (k : Int), 1 ≤ t → t ≤ 14 → ρ (t, i, k) = phi f t k) : va_at D vwCl (ρ (12, i, 2), xcf G ρ (M0 12 i 2) 12 i 2) H := by
  rw [hρ 12 2 (by decide) (by decide)]
  exact hP _ (List.mem_cons_of_mem _ (List.mem_cons_of_mem _ (List.mem_append_right _ (List.mem_append_right _ (List.mem_append_right _ (List.mem_append_right _ (List.mem_append_right _ (List.mem_append_right _ (List.mem_append_right _ (List.mem_append_right _ (List.mem_append_right _ (List.mem_append_right _ (List.mem_append_right _ (List.mem_append_right _ (List.mem_cons_of_mem _ (List.mem_append_right _ (List.mem_append_right _ (List.mem_append_right _ (List.mem_append_right _ (List.mem_cons_of_mem _ (List.mem_append_left _ (List.mem_cons_of_mem _ (List.mem_cons_of_mem _ (List.mem_cons_of_mem _ (List.mem_cons_of_mem _ List.mem_cons_self)))))))))))))))))))))))))
theorem fa_12_3 (hP : ∀ q ∈ bk0 G f.1 f.2, va_at D vwCl q H) (hρ : ∀ (t : Nat) (k : Int), 1 ≤ t → t ≤ 14 → ρ (t, i, k) = phi f t k) : va_at D vwCl (ρ (12, i, 3), xcf G ρ (M0 12 i 3) 12 i 3) H := by
  rw [hρ 12 3 (by decide) (by decide)]
  exact hP _ (List.mem_cons_of_mem _ (List.mem_cons_of_mem _ (List.mem_append_right _ (List.mem_append_right _ (List.mem_append_right _ (List.mem_append_right _ (List.mem_append_right _ (List.mem_append_right _ (List.mem_append_right _ (List.mem_append_right _ (List.mem_append_right _ (List.mem_append_right _ (List.mem_append_right _ (List.mem_append_right _ (List.mem_cons_of_mem _ (List.mem_append_right _ (List.mem_append_right _ (List.mem_append_right _ (List.mem_append_left _ (List.mem_cons_of_mem _ (List.mem_cons_of_mem _ (List.mem_cons_of_mem _ List.mem_cons_self))))))))))))))))))))))
theorem fa_12_4 (hP : ∀ q ∈ bk0 G f.1 f.2, va_at D vwCl q H) (hρ : ∀ (t : Nat) (k : Int), 1 ≤ t → t ≤ 14 → ρ (t, i, k) = phi f t k) : va_at D vwCl (ρ (12, i, 4), xcf G ρ (M0 12 i 4) 12 i 4) H := by
  rw [hρ 12 4 (by decide) (by decide)]
  exact hP _ (List.mem_cons_of_mem _ (List.mem_cons_of_mem _ (List.mem_append_right _ (List.mem_append_right _ (List.mem_append_right _ (List.mem_append_right _ (List.mem_append_right _ (List.mem_append_right _ (List.mem_append_right _ (List.mem_append_right _ (List.mem_append_right _ (List.mem_append_right _ (List.mem_append_right _ (List.mem_append_right _ (List.mem_cons_of_mem _ (List.mem_append_right _ (List.mem_append_right _ (List.mem_append_left _ (List.mem_cons_of_mem _ (List.mem_cons_of_mem _ (List.mem_cons_of_mem _ List.mem_cons_self)))))))))))))))))))))
theorem fa_12_5 (hP : ∀ q ∈ bk0 G f.1 f.2, va_at D vwCl q H) (hρ : ∀ (t : Nat) (k : Int), 1 ≤ t → t ≤ 14 → ρ (t, i, k) = phi f t k) : va_at D vwCl (ρ (12, i, 5), xcf G ρ (M0 12 i 5) 12 i 5) H := by
  rw [hρ 12 5 (by decide) (by decide)]
  exact hP _ (List.mem_cons_of_mem _ (List.mem_cons_of_mem _ (List.mem_append_right _ (List.mem_append_right _ (List.mem_append_right _ (List.mem_append_right _ (List.mem_append_right _ (List.mem_append_right _ (List.mem_append_right _ (List.mem_append_right _ (List.mem_append_right _ (List.mem_append_right _ (List.mem_append_right _ (List.mem_append_right _ (List.mem_cons_of_mem _ (List.mem_append_right _ (List.mem_append_left _ (List.mem_cons_of_mem _ (List.mem_cons_of_mem _ (List.mem_cons_of_mem _ List.mem_cons_self))))))))))))))))))))
theorem fa_12_6 (hP : ∀ q ∈ bk0 G f.1 f.2, va_at D vwCl q H) (hρ : ∀ (t : Nat) (k : Int), 1 ≤ t → t ≤ 14 → ρ (t, i, k) = phi f t k) : va_at D vwCl (ρ (12, i, 6), xcf G ρ (M0 12 i 6) 12 i 6) H := by
  rw [hρ 12 6 (by decide) (by decide)]
  exact hP _ (List.mem_cons_of_mem _ (List.mem_cons_of_mem _ (List.mem_append_right _ (List.mem_append_right _ (List.mem_append_right _ (List.mem_append_right _ (List.mem_append_right _ (List.mem_append_right _ (List.mem_append_right _ (List.mem_append_right _ (List.mem_append_right _ (List.mem_append_right _ (List.mem_append_right _ (List.mem_append_right _ (List.mem_cons_of_mem _ (List.mem_append_left _ (List.mem_cons_of_mem _ (List.mem_cons_of_mem _ (List.mem_cons_of_mem _ List.mem_cons_self)))))))))))))))))))
theorem fa_13_0 (hP : ∀ q ∈ bk0 G f.1 f.2, va_at D vwCl q H) (hρ : ∀ (t : Nat) (k : Int), 1 ≤ t → t ≤ 14 → ρ (t, i, k) = phi f t k) : va_at D vwCl (ρ (13, i, 0), xcf G ρ (M0 13 i 0) 13 i 0) H := by
  show va_at D vwCl (ρ (13, i, 0), .inr (2, [xcn (M0 13 i 0) 0, xcn (M0 13 i 0) 1, xcn (M0 13 i 0) 2, .ref (ρ (10, i, 3)), xcn (M0 13 i 0) 4, xcn (M0 13 i 0) 5])) H
  rw [hρ 13 0 (by decide) (by decide), hρ 10 3 (by decide) (by decide)]
  exact hP _ (List.mem_cons_of_mem _ (List.mem_cons_of_mem _ (List.mem_append_right _ (List.mem_append_right _ (List.mem_append_right _ (List.mem_append_right _ (List.mem_append_right _ (List.mem_append_right _ (List.mem_append_right _ (List.mem_append_right _ (List.mem_append_right _ (List.mem_append_right _ (List.mem_append_right _ (List.mem_append_right _ (List.mem_cons_of_mem _ (List.mem_append_right _ (List.mem_append_right _ (List.mem_append_right _ (List.mem_append_left _ List.mem_cons_self)))))))))))))))))))
theorem fa_13_1 (hP : ∀ q ∈ bk0 G f.1 f.2, va_at D vwCl q H) (hρ : ∀ (t : Nat) (k : Int), 1 ≤ t → t ≤ 14 → ρ (t, i, k) = phi f t k) : va_at D vwCl (ρ (13, i, 1), xcf G ρ (M0 13 i 1) 13 i 1) H := by
  show va_at D vwCl (ρ (13, i, 1), .inr (2, [xcn (M0 13 i 1) 0, xcn (M0 13 i 1) 1, xcn (M0 13 i 1) 2, .ref (ρ (10, i, 4)), xcn (M0 13 i 1) 4, xcn (M0 13 i 1) 5])) H
  rw [hρ 13 1 (by decide) (by decide), hρ 10 4 (by decide) (by decide)]
  exact hP _ (List.mem_cons_of_mem _ (List.mem_cons_of_mem _ (List.mem_append_right _ (List.mem_append_right _ (List.mem_append_right _ (List.mem_append_right _ (List.mem_append_right _ (List.mem_append_right _ (List.mem_append_right _ (List.mem_append_right _ (List.mem_append_right _ (List.mem_append_right _ (List.mem_append_right _ (List.mem_append_right _ (List.mem_cons_of_mem _ (List.mem_append_right _ (List.mem_append_right _ (List.mem_append_left _ List.mem_cons_self))))))))))))))))))
theorem fa_13_2 (hP : ∀ q ∈ bk0 G f.1 f.2, va_at D vwCl q H) (hρ : ∀ (t : Nat) (k : Int), 1 ≤ t → t ≤ 14 → ρ (t, i, k) = phi f t k) : va_at D vwCl (ρ (13, i, 2), xcf G ρ (M0 13 i 2) 13 i 2) H := by
  show va_at D vwCl (ρ (13, i, 2), .inr (2, [xcn (M0 13 i 2) 0, xcn (M0 13 i 2) 1, xcn (M0 13 i 2) 2, .ref (ρ (10, i, 5)), xcn (M0 13 i 2) 4, xcn (M0 13 i 2) 5])) H
  rw [hρ 13 2 (by decide) (by decide), hρ 10 5 (by decide) (by decide)]
  exact hP _ (List.mem_cons_of_mem _ (List.mem_cons_of_mem _ (List.mem_append_right _ (List.mem_append_right _ (List.mem_append_right _ (List.mem_append_right _ (List.mem_append_right _ (List.mem_append_right _ (List.mem_append_right _ (List.mem_append_right _ (List.mem_append_right _ (List.mem_append_right _ (List.mem_append_right _ (List.mem_append_right _ (List.mem_cons_of_mem _ (List.mem_append_right _ (List.mem_append_left _ List.mem_cons_self)))))))))))))))))
theorem fa_13_3 (hP : ∀ q ∈ bk0 G f.1 f.2, va_at D vwCl q H) (hρ : ∀ (t : Nat) (k : Int), 1 ≤ t → t ≤ 14 → ρ (t, i, k) = phi f t k) : va_at D vwCl (ρ (13, i, 3), xcf G ρ (M0 13 i 3) 13 i 3) H := by
  show va_at D vwCl (ρ (13, i, 3), .inr (2, [xcn (M0 13 i 3) 0, xcn (M0 13 i 3) 1, xcn (M0 13 i 3) 2, .ref (ρ (10, i, 6)), xcn (M0 13 i 3) 4, xcn (M0 13 i 3) 5])) H
  rw [hρ 13 3 (by decide) (by decide), hρ 10 6 (by decide) (by decide)]
  exact hP _ (List.mem_cons_of_mem _ (List.mem_cons_of_mem _ (List.mem_append_right _ (List.mem_append_right _ (List.mem_append_right _ (List.mem_append_right _ (List.mem_append_right _ (List.mem_append_right _ (List.mem_append_right _ (List.mem_append_right _ (List.mem_append_right _ (List.mem_append_right _ (List.mem_append_right _ (List.mem_append_right _ (List.mem_cons_of_mem _ (List.mem_append_left _ List.mem_cons_self))))))))))))))))
theorem fa_14_0 (hP : ∀ q ∈ bk0 G f.1 f.2, va_at D vwCl q H) (hρ : ∀ (t : Nat) (k : Int), 1 ≤ t → t ≤ 14 → ρ (t, i, k) = phi f t k) : va_at D vwCl (ρ (14, i, 0), xcf G ρ (M0 14 i 0) 14 i 0) H := by
  rw [hρ 14 0 (by decide) (by decide)]
  exact hP _ (List.mem_cons_of_mem _ (List.mem_cons_of_mem _ (List.mem_append_right _ (List.mem_append_right _ (List.mem_append_right _ (List.mem_append_right _ (List.mem_append_right _ (List.mem_append_right _ (List.mem_append_right _ (List.mem_append_right _ (List.mem_append_right _ (List.mem_append_right _ (List.mem_append_right _ (List.mem_append_left _ List.mem_cons_self))))))))))))))
theorem fa_14_1 (hP : ∀ q ∈ bk0 G f.1 f.2, va_at D vwCl q H) (hρ : ∀ (t : Nat) (k : Int), 1 ≤ t → t ≤ 14 → ρ (t, i, k) = phi f t k) : va_at D vwCl (ρ (14, i, 1), xcf G ρ (M0 14 i 1) 14 i 1) H := by
  rw [hρ 14 1 (by decide) (by decide)]
  exact hP _ (List.mem_cons_of_mem _ (List.mem_cons_of_mem _ (List.mem_append_right _ (List.mem_append_right _ (List.mem_append_right _ (List.mem_append_right _ (List.mem_append_right _ (List.mem_append_right _ (List.mem_append_right _ (List.mem_append_right _ (List.mem_append_right _ (List.mem_append_right _ (List.mem_append_left _ List.mem_cons_self)))))))))))))
theorem fa_14_2 (hP : ∀ q ∈ bk0 G f.1 f.2, va_at D vwCl q H) (hρ : ∀ (t : Nat) (k : Int), 1 ≤ t → t ≤ 14 → ρ (t, i, k) = phi f t k) : va_at D vwCl (ρ (14, i, 2), xcf G ρ (M0 14 i 2) 14 i 2) H := by
  rw [hρ 14 2 (by decide) (by decide)]
  exact hP _ (List.mem_cons_of_mem _ (List.mem_cons_of_mem _ (List.mem_append_right _ (List.mem_append_right _ (List.mem_append_right _ (List.mem_append_right _ (List.mem_append_right _ (List.mem_append_right _ (List.mem_append_right _ (List.mem_append_right _ (List.mem_append_right _ (List.mem_append_left _ List.mem_cons_self))))))))))))
theorem fa_14_3 (hP : ∀ q ∈ bk0 G f.1 f.2, va_at D vwCl q H) (hρ : ∀ (t : Nat) (k : Int), 1 ≤ t → t ≤ 14 → ρ (t, i, k) = phi f t k) : va_at D vwCl (ρ (14, i, 3), xcf G ρ (M0 14 i 3) 14 i 3) H := by
  rw [hρ 14 3 (by decide) (by decide)]
  exact hP _ (List.mem_cons_of_mem _ (List.mem_cons_of_mem _ (List.mem_append_right _ (List.mem_append_right _ (List.mem_append_right _ (List.mem_append_right _ (List.mem_append_right _ (List.mem_append_right _ (List.mem_append_right _ (List.mem_append_right _ (List.mem_append_left _ List.mem_cons_self)))))))))))
theorem fa_14_4 (hP : ∀ q ∈ bk0 G f.1 f.2, va_at D vwCl q H) (hρ : ∀ (t : Nat) (k : Int), 1 ≤ t → t ≤ 14 → ρ (t, i, k) = phi f t k) : va_at D vwCl (ρ (14, i, 4), xcf G ρ (M0 14 i 4) 14 i 4) H := by
  rw [hρ 14 4 (by decide) (by decide)]
  exact hP _ (List.mem_cons_of_mem _ (List.mem_cons_of_mem _ (List.mem_append_right _ (List.mem_append_right _ (List.mem_append_right _ (List.mem_append_right _ (List.mem_append_right _ (List.mem_append_right _ (List.mem_append_right _ (List.mem_append_left _ List.mem_cons_self))))))))))
theorem fa_14_5 (hP : ∀ q ∈ bk0 G f.1 f.2, va_at D vwCl q H) (hρ : ∀ (t : Nat) (k : Int), 1 ≤ t → t ≤ 14 → ρ (t, i, k) = phi f t k) : va_at D vwCl (ρ (14, i, 5), xcf G ρ (M0 14 i 5) 14 i 5) H := by
  rw [hρ 14 5 (by decide) (by decide)]
  exact hP _ (List.mem_cons_of_mem _ (List.mem_cons_of_mem _ (List.mem_append_right _ (List.mem_append_right _ (List.mem_append_right _ (List.mem_append_right _ (List.mem_append_right _ (List.mem_append_right _ (List.mem_append_left _ List.mem_cons_self)))))))))
theorem fa_14_6 (hP : ∀ q ∈ bk0 G f.1 f.2, va_at D vwCl q H) (hρ : ∀ (t : Nat) (k : Int), 1 ≤ t → t ≤ 14 → ρ (t, i, k) = phi f t k) : va_at D vwCl (ρ (14, i, 6), xcf G ρ (M0 14 i 6) 14 i 6) H := by
  rw [hρ 14 6 (by decide) (by decide)]
  exact hP _ (List.mem_cons_of_mem _ (List.mem_cons_of_mem _ (List.mem_append_right _ (List.mem_append_right _ (List.mem_append_right _ (List.mem_append_right _ (List.mem_append_right _ (List.mem_append_left _ List.mem_cons_self))))))))
theorem fa_14_7 (hP : ∀ q ∈ bk0 G f.1 f.2, va_at D vwCl q H) (hρ : ∀ (t : Nat) (k : Int), 1 ≤ t → t ≤ 14 → ρ (t, i, k) = phi f t k) : va_at D vwCl (ρ (14, i, 7), xcf G ρ (M0 14 i 7) 14 i 7) H := by
  rw [hρ 14 7 (by decide) (by decide)]
  exact hP _ (List.mem_cons_of_mem _ (List.mem_cons_of_mem _ (List.mem_append_right _ (List.mem_append_right _ (List.mem_append_right _ (List.mem_append_right _ (List.mem_append_left _ List.mem_cons_self)))))))
theorem fa_14_8 (hP : ∀ q ∈ bk0 G f.1 f.2, va_at D vwCl q H) (hρ : ∀ (t : Nat) (k : Int), 1 ≤ t → t ≤ 14 → ρ (t, i, k) = phi f t k) : va_at D vwCl (ρ (14, i, 8), xcf G ρ (M0 14 i 8) 14 i 8) H := by
  rw [hρ 14 8 (by decide) (by decide)]
  exact hP _ (List.mem_cons_of_mem _ (List.mem_cons_of_mem _ (List.mem_append_right _ (List.mem_append_right _ (List.mem_append_right _ (List.mem_append_left _ List.mem_cons_self))))))
theorem fa_14_9 (hP : ∀ q ∈ bk0 G f.1 f.2, va_at D vwCl q H) (hρ : ∀ (t : Nat) (k : Int), 1 ≤ t → t ≤ 14 → ρ (t, i, k) = phi f t k) : va_at D vwCl (ρ (14, i, 9), xcf G ρ (M0 14 i 9) 14 i 9) H := by
  rw [hρ 14 9 (by decide) (by decide)]
  exact hP _ (List.mem_cons_of_mem _ (List.mem_cons_of_mem _ (List.mem_append_right _ (List.mem_append_right _ (List.mem_append_left _ List.mem_cons_self)))))
theorem fa_14_10 (hP : ∀ q ∈ bk0 G f.1 f.2, va_at D vwCl q H) (hρ : ∀ (t : Nat) (k : Int), 1 ≤ t → t ≤ 14 → ρ (t, i, k) = phi f t k) : va_at D vwCl (ρ (14, i, 10), xcf G ρ (M0 14 i 10) 14 i 10) H := by
  rw [hρ 14 10 (by decide) (by decide)]
  exact hP _ (List.mem_cons_of_mem _ (List.mem_cons_of_mem _ (List.mem_append_right _ (List.mem_append_left _ List.mem_cons_self))))
theorem fa_14_11 (hP : ∀ q ∈ bk0 G f.1 f.2, va_at D vwCl q H) (hρ : ∀ (t : Nat) (k : Int), 1 ≤ t → t ≤ 14 → ρ (t, i, k) = phi f t k) : va_at D vwCl (ρ (14, i, 11), xcf G ρ (M0 14 i 11) 14 i 11) H := by
  rw [hρ 14 11 (by decide) (by decide)]
  exact hP _ (List.mem_cons_of_mem _ (List.mem_cons_of_mem _ (List.mem_append_left _ List.mem_cons_self)))
theorem film_at (hP : ∀ q ∈ bk0 G f.1 f.2, va_at D vwCl q H) (hρ : ∀ (t : Nat) (k : Int), 1 ≤ t → t ≤ 14 → ρ (t, i, k) = phi f t k) {t : Nat} {k : Int} (ht : 1 ≤ t ∧ t ≤ 14) (hk : 0 ≤ k ∧ k < xvk t) : va_at D vwCl (ρ (t, i, k), xcf G ρ (M0 t i k) t i k) H := by
  rcases (show t = 1 ∨ t = 2 ∨ t = 3 ∨ t = 4 ∨ t = 5 ∨ t = 6 ∨ t = 7 ∨ t = 8 ∨ t = 9 ∨ t = 10 ∨ t = 11 ∨ t = 12 ∨ t = 13 ∨ t = 14 by omega) with rfl | rfl | rfl | rfl | rfl | rfl | rfl | rfl | rfl | rfl | rfl | rfl | rfl | rfl
  · have h1 : k < 1 := hk.2
    have e : k = 0 := by omega
    subst e
    exact fa_1_0 hP hρ
  · have h1 : k < 1 := hk.2
    have e : k = 0 := by omega
    subst e
    exact fa_2_0 hP hρ
  · have h1 : k < 1 := hk.2
    have e : k = 0 := by omega
    subst e
    exact fa_3_0 hP hρ
  · have h1 : k < 1 := hk.2
    have e : k = 0 := by omega
    subst e
    exact fa_4_0 hP hρ
  · have h1 : k < 1 := hk.2
    have e : k = 0 := by omega
    subst e
    exact fa_5_0 hP hρ
  · have h1 : k < 1 := hk.2
    have e : k = 0 := by omega
    subst e
    exact fa_6_0 hP hρ
  · have h1 : k < 1 := hk.2
    have e : k = 0 := by omega
    subst e
    exact fa_7_0 hP hρ
  · have h1 : k < 3 := hk.2
    rcases (show k = 0 ∨ k = 1 ∨ k = 2 by omega) with rfl | rfl | rfl
    · exact fa_8_0 hP hρ
    · exact fa_8_1 hP hρ
    · exact fa_8_2 hP hρ
  · have h1 : k < 3 := hk.2
    rcases (show k = 0 ∨ k = 1 ∨ k = 2 by omega) with rfl | rfl | rfl
    · exact fa_9_0 hP hρ
    · exact fa_9_1 hP hρ
    · exact fa_9_2 hP hρ
  · have h1 : k < 7 := hk.2
    rcases (show k = 0 ∨ k = 1 ∨ k = 2 ∨ k = 3 ∨ k = 4 ∨ k = 5 ∨ k = 6 by omega) with rfl | rfl | rfl | rfl | rfl | rfl | rfl
    · exact fa_10_0 hP hρ
    · exact fa_10_1 hP hρ
    · exact fa_10_2 hP hρ
    · exact fa_10_3 hP hρ
    · exact fa_10_4 hP hρ
    · exact fa_10_5 hP hρ
    · exact fa_10_6 hP hρ
  · have h1 : k < 7 := hk.2
    rcases (show k = 0 ∨ k = 1 ∨ k = 2 ∨ k = 3 ∨ k = 4 ∨ k = 5 ∨ k = 6 by omega) with rfl | rfl | rfl | rfl | rfl | rfl | rfl
    · exact fa_11_0 hP hρ
    · exact fa_11_1 hP hρ
    · exact fa_11_2 hP hρ
    · exact fa_11_3 hP hρ
    · exact fa_11_4 hP hρ
    · exact fa_11_5 hP hρ
    · exact fa_11_6 hP hρ
  · have h1 : k < 7 := hk.2
    rcases (show k = 0 ∨ k = 1 ∨ k = 2 ∨ k = 3 ∨ k = 4 ∨ k = 5 ∨ k = 6 by omega) with rfl | rfl | rfl | rfl | rfl | rfl | rfl
    · exact fa_12_0 hP hρ
    · exact fa_12_1 hP hρ
    · exact fa_12_2 hP hρ
    · exact fa_12_3 hP hρ
    · exact fa_12_4 hP hρ
    · exact fa_12_5 hP hρ
    · exact fa_12_6 hP hρ
  · have h1 : k < 4 := hk.2
    rcases (show k = 0 ∨ k = 1 ∨ k = 2 ∨ k = 3 by omega) with rfl | rfl | rfl | rfl
    · exact fa_13_0 hP hρ
    · exact fa_13_1 hP hρ
    · exact fa_13_2 hP hρ
    · exact fa_13_3 hP hρ
  · have h1 : k < 12 := hk.2
    rcases (show k = 0 ∨ k = 1 ∨ k = 2 ∨ k = 3 ∨ k = 4 ∨ k = 5 ∨ k = 6 ∨ k = 7 ∨ k = 8 ∨ k = 9 ∨ k = 10 ∨ k = 11 by omega) with rfl | rfl | rfl | rfl | rfl | rfl | rfl | rfl | rfl | rfl | rfl | rfl
    · exact fa_14_0 hP hρ
    · exact fa_14_1 hP hρ
    · exact fa_14_2 hP hρ
    · exact fa_14_3 hP hρ
    · exact fa_14_4 hP hρ
    · exact fa_14_5 hP hρ
    · exact fa_14_6 hP hρ
    · exact fa_14_7 hP hρ
    · exact fa_14_8 hP hρ
    · exact fa_14_9 hP hρ
    · exact fa_14_10 hP hρ
    · exact fa_14_11 hP hρ
end
end XKi
