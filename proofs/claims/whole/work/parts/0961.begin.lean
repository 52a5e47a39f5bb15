section XWs
set_option maxHeartbeats 4000000 in
theorem whole_start {p : Program} {e : Env} {s : State} {m : MethodId} {below : List Frame} {meth : Method} {c : Code} (l : Launch) (hflags : l.flags = flags0) {b L : Nat} {xs : Nat → Int32} (hL : L ≤ 3072) (C0 : lw_At p s m meth c b L xs) : W p l e room_1 s m #[Value.ref b] below meth c s.heap [] 0 0 (lw_Z below #[Value.ref b] s) (entryFrame m ([Value.ref b] : List Value).toArray 9) := by
  obtain ⟨hx, hb, hr, hml, hown, hts, hX, hbl, hlocks, hgv⟩ := id C0
  obtain ⟨D, hD⟩ := st_D hts
  obtain ⟨G, hG⟩ := st_G hts
  have hK : va_K D vwCl (xtys G) s := ⟨hD, hG⟩
  obtain ⟨sr, hSF⟩ := st_SF hts hgv
  have hS1 : S1 G s.heap.size s := st_S1 hts hgv (hG 0 _ rfl).2
  have hlt : l.stackTraces = false := by rw [Launch.stackTraces, hflags]; decide +kernel
  have hT : ∀ w ∈ Cond.initialized RL :: xT, w.before #[Value.ref b] s = true := List.forall_mem_cons.mpr ⟨hts _ (st_x tw_0), fun w hw => hts w (st_x hw)⟩
  have hX0 : YX0 p s m #[Value.ref b] c D G s.heap.size cL_law 9 RL (Cond.initialized RL :: xT) := ⟨⟨hx, hb, hml, hown, hT⟩, hK, Nat.le_refl _⟩
  have hl := lv_entry ([.ref b]) (n := 9) (Nat.le_of_ble_eq_true rfl)
  rw [lg_entry_eq]
  refine lw_new hX0 hS1 (fun q7 x7 q8 x8 qo => ?_) s.heap [] _ (fun k q h => by simp at h) ⟨fun i j p q h => by simp at h, fun k q h => by simp at h⟩ va_S.rf hl
  intro H locs ls hP hDD hSS hll
  have hinj : XInj (rh b sr q7 x7 q8 x8 qo) := rh_inj hDD
  have hA : ∀ o ∈ xobs, s.heap.size ≤ rh b sr q7 x7 q8 x8 qo o := rh_A hDD
  have hP0 : va_P D vwCl (xworld G (rh b sr q7 x7 q8 x8 qo) M0) H := w0_P hP
  have hsr : ∀ t : Nat, 31 ≤ t → t ≤ 36 → rh b sr q7 x7 q8 x8 qo (t, 0, 0) = sr t := by
    intro t h1 h2
    rcases (show t = 31 ∨ t = 32 ∨ t = 33 ∨ t = 34 ∨ t = 35 ∨ t = 36 by omega) with rfl | rfl | rfl | rfl | rfl | rfl <;> rfl
  have hρb : rh b sr q7 x7 q8 x8 qo (40, 0, 0) = b := rfl
  have hll' : lv_has ls 9 (xlv (rh b sr q7 x7 q8 x8 qo) 0 [some (xR 40 0 0), some (xR 0 0 0), some (xR 20 0 0), some (xR 26 0 0), some (xI 0), none, none, none, none]) := lv_sub hll [4, 3, 2, 1, 0] rfl
  generalize rh b sr q7 x7 q8 x8 qo = ρ at hinj hA hP0 hsr hρb hll'
  have hXA : ∀ q : Nat, q < s.heap.size → ¬ XA ρ s.heap.size q := by
    intro q h1 h2
    rcases h2 with ⟨o, ho, rfl⟩ | h2
    · exact absurd (hA o ho) (Nat.not_le.mpr h1)
    · exact absurd h2 (Nat.not_le.mpr h1)
  have hC : XCX p room_1 s m #[Value.ref b] c 0 0 D G ρ cL_law 9 RL (Cond.initialized RL :: xT) := ⟨⟨hx, hb, hml, hown, hT⟩, hK, hinj, hSF ρ _ hsr hXA, st_Nw hts, Nat.zero_le _, Nat.zero_le _⟩
  have hSS' : va_S (XA ρ s.heap.size) s.heap H locs := ⟨hSS.1, fun q h1 h2 => hSS.2.1 q h1 (fun z => absurd (show s.heap.size ≤ q from z) (Nat.not_le.mpr h1)), fun l hl => Or.inr (hSS.2.2 l hl)⟩
  exact lw_loop hC hlt ⟨⟨st_Ew hts, st_Es hts hgv, st_Ez hts hgv hXA⟩, st_Ec hgv⟩ ⟨hX, hbl, hXA b hbl, hρb, hL⟩ hr hlocks hA 512 413 25730 0 M0 none none none none (by decide) (Int.natCast_nonneg L) (by omega) (by decide) (by decide) RR_M0 H locs ls hP0 hSS' hll'
end XWs

