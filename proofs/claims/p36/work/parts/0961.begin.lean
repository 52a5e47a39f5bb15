section XWs
theorem cell_xc : XcS room_1 RL 95 2 yL_cell cL_cell 2 (some .int) rL_cell := ⟨⟨rfl, rfl, by decide, by decide⟩, ⟨by decide, by decide, by decide +kernel⟩, tw_563, tw_564, tw_0, tw_565⟩
set_option maxHeartbeats 4000000 in
theorem whole_start {p : Program} {e : Env} {s : State} {m : MethodId} {below : List Frame} {meth : Method} {c : Code} (l : Launch) (hflags : l.flags = flags0) {b L : Nat} {xs : Nat → Int32} (hL : L ≤ 260) (C0 : lw_At p s m meth c b L xs) : W p l e room_1 s m #[Value.ref b] below meth c s.heap [] 0 0 (lw_Z below #[Value.ref b] s) (entryFrame m ([Value.ref b] : List Value).toArray 20) := by
  obtain ⟨hx, hb, hr, hml, hown, hts, hX, hbl, hlocks, hgv⟩ := id C0
  obtain ⟨D, hD⟩ := st_D hts
  obtain ⟨G, hG⟩ := st_G hts
  have hK : va_K D vwCl (xtys G) s := ⟨hD, hG⟩
  obtain ⟨sr, hSF⟩ := st_SF hts hgv
  have hS1 : S1 G s.heap.size s := st_S1 hts hgv (hG 0 _ rfl).2
  have hT : ∀ w ∈ Cond.initialized RL :: xT, w.before #[Value.ref b] s = true := List.forall_mem_cons.mpr ⟨hts _ (st_x tw_0), fun w hw => hts w (st_x hw)⟩
  have hX0 : YX0 p s m #[Value.ref b] c D G s.heap.size cL_law 20 RL (Cond.initialized RL :: xT) := ⟨⟨hx, hb, hml, hown, hT⟩, hK, Nat.le_refl _⟩
  have hl := lv_entry ([.ref b]) (n := 20) (Nat.le_of_ble_eq_true rfl)
  rw [lg_entry_eq]
  refine lw_new hX0 hS1 (fun q7 x7 a20 a21 a22 a23 a24 a25 a26 a27 a28 a29 => ?_) s.heap [] _ (fun k q h => by simp at h) ⟨fun i j p q h => by simp at h, fun k q h => by simp at h⟩ va_S.rf hl
  intro H locs ls hP hDD hSS hll
  obtain ⟨qs, hqs⟩ : ∃ qs : Nat → Nat, qs = (fun t => match t with | 20 => a20 | 21 => a21 | 22 => a22 | 23 => a23 | 24 => a24 | 25 => a25 | 26 => a26 | 27 => a27 | 28 => a28 | _ => a29) := ⟨_, rfl⟩
  have hP' : va_P D vwCl (WL G q7 x7 qs) H := by rw [hqs]; exact hP
  have hDD' : va_D (yA s.heap.size) (WL G q7 x7 qs) := by rw [hqs]; exact hDD
  have hinj : XInj (rh b sr q7 x7 qs) := rh_inj hDD'
  have hA : ∀ o ∈ xobs, s.heap.size ≤ rh b sr q7 x7 qs o := rh_A hDD'
  have hP0 : va_P D vwCl (xworld G (rh b sr q7 x7 qs) M0) H := w0_P hP'
  have hsr : ∀ t : Nat, 31 ≤ t → t ≤ 34 → rh b sr q7 x7 qs (t, 0, 0) = sr t := by
    intro t h1 h2
    rcases (show t = 31 ∨ t = 32 ∨ t = 33 ∨ t = 34 by omega) with rfl | rfl | rfl | rfl <;> rfl
  have hρb : rh b sr q7 x7 qs (40, 0, 0) = b := rfl
  have hll' : lv_has ls 20 (xlv (rh b sr q7 x7 qs) 0 [some (xR 40 0 0), some (xR 0 0 0), some (xR 20 0 0), some (xR 21 0 0), some (xR 22 0 0), some (xR 23 0 0), some (xR 24 0 0), some (xR 25 0 0), some (xR 26 0 0), some (xR 27 0 0), some (xR 28 0 0), some (xR 29 0 0), none, none, none, none, none, none, none, none]) := by
    rw [hqs]
    exact lv_sub hll [11, 10, 9, 8, 7, 6, 5, 4, 3, 2, 1, 0] rfl
  generalize rh b sr q7 x7 qs = ρ at hinj hA hP0 hsr hρb hll'
  have hXA : ∀ q : Nat, q < s.heap.size → ¬ XA ρ s.heap.size q := by
    intro q h1 h2
    rcases h2 with ⟨o, ho, rfl⟩ | h2
    · exact absurd (hA o ho) (Nat.not_le.mpr h1)
    · exact absurd h2 (Nat.not_le.mpr h1)
  have hC : XCX p room_1 s m #[Value.ref b] c 416 13299 D G ρ cL_law 20 RL (Cond.initialized RL :: xT) := ⟨⟨hx, hb, hml, hown, hT⟩, hK, hinj, hSF ρ _ hsr hXA, st_Nw hts, by decide, by decide⟩
  have hSS' : va_S (XA ρ s.heap.size) s.heap H locs := ⟨hSS.1, fun q h1 h2 => hSS.2.1 q h1 (fun z => absurd (show s.heap.size ≤ q from z) (Nat.not_le.mpr h1)), fun l hl => Or.inr (hSS.2.2 l hl)⟩
  have hXS : XSc s ρ b L xs := ⟨hX, hbl, hXA b hbl, hρb, hL⟩
  have hCl : XCl (xlk (pL_law (fun _ _ => False))) (XWW p l e room_1 s m #[Value.ref b] below meth c 416 13299 (lw_Z below #[Value.ref b] s) D G ρ 20) := XWW_cl (aL_law (fun _ _ => False)) hC (Or.inl fun _ _ f => f)
  have main := kL_init hCl (fun pc hpc L' st M k k0 k1 hcat hv => by
    rcases hpc with rfl | rfl | rfl | rfl | rfl | rfl | rfl
    · exact xl_cell hC hXS cell_xc dL_law_100 ⟨k0, k1⟩ hcat hv
    · exact xl_cell hC hXS cell_xc dL_law_130 ⟨k0, k1⟩ hcat hv
    · exact xl_cell hC hXS cell_xc dL_law_144 ⟨k0, k1⟩ hcat hv
    · exact xl_cell hC hXS cell_xc dL_law_214 ⟨k0, k1⟩ hcat hv
    · exact xl_cell hC hXS cell_xc dL_law_234 ⟨k0, k1⟩ hcat hv
    · exact xl_cell hC hXS cell_xc dL_law_290 ⟨k0, k1⟩ hcat hv
    · exact xl_cell hC hXS cell_xc dL_law_302 ⟨k0, k1⟩ hcat hv) (fun L' M => xl_end hC hr hlocks hA dL_law_530)
  exact main H locs ls hP0 hSS' hll'
end XWs
