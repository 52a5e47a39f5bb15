/-! shapes of specifications, rows for memories -/
section XL6
def xq0 (t : Nat) (P : Int → Int → XM → XPo → Prop) : XSp := fun av M Q => match av with
  | [.inr (.inl (some (t', i, k)))] => (t' = t ∧ xval t i k) ∧ P i k M Q
  | _ => False
def xq1 (t : Nat) (P : Int → Int → Int → XM → XPo → Prop) : XSp := fun av M Q => match av with
  | [.inr (.inl (some (t', i, k))), .inl a] => (t' = t ∧ xval t i k) ∧ P i k a M Q
  | _ => False
def xq2 (t : Nat) (P : Int → Int → Int → Int → XM → XPo → Prop) : XSp := fun av M Q => match av with
  | [.inr (.inl (some (t', i, k))), .inl a, .inl b] => (t' = t ∧ xval t i k) ∧ P i k a b M Q
  | _ => False
def xq3 (t : Nat) (P : Int → Int → Int → Int → Int → XM → XPo → Prop) : XSp := fun av M Q => match av with
  | [.inr (.inl (some (t', i, k))), .inl a, .inl b, .inl c] => (t' = t ∧ xval t i k) ∧ P i k a b c M Q
  | _ => False
def xq4 (t : Nat) (P : Int → Int → Int → Int → Int → Int → XM → XPo → Prop) : XSp := fun av M Q => match av with
  | [.inr (.inl (some (t', i, k))), .inl a, .inl b, .inl c, .inl d] => (t' = t ∧ xval t i k) ∧ P i k a b c d M Q
  | _ => False
def xq5 (t : Nat) (P : Int → Int → Int → Int → Int → Int → Int → XM → XPo → Prop) : XSp := fun av M Q => match av with
  | [.inr (.inl (some (t', i, k))), .inl a, .inl b, .inl c, .inl d, .inl e] => (t' = t ∧ xval t i k) ∧ P i k a b c d e M Q
  | _ => False
/-- the receiver and another object -/
def xqR (t t2 : Nat) (P : Int → Int → Int → Int → XM → XPo → Prop) : XSp := fun av M Q => match av with
  | [.inr (.inl (some (t', i, k))), .inr (.inl (some (u', i2, k2)))] => (t' = t ∧ u' = t2 ∧ xval t i k ∧ xval t2 i2 k2) ∧ P i k i2 k2 M Q
  | _ => False
/-- the receiver, a number and another object -/
def xq1R (t t2 : Nat) (P : Int → Int → Int → Int → Int → XM → XPo → Prop) : XSp := fun av M Q => match av with
  | [.inr (.inl (some (t', i, k))), .inl a, .inr (.inl (some (u', i2, k2)))] => (t' = t ∧ u' = t2 ∧ xval t i k ∧ xval t2 i2 k2) ∧ P i k a i2 k2 M Q
  | _ => False
def xq3R (t t2 : Nat) (P : Int → Int → Int → Int → Int → Int → Int → XM → XPo → Prop) : XSp := fun av M Q => match av with
  | [.inr (.inl (some (t', i, k))), .inl a, .inl b, .inl c, .inr (.inl (some (u', i2, k2)))] => (t' = t ∧ u' = t2 ∧ xval t i k ∧ xval t2 i2 k2) ∧ P i k a b c i2 k2 M Q
  | _ => False
def xt1 (P : Int → XM → XPo → Prop) : XSp := fun av M Q => match av with
  | [.inl a] => P a M Q
  | _ => False
def xt2 (P : Int → Int → XM → XPo → Prop) : XSp := fun av M Q => match av with
  | [.inl a, .inl b] => P a b M Q
  | _ => False
def xt3 (P : Int → Int → Int → XM → XPo → Prop) : XSp := fun av M Q => match av with
  | [.inl a, .inl b, .inl c] => P a b c M Q
  | _ => False
section
theorem XC0 {y : MethodName} {ws ws' : List Cond} {rm : Room} {cc : ByteArray} {nL : Nat} {ret : Option FieldType} (P : XPo → List (Nat × XStp)) (hy : plainName y.cls = true) (hw : ws = Cond.code y cc nL ret :: ws') (hall : ∀ Post, XAll rm cc nL y.cls ws ret Post (P Post)) {t : Nat} {S : Int → Int → XM → XPo → Prop} (hn : 1 ≤ nL) (body : ∀ (i k : Int) (M : XM) (Post : XPo), xval t i k → S i k M Post → ∀ WW : XK, XCl (xlk (P Post)) WW → WW 0 (xent nL [xR t i k]) [] M) : XCn y ws rm (xq0 t S) := by
  refine XCn.of P hy hw hall ?_ ?_
  · intro av M Post h
    simp only [xq0] at h
    split at h
    · exact hn
    · exact h.elim
  · intro av M Post h WW hC
    simp only [xq0] at h
    split at h
    next t' i k =>
      obtain ⟨⟨rfl, hv⟩, h⟩ := h
      exact body i k M Post hv h WW hC
    next => exact h.elim
theorem XC1 {y : MethodName} {ws ws' : List Cond} {rm : Room} {cc : ByteArray} {nL : Nat} {ret : Option FieldType} (P : XPo → List (Nat × XStp)) (hy : plainName y.cls = true) (hw : ws = Cond.code y cc nL ret :: ws') (hall : ∀ Post, XAll rm cc nL y.cls ws ret Post (P Post)) {t : Nat} {S : Int → Int → Int → XM → XPo → Prop} (hn : 2 ≤ nL) (body : ∀ (i k a : Int) (M : XM) (Post : XPo), xval t i k → S i k a M Post → ∀ WW : XK, XCl (xlk (P Post)) WW → WW 0 (xent nL [xR t i k, xI a]) [] M) : XCn y ws rm (xq1 t S) := by
  refine XCn.of P hy hw hall ?_ ?_
  · intro av M Post h
    simp only [xq1] at h
    split at h
    · exact hn
    · exact h.elim
  · intro av M Post h WW hC
    simp only [xq1] at h
    split at h
    next t' i k a =>
      obtain ⟨⟨rfl, hv⟩, h⟩ := h
      exact body i k a M Post hv h WW hC
    next => exact h.elim
theorem XC2 {y : MethodName} {ws ws' : List Cond} {rm : Room} {cc : ByteArray} {nL : Nat} {ret : Option FieldType} (P : XPo → List (Nat × XStp)) (hy : plainName y.cls = true) (hw : ws = Cond.code y cc nL ret :: ws') (hall : ∀ Post, XAll rm cc nL y.cls ws ret Post (P Post)) {t : Nat} {S : Int → Int → Int → Int → XM → XPo → Prop} (hn : 3 ≤ nL) (body : ∀ (i k a b : Int) (M : XM) (Post : XPo), xval t i k → S i k a b M Post → ∀ WW : XK, XCl (xlk (P Post)) WW → WW 0 (xent nL [xR t i k, xI a, xI b]) [] M) : XCn y ws rm (xq2 t S) := by
  refine XCn.of P hy hw hall ?_ ?_
  · intro av M Post h
    simp only [xq2] at h
    split at h
    · exact hn
    · exact h.elim
  · intro av M Post h WW hC
    simp only [xq2] at h
    split at h
    next t' i k a b =>
      obtain ⟨⟨rfl, hv⟩, h⟩ := h
      exact body i k a b M Post hv h WW hC
    next => exact h.elim
theorem XC3 {y : MethodName} {ws ws' : List Cond} {rm : Room} {cc : ByteArray} {nL : Nat} {ret : Option FieldType} (P : XPo → List (Nat × XStp)) (hy : plainName y.cls = true) (hw : ws = Cond.code y cc nL ret :: ws') (hall : ∀ Post, XAll rm cc nL y.cls ws ret Post (P Post)) {t : Nat} {S : Int → Int → Int → Int → Int → XM → XPo → Prop} (hn : 4 ≤ nL) (body : ∀ (i k a b c : Int) (M : XM) (Post : XPo), xval t i k → S i k a b c M Post → ∀ WW : XK, XCl (xlk (P Post)) WW → WW 0 (xent nL [xR t i k, xI a, xI b, xI c]) [] M) : XCn y ws rm (xq3 t S) := by
  refine XCn.of P hy hw hall ?_ ?_
  · intro av M Post h
    simp only [xq3] at h
    split at h
    · exact hn
    · exact h.elim
  · intro av M Post h WW hC
    simp only [xq3] at h
    split at h
    next t' i k a b c =>
      obtain ⟨⟨rfl, hv⟩, h⟩ := h
      exact body i k a b c M Post hv h WW hC
    next => exact h.elim
theorem XC4 {y : MethodName} {ws ws' : List Cond} {rm : Room} {cc : ByteArray} {nL : Nat} {ret : Option FieldType} (P : XPo → List (Nat × XStp)) (hy : plainName y.cls = true) (hw : ws = Cond.code y cc nL ret :: ws') (hall : ∀ Post, XAll rm cc nL y.cls ws ret Post (P Post)) {t : Nat} {S : Int → Int → Int → Int → Int → Int → XM → XPo → Prop} (hn : 5 ≤ nL) (body : ∀ (i k a b c d : Int) (M : XM) (Post : XPo), xval t i k → S i k a b c d M Post → ∀ WW : XK, XCl (xlk (P Post)) WW → WW 0 (xent nL [xR t i k, xI a, xI b, xI c, xI d]) [] M) : XCn y ws rm (xq4 t S) := by
  refine XCn.of P hy hw hall ?_ ?_
  · intro av M Post h
    simp only [xq4] at h
    split at h
    · exact hn
    · exact h.elim
  · intro av M Post h WW hC
    simp only [xq4] at h
    split at h
    next t' i k a b c d =>
      obtain ⟨⟨rfl, hv⟩, h⟩ := h
      exact body i k a b c d M Post hv h WW hC
    next => exact h.elim
theorem XC5 {y : MethodName} {ws ws' : List Cond} {rm : Room} {cc : ByteArray} {nL : Nat} {ret : Option FieldType} (P : XPo → List (Nat × XStp)) (hy : plainName y.cls = true) (hw : ws = Cond.code y cc nL ret :: ws') (hall : ∀ Post, XAll rm cc nL y.cls ws ret Post (P Post)) {t : Nat} {S : Int → Int → Int → Int → Int → Int → Int → XM → XPo → Prop} (hn : 6 ≤ nL) (body : ∀ (i k a b c d e : Int) (M : XM) (Post : XPo), xval t i k → S i k a b c d e M Post → ∀ WW : XK, XCl (xlk (P Post)) WW → WW 0 (xent nL [xR t i k, xI a, xI b, xI c, xI d, xI e]) [] M) : XCn y ws rm (xq5 t S) := by
  refine XCn.of P hy hw hall ?_ ?_
  · intro av M Post h
    simp only [xq5] at h
    split at h
    · exact hn
    · exact h.elim
  · intro av M Post h WW hC
    simp only [xq5] at h
    split at h
    next t' i k a b c d e =>
      obtain ⟨⟨rfl, hv⟩, h⟩ := h
      exact body i k a b c d e M Post hv h WW hC
    next => exact h.elim
theorem XCR {y : MethodName} {ws ws' : List Cond} {rm : Room} {cc : ByteArray} {nL : Nat} {ret : Option FieldType} (P : XPo → List (Nat × XStp)) (hy : plainName y.cls = true) (hw : ws = Cond.code y cc nL ret :: ws') (hall : ∀ Post, XAll rm cc nL y.cls ws ret Post (P Post)) {t t2 : Nat} {S : Int → Int → Int → Int → XM → XPo → Prop} (hn : 2 ≤ nL) (body : ∀ (i k i2 k2 : Int) (M : XM) (Post : XPo), xval t i k → xval t2 i2 k2 → S i k i2 k2 M Post → ∀ WW : XK, XCl (xlk (P Post)) WW → WW 0 (xent nL [xR t i k, xR t2 i2 k2]) [] M) : XCn y ws rm (xqR t t2 S) := by
  refine XCn.of P hy hw hall ?_ ?_
  · intro av M Post h
    simp only [xqR] at h
    split at h
    · exact hn
    · exact h.elim
  · intro av M Post h WW hC
    simp only [xqR] at h
    split at h
    next t' i k u' i2 k2 =>
      obtain ⟨⟨rfl, rfl, hv, hv2⟩, h⟩ := h
      exact body i k i2 k2 M Post hv hv2 h WW hC
    next => exact h.elim
theorem XC1R {y : MethodName} {ws ws' : List Cond} {rm : Room} {cc : ByteArray} {nL : Nat} {ret : Option FieldType} (P : XPo → List (Nat × XStp)) (hy : plainName y.cls = true) (hw : ws = Cond.code y cc nL ret :: ws') (hall : ∀ Post, XAll rm cc nL y.cls ws ret Post (P Post)) {t t2 : Nat} {S : Int → Int → Int → Int → Int → XM → XPo → Prop} (hn : 3 ≤ nL) (body : ∀ (i k a i2 k2 : Int) (M : XM) (Post : XPo), xval t i k → xval t2 i2 k2 → S i k a i2 k2 M Post → ∀ WW : XK, XCl (xlk (P Post)) WW → WW 0 (xent nL [xR t i k, xI a, xR t2 i2 k2]) [] M) : XCn y ws rm (xq1R t t2 S) := by
  refine XCn.of P hy hw hall ?_ ?_
  · intro av M Post h
    simp only [xq1R] at h
    split at h
    · exact hn
    · exact h.elim
  · intro av M Post h WW hC
    simp only [xq1R] at h
    split at h
    next t' i k a u' i2 k2 =>
      obtain ⟨⟨rfl, rfl, hv, hv2⟩, h⟩ := h
      exact body i k a i2 k2 M Post hv hv2 h WW hC
    next => exact h.elim
theorem XC3R {y : MethodName} {ws ws' : List Cond} {rm : Room} {cc : ByteArray} {nL : Nat} {ret : Option FieldType} (P : XPo → List (Nat × XStp)) (hy : plainName y.cls = true) (hw : ws = Cond.code y cc nL ret :: ws') (hall : ∀ Post, XAll rm cc nL y.cls ws ret Post (P Post)) {t t2 : Nat} {S : Int → Int → Int → Int → Int → Int → Int → XM → XPo → Prop} (hn : 5 ≤ nL) (body : ∀ (i k a b c i2 k2 : Int) (M : XM) (Post : XPo), xval t i k → xval t2 i2 k2 → S i k a b c i2 k2 M Post → ∀ WW : XK, XCl (xlk (P Post)) WW → WW 0 (xent nL [xR t i k, xI a, xI b, xI c, xR t2 i2 k2]) [] M) : XCn y ws rm (xq3R t t2 S) := by
  refine XCn.of P hy hw hall ?_ ?_
  · intro av M Post h
    simp only [xq3R] at h
    split at h
    · exact hn
    · exact h.elim
  · intro av M Post h WW hC
    simp only [xq3R] at h
    split at h
    next t' i k a b c u' i2 k2 =>
      obtain ⟨⟨rfl, rfl, hv, hv2⟩, h⟩ := h
      exact body i k a b c i2 k2 M Post hv hv2 h WW hC
    next => exact h.elim
theorem XT1 {y : MethodName} {ws ws' : List Cond} {rm : Room} {cc : ByteArray} {nL : Nat} {ret : Option FieldType} (P : XPo → List (Nat × XStp)) (hy : plainName y.cls = true) (hw : ws = Cond.code y cc nL ret :: ws') (hall : ∀ Post, XAll rm cc nL y.cls ws ret Post (P Post)) {S : Int → XM → XPo → Prop} (hn : 1 ≤ nL) (body : ∀ (a : Int) (M : XM) (Post : XPo), S a M Post → ∀ WW : XK, XCl (xlk (P Post)) WW → WW 0 (xent nL [xI a]) [] M) : XCn y ws rm (xt1 S) := by
  refine XCn.of P hy hw hall ?_ ?_
  · intro av M Post h
    simp only [xt1] at h
    split at h
    · exact hn
    · exact h.elim
  · intro av M Post h WW hC
    simp only [xt1] at h
    split at h
    next a => exact body a M Post h WW hC
    next => exact h.elim
theorem XT2 {y : MethodName} {ws ws' : List Cond} {rm : Room} {cc : ByteArray} {nL : Nat} {ret : Option FieldType} (P : XPo → List (Nat × XStp)) (hy : plainName y.cls = true) (hw : ws = Cond.code y cc nL ret :: ws') (hall : ∀ Post, XAll rm cc nL y.cls ws ret Post (P Post)) {S : Int → Int → XM → XPo → Prop} (hn : 2 ≤ nL) (body : ∀ (a b : Int) (M : XM) (Post : XPo), S a b M Post → ∀ WW : XK, XCl (xlk (P Post)) WW → WW 0 (xent nL [xI a, xI b]) [] M) : XCn y ws rm (xt2 S) := by
  refine XCn.of P hy hw hall ?_ ?_
  · intro av M Post h
    simp only [xt2] at h
    split at h
    · exact hn
    · exact h.elim
  · intro av M Post h WW hC
    simp only [xt2] at h
    split at h
    next a b => exact body a b M Post h WW hC
    next => exact h.elim
theorem XT3 {y : MethodName} {ws ws' : List Cond} {rm : Room} {cc : ByteArray} {nL : Nat} {ret : Option FieldType} (P : XPo → List (Nat × XStp)) (hy : plainName y.cls = true) (hw : ws = Cond.code y cc nL ret :: ws') (hall : ∀ Post, XAll rm cc nL y.cls ws ret Post (P Post)) {S : Int → Int → Int → XM → XPo → Prop} (hn : 3 ≤ nL) (body : ∀ (a b c : Int) (M : XM) (Post : XPo), S a b c M Post → ∀ WW : XK, XCl (xlk (P Post)) WW → WW 0 (xent nL [xI a, xI b, xI c]) [] M) : XCn y ws rm (xt3 S) := by
  refine XCn.of P hy hw hall ?_ ?_
  · intro av M Post h
    simp only [xt3] at h
    split at h
    · exact hn
    · exact h.elim
  · intro av M Post h WW hC
    simp only [xt3] at h
    split at h
    next a b c => exact body a b c M Post h WW hC
    next => exact h.elim
end
/-- symbolic running: a place in 'cut' is left standing -/
def xru (P : Nat → XStp) (cut : List Nat) (WW : XK) : Nat → XK
  | 0, pc, L, st, M => WW pc L st M
  | n + 1, pc, L, st, M => P pc pc L st M (fun pc' L' st' M' => if pc' ∈ cut then WW pc' L' st' M' else xru P cut WW n pc' L' st' M')
def xkk (P : Nat → XStp) (cut : List Nat) (WW : XK) (n : Nat) : XK := fun pc' L' st' M' => if pc' ∈ cut then WW pc' L' st' M' else xru P cut WW n pc' L' st' M'
theorem xkk_ap (P : Nat → XStp) (cut : List Nat) (WW : XK) (n pc : Nat) (L : XLs) (st : List XV) (M : XM) : xkk P cut WW n pc L st M = if pc ∈ cut then WW pc L st M else xru P cut WW n pc L st M := (rfl)
theorem xru_ok {P : Nat → XStp} {WW : XK} (hC : XCl P WW) (cut : List Nat) : ∀ (n pc : Nat) (L : XLs) (st : List XV) (M : XM), xru P cut WW n pc L st M → WW pc L st M
  | 0, _, _, _, _, h => h
  | n + 1, pc, L, st, M, h => hC.1 pc L st M _ h (fun pc' L' st' M' h' => by
    split at h'
    · exact h'
    · exact xru_ok hC cut n pc' L' st' M' h')
theorem xup_app (M : XM) (t : Nat) (i k s v : Int) (t' : Nat) (i' k' s' : Int) : xup M t i k s v t' i' k' s' = if t' = t ∧ i' = i ∧ k' = k ∧ s' = s then v else M t' i' k' s' := (rfl)
theorem xup_self (M : XM) (t : Nat) (i k s : Int) : xup M t i k s (M t i k s) = M := by
  funext t' i' k' s'
  simp only [xup]
  split
  next h => rw [h.1, h.2.1, h.2.2.1, h.2.2.2]
  next => rfl
end XL6
