/-! the steps, and that each is sound -/
section XL2
def XInR (x : Int) : Prop := -2147483648 ≤ x ∧ x ≤ 2147483647
def j_c (n : Int) (len : Nat) : XStp := fun pc L st M K => K (pc + len) L (xI n :: st) M
def j_cJ (n : Int) (len : Nat) : XStp := fun pc L st M K => K (pc + len) L (xJ n :: st) M
def j_ild (i len : Nat) : XStp := fun pc L st M K => match xget L i with
  | some (.inl x) => K (pc + len) L (xI x :: st) M
  | _ => False
def j_ald (i len : Nat) : XStp := fun pc L st M K => match xget L i with
  | some (.inr (.inl (some o))) => K (pc + len) L (Sum.inr (Sum.inl (some o)) :: st) M
  | _ => False
def j_lld (i len : Nat) : XStp := fun pc L st M K => match xget L i with
  | some (.inr (.inr (.inl x))) => K (pc + len) L (xJ x :: st) M
  | _ => False
def j_ist (i len : Nat) : XStp := fun pc L st M K => match st with
  | .inl x :: st => K (pc + len) (xset L i (xI x)) st M
  | _ => False
def j_ast (i len : Nat) : XStp := fun pc L st M K => match st with
  | .inr (.inl (some o)) :: st => K (pc + len) (xset L i (Sum.inr (Sum.inl (some o)))) st M
  | _ => False
def j_lst (i len : Nat) : XStp := fun pc L st M K => match st with
  | .inr (.inr (.inl x)) :: st => K (pc + len) (xset2 L i (xJ x)) st M
  | _ => False
def j_inc (i : Nat) (n : Int) : XStp := fun pc L st M K => match xget L i with
  | some (.inl x) => K (pc + 3) (xset L i (xI (x + n))) st M
  | _ => False
def j_bin (f : Int → Int → Int) : XStp := fun pc L st M K => match st with
  | .inl b :: .inl a :: st => K (pc + 1) L (xI (f a b) :: st) M
  | _ => False
def j_add : XStp := fun pc L st M K => match st with
  | .inl b :: .inl a :: st => K (pc + 1) L (xI (a + b) :: st) M
  | _ => False
def j_sub : XStp := fun pc L st M K => match st with
  | .inl b :: .inl a :: st => K (pc + 1) L (xI (a - b) :: st) M
  | _ => False
def j_mul : XStp := fun pc L st M K => match st with
  | .inl b :: .inl a :: st => K (pc + 1) L (xI (a * b) :: st) M
  | _ => False
def j_neg : XStp := fun pc L st M K => match st with
  | .inl a :: st => K (pc + 1) L (xI (-a) :: st) M
  | _ => False
def j_div : XStp := fun pc L st M K => match st with
  | .inl b :: .inl a :: st => (0 ≤ a ∧ a ≤ 2147483647 ∧ 0 < b ∧ b ≤ 2147483647) ∧ K (pc + 1) L (xI (a / b) :: st) M
  | _ => False
def j_rem : XStp := fun pc L st M K => match st with
  | .inl b :: .inl a :: st => (0 ≤ a ∧ a ≤ 2147483647 ∧ 0 < b ∧ b ≤ 2147483647) ∧ K (pc + 1) L (xI (a % b) :: st) M
  | _ => False
/-- & with 2^k - 1 -/
def j_and (w : Int) : XStp := fun pc L st M K => match st with
  | .inl b :: .inl a :: st => b + 1 = w ∧ K (pc + 1) L (xI (a % w) :: st) M
  | _ => False
def j_shr : XStp := fun pc L st M K => match st with
  | .inl b :: .inl a :: st => (XInR a ∧ 0 ≤ b ∧ b < 31) ∧ K (pc + 1) L (xI (a / 2 ^ b.toNat) :: st) M
  | _ => False
def j_shl1 : XStp := fun pc L st M K => match st with
  | .inl b :: .inl a :: st => (a = 1 ∧ 0 ≤ b ∧ b < 31) ∧ K (pc + 1) L (xI (2 ^ b.toNat) :: st) M
  | _ => False
/-- | of a number below 2^k and of 0 or 2^k -/
def j_or : XStp := fun pc L st M K => match st with
  | .inl b :: .inl a :: st => (b = 0 ∨ ∃ k : Nat, k < 31 ∧ b = 2 ^ k ∧ 0 ≤ a ∧ a < 2 ^ k) ∧ K (pc + 1) L (xI (a + b) :: st) M
  | _ => False
def j_ladd : XStp := fun pc L st M K => match st with
  | .inr (.inr (.inl b)) :: .inr (.inr (.inl a)) :: st => K (pc + 1) L (xJ (a + b) :: st) M
  | _ => False
def j_lsub : XStp := fun pc L st M K => match st with
  | .inr (.inr (.inl b)) :: .inr (.inr (.inl a)) :: st => K (pc + 1) L (xJ (a - b) :: st) M
  | _ => False
def j_lmul : XStp := fun pc L st M K => match st with
  | .inr (.inr (.inl b)) :: .inr (.inr (.inl a)) :: st => K (pc + 1) L (xJ (a * b) :: st) M
  | _ => False
def j_i2l : XStp := fun pc L st M K => match st with
  | .inl a :: st => XInR a ∧ K (pc + 1) L (xJ a :: st) M
  | _ => False
/-- two longs that are equal -/
def j_lcmp : XStp := fun pc L st M K => match st with
  | .inr (.inr (.inl b)) :: .inr (.inr (.inl a)) :: st => a = b ∧ K (pc + 1) L (xI 0 :: st) M
  | _ => False
def j_i2c : XStp := fun pc L st M K => match st with
  | .inl a :: st => (0 ≤ a ∧ a < 65536) ∧ K (pc + 1) L (xI a :: st) M
  | _ => False
def j_dup : XStp := fun pc L st M K => match st with
  | v :: st => xc1 v = 1 ∧ K (pc + 1) L (v :: v :: st) M
  | _ => False
def j_dup2 : XStp := fun pc L st M K => match st with
  | v :: w :: st => (xc1 v = 1 ∧ xc1 w = 1) ∧ K (pc + 1) L (v :: w :: v :: w :: st) M
  | _ => False
def j_pop : XStp := fun pc L st M K => match st with
  | v :: st => xc1 v = 1 ∧ K (pc + 1) L st M
  | _ => False
def j_goto (t : Nat) : XStp := fun _ L st M K => K t L st M
def j_ieq (t : Nat) : XStp := fun pc L st M K => match st with
  | .inl b :: .inl a :: st => (XInR a ∧ XInR b) ∧ (a = b → K t L st M) ∧ (¬ a = b → K (pc + 3) L st M)
  | _ => False
def j_ine (t : Nat) : XStp := fun pc L st M K => match st with
  | .inl b :: .inl a :: st => (XInR a ∧ XInR b) ∧ (¬ a = b → K t L st M) ∧ (a = b → K (pc + 3) L st M)
  | _ => False
def j_ilt (t : Nat) : XStp := fun pc L st M K => match st with
  | .inl b :: .inl a :: st => (XInR a ∧ XInR b) ∧ (a < b → K t L st M) ∧ (¬ a < b → K (pc + 3) L st M)
  | _ => False
def j_ige (t : Nat) : XStp := fun pc L st M K => match st with
  | .inl b :: .inl a :: st => (XInR a ∧ XInR b) ∧ (b ≤ a → K t L st M) ∧ (¬ b ≤ a → K (pc + 3) L st M)
  | _ => False
def j_igt (t : Nat) : XStp := fun pc L st M K => match st with
  | .inl b :: .inl a :: st => (XInR a ∧ XInR b) ∧ (b < a → K t L st M) ∧ (¬ b < a → K (pc + 3) L st M)
  | _ => False
def j_ile (t : Nat) : XStp := fun pc L st M K => match st with
  | .inl b :: .inl a :: st => (XInR a ∧ XInR b) ∧ (a ≤ b → K t L st M) ∧ (¬ a ≤ b → K (pc + 3) L st M)
  | _ => False
def j_eq (t : Nat) : XStp := fun pc L st M K => match st with
  | .inl a :: st => XInR a ∧ (a = 0 → K t L st M) ∧ (¬ a = 0 → K (pc + 3) L st M)
  | _ => False
def j_ne (t : Nat) : XStp := fun pc L st M K => match st with
  | .inl a :: st => XInR a ∧ (¬ a = 0 → K t L st M) ∧ (a = 0 → K (pc + 3) L st M)
  | _ => False
def j_lt (t : Nat) : XStp := fun pc L st M K => match st with
  | .inl a :: st => XInR a ∧ (a < 0 → K t L st M) ∧ (¬ a < 0 → K (pc + 3) L st M)
  | _ => False
def j_ge (t : Nat) : XStp := fun pc L st M K => match st with
  | .inl a :: st => XInR a ∧ (0 ≤ a → K t L st M) ∧ (¬ 0 ≤ a → K (pc + 3) L st M)
  | _ => False
def j_gt (t : Nat) : XStp := fun pc L st M K => match st with
  | .inl a :: st => XInR a ∧ (0 < a → K t L st M) ∧ (¬ 0 < a → K (pc + 3) L st M)
  | _ => False
def j_le (t : Nat) : XStp := fun pc L st M K => match st with
  | .inl a :: st => XInR a ∧ (a ≤ 0 → K t L st M) ∧ (¬ a ≤ 0 → K (pc + 3) L st M)
  | _ => False
/-- a tableswitch: its first number, its places, the place of all others -/
def xsw (L : XLs) (st : List XV) (M : XM) (K : XK) (x : Int) : Int → List Nat → Prop
  | _, [] => True
  | n, t :: ts => (x = n → K t L st M) ∧ xsw L st M K x (n + 1) ts
def j_tsw (lo : Int) (ts : List Nat) (hi : Int) (d : Nat) : XStp := fun _ L st M K => match st with
  | .inl x :: st => XInR x ∧ xsw L st M K x lo ts ∧ (x < lo ∨ hi < x → K d L st M)
  | _ => False
/-- fields -/
def j_gI (t : Nat) (s : Int) : XStp := fun pc L st M K => match st with
  | .inr (.inl (some (t', i, k))) :: st => t' = t ∧ xval t i k ∧ K (pc + 3) L (xI (M t i k s) :: st) M
  | _ => False
def j_gJ (t : Nat) (s : Int) : XStp := fun pc L st M K => match st with
  | .inr (.inl (some (t', i, k))) :: st => t' = t ∧ xval t i k ∧ K (pc + 3) L (xJ (M t i k s) :: st) M
  | _ => False
def j_gR (t : Nat) (g : Int → Int → XOb) : XStp := fun pc L st M K => match st with
  | .inr (.inl (some (t', i, k))) :: st => t' = t ∧ xval t i k ∧ K (pc + 3) L (Sum.inr (Sum.inl (some (g i k))) :: st) M
  | _ => False
def j_pI (t : Nat) (s : Int) : XStp := fun pc L st M K => match st with
  | .inl v :: .inr (.inl (some (t', i, k))) :: st => t' = t ∧ xval t i k ∧ K (pc + 3) L st (xup M t i k s v)
  | _ => False
def j_pJ (t : Nat) (s : Int) : XStp := fun pc L st M K => match st with
  | .inr (.inr (.inl v)) :: .inr (.inl (some (t', i, k))) :: st => t' = t ∧ xval t i k ∧ K (pc + 3) L st (xup M t i k s v)
  | _ => False
def j_gs (t : Nat) : XStp := fun pc L st M K => K (pc + 3) L (xR t 0 0 :: st) M
/-- rows -/
def xrow (t : Nat) (i k : Int) : Prop := ((t = 31 ∨ t = 34) ∧ i = 0 ∧ k = 0) ∨ (t < 30 ∧ 0 < xlen t ∧ xval t i k)
def xrd (M : XM) (t : Nat) (i k j : Int) : Int := if t < 30 then M t i k j else (xst t).getD j.toNat 0
def j_iald : XStp := fun pc L st M K => match st with
  | .inl j :: .inr (.inl (some (t, i, k))) :: st => (xrow t i k ∧ 0 ≤ j ∧ j < xlen t) ∧ K (pc + 1) L (xI (xrd M t i k j) :: st) M
  | _ => False
def j_iast : XStp := fun pc L st M K => match st with
  | .inl v :: .inl j :: .inr (.inl (some (t, i, k))) :: st => ((t < 30 ∧ 0 < xlen t ∧ xval t i k) ∧ 0 ≤ j ∧ j < xlen t) ∧ K (pc + 1) L st (xup M t i k j v)
  | _ => False
def j_cald : XStp := fun pc L st M K => match st with
  | .inl j :: .inr (.inl (some (t, i, k))) :: st => (t = 17 ∧ i = 0 ∧ k = 0 ∧ 0 ≤ j ∧ j < 60) ∧ K (pc + 1) L (xI (M 17 0 0 j) :: st) M
  | _ => False
def j_cast : XStp := fun pc L st M K => match st with
  | .inl v :: .inl j :: .inr (.inl (some (t, i, k))) :: st => (t = 17 ∧ i = 0 ∧ k = 0 ∧ 0 ≤ j ∧ j < 60 ∧ 0 ≤ v ∧ v < 65536) ∧ K (pc + 1) L st (xup M 17 0 0 j v)
  | _ => False
/-- rows of references: 5 kitchens, 6 lorries, 7 units, 16 saved films -/
def j_aald : XStp := fun pc L st M K => match st with
  | .inl j :: .inr (.inl (some (t, i, k))) :: st => match t with
    | 5 => (xval 5 i k ∧ 0 ≤ j ∧ j < 3) ∧ K (pc + 1) L (xR 8 i j :: st) M
    | 6 => (xval 6 i k ∧ 0 ≤ j ∧ j < 4) ∧ K (pc + 1) L (xR 13 i j :: st) M
    | 7 => (xval 7 i k ∧ 0 ≤ j ∧ j < 12) ∧ K (pc + 1) L (xR 14 i j :: st) M
    | 16 => (xval 16 i k ∧ 0 ≤ j ∧ j < 6) ∧ K (pc + 1) L (xR 1 (j + 2) 0 :: st) M
    | _ => False
  | _ => False
/-- a whole row copied -/
def j_cpy : XStp := fun pc L st M K => match st with
  | .inl n :: .inl d :: .inr (.inl (some (t2, i2, k2))) :: .inl b :: .inr (.inl (some (t, i, k))) :: st => (t2 = t ∧ t < 30 ∧ 0 < xlen t ∧ xval t i k ∧ xval t i2 k2 ∧ b = 0 ∧ d = 0 ∧ n = xlen t ∧ xcat st ≤ 4) ∧ K (pc + 3) L st (xcp M t i k i2 k2)
  | _ => False
def j_min : XStp := fun pc L st M K => match st with
  | .inl b :: .inl a :: st => (XInR a ∧ XInR b ∧ xcat st ≤ 8) ∧ K (pc + 3) L (xI (min a b) :: st) M
  | _ => False
def j_max : XStp := fun pc L st M K => match st with
  | .inl b :: .inl a :: st => (XInR a ∧ XInR b ∧ xcat st ≤ 8) ∧ K (pc + 3) L (xI (max a b) :: st) M
  | _ => False
def j_abs : XStp := fun pc L st M K => match st with
  | .inl a :: st => (XInR a ∧ xcat st ≤ 8) ∧ K (pc + 3) L (xI (if 0 ≤ a then a else 0 - a) :: st) M
  | _ => False
/-- ends -/
def j_iret (Post : XPo) : XStp := fun _ _ st M _ => match st with
  | [.inl x] => Post [xI x] M
  | _ => False
def j_zret (Post : XPo) : XStp := fun _ _ st M _ => match st with
  | [.inl x] => (x = 0 ∨ x = 1) ∧ Post [xI x] M
  | _ => False
def j_lret (Post : XPo) : XStp := fun _ _ st M _ => match st with
  | [.inr (.inr (.inl x))] => Post [xJ x] M
  | _ => False
def j_dret (Post : XPo) : XStp := fun _ _ st M _ => match st with
  | [.inr (.inr (.inr x))] => Post [xF x] M
  | _ => False
def j_ret0 (Post : XPo) : XStp := fun _ _ st M _ => match st with
  | [] => Post [] M
  | _ => False
/-- calls -/
def j_V0 (t : Nat) (sp : XSp) : XStp := fun pc L st M K => match st with
  | .inr (.inl (some (t', i, k))) :: st => (t' = t ∧ xval t i k ∧ xcat st ≤ 8) ∧ sp [xR t i k] M (fun rv M' => K (pc + 3) L (rv ++ st) M')
  | _ => False
def j_V1 (t : Nat) (sp : XSp) : XStp := fun pc L st M K => match st with
  | a :: .inr (.inl (some (t', i, k))) :: st => (t' = t ∧ xval t i k ∧ xcat st ≤ 8) ∧ sp [xR t i k, a] M (fun rv M' => K (pc + 3) L (rv ++ st) M')
  | _ => False
def j_V2 (t : Nat) (sp : XSp) : XStp := fun pc L st M K => match st with
  | b :: a :: .inr (.inl (some (t', i, k))) :: st => (t' = t ∧ xval t i k ∧ xcat st ≤ 8) ∧ sp [xR t i k, a, b] M (fun rv M' => K (pc + 3) L (rv ++ st) M')
  | _ => False
def j_V3 (t : Nat) (sp : XSp) : XStp := fun pc L st M K => match st with
  | c :: b :: a :: .inr (.inl (some (t', i, k))) :: st => (t' = t ∧ xval t i k ∧ xcat st ≤ 8) ∧ sp [xR t i k, a, b, c] M (fun rv M' => K (pc + 3) L (rv ++ st) M')
  | _ => False
def j_V4 (t : Nat) (sp : XSp) : XStp := fun pc L st M K => match st with
  | d :: c :: b :: a :: .inr (.inl (some (t', i, k))) :: st => (t' = t ∧ xval t i k ∧ xcat st ≤ 8) ∧ sp [xR t i k, a, b, c, d] M (fun rv M' => K (pc + 3) L (rv ++ st) M')
  | _ => False
def j_V5 (t : Nat) (sp : XSp) : XStp := fun pc L st M K => match st with
  | f :: d :: c :: b :: a :: .inr (.inl (some (t', i, k))) :: st => (t' = t ∧ xval t i k ∧ xcat st ≤ 8) ∧ sp [xR t i k, a, b, c, d, f] M (fun rv M' => K (pc + 3) L (rv ++ st) M')
  | _ => False
def j_S1 (sp : XSp) : XStp := fun pc L st M K => match st with
  | a :: st => xcat st ≤ 8 ∧ sp [a] M (fun rv M' => K (pc + 3) L (rv ++ st) M')
  | _ => False
def j_S2 (sp : XSp) : XStp := fun pc L st M K => match st with
  | b :: a :: st => xcat st ≤ 8 ∧ sp [a, b] M (fun rv M' => K (pc + 3) L (rv ++ st) M')
  | _ => False
def j_S3 (sp : XSp) : XStp := fun pc L st M K => match st with
  | c :: b :: a :: st => xcat st ≤ 8 ∧ sp [a, b, c] M (fun rv M' => K (pc + 3) L (rv ++ st) M')
  | _ => False
end XL2
