/-! ===== arithmetic of the pure machine ===== -/
theorem xo_nI {x : Int} (h : 0 ≤ x) : Int32.ofInt x = nI x.toNat := by
  unfold nI
  rw [← Int32.ofInt_eq_ofNat]
  congr 1
  omega
theorem xo_nat (n : Nat) : Int32.ofInt (n : Int) = nI n := by rw [xo_nI (by omega)]; rfl
theorem xb_div {x y : Int} (h0 : 0 ≤ x) (h1 : x ≤ 2147483647) (h2 : 0 < y) (h3 : y ≤ 2147483647) : xbin 3 x y = some (x / y) := by
  have hy : ¬ (Int32.ofInt y) = 0 := by rw [xo_nI (by omega)]; exact nI_ne0 (by omega) (by omega)
  have e : xbin 3 x y = if (Int32.ofInt y) = 0 then none else some (Int32.ofInt x / Int32.ofInt y).toInt := rfl
  rw [e, if_neg hy, xo_nI h0, xo_nI (show 0 ≤ y by omega), pk_div (by omega) (by omega) (by omega), nI_toInt (Nat.lt_of_le_of_lt (Nat.div_le_self _ _) (by omega))]
  congr 1
  rw [Int.natCast_ediv, Int.toNat_of_nonneg h0, Int.toNat_of_nonneg (by omega)]
theorem xb_rem {x y : Int} (h0 : 0 ≤ x) (h1 : x ≤ 2147483647) (h2 : 0 < y) (h3 : y ≤ 2147483647) : xbin 4 x y = some (x % y) := by
  have hy : ¬ (Int32.ofInt y) = 0 := by rw [xo_nI (by omega)]; exact nI_ne0 (by omega) (by omega)
  have e : xbin 4 x y = if (Int32.ofInt y) = 0 then none else some (Int32.ofInt x - Int32.ofInt x / Int32.ofInt y * Int32.ofInt y).toInt := rfl
  rw [e, if_neg hy, xo_nI h0, xo_nI (show 0 ≤ y by omega), pk_rem (by omega) (by omega) (by omega), nI_toInt (Nat.lt_of_le_of_lt (Nat.mod_le _ _) (by omega))]
  congr 1
  rw [Int.natCast_emod, Int.toNat_of_nonneg h0, Int.toNat_of_nonneg (by omega)]
theorem xo_toNat {n : Nat} (h : n < 2 ^ 31) : (nI n).toBitVec.toNat = n := pk_tn (by omega)
theorem xi_of_bv {z : Int32} {n : Nat} (h : z.toBitVec.toNat = n) (hn : n < 2 ^ 31) : z.toInt = n := by
  have : z = nI n := by
    apply Int32.toBitVec_inj.mp
    apply BitVec.eq_of_toNat_eq
    rw [h, xo_toNat hn]
  rw [this, nI_toInt hn]
theorem xb_and {x y : Nat} (h1 : x < 2 ^ 31) (h2 : y < 2 ^ 31) : xbin 5 x y = some ((x &&& y : Nat) : Int) := by
  have e : xbin 5 x y = some (Int32.ofInt x &&& Int32.ofInt y).toInt := rfl
  rw [e, xo_nat, xo_nat, xi_of_bv (n := x &&& y) ?_ (Nat.lt_of_le_of_lt Nat.and_le_left h1)]
  rw [Int32.toBitVec_and, BitVec.toNat_and, xo_toNat h1, xo_toNat h2]
theorem xb_or {x y : Nat} (h1 : x < 2 ^ 31) (h2 : y < 2 ^ 31) : xbin 6 x y = some ((x ||| y : Nat) : Int) := by
  have e : xbin 6 x y = some (Int32.ofInt x ||| Int32.ofInt y).toInt := rfl
  rw [e, xo_nat, xo_nat, xi_of_bv (n := x ||| y) ?_ (Nat.or_lt_two_pow h1 h2)]
  rw [Int32.toBitVec_or, BitVec.toNat_or, xo_toNat h1, xo_toNat h2]
theorem xb_xor {x y : Nat} (h1 : x < 2 ^ 31) (h2 : y < 2 ^ 31) : xbin 7 x y = some ((x ^^^ y : Nat) : Int) := by
  have e : xbin 7 x y = some (Int32.ofInt x ^^^ Int32.ofInt y).toInt := rfl
  rw [e, xo_nat, xo_nat, xi_of_bv (n := x ^^^ y) ?_ (Nat.xor_lt_two_pow h1 h2)]
  rw [Int32.toBitVec_xor, BitVec.toNat_xor, xo_toNat h1, xo_toNat h2]
theorem xs_and : ∀ k : Nat, k < 32 → ((nI k &&& 31).toBitVec.smod 32).toNat = k := by decide +kernel
theorem xs_and2 : ∀ k : Nat, k < 32 → nI k &&& 31 = nI k := by decide +kernel
theorem xb_shl {x k : Nat} (hk : k < 32) (h : x * 2 ^ k < 2 ^ 31) : xbin 8 x k = some ((x * 2 ^ k : Nat) : Int) := by
  have e : xbin 8 x k = some (Int32.ofInt x <<< (Int32.ofInt k &&& 31)).toInt := rfl
  rw [e, xo_nat, xo_nat, pk_shlN _ k (xs_and k hk) (by omega), nI_toInt h]
theorem xb_shr {x k : Nat} (hk : k < 32) (h : x < 2 ^ 31) : xbin 9 x k = some ((x / 2 ^ k : Nat) : Int) := by
  have e : xbin 9 x k = some (Int32.ofInt x >>> (Int32.ofInt k &&& 31)).toInt := rfl
  rw [e, xo_nat, xo_nat, pk_shrN h _ k (xs_and k hk), nI_toInt (Nat.lt_of_le_of_lt (Nat.div_le_self _ _) h)]
theorem xs_ush : ∀ k : Nat, k < 32 → (((nI k).toUInt32 &&& Int32.toUInt32 31).toBitVec % 32).toNat = k := by decide +kernel
theorem xb_ushr {x k : Nat} (hk : k < 32) (h : x < 2 ^ 31) : xbin 10 x k = some ((x / 2 ^ k : Nat) : Int) := by
  have e : xbin 10 x k = some ((Int32.ofInt x).toUInt32 >>> ((Int32.ofInt k).toUInt32 &&& Int32.toUInt32 31)).toInt32.toInt := rfl
  rw [e, xo_nat, xo_nat, pk_ushrN (by omega) _ k (xs_ush k hk), nI_toInt (Nat.lt_of_le_of_lt (Nat.div_le_self _ _) h)]
theorem xb_not (x : Int) : xbin 7 x (-1) = some (Int32.ofInt (-x - 1)).toInt := by
  have e : xbin 7 x (-1) = some (Int32.ofInt x ^^^ Int32.ofInt (-1)).toInt := rfl
  rw [e]
  congr 2
  rw [show Int32.ofInt (-x - 1) = -(Int32.ofInt x) - 1 by rw [Int32.ofInt_sub, Int32.ofInt_neg]; rfl]
  rw [show (Int32.ofInt (-1)) = -1 from rfl]
  rw [show Int32.ofInt x ^^^ -1 = ~~~ (Int32.ofInt x) by rw [Int32.xor_neg_one]]
  rw [Int32.not_eq_neg_sub]
/-- x less the bits of y -/
theorem xb_andn {x y : Nat} (h1 : x < 2 ^ 31) (h2 : y < 2 ^ 31) : xbin 5 x (Int32.ofInt (-(y : Int) - 1)).toInt = some ((x ^^^ (x &&& y) : Nat) : Int) := by
  have e : xbin 5 x (Int32.ofInt (-(y : Int) - 1)).toInt = some (Int32.ofInt x &&& Int32.ofInt (Int32.ofInt (-(y : Int) - 1)).toInt).toInt := rfl
  have e2 : Int32.ofInt (-(y : Int) - 1) = ~~~ (nI y) := by
    rw [Int32.ofInt_sub, Int32.ofInt_neg, xo_nat, Int32.not_eq_neg_sub]; rfl
  rw [e, Int32.ofInt_toInt, e2, xo_nat]
  have hlt : x ^^^ (x &&& y) < 2 ^ 31 := Nat.xor_lt_two_pow h1 (Nat.lt_of_le_of_lt Nat.and_le_left h1)
  rw [xi_of_bv (n := x ^^^ (x &&& y)) ?_ hlt]
  rw [Int32.toBitVec_and, Int32.toBitVec_not, BitVec.toNat_and]
  apply Nat.eq_of_testBit_eq
  intro i
  rw [Nat.testBit_and, Nat.testBit_xor, Nat.testBit_and]
  have hb : (~~~ (nI y).toBitVec).toNat.testBit i = (decide (i < 32) && !(y.testBit i)) := by
    rw [← BitVec.getLsbD, BitVec.getLsbD_not, BitVec.getLsbD, xo_toNat h2]
  rw [hb, xo_toNat h1]
  by_cases hi : i < 32
  · simp [hi]
    cases x.testBit i <;> cases y.testBit i <;> rfl
  · have : x.testBit i = false := Nat.testBit_lt_two_pow (Nat.lt_of_lt_of_le h1 (Nat.pow_le_pow_right (by omega) (by omega)))
    simp [this]
