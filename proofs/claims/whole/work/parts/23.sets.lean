/-! ===== sets; the calls that only look or set ===== -/
def bset (p : Nat → Bool) : Nat → Nat
  | 0 => 0
  | n + 1 => if p n then bset p n + 2 ^ n else bset p n
theorem bset_lt (p : Nat → Bool) : ∀ n, bset p n < 2 ^ n
  | 0 => Nat.one_pos
  | n + 1 => by
    have := bset_lt p n
    unfold bset
    rw [Nat.pow_succ]
    split <;> omega
theorem bset_or (p : Nat → Bool) (n : Nat) : bset p n ||| 1 * 2 ^ n = bset p n + 2 ^ n := by
  rw [Nat.one_mul, Nat.or_comm]
  have := Nat.two_pow_add_eq_or_of_lt (bset_lt p n) 1
  rw [Nat.mul_one] at this
  rw [← this]; omega
theorem bset_bit (p : Nat → Bool) : ∀ n i, (bset p n).testBit i = (decide (i < n) && p i)
  | 0, i => by simp [bset]
  | n + 1, i => by
    have ih := bset_bit p n i
    have hl := bset_lt p n
    unfold bset
    split
    · rename_i hp
      rw [Nat.add_comm]
      by_cases h : i = n
      · subst h
        rw [Nat.testBit_two_pow_add_eq]
        have : (bset p i).testBit i = false := Nat.testBit_lt_two_pow hl
        simp [this, hp]
      · by_cases h2 : i < n
        · rw [Nat.testBit_two_pow_add_gt h2, ih]; simp [h2, Nat.lt_succ_of_lt h2]
        · have h3 : n + 1 ≤ i := by omega
          have : 2 ^ n + bset p n < 2 ^ i := Nat.lt_of_lt_of_le (by rw [Nat.pow_succ]; omega) (Nat.pow_le_pow_right (by omega) h3)
          rw [Nat.testBit_lt_two_pow this]
          simp [show ¬ i < n + 1 by omega]
    · rename_i hp
      rw [ih]
      by_cases h : i = n
      · subst h; simp [hp]
      · by_cases h2 : i < n
        · simp [h2, Nat.lt_succ_of_lt h2]
        · simp [h2, show ¬ i < n + 1 by omega]
theorem x2p : ∀ m : Nat, m < 12 → 2 ^ m ≤ 2048 := by decide
section SE
variable {L : Nat} {f : xF} {Q : List xV → xF → Prop}
end SE
def frp (f : xF) (r : Nat) : Bool := decide ((r : Int) < f 4 4 ∧ f (9 + r) 3 = 0)
def wsp (f : xF) (s : Nat) : Bool := decide (f 6 s ≠ -1)
section SE2
variable {L : Nat} {f : xF} {Q : List xV → xF → Prop}
theorem C_30 (hm : 0 ≤ f 4 4 ∧ f 4 4 ≤ 12) (hp : ∀ j : Nat, j < 12 → (j : Int) < f 4 4 → xok (f (9 + j) 3)) (K : Q [.inl ((bset (frp f) 12 : Nat) : Int)] f) : Rf (SHL L) 30 0 (xloc 30 [.inr 4]) [] f Q := by
  have loop : ∀ (n m : Nat), m + n = 12 → Rf (SHL L) 30 4 [some (.inr 4), some (.inl ((bset (frp f) m : Nat) : Int)), some (.inl (m : Int))] [] f Q := by
    intro n
    induction n with
    | zero =>
      intro m hmn
      have hmj : m = 12 := by omega
      subst hmj
      refine R_il fx_30_4 rfl ?_
      refine R_push fx_30_5 ?_
      refine R_icge fx_30_7 (by omega) (fun hc => ?_) (fun hc => by omega)
      refine R_il fx_30_30 rfl ?_
      refine R_ret fx_30_31 (Or.inl rfl) ?_
      exact K
    | succ n ih =>
      intro m hmn
      have hb := bset_lt (frp f) m
      have hm2 := x2p m (by omega)
      have ih1 : frp f m = true → Rf (SHL L) 30 4 [some (.inr 4), some (.inl ((bset (frp f) m ||| 1 * 2 ^ m : Nat) : Int)), some (.inl ((m : Int) + 1))] [] f Q := fun hq => by
        have := ih (m + 1) (by omega)
        rw [show bset (frp f) (m + 1) = bset (frp f) m ||| 1 * 2 ^ m by rw [bset_or]; simp [bset, hq]] at this
        exact this
      have ih0 : ¬ frp f m = true → Rf (SHL L) 30 4 [some (.inr 4), some (.inl ((bset (frp f) m : Nat) : Int)), some (.inl ((m : Int) + 1))] [] f Q := fun hq => by
        have := ih (m + 1) (by omega)
        rw [show bset (frp f) (m + 1) = bset (frp f) m by simp [bset, hq]] at this
        exact this
      refine R_il fx_30_4 rfl ?_
      refine R_push fx_30_5 ?_
      refine R_icge fx_30_7 (by omega) (fun hc => by omega) (fun hc => ?_)
      refine R_al fx_30_10 rfl (by omega) ?_
      refine R_il fx_30_11 rfl ?_
      refine R_cv fx_30_12 rfl rfl rfl rfl kd_4 ?_
      refine C_18 (by omega) hm hp (fun hc => ?_) (fun hc => ?_)
      · refine R_ifeq fx_30_15 (by decide) (fun h => absurd h (by decide)) (fun _ => ?_)
        refine R_il fx_30_18 rfl ?_
        refine R_push fx_30_19 ?_
        refine R_il fx_30_20 rfl ?_
        refine R_bin fx_30_21 (xb_shl (x := 1) (by omega) (by omega)) ?_
        refine R_bin fx_30_22 (xb_or (by omega) (by omega)) ?_
        refine R_is fx_30_23 ?_
        refine R_inc fx_30_24 rfl ?_
        refine R_goto fx_30_27 ?_
        simp only [Int.toNat_natCast] at hc
        first | exact ih1 (by simp only [frp, decide_eq_true_eq]; omega) | exact ih0 (by simp only [frp, decide_eq_true_eq]; omega)
      · refine R_ifeq fx_30_15 (by decide) (fun _ => ?_) (fun h => absurd h (by decide))
        refine R_inc fx_30_24 rfl ?_
        refine R_goto fx_30_27 ?_
        simp only [Int.toNat_natCast] at hc
        first | exact ih1 (by simp only [frp, decide_eq_true_eq]; omega) | exact ih0 (by simp only [frp, decide_eq_true_eq]; omega)
  refine R_push fx_30_0 ?_
  refine R_is fx_30_1 ?_
  refine R_push fx_30_2 ?_
  refine R_is fx_30_3 ?_
  exact loop 12 0 (by omega)
theorem C_32 (hw : ∀ j, j < 8 → xok (f 6 j)) (K : Q [.inl ((bset (wsp f) 8 : Nat) : Int)] f) : Rf (SHL L) 32 0 (xloc 32 [.inr 4]) [] f Q := by
  have loop : ∀ (n m : Nat), m + n = 8 → Rf (SHL L) 32 4 [some (.inr 4), some (.inl ((bset (wsp f) m : Nat) : Int)), some (.inl (m : Int))] [] f Q := by
    intro n
    induction n with
    | zero =>
      intro m hmn
      have hmj : m = 8 := by omega
      subst hmj
      refine R_il fx_32_4 rfl ?_
      refine R_push fx_32_5 ?_
      refine R_icge fx_32_7 (by omega) (fun hc => ?_) (fun hc => by omega)
      refine R_il fx_32_30 rfl ?_
      refine R_ret fx_32_31 (Or.inl rfl) ?_
      exact K
    | succ n ih =>
      intro m hmn
      have hb := bset_lt (wsp f) m
      have hm2 := x2p m (by omega)
      have ih1 : wsp f m = true → Rf (SHL L) 32 4 [some (.inr 4), some (.inl ((bset (wsp f) m ||| 1 * 2 ^ m : Nat) : Int)), some (.inl ((m : Int) + 1))] [] f Q := fun hq => by
        have := ih (m + 1) (by omega)
        rw [show bset (wsp f) (m + 1) = bset (wsp f) m ||| 1 * 2 ^ m by rw [bset_or]; simp [bset, hq]] at this
        exact this
      have ih0 : ¬ wsp f m = true → Rf (SHL L) 32 4 [some (.inr 4), some (.inl ((bset (wsp f) m : Nat) : Int)), some (.inl ((m : Int) + 1))] [] f Q := fun hq => by
        have := ih (m + 1) (by omega)
        rw [show bset (wsp f) (m + 1) = bset (wsp f) m by simp [bset, hq]] at this
        exact this
      refine R_il fx_32_4 rfl ?_
      refine R_push fx_32_5 ?_
      refine R_icge fx_32_7 (by omega) (fun hc => by omega) (fun hc => ?_)
      refine R_al fx_32_10 rfl (by omega) ?_
      refine R_il fx_32_11 rfl ?_
      refine R_cv fx_32_12 rfl rfl rfl rfl kd_4 ?_
      refine C_33 (by omega) hw (fun hc => ?_) (fun hc => ?_)
      · refine R_ifeq fx_32_15 (by decide) (fun h => absurd h (by decide)) (fun _ => ?_)
        refine R_il fx_32_18 rfl ?_
        refine R_push fx_32_19 ?_
        refine R_il fx_32_20 rfl ?_
        refine R_bin fx_32_21 (xb_shl (x := 1) (by omega) (by omega)) ?_
        refine R_bin fx_32_22 (xb_or (by omega) (by omega)) ?_
        refine R_is fx_32_23 ?_
        refine R_inc fx_32_24 rfl ?_
        refine R_goto fx_32_27 ?_
        simp only [Int.toNat_natCast] at hc
        first | exact ih1 (by simp only [wsp, decide_eq_true_eq]; omega) | exact ih0 (by simp only [wsp, decide_eq_true_eq]; omega)
      · refine R_ifeq fx_32_15 (by decide) (fun _ => ?_) (fun h => absurd h (by decide))
        refine R_inc fx_32_24 rfl ?_
        refine R_goto fx_32_27 ?_
        simp only [Int.toNat_natCast] at hc
        first | exact ih1 (by simp only [wsp, decide_eq_true_eq]; omega) | exact ih0 (by simp only [wsp, decide_eq_true_eq]; omega)
  refine R_push fx_32_0 ?_
  refine R_is fx_32_1 ?_
  refine R_push fx_32_2 ?_
  refine R_is fx_32_3 ?_
  exact loop 8 0 (by omega)
end SE2
