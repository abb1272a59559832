/-! ===== leaves of the class ===== -/
theorem xb_m31 {x : Nat} (h : x < 2 ^ 31) : xbin 5 x 31 = some ((x % 32 : Nat) : Int) := by
  have := xb_and (x := x) (y := 31) h (by decide)
  rw [show (31 : Int) = ((31 : Nat) : Int) from rfl, this, Nat.and_two_pow_sub_one_eq_mod (n := 5)]
theorem x256 : ∀ s : Nat, s < 8 → 1 * 2 ^ s < 2 ^ 31 := by decide

def dr (t : Int) : Nat → Int
  | 0 => 0
  | n + 1 => dr t n + (t - n)
section LF
variable {L : Nat} {f : xF} {Q : List xV → xF → Prop}
theorem C_9 {x a b : Int} (hx : xok x) (ha : xok a) (hb : xok b) (K1 : a ≤ x ∧ x ≤ b → Q [.inl 1] f) (K0 : ¬ (a ≤ x ∧ x ≤ b) → Q [.inl 0] f) : Rf (SHL L) 9 0 (xloc 9 [.inl x, .inl a, .inl b]) [] f Q := by
  refine R_il fx_9_0 rfl ?_
  refine R_il fx_9_1 rfl ?_
  refine R_iclt fx_9_2 (by omega) (fun hc => ?_) (fun hc => ?_)
  · refine R_push fx_9_14 ?_
    refine R_ret fx_9_15 (by decide) ?_
    first | exact K1 (by omega) | exact K0 (by omega)
  · refine R_il fx_9_5 rfl ?_
    refine R_il fx_9_6 rfl ?_
    refine R_icgt fx_9_7 (by omega) (fun hc => ?_) (fun hc => ?_)
    · refine R_push fx_9_14 ?_
      refine R_ret fx_9_15 (by decide) ?_
      first | exact K1 (by omega) | exact K0 (by omega)
    · refine R_push fx_9_10 ?_
      refine R_goto fx_9_11 ?_
      refine R_ret fx_9_15 (by decide) ?_
      first | exact K1 (by omega) | exact K0 (by omega)
theorem C_19 {r : Int} (hr : xok r) (hm : 0 ≤ f 4 4 ∧ f 4 4 ≤ 12) (K1 : 0 ≤ r ∧ r < f 4 4 → Q [.inl 1] f) (K0 : ¬ (0 ≤ r ∧ r < f 4 4) → Q [.inl 0] f) : Rf (SHL L) 19 0 (xloc 19 [.inr 4, .inl r]) [] f Q := by
  refine R_il fx_19_0 rfl ?_
  refine R_iflt fx_19_1 (by omega) (fun hc => ?_) (fun hc => ?_)
  · refine R_push fx_19_22 ?_
    refine R_ret fx_19_23 (by decide) ?_
    first | exact K1 (by omega) | exact K0 (by omega)
  · refine R_il fx_19_4 rfl ?_
    refine R_al fx_19_5 rfl (by omega) ?_
    refine R_gf fx_19_6 kd_4 rfl ?_
    refine R_icge fx_19_9 (by omega) (fun hc => ?_) (fun hc => ?_)
    · refine R_push fx_19_22 ?_
      refine R_ret fx_19_23 (by decide) ?_
      first | exact K1 (by omega) | exact K0 (by omega)
    · refine R_il fx_19_12 rfl ?_
      refine R_push fx_19_13 ?_
      refine R_icge fx_19_15 (by omega) (fun hc => ?_) (fun hc => ?_)
      · refine R_push fx_19_22 ?_
        refine R_ret fx_19_23 (by decide) ?_
        first | exact K1 (by omega) | exact K0 (by omega)
      · refine R_push fx_19_18 ?_
        refine R_goto fx_19_19 ?_
        refine R_ret fx_19_23 (by decide) ?_
        first | exact K1 (by omega) | exact K0 (by omega)
theorem C_18 {r : Int} (hr : xok r) (hm : 0 ≤ f 4 4 ∧ f 4 4 ≤ 12) (hp : ∀ j : Nat, j < 12 → (j : Int) < f 4 4 → xok (f (9 + j) 3)) (K1 : (0 ≤ r ∧ r < f 4 4) ∧ f (9 + r.toNat) 3 = 0 → Q [.inl 1] f) (K0 : ¬ ((0 ≤ r ∧ r < f 4 4) ∧ f (9 + r.toNat) 3 = 0) → Q [.inl 0] f) : Rf (SHL L) 18 0 (xloc 18 [.inr 4, .inl r]) [] f Q := by
  refine R_al fx_18_0 rfl (by omega) ?_
  refine R_il fx_18_1 rfl ?_
  refine R_cv fx_18_2 rfl rfl rfl rfl kd_4 ?_
  refine C_19 (by omega) (by omega) (fun hc => ?_) (fun hc => ?_)
  · refine R_ifeq fx_18_5 (by decide) (fun h => absurd h (by decide)) (fun _ => ?_)
    refine R_al fx_18_8 rfl (by omega) ?_
    refine R_gr fx_18_9 kd_4 rfl rr_4_0 ?_
    refine R_il fx_18_12 rfl ?_
    refine R_aa fx_18_13 (Or.inl kd_5) (by omega) (by rw [ln_5]; omega) (by omega) (rr_reed _ (by omega)) ?_
    refine R_gf fx_18_14 (kd_reed _ (by omega)) rfl ?_
    refine R_ifne fx_18_17 (Or.inl (hp _ (by omega) (by omega))) (fun hc => ?_) (fun hc => ?_)
    · refine R_push fx_18_24 ?_
      refine R_ret fx_18_25 (by decide) ?_
      first | exact K1 (by omega) | exact K0 (by omega)
    · refine R_push fx_18_20 ?_
      refine R_goto fx_18_21 ?_
      refine R_ret fx_18_25 (by decide) ?_
      first | exact K1 (by omega) | exact K0 (by omega)
  · refine R_ifeq fx_18_5 (by decide) (fun _ => ?_) (fun h => absurd h (by decide))
    refine R_push fx_18_24 ?_
    refine R_ret fx_18_25 (by decide) ?_
    first | exact K1 (by omega) | exact K0 (by omega)
theorem C_33 {s : Int} (hs : xok s) (hw : ∀ j, j < 8 → xok (f 6 j)) (K1 : (0 ≤ s ∧ s < 8) ∧ f 6 s.toNat ≠ -1 → Q [.inl 1] f) (K0 : ¬ ((0 ≤ s ∧ s < 8) ∧ f 6 s.toNat ≠ -1) → Q [.inl 0] f) : Rf (SHL L) 33 0 (xloc 33 [.inr 4, .inl s]) [] f Q := by
  refine R_il fx_33_0 rfl ?_
  refine R_iflt fx_33_1 (by omega) (fun hc => ?_) (fun hc => ?_)
  · refine R_push fx_33_24 ?_
    refine R_ret fx_33_25 (by decide) ?_
    first | exact K1 (by omega) | exact K0 (by omega)
  · refine R_il fx_33_4 rfl ?_
    refine R_push fx_33_5 ?_
    refine R_icge fx_33_7 (by omega) (fun hc => ?_) (fun hc => ?_)
    · refine R_push fx_33_24 ?_
      refine R_ret fx_33_25 (by decide) ?_
      first | exact K1 (by omega) | exact K0 (by omega)
    · refine R_al fx_33_10 rfl (by omega) ?_
      refine R_gr fx_33_11 kd_4 rfl rr_4_1 ?_
      refine R_il fx_33_14 rfl ?_
      refine R_ia fx_33_15 (Or.inl kd_6) (by omega) (by rw [ln_6]; omega) (by omega) ?_
      refine R_push fx_33_16 ?_
      refine R_iceq fx_33_17 (Or.inl ⟨hw _ (by omega), by omega⟩) (fun hc => ?_) (fun hc => ?_)
      · refine R_push fx_33_24 ?_
        refine R_ret fx_33_25 (by decide) ?_
        first | exact K1 (by omega) | exact K0 (by omega)
      · refine R_push fx_33_20 ?_
        refine R_goto fx_33_21 ?_
        refine R_ret fx_33_25 (by decide) ?_
        first | exact K1 (by omega) | exact K0 (by omega)
theorem C_29 {k : Int} (hk : xok k) (hb : ∀ j, j < 4 → xok (f 7 j) ∧ xok (f 8 j)) (K1 : (0 ≤ k ∧ k < 4) ∧ f 7 k.toNat ≤ f 8 k.toNat → Q [.inl 1] f) (K0 : ¬ ((0 ≤ k ∧ k < 4) ∧ f 7 k.toNat ≤ f 8 k.toNat) → Q [.inl 0] f) : Rf (SHL L) 29 0 (xloc 29 [.inr 4, .inl k]) [] f Q := by
  refine R_il fx_29_0 rfl ?_
  refine R_iflt fx_29_1 (by omega) (fun hc => ?_) (fun hc => ?_)
  · refine R_push fx_29_28 ?_
    refine R_ret fx_29_29 (by decide) ?_
    first | exact K1 (by omega) | exact K0 (by omega)
  · refine R_il fx_29_4 rfl ?_
    refine R_push fx_29_5 ?_
    refine R_icge fx_29_6 (by omega) (fun hc => ?_) (fun hc => ?_)
    · refine R_push fx_29_28 ?_
      refine R_ret fx_29_29 (by decide) ?_
      first | exact K1 (by omega) | exact K0 (by omega)
    · refine R_al fx_29_9 rfl (by omega) ?_
      refine R_gr fx_29_10 kd_4 rfl rr_4_2 ?_
      refine R_il fx_29_13 rfl ?_
      refine R_ia fx_29_14 (Or.inl kd_7) (by omega) (by rw [ln_7]; omega) (by omega) ?_
      refine R_al fx_29_15 rfl (by omega) ?_
      refine R_gr fx_29_16 kd_4 rfl rr_4_3 ?_
      refine R_il fx_29_19 rfl ?_
      refine R_ia fx_29_20 (Or.inl kd_8) (by omega) (by rw [ln_8]; omega) (by omega) ?_
      refine R_icgt fx_29_21 (hb _ (by omega)) (fun hc => ?_) (fun hc => ?_)
      · refine R_push fx_29_28 ?_
        refine R_ret fx_29_29 (by decide) ?_
        first | exact K1 (by omega) | exact K0 (by omega)
      · refine R_push fx_29_24 ?_
        refine R_goto fx_29_25 ?_
        refine R_ret fx_29_29 (by decide) ?_
        first | exact K1 (by omega) | exact K0 (by omega)
theorem C_43 {k : Int} (hk : xok k) (hw : ∀ j, j < 8 → xok (f 6 j)) (K1 : (0 ≤ k ∧ k < 4) ∧ f 6 (2 * k).toNat ≠ -1 ∧ f 6 (2 * k + 1).toNat ≠ -1 → Q [.inl 1] f) (K0 : ¬ ((0 ≤ k ∧ k < 4) ∧ f 6 (2 * k).toNat ≠ -1 ∧ f 6 (2 * k + 1).toNat ≠ -1) → Q [.inl 0] f) : Rf (SHL L) 43 0 (xloc 43 [.inr 4, .inl k]) [] f Q := by
  refine R_il fx_43_0 rfl ?_
  refine R_iflt fx_43_1 (by omega) (fun hc => ?_) (fun hc => ?_)
  · refine R_push fx_43_35 ?_
    refine R_ret fx_43_36 (by decide) ?_
    first | exact K1 (by omega) | exact K0 (by omega)
  · refine R_il fx_43_4 rfl ?_
    refine R_push fx_43_5 ?_
    refine R_icge fx_43_6 (by omega) (fun hc => ?_) (fun hc => ?_)
    · refine R_push fx_43_35 ?_
      refine R_ret fx_43_36 (by decide) ?_
      first | exact K1 (by omega) | exact K0 (by omega)
    · refine R_al fx_43_9 rfl (by omega) ?_
      refine R_push fx_43_10 ?_
      refine R_il fx_43_11 rfl ?_
      refine R_mul fx_43_12 ?_
      refine R_cv fx_43_13 rfl rfl rfl rfl kd_4 ?_
      refine C_33 (by omega) hw (fun hc => ?_) (fun hc => ?_)
      · refine R_ifeq fx_43_16 (by decide) (fun h => absurd h (by decide)) (fun _ => ?_)
        refine R_al fx_43_19 rfl (by omega) ?_
        refine R_push fx_43_20 ?_
        refine R_il fx_43_21 rfl ?_
        refine R_mul fx_43_22 ?_
        refine R_push fx_43_23 ?_
        refine R_add fx_43_24 ?_
        refine R_cv fx_43_25 rfl rfl rfl rfl kd_4 ?_
        refine C_33 (by omega) hw (fun hc => ?_) (fun hc => ?_)
        · refine R_ifeq fx_43_28 (by decide) (fun h => absurd h (by decide)) (fun _ => ?_)
          refine R_push fx_43_31 ?_
          refine R_goto fx_43_32 ?_
          refine R_ret fx_43_36 (by decide) ?_
          first | exact K1 (by omega) | exact K0 (by omega)
        · refine R_ifeq fx_43_28 (by decide) (fun _ => ?_) (fun h => absurd h (by decide))
          refine R_push fx_43_35 ?_
          refine R_ret fx_43_36 (by decide) ?_
          first | exact K1 (by omega) | exact K0 (by omega)
      · refine R_ifeq fx_43_16 (by decide) (fun _ => ?_) (fun h => absurd h (by decide))
        refine R_push fx_43_35 ?_
        refine R_ret fx_43_36 (by decide) ?_
        first | exact K1 (by omega) | exact K0 (by omega)
theorem C_60 {k : Int} (hk : xok k) (hw : ∀ j, j < 8 → xok (f 6 j)) (hb : ∀ j, j < 4 → xok (f 7 j) ∧ xok (f 8 j)) (K1 : (0 ≤ k ∧ k < 4) ∧ f 7 k.toNat ≤ f 8 k.toNat ∧ f 6 (2 * k).toNat ≠ -1 ∧ f 6 (2 * k + 1).toNat ≠ -1 → Q [.inl 1] f) (K0 : ¬ ((0 ≤ k ∧ k < 4) ∧ f 7 k.toNat ≤ f 8 k.toNat ∧ f 6 (2 * k).toNat ≠ -1 ∧ f 6 (2 * k + 1).toNat ≠ -1) → Q [.inl 0] f) : Rf (SHL L) 60 0 (xloc 60 [.inr 4, .inl k]) [] f Q := by
  refine R_al fx_60_0 rfl (by omega) ?_
  refine R_il fx_60_1 rfl ?_
  refine R_cv fx_60_2 rfl rfl rfl rfl kd_4 ?_
  refine C_29 (by omega) hb (fun hc => ?_) (fun hc => ?_)
  · refine R_ifeq fx_60_5 (by decide) (fun h => absurd h (by decide)) (fun _ => ?_)
    refine R_al fx_60_8 rfl (by omega) ?_
    refine R_il fx_60_9 rfl ?_
    refine R_cv fx_60_10 rfl rfl rfl rfl kd_4 ?_
    refine C_43 (by omega) hw (fun hc => ?_) (fun hc => ?_)
    · refine R_ifeq fx_60_13 (by decide) (fun h => absurd h (by decide)) (fun _ => ?_)
      refine R_push fx_60_16 ?_
      refine R_goto fx_60_17 ?_
      refine R_ret fx_60_21 (by decide) ?_
      first | exact K1 (by omega) | exact K0 (by omega)
    · refine R_ifeq fx_60_13 (by decide) (fun _ => ?_) (fun h => absurd h (by decide))
      refine R_push fx_60_20 ?_
      refine R_ret fx_60_21 (by decide) ?_
      first | exact K1 (by omega) | exact K0 (by omega)
  · refine R_ifeq fx_60_5 (by decide) (fun _ => ?_) (fun h => absurd h (by decide))
    refine R_push fx_60_20 ?_
    refine R_ret fx_60_21 (by decide) ?_
    first | exact K1 (by omega) | exact K0 (by omega)
theorem C_38 {i j : Int} (K : Q [.inl ((i + j) * 32 + i)] f) : Rf (SHL L) 38 0 (xloc 38 [.inl i, .inl j]) [] f Q := by
  refine R_il fx_38_0 rfl ?_
  refine R_il fx_38_1 rfl ?_
  refine R_add fx_38_2 ?_
  refine R_push fx_38_3 ?_
  refine R_mul fx_38_5 ?_
  refine R_il fx_38_6 rfl ?_
  refine R_add fx_38_7 ?_
  refine R_ret fx_38_8 (Or.inl rfl) ?_
  exact K
theorem C_39 {x : Int} (h : 0 ≤ x ∧ x ≤ 2147483647) (K : Q [.inl (x / 32)] f) : Rf (SHL L) 39 0 (xloc 39 [.inl x]) [] f Q := by
  refine R_il fx_39_0 rfl ?_
  refine R_push fx_39_1 ?_
  refine R_bin fx_39_3 (xb_div (by omega) (by omega) (by omega) (by omega)) ?_
  refine R_ret fx_39_4 (Or.inl rfl) ?_
  exact K
theorem C_40 {x : Int} (h : 0 ≤ x ∧ x ≤ 2147483647) (K : Q [.inl (x % 32)] f) : Rf (SHL L) 40 0 (xloc 40 [.inl x]) [] f Q := by
  refine R_il fx_40_0 rfl ?_
  refine R_push fx_40_1 ?_
  refine R_bin fx_40_3 (xb_rem (by omega) (by omega) (by omega) (by omega)) ?_
  refine R_ret fx_40_4 (Or.inl rfl) ?_
  exact K
theorem C_41 {x : Int} (h : 0 ≤ x ∧ x ≤ 2147483647) (K : Q [.inl (x / 32 - x % 32)] f) : Rf (SHL L) 41 0 (xloc 41 [.inl x]) [] f Q := by
  refine R_il fx_41_0 rfl ?_
  refine R_push fx_41_1 ?_
  refine R_bin fx_41_3 (xb_div (by omega) (by omega) (by omega) (by omega)) ?_
  refine R_il fx_41_4 rfl ?_
  refine R_push fx_41_5 ?_
  refine R_bin fx_41_7 (xb_rem (by omega) (by omega) (by omega) (by omega)) ?_
  refine R_sub fx_41_8 ?_
  refine R_ret fx_41_9 (Or.inl rfl) ?_
  exact K
theorem C_50 {x y : Int} (h : 0 ≤ x ∧ x ≤ 2147483647) (h2 : 0 ≤ y ∧ y ≤ 2147483647) (K : Q [.inl ((((x / 32 + y / 32) * 32 + x % 32) * 32 + (x / 32 - x % 32)) * 32 + y % 32)] f) : Rf (SHL L) 50 0 (xloc 50 [.inl x, .inl y]) [] f Q := by
  refine R_il fx_50_0 rfl ?_
  refine R_cs fx_50_1 rfl rfl rfl rfl ?_
  refine C_39 (by omega) ?_
  refine R_il fx_50_4 rfl ?_
  refine R_cs fx_50_5 rfl rfl rfl rfl ?_
  refine C_39 (by omega) ?_
  refine R_add fx_50_8 ?_
  refine R_is fx_50_9 ?_
  refine R_il fx_50_10 rfl ?_
  refine R_push fx_50_11 ?_
  refine R_mul fx_50_13 ?_
  refine R_il fx_50_14 rfl ?_
  refine R_cs fx_50_15 rfl rfl rfl rfl ?_
  refine C_40 (by omega) ?_
  refine R_add fx_50_18 ?_
  refine R_is fx_50_19 ?_
  refine R_il fx_50_20 rfl ?_
  refine R_push fx_50_21 ?_
  refine R_mul fx_50_23 ?_
  refine R_il fx_50_24 rfl ?_
  refine R_cs fx_50_25 rfl rfl rfl rfl ?_
  refine C_41 (by omega) ?_
  refine R_add fx_50_28 ?_
  refine R_is fx_50_29 ?_
  refine R_il fx_50_30 rfl ?_
  refine R_push fx_50_31 ?_
  refine R_mul fx_50_33 ?_
  refine R_il fx_50_34 rfl ?_
  refine R_cs fx_50_35 rfl rfl rfl rfl ?_
  refine C_40 (by omega) ?_
  refine R_add fx_50_38 ?_
  refine R_ret fx_50_39 (Or.inl rfl) ?_
  exact K
theorem C_51 {x : Nat} (h : x < 2147483648) (K : Q [.inl ((x / 32768 : Nat) : Int)] f) : Rf (SHL L) 51 0 (xloc 51 [.inl x]) [] f Q := by
  refine R_il fx_51_0 rfl ?_
  refine R_push fx_51_1 ?_
  refine R_bin fx_51_3 (xb_shr (k := 15) (by decide) (by omega)) ?_
  refine R_ret fx_51_4 (Or.inl rfl) ?_
  exact K
theorem C_52 {x : Nat} (h : x < 2147483648) (K : Q [.inl ((x / 1024 % 32 : Nat) : Int)] f) : Rf (SHL L) 52 0 (xloc 52 [.inl x]) [] f Q := by
  refine R_il fx_52_0 rfl ?_
  refine R_push fx_52_1 ?_
  refine R_bin fx_52_3 (xb_shr (k := 10) (by decide) (by omega)) ?_
  refine R_push fx_52_4 ?_
  refine R_bin fx_52_6 (xb_m31 (by omega)) ?_
  refine R_ret fx_52_7 (Or.inl rfl) ?_
  exact K
theorem C_53 {x : Nat} (h : x < 2147483648) (K : Q [.inl ((x / 32 % 32 : Nat) : Int)] f) : Rf (SHL L) 53 0 (xloc 53 [.inl x]) [] f Q := by
  refine R_il fx_53_0 rfl ?_
  refine R_push fx_53_1 ?_
  refine R_bin fx_53_2 (xb_shr (k := 5) (by decide) (by omega)) ?_
  refine R_push fx_53_3 ?_
  refine R_bin fx_53_5 (xb_m31 (by omega)) ?_
  refine R_ret fx_53_6 (Or.inl rfl) ?_
  exact K
theorem C_54 {x : Nat} (h : x < 2147483648) (K : Q [.inl ((x % 32 : Nat) : Int)] f) : Rf (SHL L) 54 0 (xloc 54 [.inl x]) [] f Q := by
  refine R_il fx_54_0 rfl ?_
  refine R_push fx_54_1 ?_
  refine R_bin fx_54_3 (xb_m31 (by omega)) ?_
  refine R_ret fx_54_4 (Or.inl rfl) ?_
  exact K
theorem C_55 {x : Nat} (h : x < 2147483648) (K : Q [.inl (((x / 32768 : Nat) : Int) - ((x / 1024 % 32 : Nat) : Int) - ((x / 32 % 32 : Nat) : Int) - ((x % 32 : Nat) : Int))] f) : Rf (SHL L) 55 0 (xloc 55 [.inl x]) [] f Q := by
  refine R_il fx_55_0 rfl ?_
  refine R_cs fx_55_1 rfl rfl rfl rfl ?_
  refine C_51 (by omega) ?_
  refine R_il fx_55_4 rfl ?_
  refine R_cs fx_55_5 rfl rfl rfl rfl ?_
  refine C_52 (by omega) ?_
  refine R_sub fx_55_8 ?_
  refine R_il fx_55_9 rfl ?_
  refine R_cs fx_55_10 rfl rfl rfl rfl ?_
  refine C_53 (by omega) ?_
  refine R_sub fx_55_13 ?_
  refine R_il fx_55_14 rfl ?_
  refine R_cs fx_55_15 rfl rfl rfl rfl ?_
  refine C_54 (by omega) ?_
  refine R_sub fx_55_18 ?_
  refine R_ret fx_55_19 (Or.inl rfl) ?_
  exact K
theorem C_62 {s r : Int} (hs : 0 ≤ s ∧ s < 8) (hr : 0 ≤ r ∧ r < 12) (K : Q [.inl (f 143 (s * 12 + r).toNat)] f) : Rf (SHL L) 62 0 (xloc 62 [.inr 142, .inl s, .inl r]) [] f Q := by
  refine R_al fx_62_0 rfl (by omega) ?_
  refine R_gr fx_62_1 kd_142 rfl rr_142_0 ?_
  refine R_il fx_62_4 rfl ?_
  refine R_push fx_62_5 ?_
  refine R_mul fx_62_7 ?_
  refine R_il fx_62_8 rfl ?_
  refine R_add fx_62_9 ?_
  refine R_ia fx_62_10 (Or.inl kd_143) (by omega) (by rw [ln_143]; omega) (by omega) ?_
  refine R_ret fx_62_11 (Or.inl rfl) ?_
  exact K
theorem C_70 {k r q : Int} (hk : 0 ≤ k ∧ k < 4) (hr : 0 ≤ r ∧ r < 12) (hq : 0 ≤ q ∧ q < 12) (K : Q [.inl (f 144 ((k * 12 + r) * 12 + q).toNat)] f) : Rf (SHL L) 70 0 (xloc 70 [.inr 142, .inl k, .inl r, .inl q]) [] f Q := by
  refine R_al fx_70_0 rfl (by omega) ?_
  refine R_gr fx_70_1 kd_142 rfl rr_142_1 ?_
  refine R_il fx_70_4 rfl ?_
  refine R_push fx_70_5 ?_
  refine R_mul fx_70_7 ?_
  refine R_il fx_70_8 rfl ?_
  refine R_add fx_70_9 ?_
  refine R_push fx_70_10 ?_
  refine R_mul fx_70_12 ?_
  refine R_il fx_70_13 rfl ?_
  refine R_add fx_70_14 ?_
  refine R_ia fx_70_15 (Or.inl kd_144) (by omega) (by rw [ln_144]; omega) (by omega) ?_
  refine R_ret fx_70_16 (Or.inl rfl) ?_
  exact K
theorem C_71 (h : xok (f 141 6)) (K1 : f 141 6 < 268435456 → Q [.inl 1] f) (K0 : ¬ f 141 6 < 268435456 → Q [.inl 0] f) : Rf (SHL L) 71 0 (xloc 71 [.inr 141]) [] f Q := by
  refine R_al fx_71_0 rfl (by omega) ?_
  refine R_gf fx_71_1 kd_141 rfl ?_
  refine R_push fx_71_4 ?_
  refine R_icge fx_71_6 (by omega) (fun hc => ?_) (fun hc => ?_)
  · refine R_push fx_71_13 ?_
    refine R_ret fx_71_14 (by decide) ?_
    first | exact K1 (by omega) | exact K0 (by omega)
  · refine R_push fx_71_9 ?_
    refine R_goto fx_71_10 ?_
    refine R_ret fx_71_14 (by decide) ?_
    first | exact K1 (by omega) | exact K0 (by omega)
theorem C_15 (K : Q [] (xup f 141 8 0)) : Rf (SHL L) 15 0 (xloc 15 [.inr 141]) [] f Q := by
  refine R_al fx_15_0 rfl (by omega) ?_
  refine R_push fx_15_1 ?_
  refine R_pf fx_15_2 kd_141 rfl (fun _ => by omega) ?_
  refine R_retv fx_15_5 rfl ?_
  exact K
theorem C_86 {s : Nat} (hs : s < 8) (K : Q [.inl (256 + ((1 * 2 ^ s : Nat) : Int))] f) : Rf (SHL L) 86 0 (xloc 86 [.inl s]) [] f Q := by
  refine R_push fx_86_0 ?_
  refine R_push fx_86_3 ?_
  refine R_il fx_86_4 rfl ?_
  refine R_bin fx_86_5 (xb_shl (x := 1) (by omega) (x256 s hs)) ?_
  refine R_add fx_86_6 ?_
  refine R_ret fx_86_7 (Or.inl rfl) ?_
  exact K
theorem C_74 {u t c : Int} (hu : 0 ≤ u ∧ u < 4096) (ht : 0 ≤ t ∧ t < 4096) (hc0 : xok c) (hf : ∀ j, j < 4096 → 0 ≤ f 145 j ∧ f 145 j ≤ 268435456) (hs : c = 268435456 ∨ (0 ≤ c ∧ c ≤ 1000)) (K1 : c ≠ 268435456 ∧ f 145 t.toNat ≠ 268435456 ∧ c + f 145 t.toNat = f 145 u.toNat → Q [.inl 1] f) (K0 : ¬ (c ≠ 268435456 ∧ f 145 t.toNat ≠ 268435456 ∧ c + f 145 t.toNat = f 145 u.toNat) → Q [.inl 0] f) : Rf (SHL L) 74 0 (xloc 74 [.inr 141, .inl u, .inl t, .inl c]) [] f Q := by
  have h1 := hf u.toNat (by omega)
  have h2 := hf t.toNat (by omega)
  refine R_il fx_74_0 rfl ?_
  refine R_push fx_74_1 ?_
  refine R_iceq fx_74_3 (by omega) (fun hc => ?_) (fun hc => ?_)
  · refine R_push fx_74_38 ?_
    refine R_ret fx_74_39 (by decide) ?_
    first | exact K1 (by omega) | exact K0 (by omega)
  · refine R_al fx_74_6 rfl (by omega) ?_
    refine R_gr fx_74_7 kd_141 rfl rr_141_1 ?_
    refine R_il fx_74_10 rfl ?_
    refine R_ia fx_74_11 (Or.inl kd_145) (by omega) (by rw [ln_145]; omega) (by omega) ?_
    refine R_push fx_74_12 ?_
    refine R_iceq fx_74_14 (by omega) (fun hc => ?_) (fun hc => ?_)
    · refine R_push fx_74_38 ?_
      refine R_ret fx_74_39 (by decide) ?_
      first | exact K1 (by omega) | exact K0 (by omega)
    · refine R_il fx_74_17 rfl ?_
      refine R_al fx_74_18 rfl (by omega) ?_
      refine R_gr fx_74_19 kd_141 rfl rr_141_1 ?_
      refine R_il fx_74_22 rfl ?_
      refine R_ia fx_74_23 (Or.inl kd_145) (by omega) (by rw [ln_145]; omega) (by omega) ?_
      refine R_add fx_74_24 ?_
      refine R_al fx_74_25 rfl (by omega) ?_
      refine R_gr fx_74_26 kd_141 rfl rr_141_1 ?_
      refine R_il fx_74_29 rfl ?_
      refine R_ia fx_74_30 (Or.inl kd_145) (by omega) (by rw [ln_145]; omega) (by omega) ?_
      refine R_icne fx_74_31 (by omega) (fun hc => ?_) (fun hc => ?_)
      · refine R_push fx_74_38 ?_
        refine R_ret fx_74_39 (by decide) ?_
        first | exact K1 (by omega) | exact K0 (by omega)
      · refine R_push fx_74_34 ?_
        refine R_goto fx_74_35 ?_
        refine R_ret fx_74_39 (by decide) ?_
        first | exact K1 (by omega) | exact K0 (by omega)
theorem C_13 {a b : Nat} (ha : 0 < a) (hb : 0 < b) (hka : xkd (SHL L) a = 13) (hkb : xkd (SHL L) b = 13) (hab : b ≠ a) (K : ∀ f2 : xF, (∀ i, i < 7 → f2 a i = f b i) → (∀ c, c ≠ a → f2 c = f c) → Q [] f2) : Rf (SHL L) 13 0 (xloc 13 [.inr a, .inr b]) [] f Q := by
  refine R_al fx_13_0 rfl (by omega) ?_
  refine R_al fx_13_1 rfl (by omega) ?_
  refine R_gf fx_13_2 (by assumption) rfl ?_
  refine R_pf fx_13_5 (by assumption) rfl (fun h => absurd h (by decide)) ?_
  refine R_al fx_13_8 rfl (by omega) ?_
  refine R_al fx_13_9 rfl (by omega) ?_
  refine R_gf fx_13_10 (by assumption) rfl ?_
  refine R_pf fx_13_13 (by assumption) rfl (fun h => absurd h (by decide)) ?_
  refine R_al fx_13_16 rfl (by omega) ?_
  refine R_al fx_13_17 rfl (by omega) ?_
  refine R_gf fx_13_18 (by assumption) rfl ?_
  refine R_pf fx_13_21 (by assumption) rfl (fun h => absurd h (by decide)) ?_
  refine R_al fx_13_24 rfl (by omega) ?_
  refine R_al fx_13_25 rfl (by omega) ?_
  refine R_gf fx_13_26 (by assumption) rfl ?_
  refine R_pf fx_13_29 (by assumption) rfl (fun h => absurd h (by decide)) ?_
  refine R_al fx_13_32 rfl (by omega) ?_
  refine R_al fx_13_33 rfl (by omega) ?_
  refine R_gf fx_13_34 (by assumption) rfl ?_
  refine R_pf fx_13_37 (by assumption) rfl (fun h => absurd h (by decide)) ?_
  refine R_al fx_13_40 rfl (by omega) ?_
  refine R_al fx_13_41 rfl (by omega) ?_
  refine R_gf fx_13_42 (by assumption) rfl ?_
  refine R_pf fx_13_45 (by assumption) rfl (fun h => absurd h (by decide)) ?_
  refine R_al fx_13_48 rfl (by omega) ?_
  refine R_al fx_13_49 rfl (by omega) ?_
  refine R_gf fx_13_50 (by assumption) rfl ?_
  refine R_pf fx_13_53 (by assumption) rfl (fun h => absurd h (by decide)) ?_
  refine R_retv fx_13_56 rfl ?_
  exact K _ (fun i hi => by rcases (show i = 0 ∨ i = 1 ∨ i = 2 ∨ i = 3 ∨ i = 4 ∨ i = 5 ∨ i = 6 by omega) with rfl | rfl | rfl | rfl | rfl | rfl | rfl <;> simp [xup, hab]) (fun c hc => by funext i; simp [xup, hc])
theorem C_16 {a : Nat} {p t q : Int} (ha : 0 < a) (hka : xkd (SHL L) a = 13) (K : ∀ f2 : xF, (f2 a 0 = p ∧ f2 a 1 = t ∧ f2 a 2 = q ∧ f2 a 3 = 0 ∧ f2 a 4 = -1 ∧ f2 a 5 = -1 ∧ f2 a 6 = 0) → (∀ c, c ≠ a → f2 c = f c) → Q [] f2) : Rf (SHL L) 16 0 (xloc 16 [.inr a, .inl p, .inl t, .inl q]) [] f Q := by
  refine R_al fx_16_0 rfl (by omega) ?_
  refine R_il fx_16_1 rfl ?_
  refine R_pf fx_16_2 (by assumption) rfl (fun h => absurd h (by decide)) ?_
  refine R_al fx_16_5 rfl (by omega) ?_
  refine R_il fx_16_6 rfl ?_
  refine R_pf fx_16_7 (by assumption) rfl (fun h => absurd h (by decide)) ?_
  refine R_al fx_16_10 rfl (by omega) ?_
  refine R_il fx_16_11 rfl ?_
  refine R_pf fx_16_12 (by assumption) rfl (fun h => absurd h (by decide)) ?_
  refine R_al fx_16_15 rfl (by omega) ?_
  refine R_push fx_16_16 ?_
  refine R_pf fx_16_17 (by assumption) rfl (fun h => absurd h (by decide)) ?_
  refine R_al fx_16_20 rfl (by omega) ?_
  refine R_push fx_16_21 ?_
  refine R_pf fx_16_22 (by assumption) rfl (fun h => absurd h (by decide)) ?_
  refine R_al fx_16_25 rfl (by omega) ?_
  refine R_push fx_16_26 ?_
  refine R_pf fx_16_27 (by assumption) rfl (fun h => absurd h (by decide)) ?_
  refine R_al fx_16_30 rfl (by omega) ?_
  refine R_push fx_16_31 ?_
  refine R_pf fx_16_32 (by assumption) rfl (fun h => absurd h (by decide)) ?_
  refine R_retv fx_16_35 rfl ?_
  exact K _ (by simp [xup]) (fun c hc => by funext i; simp [xup, hc])
theorem C_80 {a : Nat} {p s : Int} (ha : 0 < a) (hka : xkd (SHL L) a = 13) (K : Q [] (xup (xup (xup f a 3 1) a 4 p) a 5 s)) : Rf (SHL L) 80 0 (xloc 80 [.inr a, .inl p, .inl s]) [] f Q := by
  refine R_al fx_80_0 rfl (by omega) ?_
  refine R_push fx_80_1 ?_
  refine R_pf fx_80_2 (by assumption) rfl (fun h => absurd h (by decide)) ?_
  refine R_al fx_80_5 rfl (by omega) ?_
  refine R_il fx_80_6 rfl ?_
  refine R_pf fx_80_7 (by assumption) rfl (fun h => absurd h (by decide)) ?_
  refine R_al fx_80_10 rfl (by omega) ?_
  refine R_il fx_80_11 rfl ?_
  refine R_pf fx_80_12 (by assumption) rfl (fun h => absurd h (by decide)) ?_
  refine R_retv fx_80_15 rfl ?_
  exact K
theorem C_25 {a : Nat} {i j : Int} (ha : 0 < a) (hka : xkd (SHL L) a = 13) (hi : xok i) (hj : xok j) (h1 : 1 ≤ f a 1 ∧ f a 1 ≤ 20) (h2 : 0 ≤ f a 2 ∧ f a 2 ≤ 20) (K1 : (0 ≤ i ∧ i ≤ f a 2) ∧ 0 ≤ j ∧ j < f a 1 → Q [.inl 1] f) (K0 : ¬ ((0 ≤ i ∧ i ≤ f a 2) ∧ 0 ≤ j ∧ j < f a 1) → Q [.inl 0] f) : Rf (SHL L) 25 0 (xloc 25 [.inr a, .inl i, .inl j]) [] f Q := by
  refine R_il fx_25_0 rfl ?_
  refine R_push fx_25_1 ?_
  refine R_al fx_25_2 rfl (by omega) ?_
  refine R_gf fx_25_3 (by assumption) rfl ?_
  refine R_cs fx_25_6 rfl rfl rfl rfl ?_
  refine C_9 (by omega) (by omega) (by omega) (fun hc => ?_) (fun hc => ?_)
  · refine R_ifeq fx_25_9 (by decide) (fun h => absurd h (by decide)) (fun _ => ?_)
    refine R_il fx_25_12 rfl ?_
    refine R_push fx_25_13 ?_
    refine R_al fx_25_14 rfl (by omega) ?_
    refine R_gf fx_25_15 (by assumption) rfl ?_
    refine R_push fx_25_18 ?_
    refine R_sub fx_25_19 ?_
    refine R_cs fx_25_20 rfl rfl rfl rfl ?_
    refine C_9 (by omega) (by omega) (by omega) (fun hc => ?_) (fun hc => ?_)
    · refine R_ifeq fx_25_23 (by decide) (fun h => absurd h (by decide)) (fun _ => ?_)
      refine R_push fx_25_26 ?_
      refine R_goto fx_25_27 ?_
      refine R_ret fx_25_31 (by decide) ?_
      first | exact K1 (by omega) | exact K0 (by omega)
    · refine R_ifeq fx_25_23 (by decide) (fun _ => ?_) (fun h => absurd h (by decide))
      refine R_push fx_25_30 ?_
      refine R_ret fx_25_31 (by decide) ?_
      first | exact K1 (by omega) | exact K0 (by omega)
  · refine R_ifeq fx_25_9 (by decide) (fun _ => ?_) (fun h => absurd h (by decide))
    refine R_push fx_25_30 ?_
    refine R_ret fx_25_31 (by decide) ?_
    first | exact K1 (by omega) | exact K0 (by omega)
theorem C_26 {a j : Nat} {i ri : Int} (ha : 0 < a) (hka : xkd (SHL L) a = 13) (hj : j < 100000) (K : ∀ f2 : xF, (f2 a 0 = f a 0 + i * ri - dr (f a 1) j ∧ f2 a 1 = f a 1 - j ∧ f2 a 2 = f a 2 - i ∧ f2 a 3 = f a 3 ∧ f2 a 4 = f a 4 ∧ f2 a 5 = f a 5 ∧ f2 a 6 = f a 6 + (i + j)) → (∀ c, c ≠ a → f2 c = f c) → Q [] f2) : Rf (SHL L) 26 0 (xloc 26 [.inr a, .inl i, .inl (j : Int), .inl ri]) [] f Q := by
  have loop : ∀ (n m : Nat) (g : xF), m + n = j → g a 0 = f a 0 + i * ri - dr (f a 1) m → g a 1 = f a 1 - m → g a 2 = f a 2 - i → g a 3 = f a 3 → g a 4 = f a 4 → g a 5 = f a 5 → g a 6 = f a 6 → (∀ c, c ≠ a → g c = f c) → Rf (SHL L) 26 25 [some (.inr a), some (.inl i), some (.inl (j : Int)), some (.inl ri), some (.inl (m : Int))] [] g Q := by
    intro n
    induction n with
    | zero =>
      intro m g hm e0 e1 e2 e3 e4 e5 e6 ec
      have hmj : m = j := by omega
      subst hmj
      refine R_il fx_26_25 rfl ?_
      refine R_il fx_26_27 rfl ?_
      refine R_icge fx_26_28 (by omega) (fun hc => ?_) (fun hc => by omega)
      refine R_al fx_26_60 rfl (by omega) ?_
      refine R_dup fx_26_61 ?_
      refine R_gf fx_26_62 (by assumption) rfl ?_
      refine R_il fx_26_65 rfl ?_
      refine R_il fx_26_66 rfl ?_
      refine R_add fx_26_67 ?_
      refine R_add fx_26_68 ?_
      refine R_pf fx_26_69 (by assumption) rfl (fun h => absurd h (by decide)) ?_
      refine R_retv fx_26_72 rfl ?_
      exact K _ ⟨by simp [xup, e0], by simp [xup, e1], by simp [xup, e2], by simp [xup, e3], by simp [xup, e4], by simp [xup, e5], by simp [xup, e6]⟩ (fun c hc => by funext z; simp [xup, hc, ec c hc])
    | succ n ih =>
      intro m g hm e0 e1 e2 e3 e4 e5 e6 ec
      refine R_il fx_26_25 rfl ?_
      refine R_il fx_26_27 rfl ?_
      refine R_icge fx_26_28 (by omega) (fun hc => by omega) (fun hc => ?_)
      refine R_al fx_26_31 rfl (by omega) ?_
      refine R_dup fx_26_32 ?_
      refine R_gf fx_26_33 (by assumption) rfl ?_
      refine R_al fx_26_36 rfl (by omega) ?_
      refine R_gf fx_26_37 (by assumption) rfl ?_
      refine R_sub fx_26_40 ?_
      refine R_pf fx_26_41 (by assumption) rfl (fun h => absurd h (by decide)) ?_
      refine R_al fx_26_44 rfl (by omega) ?_
      refine R_dup fx_26_45 ?_
      refine R_gf fx_26_46 (by assumption) rfl ?_
      refine R_push fx_26_49 ?_
      refine R_sub fx_26_50 ?_
      refine R_pf fx_26_51 (by assumption) rfl (fun h => absurd h (by decide)) ?_
      refine R_inc fx_26_54 rfl ?_
      refine R_goto fx_26_57 ?_
      refine ih (m + 1) _ (by omega) ?_ ?_ ?_ ?_ ?_ ?_ ?_ ?_
      · simp [xup, e0, e1, dr]; omega
      · simp [xup, e1]; omega
      · simp [xup, e2]
      · simp [xup, e3]
      · simp [xup, e4]
      · simp [xup, e5]
      · simp [xup, e6]
      · intro c hc; funext z; simp [xup, hc, ec c hc]
  refine R_al fx_26_0 rfl (by omega) ?_
  refine R_dup fx_26_1 ?_
  refine R_gf fx_26_2 (by assumption) rfl ?_
  refine R_il fx_26_5 rfl ?_
  refine R_il fx_26_6 rfl ?_
  refine R_mul fx_26_7 ?_
  refine R_add fx_26_8 ?_
  refine R_pf fx_26_9 (by assumption) rfl (fun h => absurd h (by decide)) ?_
  refine R_al fx_26_12 rfl (by omega) ?_
  refine R_dup fx_26_13 ?_
  refine R_gf fx_26_14 (by assumption) rfl ?_
  refine R_il fx_26_17 rfl ?_
  refine R_sub fx_26_18 ?_
  refine R_pf fx_26_19 (by assumption) rfl (fun h => absurd h (by decide)) ?_
  refine R_push fx_26_22 ?_
  refine R_is fx_26_23 ?_
  refine loop j 0 _ (by omega) ?_ ?_ ?_ ?_ ?_ ?_ ?_ ?_
  · simp [xup, dr]
  · simp [xup]
  · simp [xup]
  · simp [xup]
  · simp [xup]
  · simp [xup]
  · simp [xup]
  · intro c hc; funext z; simp [xup, hc]
end LF
