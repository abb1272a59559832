/-! ===== leaves of the class ===== -/
section LF
variable {L : Nat} {f : xF} {Q : List xV → xF → Prop}
theorem C_9 {x a b : Int} (hx : xok x) (ha : xok a) (hb : xok b) (K1 : a ≤ x ∧ x ≤ b → Q [.inl 1] f) (K0 : ¬ (a ≤ x ∧ x ≤ b) → Q [.inl 0] f) : Rf (SHL L) 9 0 (xloc 9 [.inl x, .inl a, .inl b]) [] f Q := by
  refine R_il fx_9_0 rfl ?_
  refine R_il fx_9_1 rfl ?_
  refine R_iclt fx_9_2 (by omega) (fun hc => ?_) (fun hc => ?_)
  · refine R_push fx_9_14 ?_
    refine R_ret fx_9_15 (by decide) ?_
    first | exact K1 (by omega) | exact K0 (by omega)
  · refine R_il fx_9_5 rfl ?_
    refine R_il fx_9_6 rfl ?_
    refine R_icgt fx_9_7 (by omega) (fun hc => ?_) (fun hc => ?_)
    · refine R_push fx_9_14 ?_
      refine R_ret fx_9_15 (by decide) ?_
      first | exact K1 (by omega) | exact K0 (by omega)
    · refine R_push fx_9_10 ?_
      refine R_goto fx_9_11 ?_
      refine R_ret fx_9_15 (by decide) ?_
      first | exact K1 (by omega) | exact K0 (by omega)
theorem C_19 {r : Int} (hr : xok r) (hm : 0 ≤ f 4 4 ∧ f 4 4 ≤ 12) (K1 : 0 ≤ r ∧ r < f 4 4 → Q [.inl 1] f) (K0 : ¬ (0 ≤ r ∧ r < f 4 4) → Q [.inl 0] f) : Rf (SHL L) 19 0 (xloc 19 [.inr 4, .inl r]) [] f Q := by
  refine R_il fx_19_0 rfl ?_
  refine R_iflt fx_19_1 (by omega) (fun hc => ?_) (fun hc => ?_)
  · refine R_push fx_19_22 ?_
    refine R_ret fx_19_23 (by decide) ?_
    first | exact K1 (by omega) | exact K0 (by omega)
  · refine R_il fx_19_4 rfl ?_
    refine R_al fx_19_5 rfl (by omega) ?_
    refine R_gf fx_19_6 kd_4 rfl ?_
    refine R_icge fx_19_9 (by omega) (fun hc => ?_) (fun hc => ?_)
    · refine R_push fx_19_22 ?_
      refine R_ret fx_19_23 (by decide) ?_
      first | exact K1 (by omega) | exact K0 (by omega)
    · refine R_il fx_19_12 rfl ?_
      refine R_push fx_19_13 ?_
      refine R_icge fx_19_15 (by omega) (fun hc => ?_) (fun hc => ?_)
      · refine R_push fx_19_22 ?_
        refine R_ret fx_19_23 (by decide) ?_
        first | exact K1 (by omega) | exact K0 (by omega)
      · refine R_push fx_19_18 ?_
        refine R_goto fx_19_19 ?_
        refine R_ret fx_19_23 (by decide) ?_
        first | exact K1 (by omega) | exact K0 (by omega)
theorem C_18 {r : Int} (hr : xok r) (hm : 0 ≤ f 4 4 ∧ f 4 4 ≤ 12) (hp : ∀ j, j < 12 → xok (f (9 + j) 3)) (K1 : (0 ≤ r ∧ r < f 4 4) ∧ f (9 + r.toNat) 3 = 0 → Q [.inl 1] f) (K0 : ¬ ((0 ≤ r ∧ r < f 4 4) ∧ f (9 + r.toNat) 3 = 0) → Q [.inl 0] f) : Rf (SHL L) 18 0 (xloc 18 [.inr 4, .inl r]) [] f Q := by
  refine R_al fx_18_0 rfl (by omega) ?_
  refine R_il fx_18_1 rfl ?_
  refine R_cv fx_18_2 rfl rfl rfl rfl kd_4 ?_
  refine C_19 (by omega) (by omega) (fun hc => ?_) (fun hc => ?_)
  · refine R_ifeq fx_18_5 (by decide) (fun h => absurd h (by decide)) (fun _ => ?_)
    refine R_al fx_18_8 rfl (by omega) ?_
    refine R_gr fx_18_9 kd_4 rfl rr_4_0 ?_
    refine R_il fx_18_12 rfl ?_
    refine R_aa fx_18_13 (by decide) (by omega) (by rw [ln_5]; omega) (by omega) (rr_reed _ (by omega)) ?_
    refine R_gf fx_18_14 (kd_reed _ (by omega)) rfl ?_
    refine R_ifne fx_18_17 (Or.inl (hp _ (by omega))) (fun hc => ?_) (fun hc => ?_)
    · refine R_push fx_18_24 ?_
      refine R_ret fx_18_25 (by decide) ?_
      first | exact K1 (by omega) | exact K0 (by omega)
    · refine R_push fx_18_20 ?_
      refine R_goto fx_18_21 ?_
      refine R_ret fx_18_25 (by decide) ?_
      first | exact K1 (by omega) | exact K0 (by omega)
  · refine R_ifeq fx_18_5 (by decide) (fun _ => ?_) (fun h => absurd h (by decide))
    refine R_push fx_18_24 ?_
    refine R_ret fx_18_25 (by decide) ?_
    first | exact K1 (by omega) | exact K0 (by omega)
theorem C_33 {s : Int} (hs : xok s) (hw : ∀ j, j < 8 → xok (f 6 j)) (K1 : (0 ≤ s ∧ s < 8) ∧ f 6 s.toNat ≠ -1 → Q [.inl 1] f) (K0 : ¬ ((0 ≤ s ∧ s < 8) ∧ f 6 s.toNat ≠ -1) → Q [.inl 0] f) : Rf (SHL L) 33 0 (xloc 33 [.inr 4, .inl s]) [] f Q := by
  refine R_il fx_33_0 rfl ?_
  refine R_iflt fx_33_1 (by omega) (fun hc => ?_) (fun hc => ?_)
  · refine R_push fx_33_24 ?_
    refine R_ret fx_33_25 (by decide) ?_
    first | exact K1 (by omega) | exact K0 (by omega)
  · refine R_il fx_33_4 rfl ?_
    refine R_push fx_33_5 ?_
    refine R_icge fx_33_7 (by omega) (fun hc => ?_) (fun hc => ?_)
    · refine R_push fx_33_24 ?_
      refine R_ret fx_33_25 (by decide) ?_
      first | exact K1 (by omega) | exact K0 (by omega)
    · refine R_al fx_33_10 rfl (by omega) ?_
      refine R_gr fx_33_11 kd_4 rfl rr_4_1 ?_
      refine R_il fx_33_14 rfl ?_
      refine R_ia fx_33_15 (Or.inl kd_6) (by omega) (by rw [ln_6]; omega) (by omega) ?_
      refine R_push fx_33_16 ?_
      refine R_iceq fx_33_17 (Or.inl ⟨hw _ (by omega), by omega⟩) (fun hc => ?_) (fun hc => ?_)
      · refine R_push fx_33_24 ?_
        refine R_ret fx_33_25 (by decide) ?_
        first | exact K1 (by omega) | exact K0 (by omega)
      · refine R_push fx_33_20 ?_
        refine R_goto fx_33_21 ?_
        refine R_ret fx_33_25 (by decide) ?_
        first | exact K1 (by omega) | exact K0 (by omega)
end LF
