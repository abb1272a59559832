/-! ===== the model: fits ===== -/
section FT
variable {L : Nat} {f : xF} {Q : List xV → xF → Prop}
theorem C_123 {u t c : Int} (hu : 0 ≤ u ∧ u < 20480) (ht : 0 ≤ t ∧ t < 20480) (hc0 : 0 ≤ c ∧ c ≤ 1000000) (hf : ∀ j, j < 20480 → 0 ≤ f 159 j ∧ f 159 j ≤ 1000000) (K1 : c < 1000000 ∧ f 159 t.toNat < 1000000 ∧ c + f 159 t.toNat = f 159 u.toNat → Q [.inl 1] f) (K0 : ¬ (c < 1000000 ∧ f 159 t.toNat < 1000000 ∧ c + f 159 t.toNat = f 159 u.toNat) → Q [.inl 0] f) : Rf (SHL L) 123 0 (xloc 123 [.inr 149, .inl u, .inl t, .inl c]) [] f Q := by
  have h1 := hf u.toNat (by omega)
  have h2 := hf t.toNat (by omega)
  refine R_il fx_123_0 rfl ?_
  refine R_push fx_123_1 ?_
  refine R_icge fx_123_3 (by omega) (fun hc => ?_) (fun hc => ?_)
  · refine R_push fx_123_38 ?_
    refine R_ret fx_123_39 (by decide) ?_
    first | exact K1 (by omega) | exact K0 (by omega)
  · refine R_al fx_123_6 rfl (by omega) ?_
    refine R_gr fx_123_7 kd_149 rfl rr_149_18 ?_
    refine R_il fx_123_10 rfl ?_
    refine R_ia fx_123_11 (Or.inl kd_159) (by omega) (by rw [ln_159]; omega) (by omega) ?_
    refine R_push fx_123_12 ?_
    refine R_icge fx_123_14 (by omega) (fun hc => ?_) (fun hc => ?_)
    · refine R_push fx_123_38 ?_
      refine R_ret fx_123_39 (by decide) ?_
      first | exact K1 (by omega) | exact K0 (by omega)
    · refine R_il fx_123_17 rfl ?_
      refine R_al fx_123_18 rfl (by omega) ?_
      refine R_gr fx_123_19 kd_149 rfl rr_149_18 ?_
      refine R_il fx_123_22 rfl ?_
      refine R_ia fx_123_23 (Or.inl kd_159) (by omega) (by rw [ln_159]; omega) (by omega) ?_
      refine R_add fx_123_24 ?_
      refine R_al fx_123_25 rfl (by omega) ?_
      refine R_gr fx_123_26 kd_149 rfl rr_149_18 ?_
      refine R_il fx_123_29 rfl ?_
      refine R_ia fx_123_30 (Or.inl kd_159) (by omega) (by rw [ln_159]; omega) (by omega) ?_
      refine R_icne fx_123_31 (by omega) (fun hc => ?_) (fun hc => ?_)
      · refine R_push fx_123_38 ?_
        refine R_ret fx_123_39 (by decide) ?_
        first | exact K1 (by omega) | exact K0 (by omega)
      · refine R_push fx_123_34 ?_
        refine R_goto fx_123_35 ?_
        refine R_ret fx_123_39 (by decide) ?_
        first | exact K1 (by omega) | exact K0 (by omega)
end FT
