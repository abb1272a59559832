/-! ===== the model: files, file ===== -/
section MT
variable {L : Nat} {f : xF} {Q : List xV → xF → Prop} {G : Nat → Int} {hi : Nat → Nat → Int} {n : Nat}
theorem C_106 {r i : Int} {j : Nat} (hr : 0 ≤ r ∧ r < 12) (hj : j ≤ 20) (hM : Mg f G) (K : ∀ f2 : xF, Mg f2 (upR G r.toNat (filed G r.toNat i j)) → (∀ c, c ≠ 150 → f2 c = f c) → Q [] f2) : Rf (SHL L) 106 0 (xloc 106 [.inr 149, .inl r, .inl i, .inl (j : Int)]) [] f Q := by
  refine R_push fx_106_0 ?_
  refine R_push fx_106_2 ?_
  refine R_il fx_106_4 rfl ?_
  refine R_mul fx_106_5 ?_
  refine R_add fx_106_6 ?_
  refine R_is fx_106_7 ?_
  refine R_al fx_106_9 rfl (by omega) ?_
  refine R_gr fx_106_10 kd_149 rfl rr_149_1 ?_
  refine R_il fx_106_13 rfl ?_
  refine R_al fx_106_15 rfl (by omega) ?_
  refine R_il fx_106_16 rfl ?_
  refine R_il fx_106_17 rfl ?_
  refine R_il fx_106_18 rfl ?_
  refine R_cv fx_106_19 rfl rfl rfl rfl kd_149 ?_
  refine C_107 (by omega) hj hM ?_
  refine R_ias fx_106_22 kd_150 (by omega) (by rw [ln_150]; omega) (by omega) ?_
  refine R_al fx_106_23 rfl (by omega) ?_
  refine R_gr fx_106_24 kd_149 rfl rr_149_1 ?_
  refine R_il fx_106_27 rfl ?_
  refine R_push fx_106_29 ?_
  refine R_add fx_106_30 ?_
  refine R_al fx_106_31 rfl (by omega) ?_
  refine R_gr fx_106_32 kd_149 rfl rr_149_1 ?_
  refine R_il fx_106_35 rfl ?_
  refine R_push fx_106_37 ?_
  refine R_add fx_106_38 ?_
  refine R_ia fx_106_39 (Or.inl kd_150) (by omega) (by rw [ln_150]; omega) (by omega) ?_
  refine R_il fx_106_40 rfl ?_
  refine R_sub fx_106_41 ?_
  refine R_ias fx_106_42 kd_150 (by omega) (by rw [ln_150]; omega) (by omega) ?_
  refine R_al fx_106_43 rfl (by omega) ?_
  refine R_gr fx_106_44 kd_149 rfl rr_149_1 ?_
  refine R_il fx_106_47 rfl ?_
  refine R_push fx_106_49 ?_
  refine R_add fx_106_50 ?_
  refine R_al fx_106_51 rfl (by omega) ?_
  refine R_gr fx_106_52 kd_149 rfl rr_149_1 ?_
  refine R_il fx_106_55 rfl ?_
  refine R_push fx_106_57 ?_
  refine R_add fx_106_58 ?_
  refine R_ia fx_106_59 (Or.inl kd_150) (by omega) (by rw [ln_150]; omega) (by omega) ?_
  refine R_il fx_106_60 rfl ?_
  refine R_sub fx_106_61 ?_
  refine R_ias fx_106_62 kd_150 (by omega) (by rw [ln_150]; omega) (by omega) ?_
  refine R_al fx_106_63 rfl (by omega) ?_
  refine R_gr fx_106_64 kd_149 rfl rr_149_1 ?_
  refine R_il fx_106_67 rfl ?_
  refine R_push fx_106_69 ?_
  refine R_add fx_106_71 ?_
  refine R_al fx_106_72 rfl (by omega) ?_
  refine R_gr fx_106_73 kd_149 rfl rr_149_1 ?_
  refine R_il fx_106_76 rfl ?_
  refine R_push fx_106_78 ?_
  refine R_add fx_106_80 ?_
  refine R_ia fx_106_81 (Or.inl kd_150) (by omega) (by rw [ln_150]; omega) (by omega) ?_
  refine R_il fx_106_82 rfl ?_
  refine R_add fx_106_83 ?_
  refine R_il fx_106_84 rfl ?_
  refine R_add fx_106_85 ?_
  refine R_ias fx_106_86 kd_150 (by omega) (by rw [ln_150]; omega) (by omega) ?_
  refine R_retv fx_106_87 rfl (K _ ⟨?_, fun q hq => ?_⟩ (fun c hc => ?_))
  · simp only [xup_a (show (149 : Nat) ≠ 150 by omega)]; exact hM.1
  · rw [show (20 + 7 * r).toNat = 20 + 7 * r.toNat by omega, show (20 + 7 * r + 1).toNat = 20 + 7 * r.toNat + 1 by omega, show (20 + 7 * r + 2).toNat = 20 + 7 * r.toNat + 2 by omega, show (20 + 7 * r + 6).toNat = 20 + 7 * r.toNat + 6 by omega]
    have h0 := hM.2 (20 + 7 * r.toNat) (by omega)
    have h1 := hM.2 (20 + 7 * r.toNat + 1) (by omega)
    have h2 := hM.2 (20 + 7 * r.toNat + 2) (by omega)
    have h6 := hM.2 (20 + 7 * r.toNat + 6) (by omega)
    by_cases h : 20 + 7 * r.toNat ≤ q ∧ q < 27 + 7 * r.toNat
    · obtain ⟨d, rfl⟩ : ∃ d, q = 20 + 7 * r.toNat + d := ⟨q - (20 + 7 * r.toNat), by omega⟩
      rw [upR_in (by omega)]
      have hq3 := hM.2 _ hq
      rcases (show d = 0 ∨ d = 1 ∨ d = 2 ∨ d = 3 ∨ d = 4 ∨ d = 5 ∨ d = 6 by omega) with rfl | rfl | rfl | rfl | rfl | rfl | rfl
      · simp [xup, filed]
      · simp [xup, filed, h1]
      · simp [xup, filed, h2]
      · simp [xup, filed, hq3]
      · simp [xup, filed, hq3]
      · simp [xup, filed, hq3]
      · simp [xup, filed, h6]; omega
    · rw [upR_out (by omega)]
      simp [xup, show q ≠ 20 + 7 * r.toNat by omega, show q ≠ 20 + 7 * r.toNat + 1 by omega, show q ≠ 20 + 7 * r.toNat + 2 by omega, show q ≠ 20 + 7 * r.toNat + 6 by omega]
      exact hM.2 q hq
  · funext z; simp [xup, hc]
theorem C_106i {r i j : Int} (hr : 0 ≤ r ∧ r < 12) (hj : 0 ≤ j ∧ j ≤ 20) (hM : Mg f G) (K : ∀ f2 : xF, Mg f2 (upR G r.toNat (filed G r.toNat i j)) → (∀ c, c ≠ 150 → f2 c = f c) → Q [] f2) : Rf (SHL L) 106 0 (xloc 106 [.inr 149, .inl r, .inl i, .inl j]) [] f Q := by
  obtain ⟨j', rfl⟩ := Int.eq_ofNat_of_zero_le hj.1
  exact C_106 hr (by omega) hM K
theorem C_104 {r i j : Int} (hV : VG G) (hr : xok r) (hi2 : xok i) (hj2 : xok j) (hM0 : Mst f G) (hK0 : Mk f n hi) (K1 : (0 ≤ r ∧ r < G 0) → G (20 + 7 * r.toNat + 3) = 0 → (0 ≤ i ∧ i ≤ G (20 + 7 * r.toNat + 2)) ∧ 0 ≤ j ∧ j < G (20 + 7 * r.toNat + 1) → ∀ f2, Dm f f2 (min (n + 1) 6) (consG G hi) (upR G r.toNat (filed G r.toNat i j)) → Q [.inl (filed G r.toNat i j 0)] f2) (K0 : ¬ ((0 ≤ r ∧ r < G 0) ∧ G (20 + 7 * r.toNat + 3) = 0 ∧ (0 ≤ i ∧ i ≤ G (20 + 7 * r.toNat + 2)) ∧ 0 ≤ j ∧ j < G (20 + 7 * r.toNat + 1)) → ∀ f2, Dm f f2 n hi G → Q [.inl (-100000)] f2) : Rf (SHL L) 104 0 (xloc 104 [.inr 149, .inl r, .inl i, .inl j]) [] f Q := by
  have h0 := hV.1
  have hR : (0 ≤ r ∧ r < G 0) → _ := fun hc => hV.2.2.2.2.2 r.toNat (by omega) (by omega)
  refine R_al fx_104_0 rfl (by omega) ?_
  refine R_push fx_104_1 ?_
  refine R_pf fx_104_2 kd_149 rfl (fun h => absurd h (by decide)) ?_
  refine R_al fx_104_5 rfl (by omega) ?_
  refine R_cv fx_104_6 rfl rfl rfl rfl kd_149 ?_
  refine C_93 hM0.told (fun f1 b1 b2 b3 => ?_)
  have hM : Mg f1 G := b1
  have hK : Mk f1 n hi := hK0.kept (by rw [b2 3 (by omega), xup_i (by omega)]) (by rw [b3 151 (by omega)]; funext i; rw [xup_a (by omega)])
  have hfr : ∀ c, (c < 149 ∨ 151 < c) → f1 c = f c := fun c hc => by rw [b3 c (by omega)]; funext i; rw [xup_a (by omega)]
  have hwt : f1 149 11 = f 149 11 := by rw [b2 11 (by omega), xup_i (by omega)]
  refine R_al fx_104_9 rfl (by omega) ?_
  refine R_il fx_104_10 rfl ?_
  refine R_cv fx_104_11 rfl rfl rfl rfl kd_149 ?_
  refine C_97 (by omega) hM (by omega) (fun hc => ?_) (fun hc => ?_)
  · refine R_ifeq fx_104_14 (by decide) (fun h => absurd h (by decide)) (fun _ => ?_)
    refine R_al fx_104_17 rfl (by omega) ?_
    refine R_il fx_104_18 rfl ?_
    refine R_cv fx_104_19 rfl rfl rfl rfl kd_149 ?_
    refine C_98 (by omega) hM (by have := (hR (by omega)).2.2.2; omega) (fun hc2 => ?_) (fun hc2 => ?_)
    · refine R_ifeq fx_104_22 (by decide) (fun h => absurd h (by decide)) (fun _ => ?_)
      refine R_al fx_104_25 rfl (by omega) ?_
      refine R_il fx_104_26 rfl ?_
      refine R_il fx_104_27 rfl ?_
      refine R_il fx_104_28 rfl ?_
      refine R_cv fx_104_29 rfl rfl rfl rfl kd_149 ?_
      refine C_105 (by omega) hi2 hj2 hM (hR (by omega)).1 (hR (by omega)).2.1 (fun hc3 => ?_) (fun hc3 => ?_)
      · refine R_ifne fx_104_32 (by decide) (fun _ => ?_) (fun h => absurd h (by decide))
        refine R_al fx_104_38 rfl (by omega) ?_
        refine R_cv fx_104_39 rfl rfl rfl rfl kd_149 ?_
        refine C_95 hM hK (fun f2 g1 g2 g3 => ?_)
        have hM2 : Mg f2 G := ⟨by rw [g2 4 (by omega)]; exact hM.1, fun i h9 => by rw [g3 150 (by omega)]; exact hM.2 i h9⟩
        refine R_al fx_104_42 rfl (by omega) ?_
        refine R_il fx_104_43 rfl ?_
        refine R_il fx_104_44 rfl ?_
        refine R_il fx_104_45 rfl ?_
        refine R_cv fx_104_46 rfl rfl rfl rfl kd_149 ?_
        refine C_106i (by omega) (by have := (hR (by omega)).1; omega) hM2 (fun f3 k1 k2 => ?_)
        refine R_al fx_104_49 rfl (by omega) ?_
        refine R_il fx_104_50 rfl ?_
        refine R_push fx_104_51 ?_
        refine R_cv fx_104_52 rfl rfl rfl rfl kd_149 ?_
        refine C_99 (by omega) (by omega) k1 (by omega) ?_
        refine R_ret fx_104_55 (Or.inl rfl) ?_
        have hz := K1 (by omega) hc2 hc3 f3 ⟨k1, g1.kept (by rw [k2 149 (by omega)]) (by rw [k2 151 (by omega)]), fun c hc => by rw [k2 c (by omega), ← hfr c hc, ← g3 c (by omega)], by rw [k2 149 (by omega), g2 11 (by omega)]; exact hwt⟩
        rw [show 20 + 7 * r.toNat + (0 : Int).toNat = 20 + 7 * r.toNat + 0 from rfl, upR_in (by omega)]
        exact hz
      · refine R_ifne fx_104_32 (by decide) (fun h => absurd h (by decide)) (fun _ => ?_)
        refine R_push fx_104_35 ?_
        refine R_ret fx_104_37 (Or.inl rfl) ?_
        exact K0 (by omega) _ ⟨hM, hK, hfr, hwt⟩
    · refine R_ifeq fx_104_22 (by decide) (fun _ => ?_) (fun h => absurd h (by decide))
      refine R_push fx_104_35 ?_
      refine R_ret fx_104_37 (Or.inl rfl) ?_
      exact K0 (by omega) _ ⟨hM, hK, hfr, hwt⟩
  · refine R_ifeq fx_104_14 (by decide) (fun _ => ?_) (fun h => absurd h (by decide))
    refine R_push fx_104_35 ?_
    refine R_ret fx_104_37 (Or.inl rfl) ?_
    exact K0 (by omega) _ ⟨hM, hK, hfr, hwt⟩
end MT
