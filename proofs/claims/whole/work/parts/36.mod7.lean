/-! ===== the model: isWanted, beats, has, tuning ===== -/
section MU
variable {L : Nat} {f : xF} {Q : List xV → xF → Prop} {G : Nat → Int} {hi : Nat → Nat → Int} {n : Nat}
theorem C_109 {s : Int} (hs : 0 ≤ s ∧ s < 8) (hM : Mg f G) (hw : xok (G (4 + s.toNat))) (K1 : G (4 + s.toNat) ≠ -1 → Q [.inl 1] f) (K0 : ¬ G (4 + s.toNat) ≠ -1 → Q [.inl 0] f) : Rf (SHL L) 109 0 (xloc 109 [.inr 149, .inl s]) [] f Q := by
  have e : f 150 (4 + s).toNat = G (4 + s.toNat) := by rw [hM.2 _ (by omega)]; congr 1; omega
  refine R_al fx_109_0 rfl (by omega) ?_
  refine R_gr fx_109_1 kd_149 rfl rr_149_1 ?_
  refine R_push fx_109_4 ?_
  refine R_il fx_109_5 rfl ?_
  refine R_add fx_109_6 ?_
  refine R_ia fx_109_7 (Or.inl kd_150) (by omega) (by rw [ln_150]; omega) (by omega) ?_
  refine R_push fx_109_8 ?_
  refine R_iceq fx_109_9 (by omega) (fun hc => ?_) (fun hc => ?_)
  · refine R_push fx_109_16 ?_
    refine R_ret fx_109_17 (by decide) ?_
    first | exact K1 (by omega) | exact K0 (by omega)
  · refine R_push fx_109_12 ?_
    refine R_goto fx_109_13 ?_
    refine R_ret fx_109_17 (by decide) ?_
    first | exact K1 (by omega) | exact K0 (by omega)
theorem C_110 {k : Int} (hk : 0 ≤ k ∧ k < 4) (hM : Mg f G) (hb : xok (G (12 + k.toNat)) ∧ xok (G (16 + k.toNat))) (K1 : G (12 + k.toNat) ≤ G (16 + k.toNat) → Q [.inl 1] f) (K0 : ¬ G (12 + k.toNat) ≤ G (16 + k.toNat) → Q [.inl 0] f) : Rf (SHL L) 110 0 (xloc 110 [.inr 149, .inl k]) [] f Q := by
  have e1 : f 150 (12 + k).toNat = G (12 + k.toNat) := by rw [hM.2 _ (by omega)]; congr 1; omega
  have e2 : f 150 (16 + k).toNat = G (16 + k.toNat) := by rw [hM.2 _ (by omega)]; congr 1; omega
  refine R_al fx_110_0 rfl (by omega) ?_
  refine R_gr fx_110_1 kd_149 rfl rr_149_1 ?_
  refine R_push fx_110_4 ?_
  refine R_il fx_110_6 rfl ?_
  refine R_add fx_110_7 ?_
  refine R_ia fx_110_8 (Or.inl kd_150) (by omega) (by rw [ln_150]; omega) (by omega) ?_
  refine R_al fx_110_9 rfl (by omega) ?_
  refine R_gr fx_110_10 kd_149 rfl rr_149_1 ?_
  refine R_push fx_110_13 ?_
  refine R_il fx_110_15 rfl ?_
  refine R_add fx_110_16 ?_
  refine R_ia fx_110_17 (Or.inl kd_150) (by omega) (by rw [ln_150]; omega) (by omega) ?_
  refine R_icgt fx_110_18 (by omega) (fun hc => ?_) (fun hc => ?_)
  · refine R_push fx_110_25 ?_
    refine R_ret fx_110_26 (by decide) ?_
    first | exact K1 (by omega) | exact K0 (by omega)
  · refine R_push fx_110_21 ?_
    refine R_goto fx_110_22 ?_
    refine R_ret fx_110_26 (by decide) ?_
    first | exact K1 (by omega) | exact K0 (by omega)
theorem C_102l {f2 : xF} {kd key : Int} (hkd : 0 ≤ kd ∧ kd ≤ 2) (hMG : ∀ i, i < 112 → f2 150 i = G i) (ht0 : ∀ s, s < 8 → f2 152 s = xnth xkeys (0 * 8 + s) 0) (ht1 : ∀ s, s < 8 → f2 153 s = xnth xkeys (1 * 8 + s) 0) (ht2 : ∀ s, s < 8 → f2 154 s = xnth xkeys (2 * 8 + s) 0) (K : ∀ g : xF, (∀ i, i < 112 → g 150 i = tunG G kd key i) → (∀ c, c ≠ 150 → g c = f2 c) → Q [.inl 1] g) : ∀ (t m : Nat) (g : xF), m + t = 8 → (∀ i, i < 112 → g 150 i = if 4 ≤ i ∧ i < 4 + m then key + xnth xkeys (kd.toNat * 8 + (i - 4)) 0 else G i) → (∀ c, c ≠ 150 → g c = f2 c) → Rf (SHL L) 102 37 [some (.inr 149), some (.inl kd), some (.inl key), some (.inl (m : Int))] [] g Q := by
    intro t
    induction t with
    | zero =>
      intro m g hmn e1 e2
      have hmj : m = 8 := by omega
      subst hmj
      refine R_il fx_102_37 rfl ?_
      refine R_push fx_102_38 ?_
      refine R_icge fx_102_40 (by omega) (fun hc => ?_) (fun hc => by omega)
      refine R_push fx_102_92 ?_
      refine R_ret fx_102_93 (by decide) (K g (fun i h9 => ?_) e2)
      rw [e1 i h9]; rfl
    | succ t ih =>
      intro m g hmn e1 e2
      rcases (show kd = 0 ∨ kd = 1 ∨ kd = 2 by omega) with rfl | rfl | rfl
      ·
        refine R_il fx_102_37 rfl ?_
        refine R_push fx_102_38 ?_
        refine R_icge fx_102_40 (by omega) (fun hc => by omega) (fun hc => ?_)
        refine R_al fx_102_43 rfl (by omega) ?_
        refine R_gr fx_102_44 kd_149 rfl rr_149_1 ?_
        refine R_push fx_102_47 ?_
        refine R_il fx_102_48 rfl ?_
        refine R_add fx_102_49 ?_
        refine R_il fx_102_50 rfl ?_
        refine R_il fx_102_51 rfl ?_
        refine R_ifne fx_102_52 (by omega) (fun hc => by omega) (fun hc => ?_)
        refine R_al fx_102_55 rfl (by omega) ?_
        refine R_gr fx_102_56 kd_149 rfl rr_149_5 ?_
        refine R_il fx_102_59 rfl ?_
        refine R_ia fx_102_60 (Or.inl kd_152) (by omega) (by rw [ln_152]; omega) (by omega) ?_
        refine R_goto fx_102_61 ?_
        refine R_add fx_102_84 ?_
        refine R_ias fx_102_85 kd_150 (by omega) (by rw [ln_150]; omega) (by omega) ?_
        refine R_inc fx_102_86 rfl ?_
        refine R_goto fx_102_89 ?_
        rw [Int.toNat_natCast, show ((4 : Int) + (m : Int)).toNat = 4 + m by omega]
        refine ih (m + 1) _ (by omega) (fun i h9 => ?_) (fun c hc => ?_)
        · by_cases e : i = 4 + m
          · subst e; rw [xup_s, e2 152 (by omega), ht0 m (by omega), if_pos (by omega)]; congr 2; omega
          · rw [xup_i e, e1 i h9]
            by_cases h4 : 4 ≤ i ∧ i < 4 + m
            · rw [if_pos h4, if_pos (by omega)]
            · rw [if_neg h4, if_neg (by omega)]
        · funext i; rw [xup_a hc]; exact congrFun (e2 c hc) i
      ·
        refine R_il fx_102_37 rfl ?_
        refine R_push fx_102_38 ?_
        refine R_icge fx_102_40 (by omega) (fun hc => by omega) (fun hc => ?_)
        refine R_al fx_102_43 rfl (by omega) ?_
        refine R_gr fx_102_44 kd_149 rfl rr_149_1 ?_
        refine R_push fx_102_47 ?_
        refine R_il fx_102_48 rfl ?_
        refine R_add fx_102_49 ?_
        refine R_il fx_102_50 rfl ?_
        refine R_il fx_102_51 rfl ?_
        refine R_ifne fx_102_52 (by omega) (fun hc => ?_) (fun hc => by omega)
        refine R_il fx_102_64 rfl ?_
        refine R_push fx_102_65 ?_
        refine R_icne fx_102_66 (by omega) (fun hc => by omega) (fun hc => ?_)
        refine R_al fx_102_69 rfl (by omega) ?_
        refine R_gr fx_102_70 kd_149 rfl rr_149_6 ?_
        refine R_il fx_102_73 rfl ?_
        refine R_ia fx_102_74 (Or.inl kd_153) (by omega) (by rw [ln_153]; omega) (by omega) ?_
        refine R_goto fx_102_75 ?_
        refine R_add fx_102_84 ?_
        refine R_ias fx_102_85 kd_150 (by omega) (by rw [ln_150]; omega) (by omega) ?_
        refine R_inc fx_102_86 rfl ?_
        refine R_goto fx_102_89 ?_
        rw [Int.toNat_natCast, show ((4 : Int) + (m : Int)).toNat = 4 + m by omega]
        refine ih (m + 1) _ (by omega) (fun i h9 => ?_) (fun c hc => ?_)
        · by_cases e : i = 4 + m
          · subst e; rw [xup_s, e2 153 (by omega), ht1 m (by omega), if_pos (by omega)]; congr 2; omega
          · rw [xup_i e, e1 i h9]
            by_cases h4 : 4 ≤ i ∧ i < 4 + m
            · rw [if_pos h4, if_pos (by omega)]
            · rw [if_neg h4, if_neg (by omega)]
        · funext i; rw [xup_a hc]; exact congrFun (e2 c hc) i
      ·
        refine R_il fx_102_37 rfl ?_
        refine R_push fx_102_38 ?_
        refine R_icge fx_102_40 (by omega) (fun hc => by omega) (fun hc => ?_)
        refine R_al fx_102_43 rfl (by omega) ?_
        refine R_gr fx_102_44 kd_149 rfl rr_149_1 ?_
        refine R_push fx_102_47 ?_
        refine R_il fx_102_48 rfl ?_
        refine R_add fx_102_49 ?_
        refine R_il fx_102_50 rfl ?_
        refine R_il fx_102_51 rfl ?_
        refine R_ifne fx_102_52 (by omega) (fun hc => ?_) (fun hc => by omega)
        refine R_il fx_102_64 rfl ?_
        refine R_push fx_102_65 ?_
        refine R_icne fx_102_66 (by omega) (fun hc => ?_) (fun hc => by omega)
        refine R_al fx_102_78 rfl (by omega) ?_
        refine R_gr fx_102_79 kd_149 rfl rr_149_7 ?_
        refine R_il fx_102_82 rfl ?_
        refine R_ia fx_102_83 (Or.inl kd_154) (by omega) (by rw [ln_154]; omega) (by omega) ?_
        refine R_add fx_102_84 ?_
        refine R_ias fx_102_85 kd_150 (by omega) (by rw [ln_150]; omega) (by omega) ?_
        refine R_inc fx_102_86 rfl ?_
        refine R_goto fx_102_89 ?_
        rw [Int.toNat_natCast, show ((4 : Int) + (m : Int)).toNat = 4 + m by omega]
        refine ih (m + 1) _ (by omega) (fun i h9 => ?_) (fun c hc => ?_)
        · by_cases e : i = 4 + m
          · subst e; rw [xup_s, e2 154 (by omega), ht2 m (by omega), if_pos (by omega)]; congr 2; omega
          · rw [xup_i e, e1 i h9]
            by_cases h4 : 4 ≤ i ∧ i < 4 + m
            · rw [if_pos h4, if_pos (by omega)]
            · rw [if_neg h4, if_neg (by omega)]
        · funext i; rw [xup_a hc]; exact congrFun (e2 c hc) i
theorem C_102 {kd key : Int} (ha : xok kd) (hb : xok key) (hM0 : Mst f G) (hK0 : Mk f n hi) (ht0 : ∀ s, s < 8 → f 152 s = xnth xkeys (0 * 8 + s) 0) (ht1 : ∀ s, s < 8 → f 153 s = xnth xkeys (1 * 8 + s) 0) (ht2 : ∀ s, s < 8 → f 154 s = xnth xkeys (2 * 8 + s) 0) (K1 : (0 ≤ kd ∧ kd ≤ 2) ∧ 0 ≤ key ∧ key ≤ 8000 → ∀ f2, Dm f f2 (min (n + 1) 6) (consG G hi) (tunG G kd key) → (∀ c, 151 < c → f2 c = f c) → Q [.inl 1] f2) (K0 : ¬ ((0 ≤ kd ∧ kd ≤ 2) ∧ 0 ≤ key ∧ key ≤ 8000) → ∀ f2, Dm f f2 n hi G → (∀ c, 151 < c → f2 c = f c) → Q [.inl 0] f2) : Rf (SHL L) 102 0 (xloc 102 [.inr 149, .inl kd, .inl key]) [] f Q := by
  refine R_al fx_102_0 rfl (by omega) ?_
  refine R_push fx_102_1 ?_
  refine R_pf fx_102_2 kd_149 rfl (fun h => absurd h (by decide)) ?_
  refine R_al fx_102_5 rfl (by omega) ?_
  refine R_cv fx_102_6 rfl rfl rfl rfl kd_149 ?_
  refine C_93 hM0.told (fun f1 b1 b2 b3 => ?_)
  have hM : Mg f1 G := b1
  have hK : Mk f1 n hi := hK0.kept (by rw [b2 3 (by omega), xup_i (by omega)]) (by rw [b3 151 (by omega)]; funext i; rw [xup_a (by omega)])
  have hfr : ∀ c, (c < 149 ∨ 151 < c) → f1 c = f c := fun c hc => by rw [b3 c (by omega)]; funext i; rw [xup_a (by omega)]
  have hwt : f1 149 11 = f 149 11 := by rw [b2 11 (by omega), xup_i (by omega)]
  refine R_il fx_102_9 rfl ?_
  refine R_iflt fx_102_10 (by omega) (fun hc => ?_) (fun hc => ?_)
  · refine R_push fx_102_29 ?_
    refine R_ret fx_102_30 (by decide) ?_
    exact K0 (by omega) _ ⟨hM, hK, hfr, hwt⟩ (fun c hc => by rw [b3 c (by omega)]; funext i; rw [xup_a (by omega)])
  · refine R_il fx_102_13 rfl ?_
    refine R_push fx_102_14 ?_
    refine R_icgt fx_102_15 (by omega) (fun hc => ?_) (fun hc => ?_)
    · refine R_push fx_102_29 ?_
      refine R_ret fx_102_30 (by decide) ?_
      exact K0 (by omega) _ ⟨hM, hK, hfr, hwt⟩ (fun c hc => by rw [b3 c (by omega)]; funext i; rw [xup_a (by omega)])
    · refine R_il fx_102_18 rfl ?_
      refine R_iflt fx_102_19 (by omega) (fun hc => ?_) (fun hc => ?_)
      · refine R_push fx_102_29 ?_
        refine R_ret fx_102_30 (by decide) ?_
        exact K0 (by omega) _ ⟨hM, hK, hfr, hwt⟩ (fun c hc => by rw [b3 c (by omega)]; funext i; rw [xup_a (by omega)])
      · refine R_il fx_102_22 rfl ?_
        refine R_push fx_102_23 ?_
        refine R_icle fx_102_26 (by omega) (fun hc => ?_) (fun hc => ?_)
        · refine R_al fx_102_31 rfl (by omega) ?_
          refine R_cv fx_102_32 rfl rfl rfl rfl kd_149 ?_
          refine C_95 hM hK (fun f2 g1 g2 g3 => ?_)
          have hM2 : Mg f2 G := ⟨by rw [g2 4 (by omega)]; exact hM.1, fun i h9 => by rw [g3 150 (by omega)]; exact hM.2 i h9⟩
          refine R_push fx_102_35 ?_
          refine R_is fx_102_36 ?_
          have hup : ∀ c, 151 < c → f2 c = f c := fun c hc => by rw [g3 c (by omega), b3 c (by omega)]; funext i; rw [xup_a (by omega)]
          refine C_102l (by omega) hM2.2 (by rw [hup 152 (by omega)]; exact ht0) (by rw [hup 153 (by omega)]; exact ht1) (by rw [hup 154 (by omega)]; exact ht2) (fun g e1 e2 => ?_) 8 0 f2 (by omega) (fun i h9 => by rw [if_neg (by omega)]; exact hM2.2 i h9) (fun _ _ => rfl)
          exact K1 (by omega) g ⟨⟨by rw [e2 149 (by omega)]; exact hM2.1, e1⟩, g1.kept (by rw [e2 149 (by omega)]) (by rw [e2 151 (by omega)]), fun c hc => by rw [e2 c (by omega), ← hfr c hc, ← g3 c (by omega)], by rw [e2 149 (by omega), g2 11 (by omega)]; exact hwt⟩ (fun c hc => by rw [e2 c (by omega)]; exact hup c hc)
        · refine R_push fx_102_29 ?_
          refine R_ret fx_102_30 (by decide) ?_
          exact K0 (by omega) _ ⟨hM, hK, hfr, hwt⟩ (fun c hc => by rw [b3 c (by omega)]; funext i; rw [xup_a (by omega)])
end MU
