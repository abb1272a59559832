/-! ===== the model: calls that set ===== -/
theorem Mst.told {f : xF} {G : Nat → Int} (h : Mst f G) : Mst (xup f 149 0 0) G := by
  rcases h with ⟨h1, h2⟩ | ⟨h1, h2, h3⟩
  · exact Or.inl ⟨by rw [xup_i (by omega)]; exact h1, fun i h9 => by rw [xup_a (by omega)]; exact h2 i h9⟩
  · exact Or.inr ⟨by rw [xup_i (by omega)]; exact h1, fun i h9 => by rw [xup_a (by omega)]; exact h2 i h9, h3⟩
theorem Mk.kept {f f2 : xF} {n : Nat} {hi : Nat → Nat → Int} (h : Mk f n hi) (h1 : f2 149 3 = f 149 3) (h2 : f2 151 = f 151) : Mk f2 n hi := ⟨h.1, h1.trans h.2.1, fun i h9 j hj => by rw [h2]; exact h.2.2 i h9 j hj⟩
/-- the model behind a call that was done, or not -/
def Dm (f f2 : xF) (n : Nat) (hi : Nat → Nat → Int) (G2 : Nat → Int) : Prop := Mg f2 G2 ∧ Mk f2 n hi ∧ (∀ c, (c < 149 ∨ 151 < c) → f2 c = f c) ∧ f2 149 11 = f 149 11
section MQ
variable {L : Nat} {f : xF} {Q : List xV → xF → Prop} {G : Nat → Int} {hi : Nat → Nat → Int} {n : Nat}
theorem Mg.up {f : xF} {i : Nat} {v : Int} (h : Mg f G) : Mg (xup f 150 i v) (upG G i v) := by
  refine ⟨by rw [xup_a (by omega)]; exact h.1, fun j hj => ?_⟩
  by_cases e : j = i
  · subst e; rw [xup_s, upG_s]
  · rw [xup_i e, upG_n e]; exact h.2 j hj
theorem C_100 {a b : Int} (ha : xok a) (hb : xok b) (hM0 : Mst f G) (hK0 : Mk f n hi) (K1 : (1 ≤ a ∧ a ≤ 20) ∧ 0 ≤ b ∧ b ≤ 50 → ∀ f2, Dm f f2 (min (n + 1) 6) (consG G hi) (upG (upG G 1 a) 2 b) → Q [.inl 1] f2) (K0 : ¬ ((1 ≤ a ∧ a ≤ 20) ∧ 0 ≤ b ∧ b ≤ 50) → ∀ f2, Dm f f2 n hi G → Q [.inl 0] f2) : Rf (SHL L) 100 0 (xloc 100 [.inr 149, .inl a, .inl b]) [] f Q := by
  refine R_al fx_100_0 rfl (by omega) ?_
  refine R_push fx_100_1 ?_
  refine R_pf fx_100_2 kd_149 rfl (fun h => absurd h (by decide)) ?_
  refine R_al fx_100_5 rfl (by omega) ?_
  refine R_cv fx_100_6 rfl rfl rfl rfl kd_149 ?_
  refine C_93 hM0.told (fun f1 b1 b2 b3 => ?_)
  have hM : Mg f1 G := b1
  have hK : Mk f1 n hi := hK0.kept (by rw [b2 3 (by omega), xup_i (by omega)]) (by rw [b3 151 (by omega)]; funext i; rw [xup_a (by omega)])
  have hfr : ∀ c, (c < 149 ∨ 151 < c) → f1 c = f c := fun c hc => by rw [b3 c (by omega)]; funext i; rw [xup_a (by omega)]
  have hwt : f1 149 11 = f 149 11 := by rw [b2 11 (by omega), xup_i (by omega)]
  refine R_il fx_100_9 rfl ?_
  refine R_push fx_100_10 ?_
  refine R_iclt fx_100_11 (by omega) (fun hc => ?_) (fun hc => ?_)
  · refine R_push fx_100_30 ?_
    refine R_ret fx_100_31 (by decide) ?_
    first | exact K0 (by omega) _ ⟨hM, hK, hfr, hwt⟩ | exact K1 (by omega) _ ⟨hM2.up.up, (g1.kept (by simp [xup]) (by funext i; simp [xup])), (fun c hc => by rw [← hfr c hc, ← g3 c (by omega)]; funext i; simp [xup, show c ≠ 150 by omega]), (by rw [← hwt, ← g2 11 (by omega)]; simp [xup])⟩
  · refine R_il fx_100_14 rfl ?_
    refine R_push fx_100_15 ?_
    refine R_icgt fx_100_17 (by omega) (fun hc => ?_) (fun hc => ?_)
    · refine R_push fx_100_30 ?_
      refine R_ret fx_100_31 (by decide) ?_
      first | exact K0 (by omega) _ ⟨hM, hK, hfr, hwt⟩ | exact K1 (by omega) _ ⟨hM2.up.up, (g1.kept (by simp [xup]) (by funext i; simp [xup])), (fun c hc => by rw [← hfr c hc, ← g3 c (by omega)]; funext i; simp [xup, show c ≠ 150 by omega]), (by rw [← hwt, ← g2 11 (by omega)]; simp [xup])⟩
    · refine R_il fx_100_20 rfl ?_
      refine R_iflt fx_100_21 (by omega) (fun hc => ?_) (fun hc => ?_)
      · refine R_push fx_100_30 ?_
        refine R_ret fx_100_31 (by decide) ?_
        first | exact K0 (by omega) _ ⟨hM, hK, hfr, hwt⟩ | exact K1 (by omega) _ ⟨hM2.up.up, (g1.kept (by simp [xup]) (by funext i; simp [xup])), (fun c hc => by rw [← hfr c hc, ← g3 c (by omega)]; funext i; simp [xup, show c ≠ 150 by omega]), (by rw [← hwt, ← g2 11 (by omega)]; simp [xup])⟩
      · refine R_il fx_100_24 rfl ?_
        refine R_push fx_100_25 ?_
        refine R_icle fx_100_27 (by omega) (fun hc => ?_) (fun hc => ?_)
        · refine R_al fx_100_32 rfl (by omega) ?_
          refine R_cv fx_100_33 rfl rfl rfl rfl kd_149 ?_
          refine C_95 hM hK (fun f2 g1 g2 g3 => ?_)
          have hM2 : Mg f2 G := ⟨by rw [g2 4 (by omega)]; exact hM.1, fun i h9 => by rw [g3 150 (by omega)]; exact hM.2 i h9⟩
          refine R_al fx_100_36 rfl (by omega) ?_
          refine R_gr fx_100_37 kd_149 rfl rr_149_1 ?_
          refine R_push fx_100_40 ?_
          refine R_il fx_100_41 rfl ?_
          refine R_ias fx_100_42 kd_150 (by omega) (by rw [ln_150]; omega) (by omega) ?_
          refine R_al fx_100_43 rfl (by omega) ?_
          refine R_gr fx_100_44 kd_149 rfl rr_149_1 ?_
          refine R_push fx_100_47 ?_
          refine R_il fx_100_48 rfl ?_
          refine R_ias fx_100_49 kd_150 (by omega) (by rw [ln_150]; omega) (by omega) ?_
          refine R_push fx_100_50 ?_
          refine R_ret fx_100_51 (by decide) ?_
          first | exact K0 (by omega) _ ⟨hM, hK, hfr, hwt⟩ | exact K1 (by omega) _ ⟨hM2.up.up, (g1.kept (by simp [xup]) (by funext i; simp [xup])), (fun c hc => by rw [← hfr c hc, ← g3 c (by omega)]; funext i; simp [xup, show c ≠ 150 by omega]), (by rw [← hwt, ← g2 11 (by omega)]; simp [xup])⟩
        · refine R_push fx_100_30 ?_
          refine R_ret fx_100_31 (by decide) ?_
          first | exact K0 (by omega) _ ⟨hM, hK, hfr, hwt⟩ | exact K1 (by omega) _ ⟨hM2.up.up, (g1.kept (by simp [xup]) (by funext i; simp [xup])), (fun c hc => by rw [← hfr c hc, ← g3 c (by omega)]; funext i; simp [xup, show c ≠ 150 by omega]), (by rw [← hwt, ← g2 11 (by omega)]; simp [xup])⟩
theorem C_101 {a b : Int} (ha : xok a) (hb : xok b) (hM0 : Mst f G) (hK0 : Mk f n hi) (K1 : (0 ≤ a ∧ a ≤ 7) ∧ -1 ≤ b ∧ b ≤ 9999 → ∀ f2, Dm f f2 (min (n + 1) 6) (consG G hi) (upG G (4 + a.toNat) b) → Q [.inl 1] f2) (K0 : ¬ ((0 ≤ a ∧ a ≤ 7) ∧ -1 ≤ b ∧ b ≤ 9999) → ∀ f2, Dm f f2 n hi G → Q [.inl 0] f2) : Rf (SHL L) 101 0 (xloc 101 [.inr 149, .inl a, .inl b]) [] f Q := by
  refine R_al fx_101_0 rfl (by omega) ?_
  refine R_push fx_101_1 ?_
  refine R_pf fx_101_2 kd_149 rfl (fun h => absurd h (by decide)) ?_
  refine R_al fx_101_5 rfl (by omega) ?_
  refine R_cv fx_101_6 rfl rfl rfl rfl kd_149 ?_
  refine C_93 hM0.told (fun f1 b1 b2 b3 => ?_)
  have hM : Mg f1 G := b1
  have hK : Mk f1 n hi := hK0.kept (by rw [b2 3 (by omega), xup_i (by omega)]) (by rw [b3 151 (by omega)]; funext i; rw [xup_a (by omega)])
  have hfr : ∀ c, (c < 149 ∨ 151 < c) → f1 c = f c := fun c hc => by rw [b3 c (by omega)]; funext i; rw [xup_a (by omega)]
  have hwt : f1 149 11 = f 149 11 := by rw [b2 11 (by omega), xup_i (by omega)]
  refine R_il fx_101_9 rfl ?_
  refine R_iflt fx_101_10 (by omega) (fun hc => ?_) (fun hc => ?_)
  · refine R_push fx_101_31 ?_
    refine R_ret fx_101_32 (by decide) ?_
    first | exact K0 (by omega) _ ⟨hM, hK, hfr, hwt⟩ | exact K1 (by omega) _ ⟨by rw [show 4 + a.toNat = (4 + a).toNat by omega]; exact hM2.up, (g1.kept (by simp [xup]) (by funext i; simp [xup])), (fun c hc => by rw [← hfr c hc, ← g3 c (by omega)]; funext i; simp [xup, show c ≠ 150 by omega]), (by rw [← hwt, ← g2 11 (by omega)]; simp [xup])⟩
  · refine R_il fx_101_13 rfl ?_
    refine R_push fx_101_14 ?_
    refine R_icgt fx_101_16 (by omega) (fun hc => ?_) (fun hc => ?_)
    · refine R_push fx_101_31 ?_
      refine R_ret fx_101_32 (by decide) ?_
      first | exact K0 (by omega) _ ⟨hM, hK, hfr, hwt⟩ | exact K1 (by omega) _ ⟨by rw [show 4 + a.toNat = (4 + a).toNat by omega]; exact hM2.up, (g1.kept (by simp [xup]) (by funext i; simp [xup])), (fun c hc => by rw [← hfr c hc, ← g3 c (by omega)]; funext i; simp [xup, show c ≠ 150 by omega]), (by rw [← hwt, ← g2 11 (by omega)]; simp [xup])⟩
    · refine R_il fx_101_19 rfl ?_
      refine R_push fx_101_20 ?_
      refine R_iclt fx_101_21 (by omega) (fun hc => ?_) (fun hc => ?_)
      · refine R_push fx_101_31 ?_
        refine R_ret fx_101_32 (by decide) ?_
        first | exact K0 (by omega) _ ⟨hM, hK, hfr, hwt⟩ | exact K1 (by omega) _ ⟨by rw [show 4 + a.toNat = (4 + a).toNat by omega]; exact hM2.up, (g1.kept (by simp [xup]) (by funext i; simp [xup])), (fun c hc => by rw [← hfr c hc, ← g3 c (by omega)]; funext i; simp [xup, show c ≠ 150 by omega]), (by rw [← hwt, ← g2 11 (by omega)]; simp [xup])⟩
      · refine R_il fx_101_24 rfl ?_
        refine R_push fx_101_25 ?_
        refine R_icle fx_101_28 (by omega) (fun hc => ?_) (fun hc => ?_)
        · refine R_al fx_101_33 rfl (by omega) ?_
          refine R_cv fx_101_34 rfl rfl rfl rfl kd_149 ?_
          refine C_95 hM hK (fun f2 g1 g2 g3 => ?_)
          have hM2 : Mg f2 G := ⟨by rw [g2 4 (by omega)]; exact hM.1, fun i h9 => by rw [g3 150 (by omega)]; exact hM.2 i h9⟩
          refine R_al fx_101_37 rfl (by omega) ?_
          refine R_gr fx_101_38 kd_149 rfl rr_149_1 ?_
          refine R_push fx_101_41 ?_
          refine R_il fx_101_42 rfl ?_
          refine R_add fx_101_43 ?_
          refine R_il fx_101_44 rfl ?_
          refine R_ias fx_101_45 kd_150 (by omega) (by rw [ln_150]; omega) (by omega) ?_
          refine R_push fx_101_46 ?_
          refine R_ret fx_101_47 (by decide) ?_
          first | exact K0 (by omega) _ ⟨hM, hK, hfr, hwt⟩ | exact K1 (by omega) _ ⟨by rw [show 4 + a.toNat = (4 + a).toNat by omega]; exact hM2.up, (g1.kept (by simp [xup]) (by funext i; simp [xup])), (fun c hc => by rw [← hfr c hc, ← g3 c (by omega)]; funext i; simp [xup, show c ≠ 150 by omega]), (by rw [← hwt, ← g2 11 (by omega)]; simp [xup])⟩
        · refine R_push fx_101_31 ?_
          refine R_ret fx_101_32 (by decide) ?_
          first | exact K0 (by omega) _ ⟨hM, hK, hfr, hwt⟩ | exact K1 (by omega) _ ⟨by rw [show 4 + a.toNat = (4 + a).toNat by omega]; exact hM2.up, (g1.kept (by simp [xup]) (by funext i; simp [xup])), (fun c hc => by rw [← hfr c hc, ← g3 c (by omega)]; funext i; simp [xup, show c ≠ 150 by omega]), (by rw [← hwt, ← g2 11 (by omega)]; simp [xup])⟩
theorem C_103 {k a b : Int} (hk : xok k) (ha : xok a) (hb : xok b) (hM0 : Mst f G) (hK0 : Mk f n hi) (K1 : (0 ≤ k ∧ k ≤ 3) ∧ (-100 ≤ a ∧ a ≤ 100) ∧ -100 ≤ b ∧ b ≤ 100 → ∀ f2, Dm f f2 (min (n + 1) 6) (consG G hi) (upG (upG G (12 + k.toNat) a) (16 + k.toNat) b) → Q [.inl 1] f2) (K0 : ¬ ((0 ≤ k ∧ k ≤ 3) ∧ (-100 ≤ a ∧ a ≤ 100) ∧ -100 ≤ b ∧ b ≤ 100) → ∀ f2, Dm f f2 n hi G → Q [.inl 0] f2) : Rf (SHL L) 103 0 (xloc 103 [.inr 149, .inl k, .inl a, .inl b]) [] f Q := by
  refine R_al fx_103_0 rfl (by omega) ?_
  refine R_push fx_103_1 ?_
  refine R_pf fx_103_2 kd_149 rfl (fun h => absurd h (by decide)) ?_
  refine R_al fx_103_5 rfl (by omega) ?_
  refine R_cv fx_103_6 rfl rfl rfl rfl kd_149 ?_
  refine C_93 hM0.told (fun f1 b1 b2 b3 => ?_)
  have hM : Mg f1 G := b1
  have hK : Mk f1 n hi := hK0.kept (by rw [b2 3 (by omega), xup_i (by omega)]) (by rw [b3 151 (by omega)]; funext i; rw [xup_a (by omega)])
  have hfr : ∀ c, (c < 149 ∨ 151 < c) → f1 c = f c := fun c hc => by rw [b3 c (by omega)]; funext i; rw [xup_a (by omega)]
  have hwt : f1 149 11 = f 149 11 := by rw [b2 11 (by omega), xup_i (by omega)]
  refine R_il fx_103_9 rfl ?_
  refine R_iflt fx_103_10 (by omega) (fun hc => ?_) (fun hc => ?_)
  · refine R_push fx_103_42 ?_
    refine R_ret fx_103_43 (by decide) ?_
    first | exact K0 (by omega) _ ⟨hM, hK, hfr, hwt⟩ | exact K1 (by omega) _ ⟨by rw [show 12 + k.toNat = (12 + k).toNat by omega, show 16 + k.toNat = (16 + k).toNat by omega]; exact hM2.up.up, (g1.kept (by simp [xup]) (by funext i; simp [xup])), (fun c hc => by rw [← hfr c hc, ← g3 c (by omega)]; funext i; simp [xup, show c ≠ 150 by omega]), (by rw [← hwt, ← g2 11 (by omega)]; simp [xup])⟩
  · refine R_il fx_103_13 rfl ?_
    refine R_push fx_103_14 ?_
    refine R_icgt fx_103_15 (by omega) (fun hc => ?_) (fun hc => ?_)
    · refine R_push fx_103_42 ?_
      refine R_ret fx_103_43 (by decide) ?_
      first | exact K0 (by omega) _ ⟨hM, hK, hfr, hwt⟩ | exact K1 (by omega) _ ⟨by rw [show 12 + k.toNat = (12 + k).toNat by omega, show 16 + k.toNat = (16 + k).toNat by omega]; exact hM2.up.up, (g1.kept (by simp [xup]) (by funext i; simp [xup])), (fun c hc => by rw [← hfr c hc, ← g3 c (by omega)]; funext i; simp [xup, show c ≠ 150 by omega]), (by rw [← hwt, ← g2 11 (by omega)]; simp [xup])⟩
    · refine R_il fx_103_18 rfl ?_
      refine R_push fx_103_19 ?_
      refine R_iclt fx_103_21 (by omega) (fun hc => ?_) (fun hc => ?_)
      · refine R_push fx_103_42 ?_
        refine R_ret fx_103_43 (by decide) ?_
        first | exact K0 (by omega) _ ⟨hM, hK, hfr, hwt⟩ | exact K1 (by omega) _ ⟨by rw [show 12 + k.toNat = (12 + k).toNat by omega, show 16 + k.toNat = (16 + k).toNat by omega]; exact hM2.up.up, (g1.kept (by simp [xup]) (by funext i; simp [xup])), (fun c hc => by rw [← hfr c hc, ← g3 c (by omega)]; funext i; simp [xup, show c ≠ 150 by omega]), (by rw [← hwt, ← g2 11 (by omega)]; simp [xup])⟩
      · refine R_il fx_103_24 rfl ?_
        refine R_push fx_103_25 ?_
        refine R_icgt fx_103_27 (by omega) (fun hc => ?_) (fun hc => ?_)
        · refine R_push fx_103_42 ?_
          refine R_ret fx_103_43 (by decide) ?_
          first | exact K0 (by omega) _ ⟨hM, hK, hfr, hwt⟩ | exact K1 (by omega) _ ⟨by rw [show 12 + k.toNat = (12 + k).toNat by omega, show 16 + k.toNat = (16 + k).toNat by omega]; exact hM2.up.up, (g1.kept (by simp [xup]) (by funext i; simp [xup])), (fun c hc => by rw [← hfr c hc, ← g3 c (by omega)]; funext i; simp [xup, show c ≠ 150 by omega]), (by rw [← hwt, ← g2 11 (by omega)]; simp [xup])⟩
        · refine R_il fx_103_30 rfl ?_
          refine R_push fx_103_31 ?_
          refine R_iclt fx_103_33 (by omega) (fun hc => ?_) (fun hc => ?_)
          · refine R_push fx_103_42 ?_
            refine R_ret fx_103_43 (by decide) ?_
            first | exact K0 (by omega) _ ⟨hM, hK, hfr, hwt⟩ | exact K1 (by omega) _ ⟨by rw [show 12 + k.toNat = (12 + k).toNat by omega, show 16 + k.toNat = (16 + k).toNat by omega]; exact hM2.up.up, (g1.kept (by simp [xup]) (by funext i; simp [xup])), (fun c hc => by rw [← hfr c hc, ← g3 c (by omega)]; funext i; simp [xup, show c ≠ 150 by omega]), (by rw [← hwt, ← g2 11 (by omega)]; simp [xup])⟩
          · refine R_il fx_103_36 rfl ?_
            refine R_push fx_103_37 ?_
            refine R_icle fx_103_39 (by omega) (fun hc => ?_) (fun hc => ?_)
            · refine R_al fx_103_44 rfl (by omega) ?_
              refine R_cv fx_103_45 rfl rfl rfl rfl kd_149 ?_
              refine C_95 hM hK (fun f2 g1 g2 g3 => ?_)
              have hM2 : Mg f2 G := ⟨by rw [g2 4 (by omega)]; exact hM.1, fun i h9 => by rw [g3 150 (by omega)]; exact hM.2 i h9⟩
              refine R_al fx_103_48 rfl (by omega) ?_
              refine R_gr fx_103_49 kd_149 rfl rr_149_1 ?_
              refine R_push fx_103_52 ?_
              refine R_il fx_103_54 rfl ?_
              refine R_add fx_103_55 ?_
              refine R_il fx_103_56 rfl ?_
              refine R_ias fx_103_57 kd_150 (by omega) (by rw [ln_150]; omega) (by omega) ?_
              refine R_al fx_103_58 rfl (by omega) ?_
              refine R_gr fx_103_59 kd_149 rfl rr_149_1 ?_
              refine R_push fx_103_62 ?_
              refine R_il fx_103_64 rfl ?_
              refine R_add fx_103_65 ?_
              refine R_il fx_103_66 rfl ?_
              refine R_ias fx_103_67 kd_150 (by omega) (by rw [ln_150]; omega) (by omega) ?_
              refine R_push fx_103_68 ?_
              refine R_ret fx_103_69 (by decide) ?_
              first | exact K0 (by omega) _ ⟨hM, hK, hfr, hwt⟩ | exact K1 (by omega) _ ⟨by rw [show 12 + k.toNat = (12 + k).toNat by omega, show 16 + k.toNat = (16 + k).toNat by omega]; exact hM2.up.up, (g1.kept (by simp [xup]) (by funext i; simp [xup])), (fun c hc => by rw [← hfr c hc, ← g3 c (by omega)]; funext i; simp [xup, show c ≠ 150 by omega]), (by rw [← hwt, ← g2 11 (by omega)]; simp [xup])⟩
            · refine R_push fx_103_42 ?_
              refine R_ret fx_103_43 (by decide) ?_
              first | exact K0 (by omega) _ ⟨hM, hK, hfr, hwt⟩ | exact K1 (by omega) _ ⟨by rw [show 12 + k.toNat = (12 + k).toNat by omega, show 16 + k.toNat = (16 + k).toNat by omega]; exact hM2.up.up, (g1.kept (by simp [xup]) (by funext i; simp [xup])), (fun c hc => by rw [← hfr c hc, ← g3 c (by omega)]; funext i; simp [xup, show c ≠ 150 by omega]), (by rw [← hwt, ← g2 11 (by omega)]; simp [xup])⟩
theorem C_111 {r v : Int} (hV : VG G) (hr : xok r) (hv0 : xok v) (hM0 : Mst f G) (hK0 : Mk f n hi) (K1 : (0 ≤ r ∧ r < G 0) → (0 ≤ v ∧ v < 7) → ∀ f2, Dm f f2 n hi G → Q [.inl (G (20 + 7 * r.toNat + v.toNat))] f2) (K0 : ¬ ((0 ≤ r ∧ r < G 0) ∧ 0 ≤ v ∧ v < 7) → ∀ f2, Dm f f2 n hi G → Q [.inl (-100000)] f2) : Rf (SHL L) 111 0 (xloc 111 [.inr 149, .inl r, .inl v]) [] f Q := by
  have h0 := hV.1
  refine R_al fx_111_0 rfl (by omega) ?_
  refine R_push fx_111_1 ?_
  refine R_pf fx_111_2 kd_149 rfl (fun h => absurd h (by decide)) ?_
  refine R_al fx_111_5 rfl (by omega) ?_
  refine R_cv fx_111_6 rfl rfl rfl rfl kd_149 ?_
  refine C_93 hM0.told (fun f1 b1 b2 b3 => ?_)
  have hM : Mg f1 G := b1
  have hK : Mk f1 n hi := hK0.kept (by rw [b2 3 (by omega), xup_i (by omega)]) (by rw [b3 151 (by omega)]; funext i; rw [xup_a (by omega)])
  have hfr : ∀ c, (c < 149 ∨ 151 < c) → f1 c = f c := fun c hc => by rw [b3 c (by omega)]; funext i; rw [xup_a (by omega)]
  have hwt : f1 149 11 = f 149 11 := by rw [b2 11 (by omega), xup_i (by omega)]
  refine R_al fx_111_9 rfl (by omega) ?_
  refine R_il fx_111_10 rfl ?_
  refine R_cv fx_111_11 rfl rfl rfl rfl kd_149 ?_
  refine C_97 (by omega) hM (by omega) (fun hc => ?_) (fun hc => ?_)
  · refine R_ifeq fx_111_14 (by decide) (fun h => absurd h (by decide)) (fun _ => ?_)
    refine R_il fx_111_17 rfl ?_
    refine R_iflt fx_111_18 (by omega) (fun hc => ?_) (fun hc => ?_)
    · refine R_push fx_111_36 ?_
      refine R_ret fx_111_38 (Or.inl rfl) ?_
      first | exact K0 (by omega) _ ⟨hM, hK, hfr, hwt⟩ | exact K1 (by omega) (by omega) _ ⟨hM, hK, hfr, hwt⟩
    · refine R_il fx_111_21 rfl ?_
      refine R_push fx_111_22 ?_
      refine R_icge fx_111_24 (by omega) (fun hc => ?_) (fun hc => ?_)
      · refine R_push fx_111_36 ?_
        refine R_ret fx_111_38 (Or.inl rfl) ?_
        first | exact K0 (by omega) _ ⟨hM, hK, hfr, hwt⟩ | exact K1 (by omega) (by omega) _ ⟨hM, hK, hfr, hwt⟩
      · refine R_al fx_111_27 rfl (by omega) ?_
        refine R_il fx_111_28 rfl ?_
        refine R_il fx_111_29 rfl ?_
        refine R_cv fx_111_30 rfl rfl rfl rfl kd_149 ?_
        refine C_99 (by omega) (by omega) hM (by omega) ?_
        refine R_goto fx_111_33 ?_
        refine R_ret fx_111_38 (Or.inl rfl) ?_
        first | exact K0 (by omega) _ ⟨hM, hK, hfr, hwt⟩ | exact K1 (by omega) (by omega) _ ⟨hM, hK, hfr, hwt⟩
  · refine R_ifeq fx_111_14 (by decide) (fun _ => ?_) (fun h => absurd h (by decide))
    refine R_push fx_111_36 ?_
    refine R_ret fx_111_38 (Or.inl rfl) ?_
    first | exact K0 (by omega) _ ⟨hM, hK, hfr, hwt⟩ | exact K1 (by omega) (by omega) _ ⟨hM, hK, hfr, hwt⟩
end MQ
