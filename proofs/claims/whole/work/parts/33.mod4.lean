/-! ===== the model: scrap, canFile, pitch, undo ===== -/
theorem x21 {P : Nat → Prop} (h0 : P 0) (h1 : P 1) (h2 : P 2) (h3 : P 3) (h4 : P 4) (h5 : P 5) (h6 : P 6) (h7 : P 7) (h8 : P 8) (h9 : P 9) (h10 : P 10) (h11 : P 11) (h12 : P 12) (h13 : P 13) (h14 : P 14) (h15 : P 15) (h16 : P 16) (h17 : P 17) (h18 : P 18) (h19 : P 19) (h20 : P 20) : ∀ j, j ≤ 20 → P j := by
  intro j hj
  rcases (show j = 0 ∨ j = 1 ∨ j = 2 ∨ j = 3 ∨ j = 4 ∨ j = 5 ∨ j = 6 ∨ j = 7 ∨ j = 8 ∨ j = 9 ∨ j = 10 ∨ j = 11 ∨ j = 12 ∨ j = 13 ∨ j = 14 ∨ j = 15 ∨ j = 16 ∨ j = 17 ∨ j = 18 ∨ j = 19 ∨ j = 20 by omega) with rfl | rfl | rfl | rfl | rfl | rfl | rfl | rfl | rfl | rfl | rfl | rfl | rfl | rfl | rfl | rfl | rfl | rfl | rfl | rfl | rfl <;> assumption
theorem tri_b : ∀ j : Nat, j ≤ 20 → 0 ≤ (j : Int) * ((j : Int) - 1) ∧ (j : Int) * ((j : Int) - 1) ≤ 400 := by
  apply x21 <;> decide
theorem tri_dr (t : Int) : ∀ j : Nat, j ≤ 20 → (j : Int) * t - (j : Int) * ((j : Int) - 1) / 2 = dr t j := by
  apply x21 <;> (simp only [dr]; omega)
section MR
variable {L : Nat} {f : xF} {Q : List xV → xF → Prop} {G : Nat → Int} {hi : Nat → Nat → Int} {n : Nat}
theorem C_107 {r i : Int} {j : Nat} (hr : 0 ≤ r ∧ r < 12) (hj : j ≤ 20) (hM : Mg f G) (K : Q [.inl (G (20 + 7 * r.toNat) + i * G 1 - dr (G (20 + 7 * r.toNat + 1)) j)] f) : Rf (SHL L) 107 0 (xloc 107 [.inr 149, .inl r, .inl i, .inl (j : Int)]) [] f Q := by
  have hb := tri_b j hj
  refine R_al fx_107_0 rfl (by omega) ?_
  refine R_il fx_107_1 rfl ?_
  refine R_push fx_107_2 ?_
  refine R_cv fx_107_3 rfl rfl rfl rfl kd_149 ?_
  refine C_99 (by omega) (by omega) hM (by omega) ?_
  refine R_il fx_107_6 rfl ?_
  refine R_al fx_107_7 rfl (by omega) ?_
  refine R_gr fx_107_8 kd_149 rfl rr_149_1 ?_
  refine R_push fx_107_11 ?_
  refine R_ia fx_107_12 (Or.inl kd_150) (by omega) (by rw [ln_150]; omega) (by omega) ?_
  refine R_mul fx_107_13 ?_
  refine R_add fx_107_14 ?_
  refine R_il fx_107_15 rfl ?_
  refine R_al fx_107_16 rfl (by omega) ?_
  refine R_il fx_107_17 rfl ?_
  refine R_push fx_107_18 ?_
  refine R_cv fx_107_19 rfl rfl rfl rfl kd_149 ?_
  refine C_99 (by omega) (by omega) hM (by omega) ?_
  refine R_mul fx_107_22 ?_
  refine R_il fx_107_23 rfl ?_
  refine R_il fx_107_24 rfl ?_
  refine R_push fx_107_25 ?_
  refine R_sub fx_107_26 ?_
  refine R_mul fx_107_27 ?_
  refine R_push fx_107_28 ?_
  refine R_bin fx_107_29 (xb_div (by omega) (by omega) (by omega) (by omega)) ?_
  refine R_sub fx_107_30 ?_
  refine R_sub fx_107_31 ?_
  refine R_ret fx_107_32 (Or.inl rfl) ?_
  rw [show (1 : Int).toNat = 1 from rfl, hM.2 1 (by omega)]
  have := tri_dr (G (20 + 7 * r.toNat + 1)) j hj
  rw [← this] at K
  exact K
theorem C_105 {r i j : Int} (hr : 0 ≤ r ∧ r < 12) (hi2 : xok i) (hj2 : xok j) (hM : Mg f G) (h1 : 1 ≤ G (20 + 7 * r.toNat + 1) ∧ G (20 + 7 * r.toNat + 1) ≤ 20) (h2 : 0 ≤ G (20 + 7 * r.toNat + 2) ∧ G (20 + 7 * r.toNat + 2) ≤ 20) (K1 : (0 ≤ i ∧ i ≤ G (20 + 7 * r.toNat + 2)) ∧ 0 ≤ j ∧ j < G (20 + 7 * r.toNat + 1) → Q [.inl 1] f) (K0 : ¬ ((0 ≤ i ∧ i ≤ G (20 + 7 * r.toNat + 2)) ∧ 0 ≤ j ∧ j < G (20 + 7 * r.toNat + 1)) → Q [.inl 0] f) : Rf (SHL L) 105 0 (xloc 105 [.inr 149, .inl r, .inl i, .inl j]) [] f Q := by
  refine R_il fx_105_0 rfl ?_
  refine R_iflt fx_105_1 (by omega) (fun hc => ?_) (fun hc => ?_)
  · refine R_push fx_105_32 ?_
    refine R_ret fx_105_33 (by decide) ?_
    first | exact K1 (by (try simp only [Int.reduceToNat] at *); omega) | exact K0 (by (try simp only [Int.reduceToNat] at *); omega)
  · refine R_il fx_105_4 rfl ?_
    refine R_al fx_105_5 rfl (by omega) ?_
    refine R_il fx_105_6 rfl ?_
    refine R_push fx_105_7 ?_
    refine R_cv fx_105_8 rfl rfl rfl rfl kd_149 ?_
    refine C_99 (by omega) (by omega) hM (by omega) ?_
    refine R_icgt fx_105_11 (show xok _ ∧ xok (G (20 + 7 * r.toNat + 2)) by omega) (fun hc => ?_) (fun hc => ?_)
    · refine R_push fx_105_32 ?_
      refine R_ret fx_105_33 (by decide) ?_
      first | exact K1 (by (try simp only [Int.reduceToNat] at *); omega) | exact K0 (by (try simp only [Int.reduceToNat] at *); omega)
    · refine R_il fx_105_14 rfl ?_
      refine R_iflt fx_105_15 (by omega) (fun hc => ?_) (fun hc => ?_)
      · refine R_push fx_105_32 ?_
        refine R_ret fx_105_33 (by decide) ?_
        first | exact K1 (by (try simp only [Int.reduceToNat] at *); omega) | exact K0 (by (try simp only [Int.reduceToNat] at *); omega)
      · refine R_il fx_105_18 rfl ?_
        refine R_al fx_105_19 rfl (by omega) ?_
        refine R_il fx_105_20 rfl ?_
        refine R_push fx_105_21 ?_
        refine R_cv fx_105_22 rfl rfl rfl rfl kd_149 ?_
        refine C_99 (by omega) (by omega) hM (by omega) ?_
        refine R_icge fx_105_25 (show xok _ ∧ xok (G (20 + 7 * r.toNat + 1)) by omega) (fun hc => ?_) (fun hc => ?_)
        · refine R_push fx_105_32 ?_
          refine R_ret fx_105_33 (by decide) ?_
          first | exact K1 (by (try simp only [Int.reduceToNat] at *); omega) | exact K0 (by (try simp only [Int.reduceToNat] at *); omega)
        · refine R_push fx_105_28 ?_
          refine R_goto fx_105_29 ?_
          refine R_ret fx_105_33 (by decide) ?_
          first | exact K1 (by (try simp only [Int.reduceToNat] at *); omega) | exact K0 (by (try simp only [Int.reduceToNat] at *); omega)
theorem C_96 {r : Int} (hV : VG G) (hr : xok r) (hM0 : Mst f G) (hK0 : Mk f n hi) (K1 : (0 ≤ r ∧ r < G 0) → G (20 + 7 * r.toNat + 3) = 0 → ∀ f2, Dm f f2 (min (n + 1) 6) (consG G hi) (upG G (20 + 7 * r.toNat + 3) 2) → Q [.inl 1] f2) (K0 : ¬ ((0 ≤ r ∧ r < G 0) ∧ G (20 + 7 * r.toNat + 3) = 0) → ∀ f2, Dm f f2 n hi G → Q [.inl 0] f2) : Rf (SHL L) 96 0 (xloc 96 [.inr 149, .inl r]) [] f Q := by
  have h0 := hV.1
  refine R_al fx_96_0 rfl (by omega) ?_
  refine R_push fx_96_1 ?_
  refine R_pf fx_96_2 kd_149 rfl (fun h => absurd h (by decide)) ?_
  refine R_al fx_96_5 rfl (by omega) ?_
  refine R_cv fx_96_6 rfl rfl rfl rfl kd_149 ?_
  refine C_93 hM0.told (fun f1 b1 b2 b3 => ?_)
  have hM : Mg f1 G := b1
  have hK : Mk f1 n hi := hK0.kept (by rw [b2 3 (by omega), xup_i (by omega)]) (by rw [b3 151 (by omega)]; funext i; rw [xup_a (by omega)])
  have hfr : ∀ c, (c < 149 ∨ 151 < c) → f1 c = f c := fun c hc => by rw [b3 c (by omega)]; funext i; rw [xup_a (by omega)]
  have hwt : f1 149 11 = f 149 11 := by rw [b2 11 (by omega), xup_i (by omega)]
  refine R_al fx_96_9 rfl (by omega) ?_
  refine R_il fx_96_10 rfl ?_
  refine R_cv fx_96_11 rfl rfl rfl rfl kd_149 ?_
  refine C_97 (by omega) hM (by omega) (fun hc => ?_) (fun hc => ?_)
  · refine R_ifeq fx_96_14 (by decide) (fun h => absurd h (by decide)) (fun _ => ?_)
    refine R_al fx_96_17 rfl (by omega) ?_
    refine R_il fx_96_18 rfl ?_
    refine R_cv fx_96_19 rfl rfl rfl rfl kd_149 ?_
    refine C_98 (by omega) hM (by have := (hV.2.2.2.2.2 r.toNat (by omega) (by omega)).2.2.2; omega) (fun hc2 => ?_) (fun hc2 => ?_)
    · refine R_ifne fx_96_22 (by decide) (fun _ => ?_) (fun h => absurd h (by decide))
      refine R_al fx_96_27 rfl (by omega) ?_
      refine R_cv fx_96_28 rfl rfl rfl rfl kd_149 ?_
      refine C_95 hM hK (fun f2 g1 g2 g3 => ?_)
      have hM2 : Mg f2 G := ⟨by rw [g2 4 (by omega)]; exact hM.1, fun i h9 => by rw [g3 150 (by omega)]; exact hM.2 i h9⟩
      refine R_al fx_96_31 rfl (by omega) ?_
      refine R_gr fx_96_32 kd_149 rfl rr_149_1 ?_
      refine R_push fx_96_35 ?_
      refine R_push fx_96_37 ?_
      refine R_il fx_96_39 rfl ?_
      refine R_mul fx_96_40 ?_
      refine R_add fx_96_41 ?_
      refine R_push fx_96_42 ?_
      refine R_add fx_96_43 ?_
      refine R_push fx_96_44 ?_
      refine R_ias fx_96_45 kd_150 (by omega) (by rw [ln_150]; omega) (by omega) ?_
      refine R_push fx_96_46 ?_
      refine R_ret fx_96_47 (by decide) ?_
      first | exact K0 (by omega) _ ⟨hM, hK, hfr, hwt⟩ | exact K1 (by omega) hc2 _ ⟨by rw [show 20 + 7 * r.toNat + 3 = (20 + 7 * r + 3).toNat by omega]; exact hM2.up, (g1.kept (by simp [xup]) (by funext i; simp [xup])), (fun c hc => by rw [← hfr c hc, ← g3 c (by omega)]; funext i; simp [xup, show c ≠ 150 by omega]), (by rw [← hwt, ← g2 11 (by omega)]; simp [xup])⟩
    · refine R_ifne fx_96_22 (by decide) (fun h => absurd h (by decide)) (fun _ => ?_)
      refine R_push fx_96_25 ?_
      refine R_ret fx_96_26 (by decide) ?_
      first | exact K0 (by omega) _ ⟨hM, hK, hfr, hwt⟩ | exact K1 (by omega) hc2 _ ⟨by rw [show 20 + 7 * r.toNat + 3 = (20 + 7 * r + 3).toNat by omega]; exact hM2.up, (g1.kept (by simp [xup]) (by funext i; simp [xup])), (fun c hc => by rw [← hfr c hc, ← g3 c (by omega)]; funext i; simp [xup, show c ≠ 150 by omega]), (by rw [← hwt, ← g2 11 (by omega)]; simp [xup])⟩
  · refine R_ifeq fx_96_14 (by decide) (fun _ => ?_) (fun h => absurd h (by decide))
    refine R_push fx_96_25 ?_
    refine R_ret fx_96_26 (by decide) ?_
    first | exact K0 (by omega) _ ⟨hM, hK, hfr, hwt⟩ | exact K1 (by omega) hc2 _ ⟨by rw [show 20 + 7 * r.toNat + 3 = (20 + 7 * r + 3).toNat by omega]; exact hM2.up, (g1.kept (by simp [xup]) (by funext i; simp [xup])), (fun c hc => by rw [← hfr c hc, ← g3 c (by omega)]; funext i; simp [xup, show c ≠ 150 by omega]), (by rw [← hwt, ← g2 11 (by omega)]; simp [xup])⟩
end MR
