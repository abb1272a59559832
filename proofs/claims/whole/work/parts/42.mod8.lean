/-! ===== the model: reed ===== -/
section MV
variable {L : Nat} {f : xF} {Q : List xV → xF → Prop} {G : Nat → Int} {hi : Nat → Nat → Int} {n : Nat}
theorem C_94 {p t q : Int} (hV : VG G) (h1 : xok p) (h2 : xok t) (h3 : xok q) (hM0 : Mst f G) (hK0 : Mk f n hi) (K1 : ((0 ≤ p ∧ p ≤ 9999) ∧ (1 ≤ t ∧ t ≤ 20) ∧ 0 ≤ q ∧ q ≤ 20) ∧ G 0 < 12 → ∀ f2, Dm f f2 (min (n + 1) 6) (consG G hi) (upG (upR G (G 0).toNat (newR p t q)) 0 (G 0 + 1)) → Q [.inl (G 0)] f2) (K0 : ¬ (((0 ≤ p ∧ p ≤ 9999) ∧ (1 ≤ t ∧ t ≤ 20) ∧ 0 ≤ q ∧ q ≤ 20) ∧ G 0 < 12) → ∀ f2, Dm f f2 n hi G → Q [.inl (-1)] f2) : Rf (SHL L) 94 0 (xloc 94 [.inr 149, .inl p, .inl t, .inl q]) [] f Q := by
  have hv := hV.1
  refine R_al fx_94_0 rfl (by omega) ?_
  refine R_push fx_94_1 ?_
  refine R_pf fx_94_2 kd_149 rfl (fun h => absurd h (by decide)) ?_
  refine R_al fx_94_5 rfl (by omega) ?_
  refine R_cv fx_94_6 rfl rfl rfl rfl kd_149 ?_
  refine C_93 hM0.told (fun f1 b1 b2 b3 => ?_)
  have hM : Mg f1 G := b1
  have hK : Mk f1 n hi := hK0.kept (by rw [b2 3 (by omega), xup_i (by omega)]) (by rw [b3 151 (by omega)]; funext i; rw [xup_a (by omega)])
  have hfr : ∀ c, (c < 149 ∨ 151 < c) → f1 c = f c := fun c hc => by rw [b3 c (by omega)]; funext i; rw [xup_a (by omega)]
  have hwt : f1 149 11 = f 149 11 := by rw [b2 11 (by omega), xup_i (by omega)]
  refine R_il fx_94_9 rfl ?_
  refine R_iflt fx_94_10 (by omega) (fun hc => ?_) (fun hc => ?_)
  · refine R_push fx_94_52 ?_
    refine R_ret fx_94_53 (Or.inl rfl) (K0 ?_ _ ⟨hM, hK, hfr, hwt⟩)
    first | omega | (have := hM.2 0 (by omega); rw [show (0 : Int).toNat = 0 from rfl] at hc; omega)
  · refine R_il fx_94_13 rfl ?_
    refine R_push fx_94_14 ?_
    refine R_icgt fx_94_17 (by omega) (fun hc => ?_) (fun hc => ?_)
    · refine R_push fx_94_52 ?_
      refine R_ret fx_94_53 (Or.inl rfl) (K0 ?_ _ ⟨hM, hK, hfr, hwt⟩)
      first | omega | (have := hM.2 0 (by omega); rw [show (0 : Int).toNat = 0 from rfl] at hc; omega)
    · refine R_il fx_94_20 rfl ?_
      refine R_push fx_94_21 ?_
      refine R_iclt fx_94_22 (by omega) (fun hc => ?_) (fun hc => ?_)
      · refine R_push fx_94_52 ?_
        refine R_ret fx_94_53 (Or.inl rfl) (K0 ?_ _ ⟨hM, hK, hfr, hwt⟩)
        first | omega | (have := hM.2 0 (by omega); rw [show (0 : Int).toNat = 0 from rfl] at hc; omega)
      · refine R_il fx_94_25 rfl ?_
        refine R_push fx_94_26 ?_
        refine R_icgt fx_94_28 (by omega) (fun hc => ?_) (fun hc => ?_)
        · refine R_push fx_94_52 ?_
          refine R_ret fx_94_53 (Or.inl rfl) (K0 ?_ _ ⟨hM, hK, hfr, hwt⟩)
          first | omega | (have := hM.2 0 (by omega); rw [show (0 : Int).toNat = 0 from rfl] at hc; omega)
        · refine R_il fx_94_31 rfl ?_
          refine R_iflt fx_94_32 (by omega) (fun hc => ?_) (fun hc => ?_)
          · refine R_push fx_94_52 ?_
            refine R_ret fx_94_53 (Or.inl rfl) (K0 ?_ _ ⟨hM, hK, hfr, hwt⟩)
            first | omega | (have := hM.2 0 (by omega); rw [show (0 : Int).toNat = 0 from rfl] at hc; omega)
          · refine R_il fx_94_35 rfl ?_
            refine R_push fx_94_36 ?_
            refine R_icgt fx_94_38 (by omega) (fun hc => ?_) (fun hc => ?_)
            · refine R_push fx_94_52 ?_
              refine R_ret fx_94_53 (Or.inl rfl) (K0 ?_ _ ⟨hM, hK, hfr, hwt⟩)
              first | omega | (have := hM.2 0 (by omega); rw [show (0 : Int).toNat = 0 from rfl] at hc; omega)
            · refine R_al fx_94_41 rfl (by omega) ?_
              refine R_gr fx_94_42 kd_149 rfl rr_149_1 ?_
              refine R_push fx_94_45 ?_
              refine R_ia fx_94_46 (Or.inl kd_150) (by omega) (by rw [ln_150]; omega) (by omega) ?_
              refine R_push fx_94_47 ?_
              refine R_icne fx_94_49 (by have := hM.2 0 (by omega); rw [show (0 : Int).toNat = 0 from rfl]; omega) (fun hc => ?_) (fun hc => ?_)
              · refine R_al fx_94_54 rfl (by omega) ?_
                refine R_cv fx_94_55 rfl rfl rfl rfl kd_149 ?_
                refine C_95 hM hK (fun f2 g1 g2 g3 => ?_)
                have hM2 : Mg f2 G := ⟨by rw [g2 4 (by omega)]; exact hM.1, fun i h9 => by rw [g3 150 (by omega)]; exact hM.2 i h9⟩
                have e0 : f2 150 (0 : Int).toNat = G 0 := hM2.2 0 (by omega)
                refine R_push fx_94_58 ?_
                refine R_push fx_94_60 ?_
                refine R_al fx_94_62 rfl (by omega) ?_
                refine R_gr fx_94_63 kd_149 rfl rr_149_1 ?_
                refine R_push fx_94_66 ?_
                refine R_ia fx_94_67 (Or.inl kd_150) (by omega) (by rw [ln_150]; omega) (by omega) ?_
                refine R_mul fx_94_68 ?_
                refine R_add fx_94_69 ?_
                refine R_is fx_94_70 ?_
                refine R_al fx_94_72 rfl (by omega) ?_
                refine R_gr fx_94_73 kd_149 rfl rr_149_1 ?_
                refine R_il fx_94_76 rfl ?_
                refine R_il fx_94_78 rfl ?_
                refine R_ias fx_94_79 kd_150 (by omega) (by rw [ln_150]; omega) (by omega) ?_
                refine R_al fx_94_80 rfl (by omega) ?_
                refine R_gr fx_94_81 kd_149 rfl rr_149_1 ?_
                refine R_il fx_94_84 rfl ?_
                refine R_push fx_94_86 ?_
                refine R_add fx_94_87 ?_
                refine R_il fx_94_88 rfl ?_
                refine R_ias fx_94_89 kd_150 (by omega) (by rw [ln_150]; omega) (by omega) ?_
                refine R_al fx_94_90 rfl (by omega) ?_
                refine R_gr fx_94_91 kd_149 rfl rr_149_1 ?_
                refine R_il fx_94_94 rfl ?_
                refine R_push fx_94_96 ?_
                refine R_add fx_94_97 ?_
                refine R_il fx_94_98 rfl ?_
                refine R_ias fx_94_99 kd_150 (by omega) (by rw [ln_150]; omega) (by omega) ?_
                refine R_al fx_94_100 rfl (by omega) ?_
                refine R_gr fx_94_101 kd_149 rfl rr_149_1 ?_
                refine R_il fx_94_104 rfl ?_
                refine R_push fx_94_106 ?_
                refine R_add fx_94_107 ?_
                refine R_push fx_94_108 ?_
                refine R_ias fx_94_109 kd_150 (by omega) (by rw [ln_150]; omega) (by omega) ?_
                refine R_al fx_94_110 rfl (by omega) ?_
                refine R_gr fx_94_111 kd_149 rfl rr_149_1 ?_
                refine R_il fx_94_114 rfl ?_
                refine R_push fx_94_116 ?_
                refine R_add fx_94_117 ?_
                refine R_push fx_94_118 ?_
                refine R_ias fx_94_119 kd_150 (by omega) (by rw [ln_150]; omega) (by omega) ?_
                refine R_al fx_94_120 rfl (by omega) ?_
                refine R_gr fx_94_121 kd_149 rfl rr_149_1 ?_
                refine R_il fx_94_124 rfl ?_
                refine R_push fx_94_126 ?_
                refine R_add fx_94_127 ?_
                refine R_push fx_94_128 ?_
                refine R_ias fx_94_129 kd_150 (by omega) (by rw [ln_150]; omega) (by omega) ?_
                refine R_al fx_94_130 rfl (by omega) ?_
                refine R_gr fx_94_131 kd_149 rfl rr_149_1 ?_
                refine R_il fx_94_134 rfl ?_
                refine R_push fx_94_136 ?_
                refine R_add fx_94_138 ?_
                refine R_push fx_94_139 ?_
                refine R_ias fx_94_140 kd_150 (by omega) (by rw [ln_150]; omega) (by omega) ?_
                refine R_al fx_94_141 rfl (by omega) ?_
                refine R_gr fx_94_142 kd_149 rfl rr_149_1 ?_
                refine R_push fx_94_145 ?_
                refine R_al fx_94_146 rfl (by omega) ?_
                refine R_gr fx_94_147 kd_149 rfl rr_149_1 ?_
                refine R_push fx_94_150 ?_
                refine R_ia fx_94_151 (Or.inl kd_150) (by omega) (by rw [ln_150]; omega) (by omega) ?_
                refine R_push fx_94_152 ?_
                refine R_add fx_94_153 ?_
                refine R_ias fx_94_154 kd_150 (by omega) (by rw [ln_150]; omega) (by omega) ?_
                refine R_al fx_94_155 rfl (by omega) ?_
                refine R_gr fx_94_156 kd_149 rfl rr_149_1 ?_
                refine R_push fx_94_159 ?_
                refine R_ia fx_94_160 (Or.inl kd_150) (by omega) (by rw [ln_150]; omega) (by omega) ?_
                refine R_push fx_94_161 ?_
                refine R_sub fx_94_162 ?_
                have hlt : G 0 < 12 := by have := hM.2 0 (by omega); rw [show (0 : Int).toNat = 0 from rfl] at hc; omega
                refine R_ret fx_94_163 (Or.inl rfl) ?_
                rw [e0]
                obtain ⟨c, hc0⟩ := Int.eq_ofNat_of_zero_le hV.1.1
                rw [hc0, show ((20 : Int) + 7 * ((c : Nat) : Int)).toNat = 20 + 7 * c by omega, show ((20 : Int) + 7 * ((c : Nat) : Int) + 1).toNat = 20 + 7 * c + 1 by omega, show ((20 : Int) + 7 * ((c : Nat) : Int) + 2).toNat = 20 + 7 * c + 2 by omega, show ((20 : Int) + 7 * ((c : Nat) : Int) + 3).toNat = 20 + 7 * c + 3 by omega, show ((20 : Int) + 7 * ((c : Nat) : Int) + 4).toNat = 20 + 7 * c + 4 by omega, show ((20 : Int) + 7 * ((c : Nat) : Int) + 5).toNat = 20 + 7 * c + 5 by omega, show ((20 : Int) + 7 * ((c : Nat) : Int) + 6).toNat = 20 + 7 * c + 6 by omega, show (0 : Int).toNat = 0 from rfl]
                generalize hX : xup (xup (xup (xup (xup (xup (xup f2 150 (20 + 7 * c) p) 150 (20 + 7 * c + 1) t) 150 (20 + 7 * c + 2) q) 150 (20 + 7 * c + 3) 0) 150 (20 + 7 * c + 4) (-1)) 150 (20 + 7 * c + 5) (-1)) 150 (20 + 7 * c + 6) 0 = X
                have x0 : X 150 0 = G 0 := by rw [← hX, xup_i (by omega), xup_i (by omega), xup_i (by omega), xup_i (by omega), xup_i (by omega), xup_i (by omega), xup_i (by omega)]; exact hM2.2 0 (by omega)
                have xo : ∀ c9, c9 ≠ 150 → X c9 = f2 c9 := fun c9 h9 => by rw [← hX]; funext i; simp [xup, h9]
                have xg : ∀ i, i < 112 → X 150 i = upR G c (newR p t q) i := fun i h9 => by
                  by_cases h : 20 + 7 * c ≤ i ∧ i < 27 + 7 * c
                  · obtain ⟨d, rfl⟩ : ∃ d, i = 20 + 7 * c + d := ⟨i - (20 + 7 * c), by omega⟩
                    rw [upR_in (by omega), ← hX]
                    rcases (show d = 0 ∨ d = 1 ∨ d = 2 ∨ d = 3 ∨ d = 4 ∨ d = 5 ∨ d = 6 by omega) with rfl | rfl | rfl | rfl | rfl | rfl | rfl <;> simp [xup, newR]
                  · rw [upR_out (by omega), ← hX]
                    simp [xup, show i ≠ 20 + 7 * c by omega, show i ≠ 20 + 7 * c + 1 by omega, show i ≠ 20 + 7 * c + 2 by omega, show i ≠ 20 + 7 * c + 3 by omega, show i ≠ 20 + 7 * c + 4 by omega, show i ≠ 20 + 7 * c + 5 by omega, show i ≠ 20 + 7 * c + 6 by omega]
                    exact hM2.2 i h9
                rw [x0, xup_s]
                have hz := K1 (by omega) (xup X 150 0 (G 0 + 1)) ⟨⟨by rw [xup_a (by omega), xo 149 (by omega)]; exact hM2.1, fun i h9 => ?_⟩, g1.kept (by rw [xup_a (by omega), xo 149 (by omega)]) (by funext i; rw [xup_a (by omega), xo 151 (by omega)]), fun c9 h9 => by rw [← hfr c9 h9, ← g3 c9 (by omega), ← xo c9 (by omega)]; funext i; rw [xup_a (by omega)], by rw [xup_a (by omega), xo 149 (by omega), g2 11 (by omega)]; exact hwt⟩
                · rw [show G 0 + 1 - 1 = G 0 by omega]; exact hz
                · rw [hc0, Int.toNat_natCast]
                  by_cases e : i = 0
                  · subst e; rw [xup_s, upG_s]
                  · rw [xup_i e, upG_n e]; exact xg i h9
              · refine R_push fx_94_52 ?_
                refine R_ret fx_94_53 (Or.inl rfl) (K0 ?_ _ ⟨hM, hK, hfr, hwt⟩)
                first | omega | (have := hM.2 0 (by omega); rw [show (0 : Int).toNat = 0 from rfl] at hc; omega)
end MV
