/-! ===== tuning, look ===== -/
def tunG (G : Nat → Int) (kd key : Int) : Nat → Int := fun i => if 4 ≤ i ∧ i < 12 then key + xnth xkeys (kd.toNat * 8 + (i - 4)) 0 else G i
section AS
variable {L : Nat} {f : xF} {Q : List xV → xF → Prop} {G : Nat → Int} {hi : Nat → Nat → Int} {n x : Nat}
theorem C_22l {f2 : xF} {kd key : Int} (hS : Sg f 4 G) (g1 : Hc f2 (min (n + 1) 6) ((x + 1) % 6) (consG G hi)) (g2 : f2 141 8 = 0) (g3 : ∀ i, i ≠ 8 → f2 141 i = f 141 i) (g4 : ∀ c, (c < 21 ∨ 125 ≤ c) ∧ c ≠ 141 → f2 c = f c) (hkey : ∀ i, i < 24 → f 2 i = xnth xkeys i 0) (hc9 : (0 ≤ kd ∧ kd ≤ 2) ∧ 0 ≤ key ∧ key ≤ 8000) (K1 : (0 ≤ kd ∧ kd ≤ 2) ∧ 0 ≤ key ∧ key ≤ 8000 → ∀ f2, Dn f f2 n x hi G (tunG G kd key) → Q [.inl 1] f2) : ∀ (k m : Nat) (g : xF), m + k = 8 → (∀ s, s < m → g 6 s = key + xnth xkeys (kd.toNat * 8 + s) 0) → (∀ c, c ≠ 6 → g c = f2 c) → Rf (SHL L) 22 28 [some (.inr 3), some (.inl kd), some (.inl key), some (.inl (m : Int))] [] g Q := by
    have hk2 : f2 2 = f 2 := g4 2 (by omega)
    intro k
    induction k with
    | zero =>
      intro m g hmn e1 e2
      have hmj : m = 8 := by omega
      subst hmj
      refine R_il fx_22_28 rfl ?_
      refine R_push fx_22_29 ?_
      refine R_icge fx_22_31 (by omega) (fun hc => ?_) (fun hc => by omega)
      refine R_push fx_22_61 ?_
      refine R_ret fx_22_62 (by decide) (K1 (by omega) _ (Dn.of g1 g2 g3 g4 (fun c hc => e2 c (by omega)) ?_))
      have hS2 : Sg f2 4 G := hS.kept (fun c q1 q2 => g4 c (by omega))
      obtain ⟨⟨h1, h2, h3, h4⟩, h5, h6, h7, h8⟩ := hS2
      refine ⟨⟨?_, ?_, ?_, ?_⟩, fun t ht => ?_, fun t ht => ?_, fun t ht => ?_, fun r hr hg j hj => ?_⟩
      · rw [e2 4 (by omega)]; exact h1
      · rw [e2 4 (by omega)]; exact h2
      · rw [e2 4 (by omega)]; exact h3
      · rw [e2 4 (by omega)]; exact h4
      · rw [show tunG G kd key (4 + t) = key + xnth xkeys (kd.toNat * 8 + t) 0 by unfold tunG; rw [if_pos (by omega)]; congr 2; omega]; exact e1 t ht
      · rw [e2 _ (by omega), show tunG G kd key (12 + t) = G (12 + t) from if_neg (by omega)]; exact h6 t ht
      · rw [e2 _ (by omega), show tunG G kd key (16 + t) = G (16 + t) from if_neg (by omega)]; exact h7 t ht
      · rw [show tunG G kd key 0 = G 0 from if_neg (by omega)] at hg
        rw [e2 _ (by omega), show tunG G kd key (20 + 7 * r + j) = G (20 + 7 * r + j) from if_neg (by omega)]; exact h8 r hr hg j hj
    | succ k ih =>
      intro m g hmn e1 e2
      refine R_il fx_22_28 rfl ?_
      refine R_push fx_22_29 ?_
      refine R_icge fx_22_31 (by omega) (fun hc => by omega) (fun hc => ?_)
      refine R_al fx_22_34 rfl (by omega) ?_
      refine R_gr fx_22_35 kd_3 rfl rr_3_0 ?_
      refine R_gr fx_22_38 kd_4 rfl rr_4_1 ?_
      refine R_il fx_22_41 rfl ?_
      refine R_il fx_22_42 rfl ?_
      refine R_key fx_22_43 ?_
      refine R_il fx_22_46 rfl ?_
      refine R_push fx_22_47 ?_
      refine R_mul fx_22_49 ?_
      refine R_il fx_22_50 rfl ?_
      refine R_add fx_22_51 ?_
      refine R_ia fx_22_52 (Or.inr kd_2) (by omega) (by rw [ln_2]; omega) (by omega) ?_
      refine R_add fx_22_53 ?_
      refine R_ias fx_22_54 kd_6 (by omega) (by rw [ln_6]; omega) (by omega) ?_
      refine R_inc fx_22_55 rfl ?_
      refine R_goto fx_22_58 ?_
      refine ih (m + 1) _ (by omega) (fun s hs => ?_) (fun c hc => ?_)
      · by_cases e : s = m
        · subst e
          rw [Int.toNat_natCast, xup_s, e2 2 (by omega), hk2, hkey _ (by omega)]
          congr 2; omega
        · rw [Int.toNat_natCast, xup_i e]; exact e1 s (by omega)
      · funext i; rw [xup_a hc]; exact congrFun (e2 c hc) i
theorem C_22 {kd key : Int} (hH : Hc f n x hi) (hS : Sg f 4 G) (ha : xok kd) (hb : xok key) (hkey : ∀ i, i < 24 → f 2 i = xnth xkeys i 0) (K1 : (0 ≤ kd ∧ kd ≤ 2) ∧ 0 ≤ key ∧ key ≤ 8000 → ∀ f2, Dn f f2 n x hi G (tunG G kd key) → Q [.inl 1] f2) (K0 : ¬ ((0 ≤ kd ∧ kd ≤ 2) ∧ 0 ≤ key ∧ key ≤ 8000) → Q [.inl 0] f) : Rf (SHL L) 22 0 (xloc 22 [.inr 3, .inl kd, .inl key]) [] f Q := by
  refine R_il fx_22_0 rfl ?_
  refine R_push fx_22_1 ?_
  refine R_push fx_22_2 ?_
  refine R_cs fx_22_3 rfl rfl rfl rfl ?_
  refine C_9 (by omega) (by omega) (by omega) (fun hc => ?_) (fun hc => ?_)
  · refine R_ifeq fx_22_6 (by decide) (fun h => absurd h (by decide)) (fun _ => ?_)
    refine R_il fx_22_9 rfl ?_
    refine R_push fx_22_10 ?_
    refine R_push fx_22_11 ?_
    refine R_cs fx_22_14 rfl rfl rfl rfl ?_
    refine C_9 (by omega) (by omega) (by omega) (fun hc => ?_) (fun hc => ?_)
    · refine R_ifne fx_22_17 (by decide) (fun _ => ?_) (fun h => absurd h (by decide))
      refine R_al fx_22_22 rfl (by omega) ?_
      refine R_cv fx_22_23 rfl rfl rfl rfl kd_3 ?_
      refine C_10 hH hS (fun f2 g1 g2 g3 g4 => ?_)
      refine R_push fx_22_26 ?_
      refine R_is fx_22_27 ?_
      exact C_22l hS g1 g2 g3 g4 hkey (by omega) K1 8 0 f2 (by omega) (fun s hs => absurd hs (by omega)) (fun _ _ => rfl)
    · refine R_ifne fx_22_17 (by decide) (fun h => absurd h (by decide)) (fun _ => ?_)
      refine R_push fx_22_20 ?_
      refine R_ret fx_22_21 (by decide) ?_
      exact K0 (by omega)
  · refine R_ifeq fx_22_6 (by decide) (fun _ => ?_) (fun h => absurd h (by decide))
    refine R_push fx_22_20 ?_
    refine R_ret fx_22_21 (by decide) ?_
    exact K0 (by omega)
def lookG (G : Nat → Int) (fr ws : Nat) (w : Int) : Int := if w = 0 then G 0 else if w = 1 then ((popc fr 12 : Nat) : Int) else if w = 2 then G 1 else if w = 3 then G 2 else if w = 4 then ws else if w = 5 then G 3 else if 10 ≤ w ∧ w ≤ 17 then G (4 + (w - 10).toNat) else if 20 ≤ w ∧ w ≤ 27 then (if G (12 + ((w - 20) / 2).toNat) ≤ G (16 + ((w - 20) / 2).toNat) then (if (w - 20) % 2 = 0 then G (12 + ((w - 20) / 2).toNat) else G (16 + ((w - 20) / 2).toNat)) else -1001) else -1001
theorem C_27 {w : Int} (hV : VG G) (hS : Sg f 4 G) (hw0 : xok w) (K : Q [.inl (lookG G (bset (frp f) 12) (bset (wsp f) 8) w)] f) : Rf (SHL L) 27 0 (xloc 27 [.inr 3, .inl w]) [] f Q := by
  have hm := hV.m hS
  have hp := hV.p hS
  have h0 := hS.1.1
  have hw := hV.w hS
  have hb := hV.b hS
  refine R_il fx_27_0 rfl ?_
  refine R_push fx_27_1 ?_
  refine R_push fx_27_3 ?_
  refine R_cs fx_27_5 rfl rfl rfl rfl ?_
  refine C_9 (by omega) (by omega) (by omega) (fun hc => ?_) (fun hc => ?_)
  · refine R_ifeq fx_27_8 (by decide) (fun h => absurd h (by decide)) (fun _ => ?_)
    refine R_al fx_27_11 rfl (by omega) ?_
    refine R_gr fx_27_12 kd_3 rfl rr_3_0 ?_
    refine R_gr fx_27_15 kd_4 rfl rr_4_1 ?_
    refine R_il fx_27_18 rfl ?_
    refine R_push fx_27_19 ?_
    refine R_sub fx_27_21 ?_
    refine R_ia fx_27_22 (Or.inl kd_6) (by omega) (by rw [ln_6]; omega) (by omega) ?_
    refine R_ret fx_27_23 (Or.inl rfl) ?_
    have e := hS.2.1 (w - 10).toNat (by omega)
    have e9 : lookG G (bset (frp f) 12) (bset (wsp f) 8) w = G (4 + (w - 10).toNat) := by unfold lookG; rw [if_neg (by omega), if_neg (by omega), if_neg (by omega), if_neg (by omega), if_neg (by omega), if_neg (by omega), if_pos (by omega)]
    rw [e9, ← e] at K
    exact K
  · refine R_ifeq fx_27_8 (by decide) (fun _ => ?_) (fun h => absurd h (by decide))
    refine R_il fx_27_24 rfl ?_
    refine R_push fx_27_25 ?_
    refine R_push fx_27_27 ?_
    refine R_cs fx_27_29 rfl rfl rfl rfl ?_
    refine C_9 (by omega) (by omega) (by omega) (fun hc => ?_) (fun hc => ?_)
    · refine R_ifeq fx_27_32 (by decide) (fun h => absurd h (by decide)) (fun _ => ?_)
      refine R_al fx_27_35 rfl (by omega) ?_
      refine R_il fx_27_36 rfl ?_
      refine R_push fx_27_37 ?_
      refine R_sub fx_27_39 ?_
      refine R_cv fx_27_40 rfl rfl rfl rfl kd_3 ?_
      refine C_28 (by omega) hb ?_
      refine R_ret fx_27_43 (Or.inl rfl) ?_
      have e1 := hS.2.2.1 ((w - 20) / 2).toNat (by omega)
      have e2 := hS.2.2.2.1 ((w - 20) / 2).toNat (by omega)
      have e9 : lookG G (bset (frp f) 12) (bset (wsp f) 8) w = (if G (12 + ((w - 20) / 2).toNat) ≤ G (16 + ((w - 20) / 2).toNat) then (if (w - 20) % 2 = 0 then G (12 + ((w - 20) / 2).toNat) else G (16 + ((w - 20) / 2).toNat)) else -1001) := by unfold lookG; rw [if_neg (by omega), if_neg (by omega), if_neg (by omega), if_neg (by omega), if_neg (by omega), if_neg (by omega), if_neg (by omega), if_pos (by omega)]
      rw [e9, ← e1, ← e2] at K
      exact K
    · refine R_ifeq fx_27_32 (by decide) (fun _ => ?_) (fun h => absurd h (by decide))
      refine R_il fx_27_44 rfl ?_
      rcases (show w = 0 ∨ w = 1 ∨ w = 2 ∨ w = 3 ∨ w = 4 ∨ w = 5 ∨ (w < 0 ∨ 6 ≤ w) by omega) with rfl | rfl | rfl | rfl | rfl | rfl | hw
      · refine R_sw fx_27_45 (by decide) rfl ?_
        refine R_al fx_27_84 rfl (by omega) ?_
        refine R_gr fx_27_85 kd_3 rfl rr_3_0 ?_
        refine R_gf fx_27_88 kd_4 rfl ?_
        refine R_ret fx_27_91 (Or.inl rfl) ?_
        rw [hS.1.1]; exact K
      · refine R_sw fx_27_45 (by decide) rfl ?_
        refine R_al fx_27_92 rfl (by omega) ?_
        refine R_gr fx_27_93 kd_3 rfl rr_3_0 ?_
        refine R_cv fx_27_96 rfl rfl rfl rfl kd_4 ?_
        refine C_30 hm hp ?_
        refine R_cs fx_27_99 rfl rfl rfl rfl ?_
        refine C_31 (bset_lt (frp f) 12) ?_
        exact R_ret fx_27_102 (Or.inl rfl) K
      · refine R_sw fx_27_45 (by decide) rfl ?_
        refine R_al fx_27_103 rfl (by omega) ?_
        refine R_gr fx_27_104 kd_3 rfl rr_3_0 ?_
        refine R_gf fx_27_107 kd_4 rfl ?_
        refine R_ret fx_27_110 (Or.inl rfl) ?_
        rw [hS.1.2.1]; exact K
      · refine R_sw fx_27_45 (by decide) rfl ?_
        refine R_al fx_27_111 rfl (by omega) ?_
        refine R_gr fx_27_112 kd_3 rfl rr_3_0 ?_
        refine R_gf fx_27_115 kd_4 rfl ?_
        refine R_ret fx_27_118 (Or.inl rfl) ?_
        rw [hS.1.2.2.1]; exact K
      · refine R_sw fx_27_45 (by decide) rfl ?_
        refine R_al fx_27_119 rfl (by omega) ?_
        refine R_gr fx_27_120 kd_3 rfl rr_3_0 ?_
        refine R_cv fx_27_123 rfl rfl rfl rfl kd_4 ?_
        refine C_32 hw ?_
        exact R_ret fx_27_126 (Or.inl rfl) K
      · refine R_sw fx_27_45 (by decide) rfl ?_
        refine R_al fx_27_127 rfl (by omega) ?_
        refine R_gr fx_27_128 kd_3 rfl rr_3_0 ?_
        refine R_gf fx_27_131 kd_4 rfl ?_
        refine R_ret fx_27_134 (Or.inl rfl) ?_
        rw [hS.1.2.2.2]; exact K
      · refine R_sw fx_27_45 hw0 (if_pos (show w < 0 ∨ ((6 : Nat) : Int) ≤ w by omega)) ?_
        refine R_push fx_27_135 ?_
        refine R_ret fx_27_138 (Or.inl rfl) ?_
        have e9 : lookG G (bset (frp f) 12) (bset (wsp f) 8) w = -1001 := by unfold lookG; rw [if_neg (by omega), if_neg (by omega), if_neg (by omega), if_neg (by omega), if_neg (by omega), if_neg (by omega), if_neg (by omega), if_neg (by omega)]
        rw [e9] at K
        exact K
end AS
