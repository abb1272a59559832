/-! ===== the model: its leaves, begins, keep, undo ===== -/
def startG : Nat → Int := fun i => if i = 1 then 6 else if i = 2 then 5 else if 4 ≤ i ∧ i < 12 then -1 else if 12 ≤ i ∧ i < 16 then 1 else 0
def Mg (f : xF) (G : Nat → Int) : Prop := f 149 4 = 1 ∧ ∀ i, i < 112 → f 150 i = G i
def Mst (f : xF) (G : Nat → Int) : Prop := Mg f G ∨ (f 149 4 = 0 ∧ (∀ i, i < 112 → f 150 i = 0) ∧ ∀ i, i < 112 → G i = startG i)
def Mk (f : xF) (n : Nat) (hi : Nat → Nat → Int) : Prop := n ≤ 6 ∧ f 149 3 = n ∧ ∀ i, i < n → ∀ j, j < 112 → f 151 ((n - 1 - i) * 112 + j) = hi i j
section MO
variable {L : Nat} {f : xF} {Q : List xV → xF → Prop} {G : Nat → Int} {hi : Nat → Nat → Int} {n : Nat}
theorem C_99 {r k : Int} (hr : 0 ≤ r ∧ r < 13) (hk : 0 ≤ k ∧ k < 7) (hM : Mg f G) (hr2 : r < 12 ∨ k = 0) (K : Q [.inl (G (20 + 7 * r.toNat + k.toNat))] f) : Rf (SHL L) 99 0 (xloc 99 [.inr 149, .inl r, .inl k]) [] f Q := by
  refine R_al fx_99_0 rfl (by omega) ?_
  refine R_gr fx_99_1 kd_149 rfl rr_149_1 ?_
  refine R_push fx_99_4 ?_
  refine R_push fx_99_6 ?_
  refine R_il fx_99_8 rfl ?_
  refine R_mul fx_99_9 ?_
  refine R_add fx_99_10 ?_
  refine R_il fx_99_11 rfl ?_
  refine R_add fx_99_12 ?_
  refine R_ia fx_99_13 (Or.inl kd_150) (by omega) (by rw [ln_150]; omega) (by omega) ?_
  refine R_ret fx_99_14 (Or.inl rfl) ?_
  rw [hM.2 _ (by omega), show (20 + 7 * r + k).toNat = 20 + 7 * r.toNat + k.toNat by omega]
  exact K
theorem C_97 {r : Int} (hr : xok r) (hM : Mg f G) (h0 : 0 ≤ G 0 ∧ G 0 ≤ 12) (K1 : 0 ≤ r ∧ r < G 0 → Q [.inl 1] f) (K0 : ¬ (0 ≤ r ∧ r < G 0) → Q [.inl 0] f) : Rf (SHL L) 97 0 (xloc 97 [.inr 149, .inl r]) [] f Q := by
  have e0 : f 150 (0 : Int).toNat = G 0 := hM.2 0 (by omega)
  refine R_il fx_97_0 rfl ?_
  refine R_iflt fx_97_1 (by omega) (fun hc => ?_) (fun hc => ?_)
  · refine R_push fx_97_18 ?_
    refine R_ret fx_97_19 (by decide) ?_
    first | exact K1 (by omega) | exact K0 (by omega)
  · refine R_il fx_97_4 rfl ?_
    refine R_al fx_97_5 rfl (by omega) ?_
    refine R_gr fx_97_6 kd_149 rfl rr_149_1 ?_
    refine R_push fx_97_9 ?_
    refine R_ia fx_97_10 (Or.inl kd_150) (by omega) (by rw [ln_150]; omega) (by omega) ?_
    refine R_icge fx_97_11 (by omega) (fun hc => ?_) (fun hc => ?_)
    · refine R_push fx_97_18 ?_
      refine R_ret fx_97_19 (by decide) ?_
      first | exact K1 (by omega) | exact K0 (by omega)
    · refine R_push fx_97_14 ?_
      refine R_goto fx_97_15 ?_
      refine R_ret fx_97_19 (by decide) ?_
      first | exact K1 (by omega) | exact K0 (by omega)
theorem C_98 {r : Int} (hr : 0 ≤ r ∧ r < 12) (hM : Mg f G) (hp : xok (G (20 + 7 * r.toNat + 3))) (K1 : G (20 + 7 * r.toNat + 3) = 0 → Q [.inl 1] f) (K0 : ¬ G (20 + 7 * r.toNat + 3) = 0 → Q [.inl 0] f) : Rf (SHL L) 98 0 (xloc 98 [.inr 149, .inl r]) [] f Q := by
  refine R_al fx_98_0 rfl (by omega) ?_
  refine R_il fx_98_1 rfl ?_
  refine R_push fx_98_2 ?_
  refine R_cv fx_98_3 rfl rfl rfl rfl kd_149 ?_
  refine C_99 (by omega) (by omega) hM (by omega) ?_
  refine R_ifne fx_98_6 (Or.inl hp) (fun hc => ?_) (fun hc => ?_)
  · refine R_push fx_98_13 ?_
    refine R_ret fx_98_14 (by decide) ?_
    first | exact K1 hc | exact K0 hc
  · refine R_push fx_98_9 ?_
    refine R_goto fx_98_10 ?_
    refine R_ret fx_98_14 (by decide) ?_
    first | exact K1 hc | exact K0 hc
def bgn1 (m : Nat) : Nat → Int := fun i => if 4 ≤ i ∧ i < 4 + m then -1 else if i = 1 then 6 else if i = 2 then 5 else 0
def bgn2 (m : Nat) : Nat → Int := fun i => if 12 ≤ i ∧ i < 12 + m then 1 else bgn1 8 i
theorem C_93 (hM : Mst f G) (K : ∀ f2 : xF, Mg f2 G → (∀ i, i ≠ 4 → f2 149 i = f 149 i) → (∀ c, c ≠ 149 ∧ c ≠ 150 → f2 c = f c) → Q [] f2) : Rf (SHL L) 93 0 (xloc 93 [.inr 149]) [] f Q := by
  rcases hM with hG | ⟨h4, hz, hs⟩
  · have h4 := hG.1
    refine R_al fx_93_0 rfl (by omega) ?_
    refine R_gf fx_93_1 kd_149 rfl ?_
    refine R_ifeq fx_93_4 (by omega) (fun hc => by omega) (fun hc => ?_)
    exact R_retv fx_93_7 rfl (K f hG (fun _ _ => rfl) (fun _ _ => rfl))
  · have fin : ∀ g : xF, (∀ i, i < 112 → g 150 i = startG i) → (∀ c, c ≠ 150 → g c = (xup f 149 4 1) c) → Q [] g := fun g q1 q2 => by
      refine K g ⟨by rw [q2 149 (by omega), xup_s], fun i h9 => by rw [q1 i h9, hs i h9]⟩ (fun i h9 => by rw [q2 149 (by omega), xup_i h9]) (fun c hc => by rw [q2 c hc.2]; funext i; rw [xup_a hc.1])
    have loop2 : ∀ (k m : Nat) (g : xF), m + k = 4 → (∀ i, i < 112 → g 150 i = bgn2 m i) → (∀ c, c ≠ 150 → g c = (xup f 149 4 1) c) → Rf (SHL L) 93 53 [some (.inr 149), some (.inl (m : Int))] [] g Q := by
     intro k
     induction k with
     | zero =>
      intro m g hmn e1 e2
      have hmj : m = 4 := by omega
      subst hmj
      refine R_il fx_93_53 rfl ?_
      refine R_push fx_93_54 ?_
      refine R_icge fx_93_55 (by omega) (fun hc => ?_) (fun hc => by omega)
      refine R_retv fx_93_74 rfl (fin g (fun i h9 => ?_) e2)
      rw [e1 i h9]
      unfold bgn2 bgn1 startG
      by_cases h1 : i = 1
      · subst h1; simp
      · by_cases h2 : i = 2
        · subst h2; simp
        · by_cases h3 : 12 ≤ i ∧ i < 16
          · rw [if_pos h3, if_neg h1, if_neg h2, if_neg (by omega), if_pos h3]
          · rw [if_neg (by omega)]
            by_cases h4 : 4 ≤ i ∧ i < 12
            · rw [if_pos (by omega), if_neg h1, if_neg h2, if_pos h4]
            · rw [if_neg (by omega), if_neg h1, if_neg h2, if_neg h4, if_neg h3, if_neg h1, if_neg h2]
     | succ k ih =>
      intro m g hmn e1 e2
      refine R_il fx_93_53 rfl ?_
      refine R_push fx_93_54 ?_
      refine R_icge fx_93_55 (by omega) (fun hc => by omega) (fun hc => ?_)
      refine R_al fx_93_58 rfl (by omega) ?_
      refine R_gr fx_93_59 kd_149 rfl rr_149_1 ?_
      refine R_push fx_93_62 ?_
      refine R_il fx_93_64 rfl ?_
      refine R_add fx_93_65 ?_
      refine R_push fx_93_66 ?_
      refine R_ias fx_93_67 kd_150 (by omega) (by rw [ln_150]; omega) (by omega) ?_
      refine R_inc fx_93_68 rfl ?_
      refine R_goto fx_93_71 ?_
      refine ih (m + 1) _ (by omega) (fun i h9 => ?_) (fun c hc => ?_)
      · by_cases e : i = 12 + m
        · subst e
          rw [show ((12 : Int) + (m : Int)).toNat = 12 + m by omega, xup_s]
          unfold bgn2; rw [if_pos (by omega)]
        · rw [xup_i (by omega), e1 i h9]
          unfold bgn2
          by_cases h4 : 12 ≤ i ∧ i < 12 + m
          · rw [if_pos h4, if_pos (by omega)]
          · rw [if_neg h4, if_neg (by omega)]
      · funext i; rw [xup_a hc]; exact congrFun (e2 c hc) i
    have loop1 : ∀ (k m : Nat) (g : xF), m + k = 8 → (∀ i, i < 112 → g 150 i = bgn1 m i) → (∀ c, c ≠ 150 → g c = (xup f 149 4 1) c) → Rf (SHL L) 93 30 [some (.inr 149), some (.inl (m : Int))] [] g Q := by
     intro k
     induction k with
     | zero =>
      intro m g hmn e1 e2
      have hmj : m = 8 := by omega
      subst hmj
      refine R_il fx_93_30 rfl ?_
      refine R_push fx_93_31 ?_
      refine R_icge fx_93_33 (by omega) (fun hc => ?_) (fun hc => by omega)
      refine R_push fx_93_51 ?_
      refine R_is fx_93_52 ?_
      exact loop2 4 0 g (by omega) (fun i h9 => by rw [e1 i h9]; unfold bgn2; rw [if_neg (by omega)]) e2
     | succ k ih =>
      intro m g hmn e1 e2
      refine R_il fx_93_30 rfl ?_
      refine R_push fx_93_31 ?_
      refine R_icge fx_93_33 (by omega) (fun hc => by omega) (fun hc => ?_)
      refine R_al fx_93_36 rfl (by omega) ?_
      refine R_gr fx_93_37 kd_149 rfl rr_149_1 ?_
      refine R_push fx_93_40 ?_
      refine R_il fx_93_41 rfl ?_
      refine R_add fx_93_42 ?_
      refine R_push fx_93_43 ?_
      refine R_ias fx_93_44 kd_150 (by omega) (by rw [ln_150]; omega) (by omega) ?_
      refine R_inc fx_93_45 rfl ?_
      refine R_goto fx_93_48 ?_
      refine ih (m + 1) _ (by omega) (fun i h9 => ?_) (fun c hc => ?_)
      · by_cases e : i = 4 + m
        · subst e
          rw [show ((4 : Int) + (m : Int)).toNat = 4 + m by omega, xup_s]
          unfold bgn1; rw [if_pos (by omega)]
        · rw [xup_i (by omega), e1 i h9]
          unfold bgn1
          by_cases h4 : 4 ≤ i ∧ i < 4 + m
          · rw [if_pos h4, if_pos (by omega)]
          · rw [if_neg h4, if_neg (show ¬ (4 ≤ i ∧ i < 4 + (m + 1)) by omega)]
      · funext i; rw [xup_a hc]; exact congrFun (e2 c hc) i
    refine R_al fx_93_0 rfl (by omega) ?_
    refine R_gf fx_93_1 kd_149 rfl ?_
    refine R_ifeq fx_93_4 (by omega) (fun hc => ?_) (fun hc => ?_)
    · refine R_al fx_93_8 rfl (by omega) ?_
      refine R_push fx_93_9 ?_
      refine R_pf fx_93_10 kd_149 rfl (fun _ => by omega) ?_
      refine R_al fx_93_13 rfl (by omega) ?_
      refine R_gr fx_93_14 kd_149 rfl rr_149_1 ?_
      refine R_push fx_93_17 ?_
      refine R_push fx_93_18 ?_
      refine R_ias fx_93_20 kd_150 (by omega) (by rw [ln_150]; omega) (by omega) ?_
      refine R_al fx_93_21 rfl (by omega) ?_
      refine R_gr fx_93_22 kd_149 rfl rr_149_1 ?_
      refine R_push fx_93_25 ?_
      refine R_push fx_93_26 ?_
      refine R_ias fx_93_27 kd_150 (by omega) (by rw [ln_150]; omega) (by omega) ?_
      refine R_push fx_93_28 ?_
      refine R_is fx_93_29 ?_
      refine loop1 8 0 _ (by omega) (fun i h9 => ?_) (fun c hc => ?_)
      · rw [show (1 : Int).toNat = 1 from rfl, show (2 : Int).toNat = 2 from rfl]
        unfold bgn1
        rw [if_neg (by omega)]
        by_cases h2 : i = 2
        · subst h2; rw [xup_s]; simp
        · rw [xup_i h2]
          by_cases h1 : i = 1
          · subst h1; rw [xup_s]; simp
          · rw [xup_i h1, xup_a (by omega), hz i h9, if_neg h1, if_neg h2]
      · funext i; rw [xup_a hc, xup_a hc]
    · exact absurd h4 hc
end MO
