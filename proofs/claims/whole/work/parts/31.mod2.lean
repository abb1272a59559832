/-! ===== the model: keep, undo ===== -/
section MP
variable {L : Nat} {f : xF} {Q : List xV → xF → Prop} {G : Nat → Int} {hi : Nat → Nat → Int} {n : Nat}
theorem C_95c {g0 : xF} {k : Nat} {X : Option xV} (hk : k ≤ 5) (h3 : g0 149 3 = k) (K : ∀ g2 : xF, (∀ i, i < 112 → g2 151 (k * 112 + i) = g0 150 i) → (∀ j, j < k * 112 → g2 151 j = g0 151 j) → g2 149 3 = (k : Int) + 1 → (∀ i, i ≠ 3 → g2 149 i = g0 149 i) → (∀ c, c ≠ 149 → c ≠ 151 → g2 c = g0 c) → Q [] g2) : Rf (SHL L) 95 44 [some (.inr 149), X] [] g0 Q := by
  have loop : ∀ (t m : Nat) (g : xF), m + t = 112 → (∀ i, i < m → g 151 (k * 112 + i) = g0 150 i) → (∀ j, j < k * 112 → g 151 j = g0 151 j) → (∀ c, c ≠ 151 → g c = g0 c) → Rf (SHL L) 95 46 [some (.inr 149), some (.inl (m : Int))] [] g Q := by
    intro t
    induction t with
    | zero =>
      intro m g hmn e1 e2 e3
      have hk3 : g 149 3 = k := by rw [e3 149 (by omega)]; exact h3
      have hmj : m = 112 := by omega
      subst hmj
      refine R_il fx_95_46 rfl ?_
      refine R_push fx_95_47 ?_
      refine R_icge fx_95_49 (by omega) (fun hc => ?_) (fun hc => by omega)
      refine R_al fx_95_78 rfl (by omega) ?_
      refine R_al fx_95_79 rfl (by omega) ?_
      refine R_gf fx_95_80 kd_149 rfl ?_
      refine R_push fx_95_83 ?_
      refine R_add fx_95_84 ?_
      refine R_pf fx_95_85 kd_149 rfl (fun h => absurd h (by decide)) ?_
      refine R_retv fx_95_88 rfl (K _ (fun i h9 => ?_) (fun j h9 => ?_) ?_ (fun i h9 => ?_) (fun c h8 h9 => ?_))
      · rw [xup_a (by omega)]; exact e1 i h9
      · rw [xup_a (by omega)]; exact e2 j h9
      · rw [xup_s, hk3]
      · rw [xup_i h9, e3 149 (by omega)]
      · funext i; rw [xup_a h8, e3 c h9]
    | succ t ih =>
      intro m g hmn e1 e2 e3
      have hk3 : g 149 3 = k := by rw [e3 149 (by omega)]; exact h3
      refine R_il fx_95_46 rfl ?_
      refine R_push fx_95_47 ?_
      refine R_icge fx_95_49 (by omega) (fun hc => by omega) (fun hc => ?_)
      refine R_al fx_95_52 rfl (by omega) ?_
      refine R_gr fx_95_53 kd_149 rfl rr_149_2 ?_
      refine R_al fx_95_56 rfl (by omega) ?_
      refine R_gf fx_95_57 kd_149 rfl ?_
      refine R_push fx_95_60 ?_
      refine R_mul fx_95_62 ?_
      refine R_il fx_95_63 rfl ?_
      refine R_add fx_95_64 ?_
      refine R_al fx_95_65 rfl (by omega) ?_
      refine R_gr fx_95_66 kd_149 rfl rr_149_1 ?_
      refine R_il fx_95_69 rfl ?_
      refine R_ia fx_95_70 (Or.inl kd_150) (by omega) (by rw [ln_150]; omega) (by omega) ?_
      refine R_ias fx_95_71 kd_151 (by rw [hk3]; omega) (by rw [ln_151, hk3]; omega) (by rw [hk3]; omega) ?_
      refine R_inc fx_95_72 rfl ?_
      refine R_goto fx_95_75 ?_
      rw [hk3, show ((k : Int) * 112 + (m : Int)).toNat = k * 112 + m by omega, Int.toNat_natCast]
      refine ih (m + 1) _ (by omega) (fun i h9 => ?_) (fun j h9 => ?_) (fun c hc => ?_)
      · by_cases e : i = m
        · subst e; rw [xup_s, e3 150 (by omega)]
        · rw [xup_i (by omega)]; exact e1 i (by omega)
      · rw [xup_i (by omega)]; exact e2 j h9
      · funext i; rw [xup_a hc]; exact congrFun (e3 c hc) i
  refine R_push fx_95_44 ?_
  refine R_is fx_95_45 ?_
  exact loop 112 0 g0 (by omega) (fun i h9 => absurd h9 (by omega)) (fun _ _ => rfl) (fun _ _ => rfl)
theorem C_95 (hM : Mg f G) (hK : Mk f n hi) (K : ∀ f2 : xF, Mk f2 (min (n + 1) 6) (consG G hi) → (∀ i, i ≠ 3 → f2 149 i = f 149 i) → (∀ c, c ≠ 149 ∧ c ≠ 151 → f2 c = f c) → Q [] f2) : Rf (SHL L) 95 0 (xloc 95 [.inr 149]) [] f Q := by
  obtain ⟨hK1, hK2, hK3⟩ := hK
  have loop : n = 6 → ∀ (t m : Nat) (g : xF), m + t = 560 → (∀ i, i < m → g 151 i = f 151 (i + 112)) → (∀ i, m ≤ i → g 151 i = f 151 i) → (∀ c, c ≠ 151 → g c = f c) → Rf (SHL L) 95 11 [some (.inr 149), some (.inl (m : Int))] [] g Q := by
    intro hn6 t
    induction t with
    | zero =>
      intro m g hmn e1 e1b e2
      have hmj : m = 560 := by omega
      subst hmj
      refine R_il fx_95_11 rfl ?_
      refine R_push fx_95_12 ?_
      refine R_icge fx_95_15 (by omega) (fun hc => ?_) (fun hc => by omega)
      refine R_al fx_95_39 rfl (by omega) ?_
      refine R_push fx_95_40 ?_
      refine R_pf fx_95_41 kd_149 rfl (fun h => absurd h (by decide)) ?_
      refine C_95c (k := 5) (by omega) xup_s (fun g2 q1 q2 q3 q4 q5 => ?_)
      refine K g2 ⟨by omega, by rw [q3, show min (n + 1) 6 = 6 by omega]; rfl, fun i h9 j hj => ?_⟩ (fun i h9 => by rw [q4 i h9, xup_i h9, e2 149 (by omega)]) (fun c h9 => by rw [q5 c h9.1 h9.2]; funext i; rw [xup_a h9.1, e2 c h9.2])
      have hn6 : n = 6 := by omega
      subst hn6
      cases i with
      | zero => rw [show (min (6 + 1) 6 - 1 - 0) * 112 + j = 5 * 112 + j by omega, q1 j hj, xup_a (by omega), e2 150 (by omega)]; exact hM.2 j hj
      | succ i =>
        rw [show (min (6 + 1) 6 - 1 - (i + 1)) * 112 + j = (4 - i) * 112 + j by omega, q2 _ (by omega), xup_a (by omega), e1 _ (by omega)]
        have := hK3 i (by omega) j hj
        rw [show (6 - 1 - i) * 112 + j = (4 - i) * 112 + j + 112 by omega] at this
        exact this
    | succ t ih =>
      intro m g hmn e1 e1b e2
      refine R_il fx_95_11 rfl ?_
      refine R_push fx_95_12 ?_
      refine R_icge fx_95_15 (by omega) (fun hc => by omega) (fun hc => ?_)
      refine R_al fx_95_18 rfl (by omega) ?_
      refine R_gr fx_95_19 kd_149 rfl rr_149_2 ?_
      refine R_il fx_95_22 rfl ?_
      refine R_al fx_95_23 rfl (by omega) ?_
      refine R_gr fx_95_24 kd_149 rfl rr_149_2 ?_
      refine R_il fx_95_27 rfl ?_
      refine R_push fx_95_28 ?_
      refine R_add fx_95_30 ?_
      refine R_ia fx_95_31 (Or.inl kd_151) (by omega) (by rw [ln_151]; omega) (by omega) ?_
      refine R_ias fx_95_32 kd_151 (by omega) (by rw [ln_151]; omega) (by omega) ?_
      refine R_inc fx_95_33 rfl ?_
      refine R_goto fx_95_36 ?_
      rw [Int.toNat_natCast, show ((m : Int) + 112).toNat = m + 112 by omega]
      refine ih (m + 1) _ (by omega) (fun i h9 => ?_) (fun i h9 => ?_) (fun c hc => ?_)
      · by_cases e : i = m
        · subst e; rw [xup_s]; exact e1b _ (by omega)
        · rw [xup_i e]; exact e1 i (by omega)
      · rw [xup_i (by omega)]; exact e1b i (by omega)
      · funext i; rw [xup_a hc]; exact congrFun (e2 c hc) i
  refine R_al fx_95_0 rfl (by omega) ?_
  refine R_gf fx_95_1 kd_149 rfl ?_
  refine R_push fx_95_4 ?_
  refine R_icne fx_95_6 (by omega) (fun hc => ?_) (fun hc => ?_)
  · refine C_95c (k := n) (by omega) hK2 (fun g2 q1 q2 q3 q4 q5 => ?_)
    refine K g2 ⟨by omega, by rw [q3]; omega, fun i h9 j hj => ?_⟩ q4 (fun c h9 => q5 c h9.1 h9.2)
    cases i with
    | zero => rw [show (min (n + 1) 6 - 1 - 0) * 112 + j = n * 112 + j by rw [show min (n + 1) 6 - 1 - 0 = n by omega], q1 j hj]; exact hM.2 j hj
    | succ i =>
      rw [show min (n + 1) 6 - 1 - (i + 1) = n - 1 - i by omega]
      rw [q2 _ (by have : (n - 1 - i) * 112 ≤ (n - 1) * 112 := Nat.mul_le_mul_right _ (by omega); omega)]
      exact hK3 i (by omega) j hj
  · refine R_push fx_95_9 ?_
    refine R_is fx_95_10 ?_
    exact loop (by omega) 560 0 f (by omega) (fun i h9 => absurd h9 (by omega)) (fun _ _ => rfl) (fun _ _ => rfl)
end MP
