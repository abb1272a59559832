/-! ===== the model: undo, files, file ===== -/
section MS
variable {L : Nat} {f : xF} {Q : List xV → xF → Prop} {G : Nat → Int} {hi : Nat → Nat → Int} {n : Nat}
theorem C_92l {g0 : xF} {k : Nat} (hk : k ≤ 5) (h3 : g0 149 3 = k) (K : ∀ g : xF, (∀ i, i < 112 → g 150 i = g0 151 (k * 112 + i)) → (∀ c, c ≠ 150 → g c = g0 c) → Q [.inl 1] g) : ∀ (t m : Nat) (g : xF), m + t = 112 → (∀ i, i < m → g 150 i = g0 151 (k * 112 + i)) → (∀ c, c ≠ 150 → g c = g0 c) → Rf (SHL L) 92 30 [some (.inr 149), some (.inl (m : Int))] [] g Q := by
    intro t
    induction t with
    | zero =>
      intro m g hmn e1 e2
      have hmj : m = 112 := by omega
      subst hmj
      refine R_il fx_92_30 rfl ?_
      refine R_push fx_92_31 ?_
      refine R_icge fx_92_33 (by omega) (fun hc => ?_) (fun hc => by omega)
      refine R_push fx_92_62 ?_
      exact R_ret fx_92_63 (by decide) (K g e1 e2)
    | succ t ih =>
      intro m g hmn e1 e2
      have hk3 : g 149 3 = k := by rw [e2 149 (by omega)]; exact h3
      refine R_il fx_92_30 rfl ?_
      refine R_push fx_92_31 ?_
      refine R_icge fx_92_33 (by omega) (fun hc => by omega) (fun hc => ?_)
      refine R_al fx_92_36 rfl (by omega) ?_
      refine R_gr fx_92_37 kd_149 rfl rr_149_1 ?_
      refine R_il fx_92_40 rfl ?_
      refine R_al fx_92_41 rfl (by omega) ?_
      refine R_gr fx_92_42 kd_149 rfl rr_149_2 ?_
      refine R_al fx_92_45 rfl (by omega) ?_
      refine R_gf fx_92_46 kd_149 rfl ?_
      refine R_push fx_92_49 ?_
      refine R_mul fx_92_51 ?_
      refine R_il fx_92_52 rfl ?_
      refine R_add fx_92_53 ?_
      refine R_ia fx_92_54 (Or.inl kd_151) (by rw [hk3]; omega) (by rw [ln_151, hk3]; omega) (by rw [hk3]; omega) ?_
      refine R_ias fx_92_55 kd_150 (by omega) (by rw [ln_150]; omega) (by omega) ?_
      refine R_inc fx_92_56 rfl ?_
      refine R_goto fx_92_59 ?_
      rw [hk3, Int.toNat_natCast, show ((k : Int) * 112 + (m : Int)).toNat = k * 112 + m by omega]
      refine ih (m + 1) _ (by omega) (fun i h9 => ?_) (fun c hc => ?_)
      · by_cases e : i = m
        · subst e; rw [xup_s, e2 151 (by omega)]
        · rw [xup_i e]; exact e1 i (by omega)
      · funext i; rw [xup_a hc]; exact congrFun (e2 c hc) i
theorem C_92 (hM0 : Mst f G) (hK0 : Mk f n hi) (K1 : 0 < n → ∀ f2, Dm f f2 (n - 1) (fun i => hi (i + 1)) (hi 0) → Q [.inl 1] f2) (K0 : n = 0 → ∀ f2, Dm f f2 n hi G → Q [.inl 0] f2) : Rf (SHL L) 92 0 (xloc 92 [.inr 149]) [] f Q := by
  refine R_al fx_92_0 rfl (by omega) ?_
  refine R_push fx_92_1 ?_
  refine R_pf fx_92_2 kd_149 rfl (fun h => absurd h (by decide)) ?_
  refine R_al fx_92_5 rfl (by omega) ?_
  refine R_cv fx_92_6 rfl rfl rfl rfl kd_149 ?_
  refine C_93 hM0.told (fun f1 b1 b2 b3 => ?_)
  have hM : Mg f1 G := b1
  have hK : Mk f1 n hi := hK0.kept (by rw [b2 3 (by omega), xup_i (by omega)]) (by rw [b3 151 (by omega)]; funext i; rw [xup_a (by omega)])
  have hfr : ∀ c, (c < 149 ∨ 151 < c) → f1 c = f c := fun c hc => by rw [b3 c (by omega)]; funext i; rw [xup_a (by omega)]
  have hwt : f1 149 11 = f 149 11 := by rw [b2 11 (by omega), xup_i (by omega)]
  refine R_al fx_92_9 rfl (by omega) ?_
  refine R_gf fx_92_10 kd_149 rfl ?_
  refine R_ifne fx_92_13 (by have := hK.1; have := hK.2.1; omega) (fun hc => ?_) (fun hc => ?_)
  · refine R_al fx_92_18 rfl (by omega) ?_
    refine R_al fx_92_19 rfl (by omega) ?_
    refine R_gf fx_92_20 kd_149 rfl ?_
    refine R_push fx_92_23 ?_
    refine R_sub fx_92_24 ?_
    refine R_pf fx_92_25 kd_149 rfl (fun h => absurd h (by decide)) ?_
    refine R_push fx_92_28 ?_
    refine R_is fx_92_29 ?_
    obtain ⟨q1, q2, q3⟩ := hK
    refine C_92l (k := n - 1) (by omega) (by rw [xup_s]; omega) (fun g e1 e2 => ?_) 112 0 _ (by omega) (fun i h9 => absurd h9 (by omega)) (fun _ _ => rfl)
    refine K1 (by omega) g ⟨⟨by rw [e2 149 (by omega), xup_i (by omega)]; exact hM.1, fun i h9 => ?_⟩, ⟨by omega, by rw [e2 149 (by omega), xup_s]; omega, fun i h9 j hj => ?_⟩, fun c hc => ?_, by rw [e2 149 (by omega), xup_i (by omega)]; exact hwt⟩
    · rw [e1 i h9, xup_a (by omega)]; exact q3 0 (by omega) i h9
    · rw [e2 151 (by omega), xup_a (by omega), show n - 1 - 1 - i = n - 1 - (i + 1) by omega]; exact q3 (i + 1) (by omega) j hj
    · rw [e2 c (by omega), ← hfr c hc]; funext i; rw [xup_a (by omega)]
  · refine R_push fx_92_16 ?_
    refine R_ret fx_92_17 (by decide) ?_
    exact K0 (by have := hK.2.1; omega) _ ⟨hM, hK, hfr, hwt⟩
end MS
