/-! ===== states, the history ===== -/
def SA (L A : Nat) : Prop := (3 < A ∧ xkd (SHL L) A = 14 ∧ xrr (SHL L) A 0 = A + 1 ∧ xrr (SHL L) A 1 = A + 2 ∧ xrr (SHL L) A 2 = A + 3 ∧ xrr (SHL L) A 3 = A + 4) ∧ (xkd (SHL L) (A + 1) = 2 ∧ xln (SHL L) (A + 1) = 12) ∧ (xkd (SHL L) (A + 2) = 1 ∧ xln (SHL L) (A + 2) = 8) ∧ (xkd (SHL L) (A + 3) = 1 ∧ xln (SHL L) (A + 3) = 4) ∧ (xkd (SHL L) (A + 4) = 1 ∧ xln (SHL L) (A + 4) = 4) ∧ ∀ r, r < 12 → xrr (SHL L) (A + 1) r = A + 5 + r ∧ xkd (SHL L) (A + 5 + r) = 13
theorem SA_4 (L : Nat) : SA L 4 := ⟨⟨by omega, rfl, rfl, rfl, rfl, rfl⟩, ⟨rfl, rfl⟩, ⟨rfl, rfl⟩, ⟨rfl, rfl⟩, ⟨rfl, rfl⟩, x12 ⟨⟨rfl, rfl⟩, ⟨rfl, rfl⟩, ⟨rfl, rfl⟩, ⟨rfl, rfl⟩, ⟨rfl, rfl⟩, ⟨rfl, rfl⟩, ⟨rfl, rfl⟩, ⟨rfl, rfl⟩, ⟨rfl, rfl⟩, ⟨rfl, rfl⟩, ⟨rfl, rfl⟩, ⟨rfl, rfl⟩⟩⟩
theorem SA_23 (L : Nat) : SA L 23 := ⟨⟨by omega, rfl, rfl, rfl, rfl, rfl⟩, ⟨rfl, rfl⟩, ⟨rfl, rfl⟩, ⟨rfl, rfl⟩, ⟨rfl, rfl⟩, x12 ⟨⟨rfl, rfl⟩, ⟨rfl, rfl⟩, ⟨rfl, rfl⟩, ⟨rfl, rfl⟩, ⟨rfl, rfl⟩, ⟨rfl, rfl⟩, ⟨rfl, rfl⟩, ⟨rfl, rfl⟩, ⟨rfl, rfl⟩, ⟨rfl, rfl⟩, ⟨rfl, rfl⟩, ⟨rfl, rfl⟩⟩⟩
theorem SA_40 (L : Nat) : SA L 40 := ⟨⟨by omega, rfl, rfl, rfl, rfl, rfl⟩, ⟨rfl, rfl⟩, ⟨rfl, rfl⟩, ⟨rfl, rfl⟩, ⟨rfl, rfl⟩, x12 ⟨⟨rfl, rfl⟩, ⟨rfl, rfl⟩, ⟨rfl, rfl⟩, ⟨rfl, rfl⟩, ⟨rfl, rfl⟩, ⟨rfl, rfl⟩, ⟨rfl, rfl⟩, ⟨rfl, rfl⟩, ⟨rfl, rfl⟩, ⟨rfl, rfl⟩, ⟨rfl, rfl⟩, ⟨rfl, rfl⟩⟩⟩
theorem SA_57 (L : Nat) : SA L 57 := ⟨⟨by omega, rfl, rfl, rfl, rfl, rfl⟩, ⟨rfl, rfl⟩, ⟨rfl, rfl⟩, ⟨rfl, rfl⟩, ⟨rfl, rfl⟩, x12 ⟨⟨rfl, rfl⟩, ⟨rfl, rfl⟩, ⟨rfl, rfl⟩, ⟨rfl, rfl⟩, ⟨rfl, rfl⟩, ⟨rfl, rfl⟩, ⟨rfl, rfl⟩, ⟨rfl, rfl⟩, ⟨rfl, rfl⟩, ⟨rfl, rfl⟩, ⟨rfl, rfl⟩, ⟨rfl, rfl⟩⟩⟩
theorem SA_74 (L : Nat) : SA L 74 := ⟨⟨by omega, rfl, rfl, rfl, rfl, rfl⟩, ⟨rfl, rfl⟩, ⟨rfl, rfl⟩, ⟨rfl, rfl⟩, ⟨rfl, rfl⟩, x12 ⟨⟨rfl, rfl⟩, ⟨rfl, rfl⟩, ⟨rfl, rfl⟩, ⟨rfl, rfl⟩, ⟨rfl, rfl⟩, ⟨rfl, rfl⟩, ⟨rfl, rfl⟩, ⟨rfl, rfl⟩, ⟨rfl, rfl⟩, ⟨rfl, rfl⟩, ⟨rfl, rfl⟩, ⟨rfl, rfl⟩⟩⟩
theorem SA_91 (L : Nat) : SA L 91 := ⟨⟨by omega, rfl, rfl, rfl, rfl, rfl⟩, ⟨rfl, rfl⟩, ⟨rfl, rfl⟩, ⟨rfl, rfl⟩, ⟨rfl, rfl⟩, x12 ⟨⟨rfl, rfl⟩, ⟨rfl, rfl⟩, ⟨rfl, rfl⟩, ⟨rfl, rfl⟩, ⟨rfl, rfl⟩, ⟨rfl, rfl⟩, ⟨rfl, rfl⟩, ⟨rfl, rfl⟩, ⟨rfl, rfl⟩, ⟨rfl, rfl⟩, ⟨rfl, rfl⟩, ⟨rfl, rfl⟩⟩⟩
theorem SA_108 (L : Nat) : SA L 108 := ⟨⟨by omega, rfl, rfl, rfl, rfl, rfl⟩, ⟨rfl, rfl⟩, ⟨rfl, rfl⟩, ⟨rfl, rfl⟩, ⟨rfl, rfl⟩, x12 ⟨⟨rfl, rfl⟩, ⟨rfl, rfl⟩, ⟨rfl, rfl⟩, ⟨rfl, rfl⟩, ⟨rfl, rfl⟩, ⟨rfl, rfl⟩, ⟨rfl, rfl⟩, ⟨rfl, rfl⟩, ⟨rfl, rfl⟩, ⟨rfl, rfl⟩, ⟨rfl, rfl⟩, ⟨rfl, rfl⟩⟩⟩
theorem SA_ring (L : Nat) : ∀ t, t < 6 → SA L (23 + 17 * t) := x6 ⟨SA_23 L, SA_40 L, SA_57 L, SA_74 L, SA_91 L, SA_108 L⟩
section ST
variable {L : Nat} {f : xF} {Q : List xV → xF → Prop}
theorem C_12 {A D : Nat} (hA : SA L A) (hB : SA L D) (hd : A + 17 ≤ D ∨ D + 17 ≤ A) (K : ∀ f2 : xF, (f2 A 4 = f D 4 ∧ f2 A 5 = f D 5 ∧ f2 A 6 = f D 6 ∧ f2 A 7 = f D 7) → (∀ s, s < 8 → f2 (A + 2) s = f (D + 2) s) → (∀ k, k < 4 → f2 (A + 3) k = f (D + 3) k) → (∀ k, k < 4 → f2 (A + 4) k = f (D + 4) k) → (∀ r, r < 12 → ∀ j, j < 7 → f2 (A + 5 + r) j = f (D + 5 + r) j) → (∀ c, (c < A ∨ A + 17 ≤ c) → f2 c = f c) → Q [] f2) : Rf (SHL L) 12 0 (xloc 12 [.inr A, .inr D]) [] f Q := by
  have h3 : 3 < A ∧ 3 < D := ⟨hA.1.1, hB.1.1⟩
  have loop : ∀ (n m : Nat) (g : xF), m + n = 12 → (∀ r, r < m → ∀ j, j < 7 → g (A + 5 + r) j = f (D + 5 + r) j) → (∀ c, (c < A + 5 ∨ A + 17 ≤ c) → g c = f c) → Rf (SHL L) 12 2 [some (.inr A), some (.inr D), some (.inl (m : Int))] [] g Q := by
    intro n
    induction n with
    | zero =>
      intro m g hm e1 e2
      have hm12 : m = 12 := by omega
      subst hm12
      refine R_il fx_12_2 rfl ?_
      refine R_push fx_12_3 ?_
      refine R_icge fx_12_5 (by omega) (fun hc => ?_) (fun hc => by omega)
      refine R_al fx_12_29 rfl (by omega) ?_
      refine R_gr fx_12_30 hB.1.2.1 rfl hB.1.2.2.2.1 ?_
      refine R_push fx_12_33 ?_
      refine R_al fx_12_34 rfl (by omega) ?_
      refine R_gr fx_12_35 hA.1.2.1 rfl hA.1.2.2.2.1 ?_
      refine R_push fx_12_38 ?_
      refine R_push fx_12_39 ?_
      refine R_cpy fx_12_41 ⟨hB.2.2.1.1, hA.2.2.1.1⟩ (by omega) (by omega) (by omega) (by rw [hB.2.2.1.2]; omega) (by rw [hA.2.2.1.2]; omega) (by decide) ?_
      refine R_al fx_12_44 rfl (by omega) ?_
      refine R_gr fx_12_45 hB.1.2.1 rfl hB.1.2.2.2.2.1 ?_
      refine R_push fx_12_48 ?_
      refine R_al fx_12_49 rfl (by omega) ?_
      refine R_gr fx_12_50 hA.1.2.1 rfl hA.1.2.2.2.2.1 ?_
      refine R_push fx_12_53 ?_
      refine R_push fx_12_54 ?_
      refine R_cpy fx_12_55 ⟨hB.2.2.2.1.1, hA.2.2.2.1.1⟩ (by omega) (by omega) (by omega) (by rw [hB.2.2.2.1.2]; omega) (by rw [hA.2.2.2.1.2]; omega) (by decide) ?_
      refine R_al fx_12_58 rfl (by omega) ?_
      refine R_gr fx_12_59 hB.1.2.1 rfl hB.1.2.2.2.2.2 ?_
      refine R_push fx_12_62 ?_
      refine R_al fx_12_63 rfl (by omega) ?_
      refine R_gr fx_12_64 hA.1.2.1 rfl hA.1.2.2.2.2.2 ?_
      refine R_push fx_12_67 ?_
      refine R_push fx_12_68 ?_
      refine R_cpy fx_12_69 ⟨hB.2.2.2.2.1.1, hA.2.2.2.2.1.1⟩ (by omega) (by omega) (by omega) (by rw [hB.2.2.2.2.1.2]; omega) (by rw [hA.2.2.2.2.1.2]; omega) (by decide) ?_
      refine R_al fx_12_72 rfl (by omega) ?_
      refine R_al fx_12_73 rfl (by omega) ?_
      refine R_gf fx_12_74 hB.1.2.1 rfl ?_
      refine R_pf fx_12_77 hA.1.2.1 rfl (fun h => absurd h (by decide)) ?_
      refine R_al fx_12_80 rfl (by omega) ?_
      refine R_al fx_12_81 rfl (by omega) ?_
      refine R_gf fx_12_82 hB.1.2.1 rfl ?_
      refine R_pf fx_12_85 hA.1.2.1 rfl (fun h => absurd h (by decide)) ?_
      refine R_al fx_12_88 rfl (by omega) ?_
      refine R_al fx_12_89 rfl (by omega) ?_
      refine R_gf fx_12_90 hB.1.2.1 rfl ?_
      refine R_pf fx_12_93 hA.1.2.1 rfl (fun h => absurd h (by decide)) ?_
      refine R_al fx_12_96 rfl (by omega) ?_
      refine R_al fx_12_97 rfl (by omega) ?_
      refine R_gf fx_12_98 hB.1.2.1 rfl ?_
      refine R_pf fx_12_101 hA.1.2.1 rfl (fun h => absurd h (by decide)) ?_
      refine R_retv fx_12_104 rfl ?_
      refine K _ ⟨?_, ?_, ?_, ?_⟩ ?_ ?_ ?_ ?_ ?_
      · simp [xup, e2 D (by omega)]; intro h; omega
      · simp [xup, e2 D (by omega)]; intro h; omega
      · simp [xup, e2 D (by omega)]; intro h; omega
      · simp [xup, e2 D (by omega)]; intro h; omega
      · intro s hs; simp [xup, hs, e2 (D + 2) (by omega)]
      · intro k hk; simp [xup, hk, e2 (D + 3) (by omega)]
        intro h; omega
      · intro k hk; simp [xup, hk, show ¬ D + 1 = A by omega, show ¬ D + 2 = A by omega, e2 (D + 4) (by omega)]
      · intro r hr j hj
        have := e1 r hr j hj
        simp [xup, show ¬ A + 5 + r = A by omega, show ¬ A + 5 + r = A + 2 by omega, show ¬ A + 5 + r = A + 3 by omega, show ¬ A + 5 + r = A + 4 by omega, this]
      · intro c hc
        funext i
        simp [xup, show ¬ c = A by omega, show ¬ c = A + 2 by omega, show ¬ c = A + 3 by omega, show ¬ c = A + 4 by omega, e2 c (by omega)]
    | succ n ih =>
      intro m g hm e1 e2
      refine R_il fx_12_2 rfl ?_
      refine R_push fx_12_3 ?_
      refine R_icge fx_12_5 (by omega) (fun hc => by omega) (fun hc => ?_)
      refine R_al fx_12_8 rfl (by omega) ?_
      refine R_gr fx_12_9 hA.1.2.1 rfl hA.1.2.2.1 ?_
      refine R_il fx_12_12 rfl ?_
      refine R_aa fx_12_13 (Or.inl hA.2.1.1) (by omega) (by rw [hA.2.1.2]; omega) (by omega) (hA.2.2.2.2.2 m (by omega)).1 ?_
      refine R_al fx_12_14 rfl (by omega) ?_
      refine R_gr fx_12_15 hB.1.2.1 rfl hB.1.2.2.1 ?_
      refine R_il fx_12_18 rfl ?_
      refine R_aa fx_12_19 (Or.inl hB.2.1.1) (by omega) (by rw [hB.2.1.2]; omega) (by omega) (hB.2.2.2.2.2 m (by omega)).1 ?_
      refine R_cv fx_12_20 rfl rfl rfl rfl (hA.2.2.2.2.2 m (by omega)).2 ?_
      refine C_13 (by omega) (by omega) (hA.2.2.2.2.2 m (by omega)).2 (hB.2.2.2.2.2 m (by omega)).2 (by omega) (fun f2 h1 h2 => ?_)
      refine R_inc fx_12_23 rfl ?_
      refine R_goto fx_12_26 ?_
      refine ih (m + 1) f2 (by omega) (fun r hr j hj => ?_) (fun c hc => ?_)
      · by_cases e : r = m
        · subst e; rw [h1 j hj, e2 _ (by omega)]
        · rw [h2 _ (by omega)]; exact e1 r (by omega) j hj
      · rw [h2 _ (by omega)]; exact e2 c hc
  refine R_push fx_12_0 ?_
  refine R_is fx_12_1 ?_
  exact loop 12 0 f (by omega) (fun r hr => absurd hr (by omega)) (fun _ _ => rfl)
end ST
