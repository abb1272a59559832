/-! ===== the class state as a vector; the history ===== -/
/-- the vector of a state: 0 came, 1 rise, 2 off, 3 made, 4.. wanted, 12.. low, 16.. high, 20 + 7 r + j the reeds -/
def Sg (f : xF) (A : Nat) (G : Nat → Int) : Prop := (f A 4 = G 0 ∧ f A 5 = G 1 ∧ f A 6 = G 2 ∧ f A 7 = G 3) ∧ (∀ s, s < 8 → f (A + 2) s = G (4 + s)) ∧ (∀ k, k < 4 → f (A + 3) k = G (12 + k)) ∧ (∀ k, k < 4 → f (A + 4) k = G (16 + k)) ∧ ∀ r : Nat, r < 12 → (r : Int) < G 0 → ∀ j, j < 7 → f (A + 5 + r) j = G (20 + 7 * r + j)
theorem Sg.kept {f f2 : xF} {A : Nat} {G : Nat → Int} (h : Sg f A G) (he : ∀ c, A ≤ c → c < A + 17 → f2 c = f c) : Sg f2 A G := by
  obtain ⟨⟨h1, h2, h3, h4⟩, h5, h6, h7, h8⟩ := h
  rw [← he A (by omega) (by omega)] at h1 h2 h3 h4
  exact ⟨⟨h1, h2, h3, h4⟩, fun s hs => by rw [he _ (by omega) (by omega)]; exact h5 s hs, fun s hs => by rw [he _ (by omega) (by omega)]; exact h6 s hs, fun s hs => by rw [he _ (by omega) (by omega)]; exact h7 s hs, fun r hr hg j hj => by rw [he _ (by omega) (by omega)]; exact h8 r hr hg j hj⟩
def Hc (f : xF) (n x : Nat) (hi : Nat → Nat → Int) : Prop := n ≤ 6 ∧ x < 6 ∧ f 21 1 = n ∧ f 21 2 = x ∧ ∀ i, i < n → Sg f (23 + 17 * ((x + 5 - i) % 6)) (hi i)
def consG (G : Nat → Int) (hi : Nat → Nat → Int) : Nat → Nat → Int
  | 0 => G
  | i + 1 => hi i
section HI
variable {L : Nat} {f : xF} {Q : List xV → xF → Prop} {G : Nat → Int} {hi : Nat → Nat → Int} {n x : Nat}
theorem C_11 (hH : Hc f n x hi) (hS : Sg f 4 G) (K : ∀ f2 : xF, Hc f2 (min (n + 1) 6) ((x + 1) % 6) (consG G hi) → (∀ c, (c < 21 ∨ 125 ≤ c) → f2 c = f c) → Q [] f2) : Rf (SHL L) 11 0 (xloc 11 [.inr 21, .inr 4]) [] f Q := by
  obtain ⟨hn, hx, hn1, hn2, hst⟩ := hH
  have hx2 : (f 21 2).toNat = x := by rw [hn2]; exact Int.toNat_natCast x
  refine R_al fx_11_0 rfl (by omega) ?_
  refine R_gr fx_11_1 kd_21 rfl rr_21_0 ?_
  refine R_al fx_11_4 rfl (by omega) ?_
  refine R_gf fx_11_5 kd_21 rfl ?_
  refine R_aa fx_11_8 (Or.inr (Or.inl kd_22)) (by omega) (by rw [ln_22]; omega) (by omega) ((congrArg (xrr (SHL L) 22) hx2).trans (rr_ring x hx)) ?_
  refine R_al fx_11_9 rfl (by omega) ?_
  refine R_cv fx_11_10 rfl rfl rfl rfl (kd_ring x hx) ?_
  refine C_12 (SA_ring L x hx) (SA_4 L) (by omega) (fun f2 g1 g2 g3 g4 g5 g6 => ?_)
  have e1 : f2 21 1 = n := by rw [g6 21 (by omega)]; exact hn1
  have e2 : f2 21 2 = x := by rw [g6 21 (by omega)]; exact hn2
  have hG2 : Sg f2 (23 + 17 * x) G := by
    obtain ⟨⟨h1, h2, h3, h4⟩, h5, h6, h7, h8⟩ := hS
    exact ⟨⟨g1.1.trans h1, g1.2.1.trans h2, g1.2.2.1.trans h3, g1.2.2.2.trans h4⟩, fun s hs => (g2 s hs).trans (h5 s hs), fun s hs => (g3 s hs).trans (h6 s hs), fun s hs => (g4 s hs).trans (h7 s hs), fun r hr hg j hj => (g5 r hr j hj).trans (h8 r hr hg j hj)⟩
  have fin : ∀ f3 : xF, f3 21 1 = ((min (n + 1) 6 : Nat) : Int) → f3 21 2 = (((x + 1) % 6 : Nat) : Int) → (∀ c, c ≠ 21 → f3 c = f2 c) → Q [] f3 := fun f3 k1 k2 k3 => by
    refine K f3 ⟨by omega, by omega, k1, k2, fun i hi9 => ?_⟩ (fun c hc => by rw [k3 c (by omega), g6 c (by omega)])
    cases i with
    | zero =>
      have : (((x + 1) % 6 + 5 - 0) % 6) = x := by omega
      rw [this]
      exact hG2.kept (fun c h1 h2 => k3 c (by omega))
    | succ i =>
      have : (((x + 1) % 6 + 5 - (i + 1)) % 6) = (x + 5 - i) % 6 := by omega
      rw [this]
      have hne : (x + 5 - i) % 6 ≠ x := by omega
      refine (hst i (by omega)).kept (fun c h1 h2 => ?_)
      rw [k3 c (by omega)]
      refine g6 c ?_
      rcases Nat.lt_or_gt_of_ne hne with q | q
      · left; omega
      · right; omega
  refine R_al fx_11_13 rfl (by omega) ?_
  refine R_al fx_11_14 rfl (by omega) ?_
  refine R_gf fx_11_15 kd_21 rfl ?_
  refine R_push fx_11_18 ?_
  refine R_icne fx_11_19 (by omega) (fun hc => ?_) (fun hc => ?_)
  · refine R_al fx_11_26 rfl (by omega) ?_
    refine R_gf fx_11_27 kd_21 rfl ?_
    refine R_push fx_11_30 ?_
    refine R_add fx_11_31 ?_
    refine R_pf fx_11_32 kd_21 rfl (fun h => absurd h (by decide)) ?_
    refine R_al fx_11_35 rfl (by omega) ?_
    refine R_al fx_11_36 rfl (by omega) ?_
    refine R_gf fx_11_37 kd_21 rfl ?_
    refine R_push fx_11_40 ?_
    refine R_add fx_11_41 ?_
    refine R_push fx_11_42 ?_
    refine R_min fx_11_44 (by simp only [xup, e1] <;> omega) (by omega) ⟨by decide, by decide, Nat.le_of_ble_eq_true rfl⟩ ?_
    refine R_pf fx_11_47 kd_21 rfl (fun h => absurd h (by decide)) ?_
    refine R_retv fx_11_50 rfl ?_
    exact fin _ (by simp [xup, e1]; split <;> omega) (by simp [xup, e2]; omega) (fun c hc => by funext i; simp [xup, hc])
  · refine R_push fx_11_22 ?_
    refine R_goto fx_11_23 ?_
    refine R_pf fx_11_32 kd_21 rfl (fun h => absurd h (by decide)) ?_
    refine R_al fx_11_35 rfl (by omega) ?_
    refine R_al fx_11_36 rfl (by omega) ?_
    refine R_gf fx_11_37 kd_21 rfl ?_
    refine R_push fx_11_40 ?_
    refine R_add fx_11_41 ?_
    refine R_push fx_11_42 ?_
    refine R_min fx_11_44 (by simp only [xup, e1] <;> omega) (by omega) ⟨by decide, by decide, Nat.le_of_ble_eq_true rfl⟩ ?_
    refine R_pf fx_11_47 kd_21 rfl (fun h => absurd h (by decide)) ?_
    refine R_retv fx_11_50 rfl ?_
    exact fin _ (by simp [xup, e1]; split <;> omega) (by simp [xup, e2]; omega) (fun c hc => by funext i; simp [xup, hc])
theorem C_10 (hH : Hc f n x hi) (hS : Sg f 4 G) (K : ∀ f2 : xF, Hc f2 (min (n + 1) 6) ((x + 1) % 6) (consG G hi) → f2 141 8 = 0 → (∀ i, i ≠ 8 → f2 141 i = f 141 i) → (∀ c, (c < 21 ∨ 125 ≤ c) ∧ c ≠ 141 → f2 c = f c) → Q [] f2) : Rf (SHL L) 10 0 (xloc 10 [.inr 3]) [] f Q := by
  refine R_al fx_10_0 rfl (by omega) ?_
  refine R_gr fx_10_1 kd_3 rfl rr_3_1 ?_
  refine R_al fx_10_4 rfl (by omega) ?_
  refine R_gr fx_10_5 kd_3 rfl rr_3_0 ?_
  refine R_cv fx_10_8 rfl rfl rfl rfl kd_21 ?_
  refine C_11 hH hS (fun f2 g1 g2 => ?_)
  refine R_al fx_10_11 rfl (by omega) ?_
  refine R_gr fx_10_12 kd_3 rfl rr_3_3 ?_
  refine R_cv fx_10_15 rfl rfl rfl rfl kd_141 ?_
  refine C_15 ?_
  refine R_retv fx_10_18 rfl ?_
  refine K _ ?_ (by simp [xup]) (fun i h9 => by simp [xup, h9, g2 141 (by omega)]) (fun c hc => by rw [← g2 c hc.1]; funext i; simp [xup, hc.2])
  obtain ⟨q1, q2, q3, q4, q5⟩ := g1
  exact ⟨q1, q2, by simp [xup]; exact q3, by simp [xup]; exact q4, fun i h9 => (q5 i h9).kept (fun c h1 h2 => by funext z; simp [xup, show c ≠ 141 by omega])⟩
theorem C_90 (hH : Hc f n x hi) (K1 : 0 < n → ∀ f2 : xF, Sg f2 4 (hi 0) → Hc f2 (n - 1) ((x + 5) % 6) (fun i => hi (i + 1)) → (∀ c, (c < 4 ∨ 22 ≤ c) → f2 c = f c) → Q [.inl 1] f2) (K0 : n = 0 → Q [.inl 0] f) : Rf (SHL L) 90 0 (xloc 90 [.inr 21, .inr 4]) [] f Q := by
  obtain ⟨hn, hx, hn1, hn2, hst⟩ := hH
  have fin : ∀ f2 g : xF, 0 < n → g 21 1 = f 21 1 - 1 → g 21 2 = (((x + 5) % 6 : Nat) : Int) → (∀ c, c ≠ 21 → g c = f c) → (f2 4 4 = g (23 + 17 * ((x + 5) % 6)) 4 ∧ f2 4 5 = g (23 + 17 * ((x + 5) % 6)) 5 ∧ f2 4 6 = g (23 + 17 * ((x + 5) % 6)) 6 ∧ f2 4 7 = g (23 + 17 * ((x + 5) % 6)) 7) → (∀ s, s < 8 → f2 (4 + 2) s = g (23 + 17 * ((x + 5) % 6) + 2) s) → (∀ k, k < 4 → f2 (4 + 3) k = g (23 + 17 * ((x + 5) % 6) + 3) k) → (∀ k, k < 4 → f2 (4 + 4) k = g (23 + 17 * ((x + 5) % 6) + 4) k) → (∀ r, r < 12 → ∀ j, j < 7 → f2 (4 + 5 + r) j = g (23 + 17 * ((x + 5) % 6) + 5 + r) j) → (∀ c, (c < 4 ∨ 4 + 17 ≤ c) → f2 c = g c) → Q [.inl 1] f2 := fun f2 g h0 k1 k2 k3 g1 g2 g3 g4 g5 g6 => by
    have hg : ∀ c, c ≠ 21 → (c < 4 ∨ 21 ≤ c) → f2 c = f c := fun c h1 h2 => by rw [g6 c (by omega), k3 c h1]
    refine K1 h0 f2 ?_ ⟨by omega, by omega, ?_, ?_, fun i h9 => ?_⟩ (fun c hc => hg c (by omega) (by omega))
    · have hs := hst 0 h0
      rw [show (x + 5 - 0) % 6 = (x + 5) % 6 by omega] at hs
      have hs := hs.kept (f2 := g) (fun c h1 h2 => k3 c (by omega))
      obtain ⟨⟨h1, h2, h3, h4⟩, h5, h6, h7, h8⟩ := hs
      exact ⟨⟨g1.1.trans h1, g1.2.1.trans h2, g1.2.2.1.trans h3, g1.2.2.2.trans h4⟩, fun s hs => (g2 s hs).trans (h5 s hs), fun s hs => (g3 s hs).trans (h6 s hs), fun s hs => (g4 s hs).trans (h7 s hs), fun r hr hg j hj => (g5 r hr j hj).trans (h8 r hr hg j hj)⟩
    · rw [g6 21 (by omega), k1, hn1]; omega
    · rw [g6 21 (by omega), k2]
    · rw [show ((x + 5) % 6 + 5 - i) % 6 = (x + 5 - (i + 1)) % 6 by omega]
      exact (hst (i + 1) (by omega)).kept (fun c h1 h2 => hg c (by omega) (by omega))
  refine R_al fx_90_0 rfl (by omega) ?_
  refine R_gf fx_90_1 kd_21 rfl ?_
  refine R_ifne fx_90_4 (by omega) (fun hc => ?_) (fun hc => ?_)
  · refine R_al fx_90_9 rfl (by omega) ?_
    refine R_al fx_90_10 rfl (by omega) ?_
    refine R_gf fx_90_11 kd_21 rfl ?_
    refine R_ifne fx_90_14 (by omega) (fun hc => ?_) (fun hc => ?_)
    · refine R_al fx_90_21 rfl (by omega) ?_
      refine R_gf fx_90_22 kd_21 rfl ?_
      refine R_push fx_90_25 ?_
      refine R_sub fx_90_26 ?_
      refine R_pf fx_90_27 kd_21 rfl (fun h => absurd h (by decide)) ?_
      refine R_al fx_90_30 rfl (by omega) ?_
      refine R_dup fx_90_31 ?_
      refine R_gf fx_90_32 kd_21 rfl ?_
      refine R_push fx_90_35 ?_
      refine R_sub fx_90_36 ?_
      refine R_pf fx_90_37 kd_21 rfl (fun h => absurd h (by decide)) ?_
      refine R_al fx_90_40 rfl (by omega) ?_
      refine R_al fx_90_41 rfl (by omega) ?_
      refine R_gr fx_90_42 kd_21 rfl rr_21_0 ?_
      refine R_al fx_90_45 rfl (by omega) ?_
      refine R_gf fx_90_46 kd_21 rfl ?_
      refine R_aa fx_90_49 (Or.inr (Or.inl kd_22)) (by simp [xup] <;> omega) (by rw [ln_22]; simp [xup] <;> omega) (by simp [xup] <;> omega) ((congrArg (xrr (SHL L) 22) (show _ = (x + 5) % 6 by simp [xup] <;> omega)).trans (rr_ring ((x + 5) % 6) (by omega))) ?_
      refine R_cv fx_90_50 rfl rfl rfl rfl kd_4 ?_
      refine C_12 (SA_4 L) (SA_ring L ((x + 5) % 6) (by omega)) (by omega) (fun f2 g1 g2 g3 g4 g5 g6 => ?_)
      refine R_push fx_90_53 ?_
      refine R_ret fx_90_54 (by decide) ?_
      first | exact K0 (by omega) | exact fin f2 _ (by omega) (by simp [xup]) (by simp [xup] <;> omega) (fun c hc => by funext i; simp [xup, hc]) g1 g2 g3 g4 g5 g6
    · refine R_push fx_90_17 ?_
      refine R_goto fx_90_18 ?_
      refine R_pf fx_90_27 kd_21 rfl (fun h => absurd h (by decide)) ?_
      refine R_al fx_90_30 rfl (by omega) ?_
      refine R_dup fx_90_31 ?_
      refine R_gf fx_90_32 kd_21 rfl ?_
      refine R_push fx_90_35 ?_
      refine R_sub fx_90_36 ?_
      refine R_pf fx_90_37 kd_21 rfl (fun h => absurd h (by decide)) ?_
      refine R_al fx_90_40 rfl (by omega) ?_
      refine R_al fx_90_41 rfl (by omega) ?_
      refine R_gr fx_90_42 kd_21 rfl rr_21_0 ?_
      refine R_al fx_90_45 rfl (by omega) ?_
      refine R_gf fx_90_46 kd_21 rfl ?_
      refine R_aa fx_90_49 (Or.inr (Or.inl kd_22)) (by simp [xup] <;> omega) (by rw [ln_22]; simp [xup] <;> omega) (by simp [xup] <;> omega) ((congrArg (xrr (SHL L) 22) (show _ = (x + 5) % 6 by simp [xup] <;> omega)).trans (rr_ring ((x + 5) % 6) (by omega))) ?_
      refine R_cv fx_90_50 rfl rfl rfl rfl kd_4 ?_
      refine C_12 (SA_4 L) (SA_ring L ((x + 5) % 6) (by omega)) (by omega) (fun f2 g1 g2 g3 g4 g5 g6 => ?_)
      refine R_push fx_90_53 ?_
      refine R_ret fx_90_54 (by decide) ?_
      first | exact K0 (by omega) | exact fin f2 _ (by omega) (by simp [xup]) (by simp [xup] <;> omega) (fun c hc => by funext i; simp [xup, hc]) g1 g2 g3 g4 g5 g6
  · refine R_push fx_90_7 ?_
    refine R_ret fx_90_8 (by decide) ?_
    first | exact K0 (by omega) | exact fin f2 _ (by omega) (by simp [xup]) (by simp [xup] <;> omega) (fun c hc => by funext i; simp [xup, hc]) g1 g2 g3 g4 g5 g6
end HI
