/-! ===== ranges; scrap, file, reed, of, look ===== -/
def VG (G : Nat → Int) : Prop := (0 ≤ G 0 ∧ G 0 ≤ 12) ∧ (1 ≤ G 1 ∧ G 1 ≤ 20) ∧ (0 ≤ G 2 ∧ G 2 ≤ 50) ∧ (∀ s, s < 8 → -1 ≤ G (4 + s) ∧ G (4 + s) ≤ 9999) ∧ (∀ k, k < 4 → (-100 ≤ G (12 + k) ∧ G (12 + k) ≤ 100) ∧ -100 ≤ G (16 + k) ∧ G (16 + k) ≤ 100) ∧ ∀ r : Nat, r < 12 → (r : Int) < G 0 → (1 ≤ G (20 + 7 * r + 1) ∧ G (20 + 7 * r + 1) ≤ 20) ∧ (0 ≤ G (20 + 7 * r + 2) ∧ G (20 + 7 * r + 2) ≤ 20) ∧ (-20 * (20 - G (20 + 7 * r + 1)) ≤ G (20 + 7 * r) ∧ G (20 + 7 * r) ≤ 9999 + 20 * (20 - G (20 + 7 * r + 2))) ∧ 0 ≤ G (20 + 7 * r + 3) ∧ G (20 + 7 * r + 3) ≤ 2
section VV
variable {f : xF} {G : Nat → Int}
theorem Sg.rd (hS : Sg f 4 G) {r : Nat} (hr : r < 12) (hg : (r : Int) < G 0) {j : Nat} (hj : j < 7) : f (9 + r) j = G (20 + 7 * r + j) := hS.2.2.2.2 r hr hg j hj
theorem VG.m (hV : VG G) (hS : Sg f 4 G) : 0 ≤ f 4 4 ∧ f 4 4 ≤ 12 := by rw [hS.1.1]; exact hV.1
theorem VG.p (hV : VG G) (hS : Sg f 4 G) : ∀ j : Nat, j < 12 → (j : Int) < f 4 4 → xok (f (9 + j) 3) := fun j hj hc => by
  rw [hS.1.1] at hc
  rw [hS.rd hj hc (by omega)]
  have := (hV.2.2.2.2.2 j hj hc).2.2.2
  omega
theorem VG.w (hV : VG G) (hS : Sg f 4 G) : ∀ j, j < 8 → xok (f 6 j) := fun j hj => by
  have e := hS.2.1 j hj
  have := hV.2.2.2.1 j hj
  rw [show f 6 j = f (4 + 2) j from rfl, e]
  omega
theorem VG.b (hV : VG G) (hS : Sg f 4 G) : ∀ j, j < 4 → xok (f 7 j) ∧ xok (f 8 j) := fun j hj => by
  have e1 := hS.2.2.1 j hj
  have e2 := hS.2.2.2.1 j hj
  have := hV.2.2.2.2.1 j hj
  rw [show f 7 j = f (4 + 3) j from rfl, show f 8 j = f (4 + 4) j from rfl, e1, e2]
  omega
end VV
section AQ
variable {L : Nat} {f : xF} {Q : List xV → xF → Prop} {G : Nat → Int} {hi : Nat → Nat → Int} {n x : Nat}
theorem C_17 {r : Int} (hV : VG G) (hH : Hc f n x hi) (hS : Sg f 4 G) (hr : xok r) (K1 : (0 ≤ r ∧ r < G 0) → G (20 + 7 * r.toNat + 3) = 0 → ∀ f2, Dn f f2 n x hi G (upR G r.toNat (fun j => if j = 3 then 2 else G (20 + 7 * r.toNat + j))) → Q [.inl 1] f2) (K0 : ¬ ((0 ≤ r ∧ r < G 0) ∧ G (20 + 7 * r.toNat + 3) = 0) → Q [.inl 0] f) : Rf (SHL L) 17 0 (xloc 17 [.inr 3, .inl r]) [] f Q := by
  have hm := hV.m hS
  have hp := hV.p hS
  have h0 := hS.1.1
  refine R_al fx_17_0 rfl (by omega) ?_
  refine R_gr fx_17_1 kd_3 rfl rr_3_0 ?_
  refine R_il fx_17_4 rfl ?_
  refine R_cv fx_17_5 rfl rfl rfl rfl kd_4 ?_
  refine C_18 (by omega) hm hp (fun hc => ?_) (fun hc => ?_)
  · refine R_ifne fx_17_8 (by decide) (fun _ => ?_) (fun h => absurd h (by decide))
    refine R_al fx_17_13 rfl (by omega) ?_
    refine R_cv fx_17_14 rfl rfl rfl rfl kd_3 ?_
    refine C_10 hH hS (fun f2 g1 g2 g3 g4 => ?_)
    refine R_al fx_17_17 rfl (by omega) ?_
    refine R_gr fx_17_18 kd_3 rfl rr_3_0 ?_
    refine R_gr fx_17_21 kd_4 rfl rr_4_0 ?_
    refine R_il fx_17_24 rfl ?_
    refine R_aa fx_17_25 (Or.inl kd_5) (by omega) (by rw [ln_5]; omega) (by omega) (rr_reed _ (by omega)) ?_
    refine R_push fx_17_26 ?_
    refine R_pf fx_17_27 (kd_reed _ (by omega)) rfl (fun h => absurd h (by decide)) ?_
    refine R_push fx_17_30 ?_
    refine R_ret fx_17_31 (by decide) (K1 (by omega) (by rw [← hS.rd (r := r.toNat) (by omega) (by omega) (by omega)]; exact hc.2) _ (Dn.of g1 g2 g3 g4 (fun c hc => by funext i; simp [xup, show c ≠ 9 + r.toNat by omega]) ((hS.kept (f2 := f2) (fun c q1 q2 => g4 c (by omega))).reed (by omega) (fun j hj => ?_) (fun c hc => by funext i; simp [xup, hc]))))
    by_cases e : j = 3
    · subst e; rw [xup_s, if_pos rfl]
    · rw [xup_i e, if_neg e, g4 _ (by omega)]; exact hS.rd (by omega) (by omega) hj
  · refine R_ifne fx_17_8 (by decide) (fun h => absurd h (by decide)) (fun _ => ?_)
    refine R_push fx_17_11 ?_
    exact R_ret fx_17_12 (by decide) (K0 (fun h => hc ⟨by omega, by rw [hS.rd (r := r.toNat) (by omega) (by omega) (by omega)]; exact h.2⟩))
theorem C_26i {a : Nat} {i j ri : Int} (ha : 0 < a) (hka : xkd (SHL L) a = 13) (hj : 0 ≤ j ∧ j < 100000) (K : ∀ f2 : xF, (f2 a 0 = f a 0 + i * ri - dr (f a 1) j.toNat ∧ f2 a 1 = f a 1 - j ∧ f2 a 2 = f a 2 - i ∧ f2 a 3 = f a 3 ∧ f2 a 4 = f a 4 ∧ f2 a 5 = f a 5 ∧ f2 a 6 = f a 6 + (i + j)) → (∀ c, c ≠ a → f2 c = f c) → Q [] f2) : Rf (SHL L) 26 0 (xloc 26 [.inr a, .inl i, .inl j, .inl ri]) [] f Q := by
  obtain ⟨j', rfl⟩ := Int.eq_ofNat_of_zero_le hj.1
  exact C_26 ha hka (by omega) (fun f2 h1 h2 => K f2 h1 h2)
def filed (G : Nat → Int) (r : Nat) (i j : Int) : Nat → Int := fun q => match q with
  | 0 => G (20 + 7 * r) + i * G 1 - dr (G (20 + 7 * r + 1)) j.toNat
  | 1 => G (20 + 7 * r + 1) - j
  | 2 => G (20 + 7 * r + 2) - i
  | 6 => G (20 + 7 * r + 6) + (i + j)
  | q => G (20 + 7 * r + q)
theorem C_24 {r i j : Int} (hV : VG G) (hH : Hc f n x hi) (hS : Sg f 4 G) (hr : xok r) (hi2 : xok i) (hj2 : xok j) (K1 : (0 ≤ r ∧ r < G 0) → G (20 + 7 * r.toNat + 3) = 0 → (0 ≤ i ∧ i ≤ G (20 + 7 * r.toNat + 2)) ∧ 0 ≤ j ∧ j < G (20 + 7 * r.toNat + 1) → ∀ f2, Dn f f2 n x hi G (upR G r.toNat (filed G r.toNat i j)) → Q [.inl (filed G r.toNat i j 0)] f2) (K0 : ¬ ((0 ≤ r ∧ r < G 0) ∧ G (20 + 7 * r.toNat + 3) = 0 ∧ (0 ≤ i ∧ i ≤ G (20 + 7 * r.toNat + 2)) ∧ 0 ≤ j ∧ j < G (20 + 7 * r.toNat + 1)) → Q [.inl (-100000)] f) : Rf (SHL L) 24 0 (xloc 24 [.inr 3, .inl r, .inl i, .inl j]) [] f Q := by
  have hm := hV.m hS
  have hp := hV.p hS
  have h0 := hS.1.1
  have hG : ∀ q, q < 7 → (0 ≤ r ∧ r < G 0) → f (9 + r.toNat) q = G (20 + 7 * r.toNat + q) := fun q hq hc => hS.rd (by omega) (by omega) hq
  have hR : (0 ≤ r ∧ r < G 0) → (1 ≤ G (20 + 7 * r.toNat + 1) ∧ G (20 + 7 * r.toNat + 1) ≤ 20) ∧ (0 ≤ G (20 + 7 * r.toNat + 2) ∧ G (20 + 7 * r.toNat + 2) ≤ 20) := fun hc => ⟨(hV.2.2.2.2.2 r.toNat (by omega) (by omega)).1, (hV.2.2.2.2.2 r.toNat (by omega) (by omega)).2.1⟩
  refine R_al fx_24_0 rfl (by omega) ?_
  refine R_gr fx_24_1 kd_3 rfl rr_3_0 ?_
  refine R_il fx_24_4 rfl ?_
  refine R_cv fx_24_5 rfl rfl rfl rfl kd_4 ?_
  refine C_18 (by omega) hm hp (fun hc => ?_) (fun hc => ?_)
  · refine R_ifeq fx_24_8 (by decide) (fun h => absurd h (by decide)) (fun _ => ?_)
    refine R_al fx_24_11 rfl (by omega) ?_
    refine R_gr fx_24_12 kd_3 rfl rr_3_0 ?_
    refine R_gr fx_24_15 kd_4 rfl rr_4_0 ?_
    refine R_il fx_24_18 rfl ?_
    refine R_aa fx_24_19 (Or.inl kd_5) (by omega) (by rw [ln_5]; omega) (by omega) (rr_reed _ (by omega)) ?_
    refine R_il fx_24_20 rfl ?_
    refine R_il fx_24_21 rfl ?_
    refine R_cv fx_24_22 rfl rfl rfl rfl (kd_reed _ (by omega)) ?_
    refine C_25 (by omega) (kd_reed _ (by omega)) hi2 hj2 (by have := hR (by omega); have := hG 1 (by omega) (by omega); omega) (by have := hR (by omega); have := hG 2 (by omega) (by omega); omega) (fun hc2 => ?_) (fun hc2 => ?_)
    · refine R_ifne fx_24_25 (by decide) (fun _ => ?_) (fun h => absurd h (by decide))
      refine R_al fx_24_31 rfl (by omega) ?_
      refine R_cv fx_24_32 rfl rfl rfl rfl kd_3 ?_
      refine C_10 hH hS (fun f2 g1 g2 g3 g4 => ?_)
      refine R_al fx_24_35 rfl (by omega) ?_
      refine R_gr fx_24_36 kd_3 rfl rr_3_0 ?_
      refine R_gr fx_24_39 kd_4 rfl rr_4_0 ?_
      refine R_il fx_24_42 rfl ?_
      refine R_aa fx_24_43 (Or.inl kd_5) (by omega) (by rw [ln_5]; omega) (by omega) (rr_reed _ (by omega)) ?_
      refine R_il fx_24_44 rfl ?_
      refine R_il fx_24_45 rfl ?_
      refine R_al fx_24_46 rfl (by omega) ?_
      refine R_gr fx_24_47 kd_3 rfl rr_3_0 ?_
      refine R_gf fx_24_50 kd_4 rfl ?_
      refine R_cv fx_24_53 rfl rfl rfl rfl (kd_reed _ (by omega)) ?_
      refine C_26i (by omega) (kd_reed _ (by omega)) (by have := hR (by omega); have := hG 1 (by omega) (by omega); omega) (fun f3 k1 k2 => ?_)
      refine R_al fx_24_56 rfl (by omega) ?_
      refine R_gr fx_24_57 kd_3 rfl rr_3_0 ?_
      refine R_gr fx_24_60 kd_4 rfl rr_4_0 ?_
      refine R_il fx_24_63 rfl ?_
      refine R_aa fx_24_64 (Or.inl kd_5) (by omega) (by rw [ln_5]; omega) (by omega) (rr_reed _ (by omega)) ?_
      refine R_gf fx_24_65 (kd_reed _ (by omega)) rfl ?_
      have e0 := hG 0 (by omega) (by omega)
      have e1 := hG 1 (by omega) (by omega)
      have e2 := hG 2 (by omega) (by omega)
      have e3 := hG 3 (by omega) (by omega)
      have e4 := hG 4 (by omega) (by omega)
      have e5 := hG 5 (by omega) (by omega)
      have e6 := hG 6 (by omega) (by omega)
      have er : f2 4 5 = G 1 := by rw [g4 4 (by omega)]; exact hS.1.2.1
      obtain ⟨a0, a1, a2, a3, a4, a5, a6⟩ := k1
      rw [g4 (9 + r.toNat) (by omega)] at a0 a1 a2 a3 a4 a5 a6
      rw [er] at a0
      have hfl : ∀ q, q < 7 → f3 (9 + r.toNat) q = filed G r.toNat i j q := fun q hq => by
        rcases (show q = 0 ∨ q = 1 ∨ q = 2 ∨ q = 3 ∨ q = 4 ∨ q = 5 ∨ q = 6 by omega) with rfl | rfl | rfl | rfl | rfl | rfl | rfl
        · rw [a0, e0, e1]; rfl
        · rw [a1, e1]; rfl
        · rw [a2, e2]; rfl
        · rw [a3, e3]; rfl
        · rw [a4, e4]; rfl
        · rw [a5, e5]; rfl
        · rw [a6, e6]; rfl
      refine R_ret fx_24_68 (Or.inl rfl) ?_
      rw [hfl 0 (by omega)]
      exact K1 (by omega) (by omega) (by omega) _ (Dn.of g1 g2 g3 g4 (fun c hc => k2 c (by omega)) ((hS.kept (f2 := f2) (fun c q1 q2 => g4 c (by omega))).reed (by omega) hfl k2))
    · refine R_ifne fx_24_25 (by decide) (fun h => absurd h (by decide)) (fun _ => ?_)
      refine R_push fx_24_28 ?_
      refine R_ret fx_24_30 (Or.inl rfl) (K0 (fun h => ?_))
      have e3 := hG 3 (by omega) h.1
      have e1 := hG 1 (by omega) h.1
      have e2 := hG 2 (by omega) h.1
      omega
  · refine R_ifeq fx_24_8 (by decide) (fun _ => ?_) (fun h => absurd h (by decide))
    refine R_push fx_24_28 ?_
    refine R_ret fx_24_30 (Or.inl rfl) (K0 (fun h => ?_))
    have e3 := hG 3 (by omega) h.1
    have e1 := hG 1 (by omega) h.1
    have e2 := hG 2 (by omega) h.1
    omega
end AQ
