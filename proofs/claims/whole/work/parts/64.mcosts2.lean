/-! ===== the model: findCosts, comes (the rest) ===== -/
section FD
variable {L : Nat} {f : xF} {Q : List xV → xF → Prop} {G : Nat → Int}
theorem C_120_3 (hV : VG G) (hM : Mg f G) {k : Nat} (hk : k < 4) (K : ∀ (g : xF) (W X Y : Option xV), CF g f → SI g G 96 → BO g G (144 * k + 144) → Rf (SHL L) 120 261 [some (.inr 149), some (.inl (k : Int)), W, X, Y] [] g Q) : ∀ (n r : Nat) (X Y : Option xV) (g : xF), r + n = 12 → CF g f → SI g G 96 → BO g G (144 * k + 12 * r) → Rf (SHL L) 120 98 [some (.inr 149), some (.inl (k : Int)), some (.inl (r : Int)), X, Y] [] g Q := by
  intro n
  induction n with
  | zero =>
    intro r X Y g hr hF hI hB
    have hrj : r = 12 := by omega
    subst hrj
    refine R_il fx_120_98 rfl ?_
    refine R_push fx_120_99 ?_
    refine R_icge fx_120_101 (by omega) (fun hc => ?_) (fun hc => by omega)
    exact K g _ _ _ hF hI hB
  | succ n ih =>
    intro r X Y g hr hF hI hB
    refine R_il fx_120_98 rfl ?_
    refine R_push fx_120_99 ?_
    refine R_icge fx_120_101 (by omega) (fun hc => by omega) (fun hc => ?_)
    refine R_push fx_120_104 ?_
    refine R_is fx_120_105 ?_
    refine C_120_4 hV hM hk (show r < 12 by omega) (fun g2 X2 Y2 a b c => ?_) 12 0 _ g (by omega) hF hI hB
    refine R_inc fx_120_255 rfl ?_
    refine R_goto fx_120_258 ?_
    exact ih (r + 1) X2 Y2 g2 (by omega) a b c
theorem C_120_2 (hV : VG G) (hM : Mg f G) (K : ∀ g : xF, CF g f → SI g G 96 → BO g G 576 → Q [] g) : ∀ (n k : Nat) (W X Y : Option xV) (g : xF), k + n = 4 → CF g f → SI g G 96 → BO g G (144 * k) → Rf (SHL L) 120 91 [some (.inr 149), some (.inl (k : Int)), W, X, Y] [] g Q := by
  intro n
  induction n with
  | zero =>
    intro k W X Y g hk hF hI hB
    have hkj : k = 4 := by omega
    subst hkj
    refine R_il fx_120_91 rfl ?_
    refine R_push fx_120_92 ?_
    refine R_icge fx_120_93 (by omega) (fun hc => ?_) (fun hc => by omega)
    exact R_retv fx_120_267 rfl (K g hF hI hB)
  | succ n ih =>
    intro k W X Y g hk hF hI hB
    refine R_il fx_120_91 rfl ?_
    refine R_push fx_120_92 ?_
    refine R_icge fx_120_93 (by omega) (fun hc => by omega) (fun hc => ?_)
    refine R_push fx_120_96 ?_
    refine R_is fx_120_97 ?_
    refine C_120_3 hV hM (show k < 4 by omega) (fun g2 W2 X2 Y2 a b c => ?_) 12 0 _ _ g (by omega) hF hI hB
    refine R_inc fx_120_261 rfl ?_
    refine R_goto fx_120_264 ?_
    exact ih (k + 1) W2 X2 Y2 g2 (by omega) a b c
theorem C_120 (hV : VG G) (hM : Mg f G) (hT : MT f) (K : ∀ g : xF, CF g f → SI g G 96 → BO g G 576 → Q [] g) : Rf (SHL L) 120 0 (xloc 120 [.inr 149]) [] f Q := by
  have loop : ∀ (n r : Nat) (X Y Z : Option xV) (g : xF), r + n = 12 → CF g f → SI g G (8 * r) → Rf (SHL L) 120 2 [some (.inr 149), some (.inl (r : Int)), X, Y, Z] [] g Q := by
    intro n
    induction n with
    | zero =>
      intro r X Y Z g hr hF hI
      have hrj : r = 12 := by omega
      subst hrj
      refine R_il fx_120_2 rfl ?_
      refine R_push fx_120_3 ?_
      refine R_icge fx_120_5 (by omega) (fun hc => ?_) (fun hc => by omega)
      refine R_push fx_120_89 ?_
      refine R_is fx_120_90 ?_
      exact C_120_2 hV hM K 4 0 _ _ _ g (by omega) hF hI (fun j hj => absurd hj (by omega))
    | succ n ih =>
      intro r X Y Z g hr hF hI
      refine R_il fx_120_2 rfl ?_
      refine R_push fx_120_3 ?_
      refine R_icge fx_120_5 (by omega) (fun hc => by omega) (fun hc => ?_)
      refine R_push fx_120_8 ?_
      refine R_is fx_120_9 ?_
      refine C_120_1 hV hM (show r < 12 by omega) (fun g2 X2 Y2 Z2 a b => ?_) 8 0 _ _ g (by omega) hF hI
      refine R_inc fx_120_83 rfl ?_
      refine R_goto fx_120_86 ?_
      exact ih (r + 1) X2 Y2 Z2 g2 (by omega) a b
  refine R_push fx_120_0 ?_
  refine R_is fx_120_1 ?_
  exact loop 12 0 _ _ _ f (by omega) ⟨fun _ _ _ _ _ _ => rfl, fun _ _ => rfl, hT⟩ (fun j hj => absurd hj (by omega))
theorem C_121 {a2 c2 c : Int} {at' : Nat} {a b : List Int} (ea : a2 = at') (ec : c2 = nv c) (hat : at' < 20480) (hc : c = 268435456 ∨ (0 ≤ c ∧ c ≤ 1000)) (ha : sml a) (hb : sml b) (u1 : f 149 20 = nv (mn a)) (u3 : f 149 21 = ct a) (t1 : f 159 at' = nv (mn b)) (t3 : f 160 at' = ct b) (K : ∀ g : xF, (∀ c, c ≠ 149 → g c = f c) → (∀ i, i ≠ 20 → i ≠ 21 → g 149 i = f 149 i) → g 149 20 = nv (mn (a ++ sumL c b)) → g 149 21 = ct (a ++ sumL c b) → Q [] g) : Rf (SHL L) 121 0 (xloc 121 [.inr 149, .inl a2, .inl c2]) [] f Q := by
  subst ea ec
  have ba := mn_b ha
  have bb := mn_b hb
  have et1 : f 159 (at' : Int).toNat = nv (mn b) := by rw [Int.toNat_natCast]; exact t1
  have nb : (mn b = 268435456 ∧ nv (mn b) = 1000000) ∨ (mn b ≠ 268435456 ∧ nv (mn b) = mn b) := by unfold nv; split <;> omega
  have na : (mn a = 268435456 ∧ nv (mn a) = 1000000) ∨ (mn a ≠ 268435456 ∧ nv (mn a) = mn a) := by unfold nv; split <;> omega
  have nc : (c = 268435456 ∧ nv c = 1000000) ∨ (c ≠ 268435456 ∧ nv c = c) := by unfold nv; split <;> omega
  have no : (c = 268435456 ∨ mn b = 268435456) → a ++ sumL c b = a := fun h => by
    rcases h with h | h
    · rw [h]; unfold sumL; simp
    · exact of_no hb h
  have fm := fun h1 h2 h => of_mn (a := a) (c := c) (b := b) h1 hb h2 h
  have fc := fun h1 h2 h => of_ct (a := a) (c := c) (b := b) h1 hb h2 h
  refine R_il fx_121_0 rfl ?_
  refine R_push fx_121_1 ?_
  refine R_icge fx_121_3 (by omega) (fun hc1 => ?_) (fun hc1 => ?_)
  · refine R_retv fx_121_17 rfl (K f (fun _ _ => rfl) (fun _ _ _ => rfl) ?_ ?_)
    · rw [no (by omega)]; exact u1
    · rw [no (by omega)]; exact u3
  · refine R_al fx_121_6 rfl (by omega) ?_
    refine R_gr fx_121_7 kd_149 rfl rr_149_18 ?_
    refine R_il fx_121_10 rfl ?_
    refine R_ia fx_121_11 (Or.inl kd_159) (by omega) (by rw [ln_159]; omega) (by omega) ?_
    refine R_push fx_121_12 ?_
    refine R_iclt fx_121_14 (by omega) (fun hc2 => ?_) (fun hc2 => ?_)
    · have h9 : c ≠ 268435456 := by omega
      have h8 : mn b ≠ 268435456 := by omega
      have fm2 := fm h9 (by omega) h8
      have fc2 := fc h9 (by omega) h8
      refine R_il fx_121_18 rfl ?_
      refine R_al fx_121_19 rfl (by omega) ?_
      refine R_gr fx_121_20 kd_149 rfl rr_149_18 ?_
      refine R_il fx_121_23 rfl ?_
      refine R_ia fx_121_24 (Or.inl kd_159) (by omega) (by rw [ln_159]; omega) (by omega) ?_
      refine R_add fx_121_25 ?_
      refine R_is fx_121_26 ?_
      refine R_il fx_121_27 rfl ?_
      refine R_al fx_121_28 rfl (by omega) ?_
      refine R_gf fx_121_29 kd_149 rfl ?_
      refine R_icge fx_121_32 (by omega) (fun hl => ?_) (fun hl => ?_)
      · refine R_il fx_121_45 rfl ?_
        refine R_al fx_121_46 rfl (by omega) ?_
        refine R_gf fx_121_47 kd_149 rfl ?_
        try simp only [xup_i (show (20 : Nat) ≠ 21 by omega), xup_s]
        refine R_icne fx_121_50 (by omega) (fun he => ?_) (fun he => ?_)
        · refine R_retv fx_121_68 rfl (K f (fun _ _ => rfl) (fun _ _ _ => rfl) ?_ ?_)
          · rw [fm2, if_neg (by omega)]; exact u1
          · rw [fc2, if_neg (by omega), if_neg (by omega)]; omega
        · refine R_al fx_121_53 rfl (by omega) ?_
          refine R_al fx_121_54 rfl (by omega) ?_
          refine R_gf fx_121_55 kd_149 rfl ?_
          refine R_al fx_121_58 rfl (by omega) ?_
          refine R_gr fx_121_59 kd_149 rfl rr_149_19 ?_
          refine R_il fx_121_62 rfl ?_
          refine R_ia fx_121_63 (Or.inl kd_160) (by omega) (by rw [ln_160]; omega) (by omega) ?_
          refine R_add fx_121_64 ?_
          refine R_pf fx_121_65 kd_149 rfl (fun h => absurd h (by decide)) ?_
          rw [Int.toNat_natCast]
          refine R_retv fx_121_68 rfl (K _ (fun c9 a9 => ?_) (fun i h1 h2 => ?_) ?_ ?_)
          · funext y; rw [xup_a a9]
          · rw [xup_i h2]
          · rw [xup_i (by omega), fm2, if_neg (by omega)]; exact u1
          · rw [xup_s, fc2, if_neg (by omega), if_pos (by omega), u3, t3]
      · refine R_al fx_121_35 rfl (by omega) ?_
        refine R_il fx_121_36 rfl ?_
        refine R_pf fx_121_37 kd_149 rfl (fun h => absurd h (by decide)) ?_
        refine R_al fx_121_40 rfl (by omega) ?_
        refine R_push fx_121_41 ?_
        refine R_pf fx_121_42 kd_149 rfl (fun h => absurd h (by decide)) ?_
        refine R_il fx_121_45 rfl ?_
        refine R_al fx_121_46 rfl (by omega) ?_
        refine R_gf fx_121_47 kd_149 rfl ?_
        try simp only [xup_i (show (20 : Nat) ≠ 21 by omega), xup_s]
        refine R_icne fx_121_50 (by omega) (fun he => ?_) (fun he => ?_)
        · exfalso; omega
        · refine R_al fx_121_53 rfl (by omega) ?_
          refine R_al fx_121_54 rfl (by omega) ?_
          refine R_gf fx_121_55 kd_149 rfl ?_
          refine R_al fx_121_58 rfl (by omega) ?_
          refine R_gr fx_121_59 kd_149 rfl rr_149_19 ?_
          refine R_il fx_121_62 rfl ?_
          refine R_ia fx_121_63 (Or.inl kd_160) (by omega) (by rw [ln_160]; omega) (by omega) ?_
          refine R_add fx_121_64 ?_
          refine R_pf fx_121_65 kd_149 rfl (fun h => absurd h (by decide)) ?_
          simp only [Int.toNat_natCast] at *
          simp only [xup_i (show (20 : Nat) ≠ 21 by omega), xup_s, xup_a (show (160 : Nat) ≠ 149 by omega), xup_a (show (159 : Nat) ≠ 149 by omega)]
          refine R_retv fx_121_68 rfl (K _ (fun c9 a9 => ?_) (fun i h1 h2 => ?_) ?_ ?_)
          · funext y; rw [xup_a a9, xup_a a9, xup_a a9]
          · rw [xup_i h2, xup_i h2, xup_i h1]
          · rw [xup_i (by omega), xup_i (by omega), xup_s, fm2, if_pos (by omega), nv_ne (show c + mn b ≠ 268435456 by omega)]; omega
          · rw [xup_s, fc2, if_pos (by omega), if_pos (by omega), t3]
    · refine R_retv fx_121_17 rfl (K f (fun _ _ => rfl) (fun _ _ _ => rfl) ?_ ?_)
      · rw [no (by omega)]; exact u1
      · rw [no (by omega)]; exact u3
end FD
