/-! ===== the model: findCosts, comes ===== -/
def nv (x : Int) : Int := if x = 268435456 then 1000000 else x
theorem nv_far : nv 268435456 = 1000000 := rfl
theorem nv_ne {x : Int} (h : x ≠ 268435456) : nv x = x := if_neg h
noncomputable def cbG (G : Nat → Int) (k r q : Nat) : Int := if r = q ∨ csG G (2 * k) r = 268435456 ∨ csG G (2 * k + 1) q = 268435456 then 268435456 else if G (12 + k) ≤ G (16 + k) then (if pk G r q k = 268435456 then 268435456 else pk G r q k / 32768) else csG G (2 * k) r + csG G (2 * k + 1) q
theorem cb_mb {G : Nat → Int} {k r q : Nat} (h : mbG G k = true) : cbG G k r q = cpG G k r q := by
  unfold cbG cpG
  by_cases z : r = q ∨ csG G (2 * k) r = 268435456 ∨ csG G (2 * k + 1) q = 268435456
  · rw [if_pos z, if_neg]
    rintro ⟨_, a, b, c, _⟩
    rcases z with z | z | z
    · exact a z
    · exact b z
    · exact c z
  · rw [if_neg z, if_pos (of_decide_eq_true h).1]
    by_cases y : pk G r q k = 268435456
    · rw [if_pos y, if_neg (fun x => x.2.2.2.2 y)]
    · rw [if_neg y, if_pos ⟨h, fun x => z (Or.inl x), fun x => z (Or.inr (Or.inl x)), fun x => z (Or.inr (Or.inr x)), y⟩]
theorem cb_no {G : Nat → Int} {k r q : Nat} (h : ¬ G (12 + k) ≤ G (16 + k)) : cbG G k r q = c2 (coG G) k r q := by
  unfold cbG c2
  rw [if_neg h]
  rfl
def CF (g f : xF) : Prop := (∀ c, c ≠ 149 → c ≠ 155 → c ≠ 156 → c ≠ 157 → c ≠ 158 → g c = f c) ∧ (∀ i, (i < 10 ∨ 15 < i) → g 149 i = f 149 i) ∧ MT g
def SI (g : xF) (G : Nat → Int) (n : Nat) : Prop := ∀ j, j < n → g 157 j = nv (csG G (j % 8) (j / 8))
def BO (g : xF) (G : Nat → Int) (n : Nat) : Prop := ∀ j, j < n → g 158 j = nv (cbG G (j / 144) (j / 12 % 12) (j % 12))
section FC
variable {L : Nat} {f : xF} {Q : List xV → xF → Prop} {G : Nat → Int}
theorem C_120_1 (hV : VG G) (hM : Mg f G) {r : Nat} (hr : r < 12) (K : ∀ (g : xF) (X Y Z : Option xV), CF g f → SI g G (8 * r + 8) → Rf (SHL L) 120 83 [some (.inr 149), some (.inl (r : Int)), X, Y, Z] [] g Q) : ∀ (n s : Nat) (Y Z : Option xV) (g : xF), s + n = 8 → CF g f → SI g G (8 * r + s) → Rf (SHL L) 120 10 [some (.inr 149), some (.inl (r : Int)), some (.inl (s : Int)), Y, Z] [] g Q := by
  have h0 := hV.1
  intro n
  induction n with
  | zero =>
    intro s Y Z g hs hF hI
    have hsj : s = 8 := by omega
    subst hsj
    refine R_il fx_120_10 rfl ?_
    refine R_push fx_120_11 ?_
    refine R_icge fx_120_13 (by omega) (fun hc => ?_) (fun hc => by omega)
    exact K g _ _ _ hF hI
  | succ n ih =>
    intro s Y Z g hs hF hI
    have hMg : Mg g G := hM.kept (hF.2.1 4 (by omega)) (hF.1 150 (by omega) (by omega) (by omega) (by omega) (by omega))
    have hv4 := hV.2.2.2.1 s (by omega)
    have hMu : Mg (xup g 157 (8 * r + s) 1000000) G := hMg.kept (by rw [xup_a (by omega)]) (by funext y; rw [xup_a (by omega)])
    have hTu : MT (xup g 157 (8 * r + s) 1000000) := ⟨fun j hj => by rw [xup_a (by omega)]; exact hF.2.2.1 j hj, by rw [xup_a (by omega)]; exact hF.2.2.2⟩
    have d1 : (8 * r + s) % 8 = s := by omega
    have d2 : (8 * r + s) / 8 = r := by omega
    have hFu : CF (xup g 157 (8 * r + s) 1000000) f := ⟨fun c c1 c2 c3 c4 c5 => by funext y; rw [xup_a c4]; exact congrFun (hF.1 c c1 c2 c3 c4 c5) y, fun i hi => by rw [xup_a (by omega)]; exact hF.2.1 i hi, hTu⟩
    have fin : ∀ (g2 : xF) (v : Int), CF g2 f → (∀ j, j < 8 * r + s → g2 157 j = g 157 j) → g2 157 (8 * r + s) = nv (csG G s r) → Rf (SHL L) 120 10 [some (.inr 149), some (.inl (r : Int)), some (.inl ((s : Int) + 1)), Y, Z] [] g2 Q := fun g2 v a b c => ih (s + 1) Y Z g2 (by omega) a (fun j hj => by
      by_cases e : j = 8 * r + s
      · subst e; rw [d1, d2]; exact c
      · rw [b j (by omega)]; exact hI j (by omega))
    have no : csG G s r = 268435456 → ∀ g2 : xF, CF g2 f → g2 157 = (xup g 157 (8 * r + s) 1000000) 157 → Rf (SHL L) 120 10 [some (.inr 149), some (.inl (r : Int)), some (.inl ((s : Int) + 1)), Y, Z] [] g2 Q := fun h g2 a b => fin g2 0 a (fun j hj => by rw [b, xup_i (by omega)]) (by rw [b, xup_s, h]; rfl)
    refine R_il fx_120_10 rfl ?_
    refine R_push fx_120_11 ?_
    refine R_icge fx_120_13 (by omega) (fun hc => by omega) (fun hc => ?_)
    refine R_al fx_120_16 rfl (by omega) ?_
    refine R_gr fx_120_17 kd_149 rfl rr_149_16 ?_
    refine R_push fx_120_20 ?_
    refine R_il fx_120_22 rfl ?_
    refine R_mul fx_120_23 ?_
    refine R_il fx_120_24 rfl ?_
    refine R_add fx_120_25 ?_
    refine R_push fx_120_26 ?_
    refine R_ias fx_120_28 kd_157 (by omega) (by rw [ln_157]; omega) (by omega) ?_
    rw [show (8 * (r : Int) + (s : Int)).toNat = 8 * r + s by omega]
    refine R_al fx_120_29 rfl (by omega) ?_
    refine R_il fx_120_30 rfl ?_
    refine R_cv fx_120_31 rfl rfl rfl rfl kd_149 ?_
    refine C_97 (by omega) hMu h0 (fun hc1 => ?_) (fun hc1 => ?_)
    · refine R_ifeq fx_120_34 (by decide) (fun h => absurd h (by decide)) (fun _ => ?_)
      refine R_al fx_120_37 rfl (by omega) ?_
      refine R_il fx_120_38 rfl ?_
      refine R_cv fx_120_39 rfl rfl rfl rfl kd_149 ?_
      refine C_98 (by omega) hMu (by have := (hV.2.2.2.2.2 r hr (by omega)).2.2.2; rw [Int.toNat_natCast]; omega) (fun hc2 => ?_) (fun hc2 => ?_) <;> rw [Int.toNat_natCast] at hc2
      · refine R_ifeq fx_120_42 (by decide) (fun h => absurd h (by decide)) (fun _ => ?_)
        refine R_al fx_120_45 rfl (by omega) ?_
        refine R_il fx_120_46 rfl ?_
        refine R_cv fx_120_47 rfl rfl rfl rfl kd_149 ?_
        refine C_109 (by omega) hMu (by rw [Int.toNat_natCast]; omega) (fun hc3 => ?_) (fun hc3 => ?_) <;> rw [Int.toNat_natCast] at hc3
        · refine R_ifeq fx_120_50 (by decide) (fun h => absurd h (by decide)) (fun _ => ?_)
          refine R_al fx_120_53 rfl (by omega) ?_
          refine R_il fx_120_54 rfl ?_
          refine R_il fx_120_55 rfl ?_
          refine R_cv fx_120_56 rfl rfl rfl rfl kd_149 ?_
          refine C_113 (r := r) (s := s) rfl rfl hV hMu hTu hr hc1.2 (by omega) (fun hc4 g2 hW x1 x2 => ?_) (fun hc4 g2 hW => ?_)
          · refine R_ifeq fx_120_59 (by decide) (fun h => absurd h (by decide)) (fun _ => ?_)
            refine R_al fx_120_62 rfl (by omega) ?_
            refine R_gr fx_120_63 kd_149 rfl rr_149_16 ?_
            refine R_push fx_120_66 ?_
            refine R_il fx_120_68 rfl ?_
            refine R_mul fx_120_69 ?_
            refine R_il fx_120_70 rfl ?_
            refine R_add fx_120_71 ?_
            refine R_al fx_120_72 rfl (by omega) ?_
            refine R_gf fx_120_73 kd_149 rfl ?_
            refine R_ias fx_120_76 kd_157 (by omega) (by rw [ln_157]; omega) (by omega) ?_
            refine R_inc fx_120_77 rfl ?_
            refine R_goto fx_120_80 ?_
            have hfr : frG G r = true := decide_eq_true ⟨by omega, hc2⟩
            have ec : csG G s r = wk G r s / 32 := if_pos ⟨hc3, hfr, hc4⟩
            have hcf : CF g2 f := ⟨fun c c1 c2 c3 c4 c5 => by rw [hW.1 c c1 c2 c3]; exact hFu.1 c c1 c2 c3 c4 c5, fun i hi => by rw [hW.2.1 i hi]; exact hFu.2.1 i hi, hW.2.2⟩
            have hnz := (csG_b (s := s) hV hr).resolve_left (by have := (wk_b (s := s) hV hr (frG_lt hfr)).resolve_left hc4; omega)
            rw [show (8 * (r : Int) + (s : Int)).toNat = 8 * r + s by omega, x1, ← ec]
            refine fin _ 0 ⟨fun c c1 c2 c3 c4 c5 => ?_, fun i hi => ?_, fun j hj => ?_, ?_⟩ (fun j hj => ?_) ?_
            · funext y; rw [xup_a c4]; exact congrFun (hcf.1 c c1 c2 c3 c4 c5) y
            · rw [xup_a (by omega)]; exact hcf.2.1 i hi
            · rw [xup_a (by omega)]; exact hcf.2.2.1 j hj
            · rw [xup_a (by omega)]; exact hcf.2.2.2
            · rw [xup_i (by omega), hW.1 157 (by omega) (by omega) (by omega), xup_i (by omega)]
            · rw [xup_s, nv_ne (by omega)]
          · refine R_ifeq fx_120_59 (by decide) (fun _ => ?_) (fun h => absurd h (by decide))
            refine R_inc fx_120_77 rfl ?_
            refine R_goto fx_120_80 ?_
            exact no (if_neg (fun z => z.2.2 hc4)) g2 ⟨fun c c1 c2 c3 c4 c5 => by rw [hW.1 c c1 c2 c3]; exact hFu.1 c c1 c2 c3 c4 c5, fun i hi => by rw [hW.2.1 i hi]; exact hFu.2.1 i hi, hW.2.2⟩ (hW.1 157 (by omega) (by omega) (by omega))
        · refine R_ifeq fx_120_50 (by decide) (fun _ => ?_) (fun h => absurd h (by decide))
          refine R_inc fx_120_77 rfl ?_
          refine R_goto fx_120_80 ?_
          exact no (if_neg (fun z => by first | exact hc3 z.1 | (have := of_decide_eq_true z.2.1; first | exact hc2 this.2 | omega))) _ hFu rfl
      · refine R_ifeq fx_120_42 (by decide) (fun _ => ?_) (fun h => absurd h (by decide))
        refine R_inc fx_120_77 rfl ?_
        refine R_goto fx_120_80 ?_
        exact no (if_neg (fun z => by first | exact hc3 z.1 | (have := of_decide_eq_true z.2.1; first | exact hc2 this.2 | omega))) _ hFu rfl
    · refine R_ifeq fx_120_34 (by decide) (fun _ => ?_) (fun h => absurd h (by decide))
      refine R_inc fx_120_77 rfl ?_
      refine R_goto fx_120_80 ?_
      exact no (if_neg (fun z => by first | exact hc3 z.1 | (have := of_decide_eq_true z.2.1; first | exact hc2 this.2 | omega))) _ hFu rfl
theorem C_120_4 (hV : VG G) (hM : Mg f G) {k r : Nat} (hk : k < 4) (hr : r < 12) (K : ∀ (g : xF) (X Y : Option xV), CF g f → SI g G 96 → BO g G (144 * k + 12 * r + 12) → Rf (SHL L) 120 255 [some (.inr 149), some (.inl (k : Int)), some (.inl (r : Int)), X, Y] [] g Q) : ∀ (n q : Nat) (Y : Option xV) (g : xF), q + n = 12 → CF g f → SI g G 96 → BO g G (144 * k + 12 * r + q) → Rf (SHL L) 120 106 [some (.inr 149), some (.inl (k : Int)), some (.inl (r : Int)), some (.inl (q : Int)), Y] [] g Q := by
  have h0 := hV.1
  have v5 := hV.2.2.2.2.1 k hk
  intro n
  induction n with
  | zero =>
    intro q Y g hq hF hI hB
    have hqj : q = 12 := by omega
    subst hqj
    refine R_il fx_120_106 rfl ?_
    refine R_push fx_120_107 ?_
    refine R_icge fx_120_109 (by omega) (fun hc => ?_) (fun hc => by omega)
    exact K g _ _ hF hI hB
  | succ n ih =>
    intro q Y g hq hF hI hB
    have hMg : Mg g G := hM.kept (hF.2.1 4 (by omega)) (hF.1 150 (by omega) (by omega) (by omega) (by omega) (by omega))
    obtain ⟨J, hJ⟩ : ∃ J, J = 144 * k + 12 * r + q := ⟨_, rfl⟩
    have hMu : Mg (xup g 158 J 1000000) G := hMg.kept (by rw [xup_a (by omega)]) (by funext y; rw [xup_a (by omega)])
    have hTu : MT (xup g 158 J 1000000) := ⟨fun j hj => by rw [xup_a (by omega)]; exact hF.2.2.1 j hj, by rw [xup_a (by omega)]; exact hF.2.2.2⟩
    have d1 : J / 144 = k := by omega
    have d2 : J / 12 % 12 = r := by omega
    have d3 : J % 12 = q := by omega
    have ej : (144 * (k : Int) + 12 * (r : Int) + (q : Int)).toNat = J := by omega
    have hFu : CF (xup g 158 J 1000000) f := ⟨fun c c1 c2 c3 c4 c5 => by funext y; rw [xup_a c5]; exact congrFun (hF.1 c c1 c2 c3 c4 c5) y, fun i hi => by rw [xup_a (by omega)]; exact hF.2.1 i hi, hTu⟩
    have s1 : (xup g 158 J 1000000) 157 (8 * (r : Int) + 2 * (k : Int)).toNat = nv (csG G (2 * k) r) := by rw [xup_a (by omega), show (8 * (r : Int) + 2 * (k : Int)).toNat = 8 * r + 2 * k by omega, hI _ (by omega), show (8 * r + 2 * k) % 8 = 2 * k by omega, show (8 * r + 2 * k) / 8 = r by omega]
    have s2 : (xup g 158 J 1000000) 157 (8 * (q : Int) + 2 * (k : Int) + 1).toNat = nv (csG G (2 * k + 1) q) := by rw [xup_a (by omega), show (8 * (q : Int) + 2 * (k : Int) + 1).toNat = 8 * q + 2 * k + 1 by omega, hI _ (by omega), show (8 * q + 2 * k + 1) % 8 = 2 * k + 1 by omega, show (8 * q + 2 * k + 1) / 8 = q by omega]
    have b1 := csG_b (s := 2 * k) hV hr
    have b2 := csG_b (s := 2 * k + 1) hV (show q < 12 by omega)
    have n1 : nv (csG G (2 * k) r) = 1000000 ↔ csG G (2 * k) r = 268435456 := by unfold nv; split <;> omega
    have n2 : nv (csG G (2 * k + 1) q) = 1000000 ↔ csG G (2 * k + 1) q = 268435456 := by unfold nv; split <;> omega
    have o1 : xok (nv (csG G (2 * k) r)) ∧ xok (nv (csG G (2 * k + 1) q)) := by unfold nv; split <;> split <;> omega
    have fin : ∀ (g2 : xF) (Y2 : Option xV), CF g2 f → g2 157 = g 157 → (∀ j, j < J → g2 158 j = g 158 j) → g2 158 J = nv (cbG G k r q) → Rf (SHL L) 120 106 [some (.inr 149), some (.inl (k : Int)), some (.inl (r : Int)), some (.inl ((q : Int) + 1)), Y2] [] g2 Q := fun g2 Y2 a a2 b c => ih (q + 1) Y2 g2 (by omega) a (fun j hj => by rw [a2]; exact hI j hj) (fun j hj => by
      by_cases e : j = J
      · rw [e, d1, d2, d3]; exact c
      · rw [b j (by omega)]; exact hB j (by omega))
    have no : cbG G k r q = 268435456 → ∀ (g2 : xF) (Y2 : Option xV), CF g2 f → g2 157 = g 157 → g2 158 = (xup g 158 J 1000000) 158 → Rf (SHL L) 120 106 [some (.inr 149), some (.inl (k : Int)), some (.inl (r : Int)), some (.inl ((q : Int) + 1)), Y2] [] g2 Q := fun h g2 Y2 a a2 b => fin g2 Y2 a a2 (fun j hj => by rw [b, xup_i (by omega)]) (by rw [b, xup_s, h]; rfl)
    refine R_il fx_120_106 rfl ?_
    refine R_push fx_120_107 ?_
    refine R_icge fx_120_109 (by omega) (fun hc => by omega) (fun hc => ?_)
    refine R_push fx_120_112 ?_
    refine R_il fx_120_115 rfl ?_
    refine R_mul fx_120_116 ?_
    refine R_push fx_120_117 ?_
    refine R_il fx_120_119 rfl ?_
    refine R_mul fx_120_120 ?_
    refine R_add fx_120_121 ?_
    refine R_il fx_120_122 rfl ?_
    refine R_add fx_120_123 ?_
    refine R_is fx_120_124 ?_
    refine R_al fx_120_126 rfl (by omega) ?_
    refine R_gr fx_120_127 kd_149 rfl rr_149_17 ?_
    refine R_il fx_120_130 rfl ?_
    refine R_push fx_120_132 ?_
    refine R_ias fx_120_134 kd_158 (by omega) (by rw [ln_158]; omega) (by omega) ?_
    rw [ej]
    refine R_il fx_120_135 rfl ?_
    refine R_il fx_120_136 rfl ?_
    refine R_iceq fx_120_137 (by omega) (fun hc1 => ?_) (fun hc1 => ?_)
    · refine R_inc fx_120_249 rfl ?_
      refine R_goto fx_120_252 ?_
      refine no (if_pos ?_) _ _ hFu (by funext y; rw [xup_a (by omega)]) rfl
      first | exact Or.inl (by omega) | exact Or.inr (Or.inl (n1.mp hc2)) | exact Or.inr (Or.inr (n2.mp hc3))
    · refine R_al fx_120_140 rfl (by omega) ?_
      refine R_gr fx_120_141 kd_149 rfl rr_149_16 ?_
      refine R_push fx_120_144 ?_
      refine R_il fx_120_146 rfl ?_
      refine R_mul fx_120_147 ?_
      refine R_push fx_120_148 ?_
      refine R_il fx_120_149 rfl ?_
      refine R_mul fx_120_150 ?_
      refine R_add fx_120_151 ?_
      refine R_ia fx_120_152 (Or.inl kd_157) (by omega) (by rw [ln_157]; omega) (by omega) ?_
      refine R_push fx_120_153 ?_
      rw [s1]
      refine R_iceq fx_120_155 (Or.inl ⟨o1.1, by omega⟩) (fun hc2 => ?_) (fun hc2 => ?_)
      · refine R_inc fx_120_249 rfl ?_
        refine R_goto fx_120_252 ?_
        refine no (if_pos ?_) _ _ hFu (by funext y; rw [xup_a (by omega)]) rfl
        first | exact Or.inl (by omega) | exact Or.inr (Or.inl (n1.mp hc2)) | exact Or.inr (Or.inr (n2.mp hc3))
      · refine R_al fx_120_158 rfl (by omega) ?_
        refine R_gr fx_120_159 kd_149 rfl rr_149_16 ?_
        refine R_push fx_120_162 ?_
        refine R_il fx_120_164 rfl ?_
        refine R_mul fx_120_165 ?_
        refine R_push fx_120_166 ?_
        refine R_il fx_120_167 rfl ?_
        refine R_mul fx_120_168 ?_
        refine R_add fx_120_169 ?_
        refine R_push fx_120_170 ?_
        refine R_add fx_120_171 ?_
        refine R_ia fx_120_172 (Or.inl kd_157) (by omega) (by rw [ln_157]; omega) (by omega) ?_
        refine R_push fx_120_173 ?_
        rw [s2]
        refine R_icne fx_120_175 (Or.inl ⟨o1.2, by omega⟩) (fun hc3 => ?_) (fun hc3 => ?_)
        · refine R_al fx_120_181 rfl (by omega) ?_
          refine R_il fx_120_182 rfl ?_
          refine R_cv fx_120_183 rfl rfl rfl rfl kd_149 ?_
          have z1 : csG G (2 * k) r ≠ 268435456 := fun z => hc2 (n1.mpr z)
          have z2 : csG G (2 * k + 1) q ≠ 268435456 := fun z => hc3 (n2.mpr z)
          have hnn : ¬ (r = q ∨ csG G (2 * k) r = 268435456 ∨ csG G (2 * k + 1) q = 268435456) := by omega
          refine C_110 (by omega) hMu (by rw [Int.toNat_natCast]; omega) (fun hc4 => ?_) (fun hc4 => ?_) <;> rw [Int.toNat_natCast] at hc4
          · refine R_ifne fx_120_186 (by decide) (fun _ => ?_) (fun h => absurd h (by decide))
            refine R_al fx_120_228 rfl (by omega) ?_
            refine R_il fx_120_229 rfl ?_
            refine R_il fx_120_230 rfl ?_
            refine R_il fx_120_231 rfl ?_
            refine R_cv fx_120_232 rfl rfl rfl rfl kd_149 ?_
            have hgr := frG_lt (b1.resolve_left z1).2.2.1
            have hgq := frG_lt (b2.resolve_left z2).2.2.1
            refine C_116 (r := r) (q := q) (k := k) hV hMu hr hgr (by omega) hgq hk rfl rfl rfl hTu (fun hc5 g2 hW xx => ?_) (fun hc5 g2 hW => ?_)
            · refine R_ifeq fx_120_235 (by decide) (fun h => absurd h (by decide)) (fun _ => ?_)
              refine R_al fx_120_238 rfl (by omega) ?_
              refine R_gr fx_120_239 kd_149 rfl rr_149_17 ?_
              refine R_il fx_120_242 rfl ?_
              refine R_al fx_120_244 rfl (by omega) ?_
              refine R_gf fx_120_245 kd_149 rfl ?_
              refine R_ias fx_120_248 kd_158 (by omega) (by rw [ln_158]; omega) (by omega) ?_
              refine R_inc fx_120_249 rfl ?_
              refine R_goto fx_120_252 ?_
              have hcf : CF g2 f := ⟨fun c c1 c2 c3 c4 c5 => by rw [hW.1 c c1 c2 c3]; exact hFu.1 c c1 c2 c3 c4 c5, fun i hi => by rw [hW.2.1 i hi]; exact hFu.2.1 i hi, hW.2.2⟩
              have hpb := (pk_b (k := k) hV hr hgr (show q < 12 by omega) hgq).resolve_left hc5
              rw [ej, xx.1]
              refine fin _ _ ⟨fun c c1 c2 c3 c4 c5 => ?_, fun i hi => ?_, fun j hj => ?_, ?_⟩ ?_ (fun j hj => ?_) ?_
              · funext y; rw [xup_a c5]; exact congrFun (hcf.1 c c1 c2 c3 c4 c5) y
              · rw [xup_a (by omega)]; exact hcf.2.1 i hi
              · rw [xup_a (by omega)]; exact hcf.2.2.1 j hj
              · rw [xup_a (by omega)]; exact hcf.2.2.2
              · funext y; rw [xup_a (by omega), hW.1 157 (by omega) (by omega) (by omega), xup_a (by omega)]
              · rw [xup_i (by omega), hW.1 158 (by omega) (by omega) (by omega), xup_i (by omega)]
              · rw [xup_s]; unfold cbG; rw [if_neg hnn, if_pos hc4, if_neg hc5, nv_ne (by omega)]
            · refine R_ifeq fx_120_235 (by decide) (fun _ => ?_) (fun h => absurd h (by decide))
              refine R_inc fx_120_249 rfl ?_
              refine R_goto fx_120_252 ?_
              refine no ?_ g2 _ ⟨fun c c1 c2 c3 c4 c5 => by rw [hW.1 c c1 c2 c3]; exact hFu.1 c c1 c2 c3 c4 c5, fun i hi => by rw [hW.2.1 i hi]; exact hFu.2.1 i hi, hW.2.2⟩ (by rw [hW.1 157 (by omega) (by omega) (by omega)]; funext y; rw [xup_a (by omega)]) (hW.1 158 (by omega) (by omega) (by omega))
              unfold cbG
              rw [if_neg hnn, if_pos hc4, if_pos hc5]
          · refine R_ifne fx_120_186 (by decide) (fun h => absurd h (by decide)) (fun _ => ?_)
            refine R_al fx_120_189 rfl (by omega) ?_
            refine R_gr fx_120_190 kd_149 rfl rr_149_17 ?_
            refine R_il fx_120_193 rfl ?_
            refine R_al fx_120_195 rfl (by omega) ?_
            refine R_gr fx_120_196 kd_149 rfl rr_149_16 ?_
            refine R_push fx_120_199 ?_
            refine R_il fx_120_201 rfl ?_
            refine R_mul fx_120_202 ?_
            refine R_push fx_120_203 ?_
            refine R_il fx_120_204 rfl ?_
            refine R_mul fx_120_205 ?_
            refine R_add fx_120_206 ?_
            refine R_ia fx_120_207 (Or.inl kd_157) (by omega) (by rw [ln_157]; omega) (by omega) ?_
            refine R_al fx_120_208 rfl (by omega) ?_
            refine R_gr fx_120_209 kd_149 rfl rr_149_16 ?_
            refine R_push fx_120_212 ?_
            refine R_il fx_120_214 rfl ?_
            refine R_mul fx_120_215 ?_
            refine R_push fx_120_216 ?_
            refine R_il fx_120_217 rfl ?_
            refine R_mul fx_120_218 ?_
            refine R_add fx_120_219 ?_
            refine R_push fx_120_220 ?_
            refine R_add fx_120_221 ?_
            refine R_ia fx_120_222 (Or.inl kd_157) (by omega) (by rw [ln_157]; omega) (by omega) ?_
            refine R_add fx_120_223 ?_
            refine R_ias fx_120_224 kd_158 (by omega) (by rw [ln_158]; omega) (by omega) ?_
            refine R_goto fx_120_225 ?_
            refine R_inc fx_120_249 rfl ?_
            refine R_goto fx_120_252 ?_
            rw [s1, s2, ej, nv_ne z1, nv_ne z2]
            refine fin _ _ ⟨fun c c1 c2 c3 c4 c5 => ?_, fun i hi => ?_, fun j hj => ?_, ?_⟩ ?_ (fun j hj => ?_) ?_
            · funext y; rw [xup_a c5]; exact congrFun (hFu.1 c c1 c2 c3 c4 c5) y
            · rw [xup_a (by omega)]; exact hFu.2.1 i hi
            · rw [xup_a (by omega)]; exact hFu.2.2.1 j hj
            · rw [xup_a (by omega)]; exact hFu.2.2.2
            · funext y; rw [xup_a (by omega), xup_a (by omega)]
            · rw [xup_i (by omega), xup_i (by omega)]
            · rw [xup_s]; unfold cbG; rw [if_neg hnn, if_neg hc4, nv_ne (by have := b1.resolve_left z1; have := b2.resolve_left z2; omega)]
        · refine R_goto fx_120_178 ?_
          refine R_inc fx_120_249 rfl ?_
          refine R_goto fx_120_252 ?_
          refine no (if_pos ?_) _ _ hFu (by funext y; rw [xup_a (by omega)]) rfl
          first | exact Or.inl (by omega) | exact Or.inr (Or.inl (n1.mp hc2)) | exact Or.inr (Or.inr (n2.mp hc3))
end FC
