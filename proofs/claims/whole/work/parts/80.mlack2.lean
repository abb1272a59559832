/-! ===== the model: lacks (the rest) ===== -/
def YF (g f : xF) (k : Nat) : Prop := (∀ c, c ≠ 159 → g c = f c) ∧ ∀ j, (j < 4096 * k ∨ 4096 * k + 4096 ≤ j) → g 159 j = f 159 j
theorem YF_store {g f : xF} {G : Nat → Int} {k u : Nat} {a : Int} (hF : YF g f k) (hu : u < 4096) (hR : ∀ v, v < u → Mn (RVk G k v) (g 159 (4096 * k + v))) (ha : Mn (RVk G k u) a) : YF (xup g 159 (4096 * k + u) a) f k ∧ ∀ v, v < u + 1 → Mn (RVk G k v) ((xup g 159 (4096 * k + u) a) 159 (4096 * k + v)) := by
  refine ⟨⟨fun c hc => ?_, fun j hj => ?_⟩, fun v hv => ?_⟩
  · funext y; rw [xup_a hc]; exact congrFun (hF.1 c hc) y
  · rw [xup_i (by omega)]; exact hF.2 j hj
  · by_cases e : v = u
    · subst e; rw [xup_s]; exact ha
    · rw [xup_i (by omega)]; exact hR v (by omega)
section SG2
variable {L : Nat} {f : xF} {Q : List xV → xF → Prop} {G : Nat → Int}
theorem C_127_s00 {k : Nat} (hV : VG G) (hk : k < 4) (h1 : wsG G (2 * k) = false) (h2 : wsG G (2 * k + 1) = false) (hI : SI f G 96) (hB : BO f G 576) (hN : ML f G (k + 1)) (K : ∀ (g : xF) (X6 X7 X8 X9 X10 X11 : Option xV), YF g f k → ML g G k → Rf (SHL L) 127 421 [some (.inr 149), some (.inl (k : Int)), some (.inl 0), some (.inl 0), some (.inl (w1 G (2 * k))), some (.inl (w1 G (2 * k + 1))), X6, X7, X8, X9, X10, X11] [] g Q) : ∀ (n u : Nat) (X7 X8 X9 X10 X11 : Option xV) (g : xF), u + n = 4096 → YF g f k → (∀ v, v < u → Mn (RVk G k v) (g 159 (4096 * k + v))) → Rf (SHL L) 127 114 [some (.inr 149), some (.inl (k : Int)), some (.inl 0), some (.inl 0), some (.inl (w1 G (2 * k))), some (.inl (w1 G (2 * k + 1))), some (.inl (u : Int)), X7, X8, X9, X10, X11] [] g Q := by
  intro n
  induction n with
  | zero =>
    intro u X7 X8 X9 X10 X11 g hu hF hR
    have huj : u = 4096 := by omega
    subst huj
    refine R_il fx_127_114 rfl ?_
    refine R_push fx_127_116 ?_
    refine R_icge fx_127_119 (by omega) (fun hc => ?_) (fun hc => by omega)
    exact K g _ _ _ _ _ _ hF hR
  | succ n ih =>
    intro u X7 X8 X9 X10 X11 g hu hF hR
    have hwa := w1_b (G := G) (s := 2 * k) (by omega)
    have hwb := w1_b (G := G) (s := 2 * k + 1) (by omega)
    have hNg : ML g G (k + 1) := fun v hv => by rw [hF.2 _ (by omega)]; exact hN v hv
    have hIg : SI g G 96 := fun j hj => by rw [hF.1 157 (by omega)]; exact hI j hj
    have hBg : BO g G 576 := fun j hj => by rw [hF.1 158 (by omega)]; exact hB j hj
    have hle := hNg u (by omega)
    have hlb := RVk_b (show k + 1 ≤ 4 by omega) hle.1
    have eix : (4096 * ((k : Int) + 1) + (u : Int)).toNat = 4096 * (k + 1) + u := by omega
    refine R_il fx_127_114 rfl ?_
    refine R_push fx_127_116 ?_
    refine R_icge fx_127_119 (by omega) (fun hc => by omega) (fun hc => ?_)
    refine R_push fx_127_122 ?_
    refine R_il fx_127_125 rfl ?_
    refine R_push fx_127_126 ?_
    refine R_add fx_127_127 ?_
    refine R_mul fx_127_128 ?_
    refine R_is fx_127_129 ?_
    refine R_il fx_127_131 rfl ?_
    refine R_push fx_127_132 ?_
    refine R_icne fx_127_133 (by omega) (fun hc => ?_) (fun hc => by omega)
    refine R_il fx_127_140 rfl ?_
    refine R_il fx_127_142 rfl ?_
    refine R_add fx_127_144 ?_
    refine R_al fx_127_145 rfl (by omega) ?_
    refine R_gr fx_127_146 kd_149 rfl rr_149_18 ?_
    refine R_il fx_127_149 rfl ?_
    refine R_il fx_127_151 rfl ?_
    refine R_add fx_127_153 ?_
    refine R_ia fx_127_154 (Or.inl kd_159) (by omega) (by rw [ln_159]; omega) (by omega) ?_
    rw [eix]
    refine R_add fx_127_155 ?_
    rw [Int.add_comm (w1 G (2 * k) + w1 G (2 * k + 1))]
    refine R_is fx_127_156 ?_
    refine R_push fx_127_158 ?_
    refine R_is fx_127_159 ?_
    refine C_127_r00 hV hk h1 h2 (by omega) hIg hBg hNg (fun a b Y Z ha hA => ?_) 12 0 _ _ _ (by omega) (by omega) ((Mn_sh (w := w1 G (2 * k) + w1 G (2 * k + 1)) hle).congr (fun v => ⟨Or.inl, fun z => z.elim id (fun ⟨r, hr, _⟩ => absurd hr (by omega))⟩))
    refine R_al fx_127_400 rfl (by omega) ?_
    refine R_gr fx_127_401 kd_149 rfl rr_149_18 ?_
    refine R_push fx_127_404 ?_
    refine R_il fx_127_407 rfl ?_
    refine R_mul fx_127_408 ?_
    refine R_il fx_127_409 rfl ?_
    refine R_add fx_127_411 ?_
    refine R_il fx_127_412 rfl ?_
    refine R_ias fx_127_414 kd_159 (by omega) (by rw [ln_159]; omega) (by omega) ?_
    refine R_inc fx_127_415 rfl ?_
    refine R_goto fx_127_418 ?_
    rw [show (4096 * (k : Int) + (u : Int)).toNat = 4096 * k + u by omega]
    obtain ⟨z1, z2⟩ := YF_store hF (by omega) hR hA
    exact ih (u + 1) _ _ _ _ _ _ (by omega) z1 z2
theorem C_127_s10 {k : Nat} (hV : VG G) (hk : k < 4) (h1 : wsG G (2 * k) = true) (h2 : wsG G (2 * k + 1) = false) (hI : SI f G 96) (hB : BO f G 576) (hN : ML f G (k + 1)) (K : ∀ (g : xF) (X6 X7 X8 X9 X10 X11 : Option xV), YF g f k → ML g G k → Rf (SHL L) 127 421 [some (.inr 149), some (.inl (k : Int)), some (.inl 1), some (.inl 0), some (.inl (w1 G (2 * k))), some (.inl (w1 G (2 * k + 1))), X6, X7, X8, X9, X10, X11] [] g Q) : ∀ (n u : Nat) (X7 X8 X9 X10 X11 : Option xV) (g : xF), u + n = 4096 → YF g f k → (∀ v, v < u → Mn (RVk G k v) (g 159 (4096 * k + v))) → Rf (SHL L) 127 114 [some (.inr 149), some (.inl (k : Int)), some (.inl 1), some (.inl 0), some (.inl (w1 G (2 * k))), some (.inl (w1 G (2 * k + 1))), some (.inl (u : Int)), X7, X8, X9, X10, X11] [] g Q := by
  intro n
  induction n with
  | zero =>
    intro u X7 X8 X9 X10 X11 g hu hF hR
    have huj : u = 4096 := by omega
    subst huj
    refine R_il fx_127_114 rfl ?_
    refine R_push fx_127_116 ?_
    refine R_icge fx_127_119 (by omega) (fun hc => ?_) (fun hc => by omega)
    exact K g _ _ _ _ _ _ hF hR
  | succ n ih =>
    intro u X7 X8 X9 X10 X11 g hu hF hR
    have hwa := w1_b (G := G) (s := 2 * k) (by omega)
    have hwb := w1_b (G := G) (s := 2 * k + 1) (by omega)
    have hNg : ML g G (k + 1) := fun v hv => by rw [hF.2 _ (by omega)]; exact hN v hv
    have hIg : SI g G 96 := fun j hj => by rw [hF.1 157 (by omega)]; exact hI j hj
    have hBg : BO g G 576 := fun j hj => by rw [hF.1 158 (by omega)]; exact hB j hj
    have hle := hNg u (by omega)
    have hlb := RVk_b (show k + 1 ≤ 4 by omega) hle.1
    have eix : (4096 * ((k : Int) + 1) + (u : Int)).toNat = 4096 * (k + 1) + u := by omega
    refine R_il fx_127_114 rfl ?_
    refine R_push fx_127_116 ?_
    refine R_icge fx_127_119 (by omega) (fun hc => by omega) (fun hc => ?_)
    refine R_push fx_127_122 ?_
    refine R_il fx_127_125 rfl ?_
    refine R_push fx_127_126 ?_
    refine R_add fx_127_127 ?_
    refine R_mul fx_127_128 ?_
    refine R_is fx_127_129 ?_
    refine R_il fx_127_131 rfl ?_
    refine R_push fx_127_132 ?_
    refine R_icne fx_127_133 (by omega) (fun hc => ?_) (fun hc => by omega)
    refine R_il fx_127_140 rfl ?_
    refine R_il fx_127_142 rfl ?_
    refine R_add fx_127_144 ?_
    refine R_al fx_127_145 rfl (by omega) ?_
    refine R_gr fx_127_146 kd_149 rfl rr_149_18 ?_
    refine R_il fx_127_149 rfl ?_
    refine R_il fx_127_151 rfl ?_
    refine R_add fx_127_153 ?_
    refine R_ia fx_127_154 (Or.inl kd_159) (by omega) (by rw [ln_159]; omega) (by omega) ?_
    rw [eix]
    refine R_add fx_127_155 ?_
    rw [Int.add_comm (w1 G (2 * k) + w1 G (2 * k + 1))]
    refine R_is fx_127_156 ?_
    refine R_push fx_127_158 ?_
    refine R_is fx_127_159 ?_
    refine C_127_r10 hV hk h1 h2 (by omega) hIg hBg hNg (fun a b Y Z ha hA => ?_) 12 0 _ _ _ (by omega) (by omega) ((Mn_sh (w := w1 G (2 * k) + w1 G (2 * k + 1)) hle).congr (fun v => ⟨Or.inl, fun z => z.elim id (fun ⟨r, hr, _⟩ => absurd hr (by omega))⟩))
    refine R_al fx_127_400 rfl (by omega) ?_
    refine R_gr fx_127_401 kd_149 rfl rr_149_18 ?_
    refine R_push fx_127_404 ?_
    refine R_il fx_127_407 rfl ?_
    refine R_mul fx_127_408 ?_
    refine R_il fx_127_409 rfl ?_
    refine R_add fx_127_411 ?_
    refine R_il fx_127_412 rfl ?_
    refine R_ias fx_127_414 kd_159 (by omega) (by rw [ln_159]; omega) (by omega) ?_
    refine R_inc fx_127_415 rfl ?_
    refine R_goto fx_127_418 ?_
    rw [show (4096 * (k : Int) + (u : Int)).toNat = 4096 * k + u by omega]
    obtain ⟨z1, z2⟩ := YF_store hF (by omega) hR hA
    exact ih (u + 1) _ _ _ _ _ _ (by omega) z1 z2
theorem C_127_s01 {k : Nat} (hV : VG G) (hk : k < 4) (h1 : wsG G (2 * k) = false) (h2 : wsG G (2 * k + 1) = true) (hI : SI f G 96) (hB : BO f G 576) (hN : ML f G (k + 1)) (K : ∀ (g : xF) (X6 X7 X8 X9 X10 X11 : Option xV), YF g f k → ML g G k → Rf (SHL L) 127 421 [some (.inr 149), some (.inl (k : Int)), some (.inl 0), some (.inl 1), some (.inl (w1 G (2 * k))), some (.inl (w1 G (2 * k + 1))), X6, X7, X8, X9, X10, X11] [] g Q) : ∀ (n u : Nat) (X7 X8 X9 X10 X11 : Option xV) (g : xF), u + n = 4096 → YF g f k → (∀ v, v < u → Mn (RVk G k v) (g 159 (4096 * k + v))) → Rf (SHL L) 127 114 [some (.inr 149), some (.inl (k : Int)), some (.inl 0), some (.inl 1), some (.inl (w1 G (2 * k))), some (.inl (w1 G (2 * k + 1))), some (.inl (u : Int)), X7, X8, X9, X10, X11] [] g Q := by
  intro n
  induction n with
  | zero =>
    intro u X7 X8 X9 X10 X11 g hu hF hR
    have huj : u = 4096 := by omega
    subst huj
    refine R_il fx_127_114 rfl ?_
    refine R_push fx_127_116 ?_
    refine R_icge fx_127_119 (by omega) (fun hc => ?_) (fun hc => by omega)
    exact K g _ _ _ _ _ _ hF hR
  | succ n ih =>
    intro u X7 X8 X9 X10 X11 g hu hF hR
    have hwa := w1_b (G := G) (s := 2 * k) (by omega)
    have hwb := w1_b (G := G) (s := 2 * k + 1) (by omega)
    have hNg : ML g G (k + 1) := fun v hv => by rw [hF.2 _ (by omega)]; exact hN v hv
    have hIg : SI g G 96 := fun j hj => by rw [hF.1 157 (by omega)]; exact hI j hj
    have hBg : BO g G 576 := fun j hj => by rw [hF.1 158 (by omega)]; exact hB j hj
    have hle := hNg u (by omega)
    have hlb := RVk_b (show k + 1 ≤ 4 by omega) hle.1
    have eix : (4096 * ((k : Int) + 1) + (u : Int)).toNat = 4096 * (k + 1) + u := by omega
    refine R_il fx_127_114 rfl ?_
    refine R_push fx_127_116 ?_
    refine R_icge fx_127_119 (by omega) (fun hc => by omega) (fun hc => ?_)
    refine R_push fx_127_122 ?_
    refine R_il fx_127_125 rfl ?_
    refine R_push fx_127_126 ?_
    refine R_add fx_127_127 ?_
    refine R_mul fx_127_128 ?_
    refine R_is fx_127_129 ?_
    refine R_il fx_127_131 rfl ?_
    refine R_push fx_127_132 ?_
    refine R_icne fx_127_133 (by omega) (fun hc => ?_) (fun hc => by omega)
    refine R_il fx_127_140 rfl ?_
    refine R_il fx_127_142 rfl ?_
    refine R_add fx_127_144 ?_
    refine R_al fx_127_145 rfl (by omega) ?_
    refine R_gr fx_127_146 kd_149 rfl rr_149_18 ?_
    refine R_il fx_127_149 rfl ?_
    refine R_il fx_127_151 rfl ?_
    refine R_add fx_127_153 ?_
    refine R_ia fx_127_154 (Or.inl kd_159) (by omega) (by rw [ln_159]; omega) (by omega) ?_
    rw [eix]
    refine R_add fx_127_155 ?_
    rw [Int.add_comm (w1 G (2 * k) + w1 G (2 * k + 1))]
    refine R_is fx_127_156 ?_
    refine R_push fx_127_158 ?_
    refine R_is fx_127_159 ?_
    refine C_127_r01 hV hk h1 h2 (by omega) hIg hBg hNg (fun a b Y Z ha hA => ?_) 12 0 _ _ _ (by omega) (by omega) ((Mn_sh (w := w1 G (2 * k) + w1 G (2 * k + 1)) hle).congr (fun v => ⟨Or.inl, fun z => z.elim id (fun ⟨r, hr, _⟩ => absurd hr (by omega))⟩))
    refine R_al fx_127_400 rfl (by omega) ?_
    refine R_gr fx_127_401 kd_149 rfl rr_149_18 ?_
    refine R_push fx_127_404 ?_
    refine R_il fx_127_407 rfl ?_
    refine R_mul fx_127_408 ?_
    refine R_il fx_127_409 rfl ?_
    refine R_add fx_127_411 ?_
    refine R_il fx_127_412 rfl ?_
    refine R_ias fx_127_414 kd_159 (by omega) (by rw [ln_159]; omega) (by omega) ?_
    refine R_inc fx_127_415 rfl ?_
    refine R_goto fx_127_418 ?_
    rw [show (4096 * (k : Int) + (u : Int)).toNat = 4096 * k + u by omega]
    obtain ⟨z1, z2⟩ := YF_store hF (by omega) hR hA
    exact ih (u + 1) _ _ _ _ _ _ (by omega) z1 z2
theorem C_127_s11 {k : Nat} (hV : VG G) (hk : k < 4) (h1 : wsG G (2 * k) = true) (h2 : wsG G (2 * k + 1) = true) (hI : SI f G 96) (hB : BO f G 576) (hN : ML f G (k + 1)) (K : ∀ (g : xF) (X6 X7 X8 X9 X10 X11 : Option xV), YF g f k → ML g G k → Rf (SHL L) 127 421 [some (.inr 149), some (.inl (k : Int)), some (.inl 1), some (.inl 1), some (.inl (w1 G (2 * k))), some (.inl (w1 G (2 * k + 1))), X6, X7, X8, X9, X10, X11] [] g Q) : ∀ (n u : Nat) (X7 X8 X9 X10 X11 : Option xV) (g : xF), u + n = 4096 → YF g f k → (∀ v, v < u → Mn (RVk G k v) (g 159 (4096 * k + v))) → Rf (SHL L) 127 114 [some (.inr 149), some (.inl (k : Int)), some (.inl 1), some (.inl 1), some (.inl (w1 G (2 * k))), some (.inl (w1 G (2 * k + 1))), some (.inl (u : Int)), X7, X8, X9, X10, X11] [] g Q := by
  intro n
  induction n with
  | zero =>
    intro u X7 X8 X9 X10 X11 g hu hF hR
    have huj : u = 4096 := by omega
    subst huj
    refine R_il fx_127_114 rfl ?_
    refine R_push fx_127_116 ?_
    refine R_icge fx_127_119 (by omega) (fun hc => ?_) (fun hc => by omega)
    exact K g _ _ _ _ _ _ hF hR
  | succ n ih =>
    intro u X7 X8 X9 X10 X11 g hu hF hR
    have hwa := w1_b (G := G) (s := 2 * k) (by omega)
    have hwb := w1_b (G := G) (s := 2 * k + 1) (by omega)
    have hNg : ML g G (k + 1) := fun v hv => by rw [hF.2 _ (by omega)]; exact hN v hv
    have hIg : SI g G 96 := fun j hj => by rw [hF.1 157 (by omega)]; exact hI j hj
    have hBg : BO g G 576 := fun j hj => by rw [hF.1 158 (by omega)]; exact hB j hj
    have hle := hNg u (by omega)
    have hlb := RVk_b (show k + 1 ≤ 4 by omega) hle.1
    have eix : (4096 * ((k : Int) + 1) + (u : Int)).toNat = 4096 * (k + 1) + u := by omega
    refine R_il fx_127_114 rfl ?_
    refine R_push fx_127_116 ?_
    refine R_icge fx_127_119 (by omega) (fun hc => by omega) (fun hc => ?_)
    refine R_push fx_127_122 ?_
    refine R_il fx_127_125 rfl ?_
    refine R_push fx_127_126 ?_
    refine R_add fx_127_127 ?_
    refine R_mul fx_127_128 ?_
    refine R_is fx_127_129 ?_
    refine R_il fx_127_131 rfl ?_
    refine R_push fx_127_132 ?_
    refine R_icne fx_127_133 (by omega) (fun hc => ?_) (fun hc => by omega)
    refine R_il fx_127_140 rfl ?_
    refine R_il fx_127_142 rfl ?_
    refine R_add fx_127_144 ?_
    refine R_al fx_127_145 rfl (by omega) ?_
    refine R_gr fx_127_146 kd_149 rfl rr_149_18 ?_
    refine R_il fx_127_149 rfl ?_
    refine R_il fx_127_151 rfl ?_
    refine R_add fx_127_153 ?_
    refine R_ia fx_127_154 (Or.inl kd_159) (by omega) (by rw [ln_159]; omega) (by omega) ?_
    rw [eix]
    refine R_add fx_127_155 ?_
    rw [Int.add_comm (w1 G (2 * k) + w1 G (2 * k + 1))]
    refine R_is fx_127_156 ?_
    refine R_push fx_127_158 ?_
    refine R_is fx_127_159 ?_
    refine C_127_r11 hV hk h1 h2 (by omega) hIg hBg hNg (fun a b Y Z ha hA => ?_) 12 0 _ _ _ (by omega) (by omega) ((Mn_sh (w := w1 G (2 * k) + w1 G (2 * k + 1)) hle).congr (fun v => ⟨Or.inl, fun z => z.elim id (fun ⟨r, hr, _⟩ => absurd hr (by omega))⟩))
    refine R_al fx_127_400 rfl (by omega) ?_
    refine R_gr fx_127_401 kd_149 rfl rr_149_18 ?_
    refine R_push fx_127_404 ?_
    refine R_il fx_127_407 rfl ?_
    refine R_mul fx_127_408 ?_
    refine R_il fx_127_409 rfl ?_
    refine R_add fx_127_411 ?_
    refine R_il fx_127_412 rfl ?_
    refine R_ias fx_127_414 kd_159 (by omega) (by rw [ln_159]; omega) (by omega) ?_
    refine R_inc fx_127_415 rfl ?_
    refine R_goto fx_127_418 ?_
    rw [show (4096 * (k : Int) + (u : Int)).toNat = 4096 * k + u by omega]
    obtain ⟨z1, z2⟩ := YF_store hF (by omega) hR hA
    exact ih (u + 1) _ _ _ _ _ _ (by omega) z1 z2
theorem C_127_s4  (K : ∀ (g : xF) (X6 X7 X8 X9 X10 X11 : Option xV), YF g f 4 → ML g G 4 → Rf (SHL L) 127 421 [some (.inr 149), some (.inl 4), some (.inl 0), some (.inl 0), some (.inl 0), some (.inl 0), X6, X7, X8, X9, X10, X11] [] g Q) : ∀ (n u : Nat) (X7 X8 X9 X10 X11 : Option xV) (g : xF), u + n = 4096 → YF g f 4 → (∀ v, v < u → Mn (RVk G 4 v) (g 159 (4096 * 4 + v))) → Rf (SHL L) 127 114 [some (.inr 149), some (.inl 4), some (.inl 0), some (.inl 0), some (.inl 0), some (.inl 0), some (.inl (u : Int)), X7, X8, X9, X10, X11] [] g Q := by
  intro n
  induction n with
  | zero =>
    intro u X7 X8 X9 X10 X11 g hu hF hR
    have huj : u = 4096 := by omega
    subst huj
    refine R_il fx_127_114 rfl ?_
    refine R_push fx_127_116 ?_
    refine R_icge fx_127_119 (by omega) (fun hc => ?_) (fun hc => by omega)
    exact K g _ _ _ _ _ _ hF hR
  | succ n ih =>
    intro u X7 X8 X9 X10 X11 g hu hF hR
    refine R_il fx_127_114 rfl ?_
    refine R_push fx_127_116 ?_
    refine R_icge fx_127_119 (by omega) (fun hc => by omega) (fun hc => ?_)
    refine R_push fx_127_122 ?_
    refine R_il fx_127_125 rfl ?_
    refine R_push fx_127_126 ?_
    refine R_add fx_127_127 ?_
    refine R_mul fx_127_128 ?_
    refine R_is fx_127_129 ?_
    refine R_il fx_127_131 rfl ?_
    refine R_push fx_127_132 ?_
    refine R_icne fx_127_133 (by decide) (fun h => absurd h (by decide)) (fun _ => ?_)
    refine R_push fx_127_136 ?_
    refine R_goto fx_127_137 ?_
    refine R_is fx_127_156 ?_
    refine R_push fx_127_158 ?_
    refine R_is fx_127_159 ?_
    refine R_il fx_127_161 rfl ?_
    refine R_push fx_127_163 ?_
    refine R_icge fx_127_165 (by decide) (fun h => absurd h (by decide)) (fun _ => ?_)
    refine R_il fx_127_168 rfl ?_
    refine R_push fx_127_169 ?_
    refine R_icge fx_127_170 (by decide) (fun _ => ?_) (fun h => absurd h (by decide))
    refine R_al fx_127_400 rfl (by omega) ?_
    refine R_gr fx_127_401 kd_149 rfl rr_149_18 ?_
    refine R_push fx_127_404 ?_
    refine R_il fx_127_407 rfl ?_
    refine R_mul fx_127_408 ?_
    refine R_il fx_127_409 rfl ?_
    refine R_add fx_127_411 ?_
    refine R_il fx_127_412 rfl ?_
    refine R_ias fx_127_414 kd_159 (by omega) (by rw [ln_159]; omega) (by omega) ?_
    refine R_inc fx_127_415 rfl ?_
    refine R_goto fx_127_418 ?_
    rw [show ((4096 : Int) * 4 + (u : Int)).toNat = 4096 * 4 + u by omega]
    obtain ⟨z1, z2⟩ := YF_store (k := 4) (a := 0) hF (by omega) hR ⟨⟨0, 0, ⟨rfl, rfl⟩, rfl⟩, fun x hx => (RVk_b (by omega) hx).1⟩
    exact ih (u + 1) _ _ _ _ _ _ (by omega) z1 z2
theorem C_127_k (hV : VG G) (hM : Mg f G) (hI : SI f G 96) (hB : BO f G 576) (K : ∀ g : xF, (∀ c, c ≠ 159 → g c = f c) → ML g G 0 → Rf (SHL L) 127 427 [some (.inr 149), some (.inl (-1)), none, none, none, none, none, none, none, none, none, none] [] g Q ∨ True → ∀ (X : xL), Rf (SHL L) 127 427 (some (.inr 149) :: X) [] g Q) : ∀ (n : Nat) (x : Int) (X2 X3 X4 X5 X6 X7 X8 X9 X10 X11 : Option xV) (g : xF), x = (n : Int) - 1 → n ≤ 5 → (∀ c, c ≠ 159 → g c = f c) → (∀ k, n ≤ k → k ≤ 4 → ML g G k) → Rf (SHL L) 127 15 [some (.inr 149), some (.inl x), X2, X3, X4, X5, X6, X7, X8, X9, X10, X11] [] g Q := by
  intro n
  induction n with
  | zero =>
    intro x X2 X3 X4 X5 X6 X7 X8 X9 X10 X11 g hx hn hA hR
    refine R_il fx_127_15 rfl ?_
    refine R_iflt fx_127_16 (by omega) (fun hc => ?_) (fun hc => by omega)
    exact K g hA (hR 0 (by omega) (by omega)) (Or.inr True.intro) _
  | succ k ih =>
    intro x X2 X3 X4 X5 X6 X7 X8 X9 X10 X11 g hx hn hA hR
    have hx2 : x = (k : Int) := by omega
    subst hx2
    have hMg : Mg g G := hM.kept (by rw [hA 149 (by omega)]) (hA 150 (by omega))
    have hIg : SI g G 96 := fun j hj => by rw [hA 157 (by omega)]; exact hI j hj
    have hBg : BO g G 576 := fun j hj => by rw [hA 158 (by omega)]; exact hB j hj
    have fin : ∀ (g2 : xF) (Y2 Y3 Y4 Y5 Y6 Y7 Y8 Y9 Y10 Y11 : Option xV), YF g2 g k → ML g2 G k → Rf (SHL L) 127 421 [some (.inr 149), some (.inl (k : Int)), Y2, Y3, Y4, Y5, Y6, Y7, Y8, Y9, Y10, Y11] [] g2 Q := fun g2 Y2 Y3 Y4 Y5 Y6 Y7 Y8 Y9 Y10 Y11 a b => by
      refine R_inc fx_127_421 rfl ?_
      refine R_goto fx_127_424 ?_
      refine ih _ _ _ _ _ _ _ _ _ _ _ g2 (by omega) (by omega) (fun c hc => by rw [a.1 c hc]; exact hA c hc) (fun k2 h1 h2 => ?_)
      by_cases e : k2 = k
      · subst e; exact b
      · intro v hv
        rw [a.2 _ (by omega)]
        exact hR k2 (by omega) h2 v hv
    by_cases h4 : k = 4
    case pos =>
      subst h4
      refine R_il fx_127_15 rfl ?_
      refine R_iflt fx_127_16 (by decide) (fun h => absurd h (by decide)) (fun _ => ?_)
      refine R_il fx_127_19 rfl ?_
      refine R_push fx_127_20 ?_
      refine R_icge fx_127_21 (by decide) (fun _ => ?_) (fun h => absurd h (by decide))
      refine R_push fx_127_38 ?_
      refine R_is fx_127_39 ?_
      refine R_il fx_127_40 rfl ?_
      refine R_push fx_127_41 ?_
      refine R_icge fx_127_42 (by decide) (fun _ => ?_) (fun h => absurd h (by decide))
      refine R_push fx_127_61 ?_
      refine R_is fx_127_62 ?_
      refine R_il fx_127_63 rfl ?_
      refine R_push fx_127_64 ?_
      refine R_iceq fx_127_65 (by decide) (fun _ => ?_) (fun h => absurd h (by decide))
      refine R_push fx_127_72 ?_
      refine R_goto fx_127_73 ?_
      refine R_is fx_127_85 ?_
      refine R_il fx_127_87 rfl ?_
      refine R_push fx_127_88 ?_
      refine R_iceq fx_127_89 (by decide) (fun _ => ?_) (fun h => absurd h (by decide))
      refine R_push fx_127_96 ?_
      refine R_goto fx_127_97 ?_
      refine R_is fx_127_109 ?_
      refine R_push fx_127_111 ?_
      refine R_is fx_127_112 ?_
      exact C_127_s4 (fun g2 Y6 Y7 Y8 Y9 Y10 Y11 a b => fin g2 _ _ _ _ Y6 Y7 Y8 Y9 Y10 Y11 a b) 4096 0 _ _ _ _ _ g (by omega) ⟨fun _ _ => rfl, fun _ _ => rfl⟩ (fun v hv => absurd hv (by omega))
    have e1 : (2 * (k : Int)).toNat = 2 * k := by omega
    have e2 : (2 * (k : Int) + 1).toNat = 2 * k + 1 := by omega
    have v1 := hV.2.2.2.1 (2 * k) (by omega)
    have v2 := hV.2.2.2.1 (2 * k + 1) (by omega)
    have hN := hR (k + 1) (by omega) (by omega)
    have t1 := two_s (2 * k) (by omega)
    have t2 : 2 ^ (2 * k + 1) = 2 ^ (2 * k) * 2 := Nat.pow_succ ..
    have hF1 : wsG G (2 * k) = true → 1000 + ((1 * 2 ^ (2 * k) : Nat) : Int) = w1 G (2 * k) := fun h => by unfold w1 nw mw; rw [h]; simp
    have hF2 : wsG G (2 * k + 1) = true → 1000 + ((2 * 2 ^ (2 * k) : Nat) : Int) = w1 G (2 * k + 1) := fun h => by unfold w1 nw mw; rw [h, t2, Nat.mul_comm]; simp
    have hG1 : wsG G (2 * k) = false → (0 : Int) = w1 G (2 * k) := fun h => by unfold w1 nw mw; rw [h]; rfl
    have hG2 : wsG G (2 * k + 1) = false → (0 : Int) = w1 G (2 * k + 1) := fun h => by unfold w1 nw mw; rw [h]; rfl
    have t3 : 1 * 2 ^ (2 * k) < 2 ^ 31 := by omega
    have t4 : 2 * 2 ^ (2 * k) < 2 ^ 31 := by omega
    refine R_il fx_127_15 rfl ?_
    refine R_iflt fx_127_16 (by omega) (fun hc => by omega) (fun hc => ?_)
    refine R_il fx_127_19 rfl ?_
    refine R_push fx_127_20 ?_
    refine R_icge fx_127_21 (by omega) (fun hc => by omega) (fun hc => ?_)
    refine R_al fx_127_24 rfl (by omega) ?_
    refine R_push fx_127_25 ?_
    refine R_il fx_127_26 rfl ?_
    refine R_mul fx_127_27 ?_
    refine R_cv fx_127_28 rfl rfl rfl rfl kd_149 ?_
    refine C_109 (by omega) hMg (by rw [e1]; omega) (fun hc1 => ?_) (fun hc1 => ?_) <;> rw [e1] at hc1
    · refine R_ifeq fx_127_31 (by decide) (fun h => absurd h (by decide)) (fun _ => ?_)
      refine R_push fx_127_34 ?_
      refine R_goto fx_127_35 ?_
      refine R_is fx_127_39 ?_
      refine R_il fx_127_40 rfl ?_
      refine R_push fx_127_41 ?_
      refine R_icge fx_127_42 (by omega) (fun hc => by omega) (fun hc => ?_)
      refine R_al fx_127_45 rfl (by omega) ?_
      refine R_push fx_127_46 ?_
      refine R_il fx_127_47 rfl ?_
      refine R_mul fx_127_48 ?_
      refine R_push fx_127_49 ?_
      refine R_add fx_127_50 ?_
      refine R_cv fx_127_51 rfl rfl rfl rfl kd_149 ?_
      refine C_109 (by omega) hMg (by rw [e2]; omega) (fun hc2 => ?_) (fun hc2 => ?_) <;> rw [e2] at hc2
      · refine R_ifeq fx_127_54 (by decide) (fun h => absurd h (by decide)) (fun _ => ?_)
        refine R_push fx_127_57 ?_
        refine R_goto fx_127_58 ?_
        refine R_is fx_127_62 ?_
        refine R_il fx_127_63 rfl ?_
        refine R_push fx_127_64 ?_
        refine R_iceq fx_127_65 (by omega) (fun hc => by omega) (fun hc => ?_)
        refine R_il fx_127_68 rfl ?_
        refine R_ifne fx_127_69 (by decide) (fun _ => ?_) (fun h => absurd h (by decide))
        refine R_push fx_127_76 ?_
        refine R_push fx_127_79 ?_
        refine R_push fx_127_80 ?_
        refine R_il fx_127_81 rfl ?_
        refine R_mul fx_127_82 ?_
        rw [show 2 * (k : Int) = ((2 * k : Nat) : Int) by omega]
        refine R_bin fx_127_83 (xb_shl (x := 1) (by omega) t3) ?_
        refine R_add fx_127_84 ?_
        refine R_is fx_127_85 ?_
        refine R_il fx_127_87 rfl ?_
        refine R_push fx_127_88 ?_
        refine R_iceq fx_127_89 (by omega) (fun hc => by omega) (fun hc => ?_)
        refine R_il fx_127_92 rfl ?_
        refine R_ifne fx_127_93 (by decide) (fun _ => ?_) (fun h => absurd h (by decide))
        refine R_push fx_127_100 ?_
        refine R_push fx_127_103 ?_
        refine R_push fx_127_104 ?_
        refine R_il fx_127_105 rfl ?_
        refine R_mul fx_127_106 ?_
        rw [show 2 * (k : Int) = ((2 * k : Nat) : Int) by omega]
        refine R_bin fx_127_107 (xb_shl (x := 2) (by omega) t4) ?_
        refine R_add fx_127_108 ?_
        refine R_is fx_127_109 ?_
        refine R_push fx_127_111 ?_
        refine R_is fx_127_112 ?_
        have y1 : wsG G (2 * k) = true := (decide_eq_true hc1 : wsG G (2 * k) = true)
        have y2 : wsG G (2 * k + 1) = true := (decide_eq_true hc2 : wsG G (2 * k + 1) = true)
        have z := C_127_s11 hV (by omega) y1 y2 hIg hBg hN (fun g2 Y6 Y7 Y8 Y9 Y10 Y11 a b => fin g2 _ _ _ _ Y6 Y7 Y8 Y9 Y10 Y11 a b) 4096 0 X7 X8 X9 X10 X11 g (by omega) ⟨fun _ _ => rfl, fun _ _ => rfl⟩ (fun v hv => absurd hv (by omega))
        rw [← hF1 y1, ← hF2 y2] at z
        exact z
      · refine R_ifeq fx_127_54 (by decide) (fun _ => ?_) (fun h => absurd h (by decide))
        refine R_push fx_127_61 ?_
        refine R_is fx_127_62 ?_
        refine R_il fx_127_63 rfl ?_
        refine R_push fx_127_64 ?_
        refine R_iceq fx_127_65 (by omega) (fun hc => by omega) (fun hc => ?_)
        refine R_il fx_127_68 rfl ?_
        refine R_ifne fx_127_69 (by decide) (fun _ => ?_) (fun h => absurd h (by decide))
        refine R_push fx_127_76 ?_
        refine R_push fx_127_79 ?_
        refine R_push fx_127_80 ?_
        refine R_il fx_127_81 rfl ?_
        refine R_mul fx_127_82 ?_
        rw [show 2 * (k : Int) = ((2 * k : Nat) : Int) by omega]
        refine R_bin fx_127_83 (xb_shl (x := 1) (by omega) t3) ?_
        refine R_add fx_127_84 ?_
        refine R_is fx_127_85 ?_
        refine R_il fx_127_87 rfl ?_
        refine R_push fx_127_88 ?_
        refine R_iceq fx_127_89 (by omega) (fun hc => by omega) (fun hc => ?_)
        refine R_il fx_127_92 rfl ?_
        refine R_ifne fx_127_93 (by decide) (fun h => absurd h (by decide)) (fun _ => ?_)
        refine R_push fx_127_96 ?_
        refine R_goto fx_127_97 ?_
        refine R_is fx_127_109 ?_
        refine R_push fx_127_111 ?_
        refine R_is fx_127_112 ?_
        have y1 : wsG G (2 * k) = true := (decide_eq_true hc1 : wsG G (2 * k) = true)
        have y2 : wsG G (2 * k + 1) = false := (decide_eq_false hc2 : wsG G (2 * k + 1) = false)
        have z := C_127_s10 hV (by omega) y1 y2 hIg hBg hN (fun g2 Y6 Y7 Y8 Y9 Y10 Y11 a b => fin g2 _ _ _ _ Y6 Y7 Y8 Y9 Y10 Y11 a b) 4096 0 X7 X8 X9 X10 X11 g (by omega) ⟨fun _ _ => rfl, fun _ _ => rfl⟩ (fun v hv => absurd hv (by omega))
        rw [← hF1 y1, ← hG2 y2] at z
        exact z
    · refine R_ifeq fx_127_31 (by decide) (fun _ => ?_) (fun h => absurd h (by decide))
      refine R_push fx_127_38 ?_
      refine R_is fx_127_39 ?_
      refine R_il fx_127_40 rfl ?_
      refine R_push fx_127_41 ?_
      refine R_icge fx_127_42 (by omega) (fun hc => by omega) (fun hc => ?_)
      refine R_al fx_127_45 rfl (by omega) ?_
      refine R_push fx_127_46 ?_
      refine R_il fx_127_47 rfl ?_
      refine R_mul fx_127_48 ?_
      refine R_push fx_127_49 ?_
      refine R_add fx_127_50 ?_
      refine R_cv fx_127_51 rfl rfl rfl rfl kd_149 ?_
      refine C_109 (by omega) hMg (by rw [e2]; omega) (fun hc2 => ?_) (fun hc2 => ?_) <;> rw [e2] at hc2
      · refine R_ifeq fx_127_54 (by decide) (fun h => absurd h (by decide)) (fun _ => ?_)
        refine R_push fx_127_57 ?_
        refine R_goto fx_127_58 ?_
        refine R_is fx_127_62 ?_
        refine R_il fx_127_63 rfl ?_
        refine R_push fx_127_64 ?_
        refine R_iceq fx_127_65 (by omega) (fun hc => by omega) (fun hc => ?_)
        refine R_il fx_127_68 rfl ?_
        refine R_ifne fx_127_69 (by decide) (fun h => absurd h (by decide)) (fun _ => ?_)
        refine R_push fx_127_72 ?_
        refine R_goto fx_127_73 ?_
        refine R_is fx_127_85 ?_
        refine R_il fx_127_87 rfl ?_
        refine R_push fx_127_88 ?_
        refine R_iceq fx_127_89 (by omega) (fun hc => by omega) (fun hc => ?_)
        refine R_il fx_127_92 rfl ?_
        refine R_ifne fx_127_93 (by decide) (fun _ => ?_) (fun h => absurd h (by decide))
        refine R_push fx_127_100 ?_
        refine R_push fx_127_103 ?_
        refine R_push fx_127_104 ?_
        refine R_il fx_127_105 rfl ?_
        refine R_mul fx_127_106 ?_
        rw [show 2 * (k : Int) = ((2 * k : Nat) : Int) by omega]
        refine R_bin fx_127_107 (xb_shl (x := 2) (by omega) t4) ?_
        refine R_add fx_127_108 ?_
        refine R_is fx_127_109 ?_
        refine R_push fx_127_111 ?_
        refine R_is fx_127_112 ?_
        have y1 : wsG G (2 * k) = false := (decide_eq_false hc1 : wsG G (2 * k) = false)
        have y2 : wsG G (2 * k + 1) = true := (decide_eq_true hc2 : wsG G (2 * k + 1) = true)
        have z := C_127_s01 hV (by omega) y1 y2 hIg hBg hN (fun g2 Y6 Y7 Y8 Y9 Y10 Y11 a b => fin g2 _ _ _ _ Y6 Y7 Y8 Y9 Y10 Y11 a b) 4096 0 X7 X8 X9 X10 X11 g (by omega) ⟨fun _ _ => rfl, fun _ _ => rfl⟩ (fun v hv => absurd hv (by omega))
        rw [← hG1 y1, ← hF2 y2] at z
        exact z
      · refine R_ifeq fx_127_54 (by decide) (fun _ => ?_) (fun h => absurd h (by decide))
        refine R_push fx_127_61 ?_
        refine R_is fx_127_62 ?_
        refine R_il fx_127_63 rfl ?_
        refine R_push fx_127_64 ?_
        refine R_iceq fx_127_65 (by omega) (fun hc => by omega) (fun hc => ?_)
        refine R_il fx_127_68 rfl ?_
        refine R_ifne fx_127_69 (by decide) (fun h => absurd h (by decide)) (fun _ => ?_)
        refine R_push fx_127_72 ?_
        refine R_goto fx_127_73 ?_
        refine R_is fx_127_85 ?_
        refine R_il fx_127_87 rfl ?_
        refine R_push fx_127_88 ?_
        refine R_iceq fx_127_89 (by omega) (fun hc => by omega) (fun hc => ?_)
        refine R_il fx_127_92 rfl ?_
        refine R_ifne fx_127_93 (by decide) (fun h => absurd h (by decide)) (fun _ => ?_)
        refine R_push fx_127_96 ?_
        refine R_goto fx_127_97 ?_
        refine R_is fx_127_109 ?_
        refine R_push fx_127_111 ?_
        refine R_is fx_127_112 ?_
        have y1 : wsG G (2 * k) = false := (decide_eq_false hc1 : wsG G (2 * k) = false)
        have y2 : wsG G (2 * k + 1) = false := (decide_eq_false hc2 : wsG G (2 * k + 1) = false)
        have z := C_127_s00 hV (by omega) y1 y2 hIg hBg hN (fun g2 Y6 Y7 Y8 Y9 Y10 Y11 a b => fin g2 _ _ _ _ Y6 Y7 Y8 Y9 Y10 Y11 a b) 4096 0 X7 X8 X9 X10 X11 g (by omega) ⟨fun _ _ => rfl, fun _ _ => rfl⟩ (fun v hv => absurd hv (by omega))
        rw [← hG1 y1, ← hG2 y2] at z
        exact z
theorem C_127 {hi : Nat → Nat → Int} {n : Nat} (hV : VG G) (hM0 : Mst f G) (hK0 : Mk f n hi) (hT : MT f) (K : ∀ (g : xF) (v : Int), LkA G v → Dw f g n hi G → Q [.inl v] g) : Rf (SHL L) 127 0 (xloc 127 [.inr 149]) [] f Q := by
  refine R_al fx_127_0 rfl (by omega) ?_
  refine R_push fx_127_1 ?_
  refine R_pf fx_127_2 kd_149 rfl (fun h => absurd h (by decide)) ?_
  refine R_al fx_127_5 rfl (by omega) ?_
  refine R_cv fx_127_6 rfl rfl rfl rfl kd_149 ?_
  refine C_93 hM0.told (fun f1 b1 b2 b3 => ?_)
  have hM : Mg f1 G := b1
  have hK : Mk f1 n hi := hK0.kept (by rw [b2 3 (by omega), xup_i (by omega)]) (by rw [b3 151 (by omega)]; funext i; rw [xup_a (by omega)])
  have hfr : ∀ c, (c < 149 ∨ 151 < c) → f1 c = f c := fun c hc => by rw [b3 c (by omega)]; funext i; rw [xup_a (by omega)]
  have hwt : f1 149 11 = f 149 11 := by rw [b2 11 (by omega), xup_i (by omega)]
  have hT1 : MT f1 := ⟨fun j hj => by rw [hfr 156 (by omega)]; exact hT.1 j hj, by rw [hwt]; exact hT.2⟩
  refine R_al fx_127_9 rfl (by omega) ?_
  refine R_cv fx_127_10 rfl rfl rfl rfl kd_149 ?_
  refine C_120 hV hM hT1 (fun g1 hF hI hB => ?_)
  have hM1 : Mg g1 G := hM.kept (hF.2.1 4 (by omega)) (hF.1 150 (by omega) (by omega) (by omega) (by omega) (by omega))
  refine R_push fx_127_13 ?_
  refine R_is fx_127_14 ?_
  refine C_127_k hV hM1 hI hB (fun g a b _ X => ?_) 5 4 _ _ _ _ _ _ _ _ _ _ g1 (by omega) (by omega) (fun _ _ => rfl) (fun k h1 h2 => absurd h1 (by omega))
  have h0 := b 0 (by omega)
  have h0b := RVk_b (by omega) h0.1
  have e0 : g 159 (0 : Int).toNat = g 159 (4096 * 0 + 0) := rfl
  refine R_al fx_127_427 rfl (by omega) ?_
  refine R_gr fx_127_428 kd_149 rfl rr_149_18 ?_
  refine R_push fx_127_431 ?_
  refine R_ia fx_127_432 (Or.inl kd_159) (by omega) (by rw [ln_159]; omega) (by omega) ?_
  refine R_push fx_127_433 ?_
  rw [e0]
  refine R_bin fx_127_436 (xb_rem (by omega) (by omega) (by omega) (by omega)) ?_
  refine R_ret fx_127_437 (Or.inl rfl) (K g _ ⟨_, h0, rfl⟩ ⟨hM1.kept (by rw [a 149 (by omega)]) (a 150 (by omega)), hK.kept (by rw [a 149 (by omega)]; exact hF.2.1 3 (by omega)) (by rw [a 151 (by omega)]; exact hF.1 151 (by omega) (by omega) (by omega) (by omega) (by omega)), fun c hc => by rw [a c (by omega), hF.1 c (by omega) (by omega) (by omega) (by omega) (by omega)]; exact hfr c (by omega), fun j hj => by rw [a 156 (by omega)]; exact hF.2.2.1 j hj, by rw [a 149 (by omega)]; exact hF.2.2.2⟩)
end SG2
