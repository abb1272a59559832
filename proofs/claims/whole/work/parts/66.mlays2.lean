/-! ===== the model: findLays (the rest) ===== -/
def SF (g f : xF) (k : Nat) : Prop := (∀ c, c ≠ 149 → c ≠ 159 → c ≠ 160 → g c = f c) ∧ (∀ i, i ≠ 20 → i ≠ 21 → g 149 i = f 149 i) ∧ ∀ j, (j < 4096 * k ∨ 4096 * k + 4096 ≤ j) → g 159 j = f 159 j ∧ g 160 j = f 160 j
def LF (g f : xF) : Prop := (∀ c, (c < 149 ∨ (149 < c ∧ c < 155) ∨ 160 < c) → g c = f c) ∧ (∀ i, i < 10 → g 149 i = f 149 i) ∧ MT g
def RowU (g : xF) (G : Nat → Int) (k n : Nat) : Prop := ∀ v, v < n → g 159 (4096 * k + v) = nv (mn (lev (coG G) (2 * k) v)) ∧ g 160 (4096 * k + v) = ct (lev (coG G) (2 * k) v)
theorem SF_store {g g2 f : xF} {G : Nat → Int} {k set : Nat} {l : List Int} (hF : SF g f k) (hset : set < 4096) (hl : l = lev (coG G) (2 * k) set) (hR : RowU g G k set) (hN : NF g2 g) (e1 : g2 149 20 = nv (mn l)) (e2 : g2 149 21 = ct l) : SF (xup (xup g2 159 (4096 * k + set) (g2 149 20)) 160 (4096 * k + set) (g2 149 21)) f k ∧ RowU (xup (xup g2 159 (4096 * k + set) (g2 149 20)) 160 (4096 * k + set) (g2 149 21)) G k (set + 1) := by
  subst hl
  refine ⟨⟨fun c c1 c2 c3 => ?_, fun i a b => ?_, fun j hj => ?_⟩, fun v hv => ?_⟩
  · funext y; rw [xup_a c3, xup_a c2, hN.1 c c1]; exact congrFun (hF.1 c c1 c2 c3) y
  · rw [xup_a (by omega), xup_a (by omega), hN.2 i a b]; exact hF.2.1 i a b
  · rw [xup_a (by omega), xup_i (by omega), xup_i (by omega), xup_a (by omega), hN.1 159 (by omega), hN.1 160 (by omega)]; exact hF.2.2 j hj
  · by_cases e : v = set
    · subst e; rw [xup_a (by omega), xup_s, xup_s]; exact ⟨e1, e2⟩
    · rw [xup_a (by omega), xup_i (by omega), xup_i (by omega), xup_a (by omega), hN.1 159 (by omega), hN.1 160 (by omega)]; exact hR v (by omega)
section FM
variable {L : Nat} {f : xF} {Q : List xV → xF → Prop} {G : Nat → Int}
theorem C_119_s00 {k : Nat} (hV : VG G) (hk : k < 4) (h1 : G (4 + 2 * k) = -1) (h2 : G (4 + (2 * k + 1)) = -1) (hI : SI f G 96) (hB : BO f G 576) (hN : RowN f G (k + 1)) (K : ∀ (g : xF) (X4 X5 X6 X7 : Option xV), SF g f k → RowN g G k → Rf (SHL L) 119 353 [some (.inr 149), some (.inl (k : Int)), some (.inl 0), some (.inl 0), X4, X5, X6, X7] [] g Q) : ∀ (n set : Nat) (X5 X6 X7 : Option xV) (g : xF), set + n = 4096 → SF g f k → RowU g G k set → Rf (SHL L) 119 57 [some (.inr 149), some (.inl (k : Int)), some (.inl 0), some (.inl 0), some (.inl (set : Int)), X5, X6, X7] [] g Q := by
  intro n
  induction n with
  | zero =>
    intro set X5 X6 X7 g hs hF hR
    have hsj : set = 4096 := by omega
    subst hsj
    refine R_il fx_119_57 rfl ?_
    refine R_push fx_119_59 ?_
    refine R_icge fx_119_62 (by omega) (fun hc => ?_) (fun hc => by omega)
    exact K g _ _ _ _ hF hR
  | succ n ih =>
    intro set X5 X6 X7 g hs hF hR
    refine R_il fx_119_57 rfl ?_
    refine R_push fx_119_59 ?_
    refine R_icge fx_119_62 (by omega) (fun hc => by omega) (fun hc => ?_)
    refine R_al fx_119_65 rfl (by omega) ?_
    refine R_il fx_119_66 rfl ?_
    refine R_push fx_119_67 ?_
    refine R_icne fx_119_68 (by omega) (fun hc => ?_) (fun hc => by omega)
    refine R_push fx_119_75 ?_
    refine R_pf fx_119_77 kd_149 rfl (fun h => absurd h (by decide)) ?_
    refine R_al fx_119_80 rfl (by omega) ?_
    refine R_il fx_119_81 rfl ?_
    refine R_push fx_119_82 ?_
    refine R_icne fx_119_83 (by omega) (fun hc => ?_) (fun hc => by omega)
    refine R_push fx_119_90 ?_
    refine R_pf fx_119_91 kd_149 rfl (fun h => absurd h (by decide)) ?_
    refine R_push fx_119_94 ?_
    refine R_il fx_119_97 rfl ?_
    refine R_push fx_119_98 ?_
    refine R_add fx_119_99 ?_
    refine R_mul fx_119_100 ?_
    refine R_is fx_119_101 ?_
    refine R_il fx_119_103 rfl ?_
    refine R_push fx_119_104 ?_
    refine R_icge fx_119_105 (by omega) (fun hc => by omega) (fun hc => ?_)
    refine R_il fx_119_108 rfl ?_
    refine R_ifne fx_119_109 (by decide) (fun h => absurd h (by decide)) (fun _ => ?_)
    refine R_il fx_119_112 rfl ?_
    refine R_ifne fx_119_113 (by decide) (fun h => absurd h (by decide)) (fun _ => ?_)
    refine R_al fx_119_116 rfl (by omega) ?_
    refine R_il fx_119_117 rfl ?_
    refine R_il fx_119_119 rfl ?_
    refine R_add fx_119_121 ?_
    refine R_push fx_119_122 ?_
    refine R_cv fx_119_123 rfl rfl rfl rfl kd_149 ?_
    have ho := coG_ok hV
    have hnx := hN set (by omega)
    have hpd := hF.2.2 (4096 * (k + 1) + set) (by omega)
    refine C_121 (at' := 4096 * (k + 1) + set) (c := 0) (a := []) (b := lev (coG G) (2 * k + 2) set) (by omega) rfl (by omega) (by omega) (fun x hx => absurd hx (by simp)) (lev_sml ho (by omega)) (by rw [xup_i (by omega), xup_s]; rfl) (by rw [xup_s]; rfl) (by rw [xup_a (by omega), xup_a (by omega), hpd.1]; exact hnx.1) (by rw [xup_a (by omega), xup_a (by omega), hpd.2]; exact hnx.2) (fun g2 k1 k2 k3 k4 => ?_)
    refine R_push fx_119_126 ?_
    refine R_is fx_119_127 ?_
    refine R_il fx_119_129 rfl ?_
    refine R_push fx_119_131 ?_
    refine R_icge fx_119_133 (by decide) (fun h => absurd h (by decide)) (fun _ => ?_)
    refine R_il fx_119_136 rfl ?_
    refine R_ifne fx_119_137 (by decide) (fun h => absurd h (by decide)) (fun _ => ?_)
    refine R_il fx_119_140 rfl ?_
    refine R_ifeq fx_119_141 (by decide) (fun _ => ?_) (fun h => absurd h (by decide))
    refine R_al fx_119_313 rfl (by omega) ?_
    refine R_gr fx_119_314 kd_149 rfl rr_149_18 ?_
    refine R_push fx_119_317 ?_
    refine R_il fx_119_320 rfl ?_
    refine R_mul fx_119_321 ?_
    refine R_il fx_119_322 rfl ?_
    refine R_add fx_119_324 ?_
    refine R_al fx_119_325 rfl (by omega) ?_
    refine R_gf fx_119_326 kd_149 rfl ?_
    refine R_ias fx_119_329 kd_159 (by omega) (by rw [ln_159]; omega) (by omega) ?_
    refine R_al fx_119_330 rfl (by omega) ?_
    refine R_gr fx_119_331 kd_149 rfl rr_149_19 ?_
    refine R_push fx_119_334 ?_
    refine R_il fx_119_337 rfl ?_
    refine R_mul fx_119_338 ?_
    refine R_il fx_119_339 rfl ?_
    refine R_add fx_119_341 ?_
    refine R_al fx_119_342 rfl (by omega) ?_
    refine R_gf fx_119_343 kd_149 rfl ?_
    refine R_ias fx_119_346 kd_160 (by omega) (by rw [ln_160]; omega) (by omega) ?_
    refine R_inc fx_119_347 rfl ?_
    refine R_goto fx_119_350 ?_
    rw [show (4096 * (k : Int) + (set : Int)).toNat = 4096 * k + set by omega]
    obtain ⟨z1, z2⟩ := SF_store hF (by omega) (lev00 hV hk h1 h2).symm hR ⟨fun c a => by rw [k1 c a]; funext y; rw [xup_a a, xup_a a], fun i a b => by rw [k2 i a b, xup_i b, xup_i a]⟩ k3 k4
    exact ih (set + 1) _ _ _ _ (by omega) z1 z2
theorem C_119_s10 {k : Nat} (hV : VG G) (hk : k < 4) (h1 : G (4 + 2 * k) ≠ -1) (h2 : G (4 + (2 * k + 1)) = -1) (hI : SI f G 96) (hB : BO f G 576) (hN : RowN f G (k + 1)) (K : ∀ (g : xF) (X4 X5 X6 X7 : Option xV), SF g f k → RowN g G k → Rf (SHL L) 119 353 [some (.inr 149), some (.inl (k : Int)), some (.inl 1), some (.inl 0), X4, X5, X6, X7] [] g Q) : ∀ (n set : Nat) (X5 X6 X7 : Option xV) (g : xF), set + n = 4096 → SF g f k → RowU g G k set → Rf (SHL L) 119 57 [some (.inr 149), some (.inl (k : Int)), some (.inl 1), some (.inl 0), some (.inl (set : Int)), X5, X6, X7] [] g Q := by
  intro n
  induction n with
  | zero =>
    intro set X5 X6 X7 g hs hF hR
    have hsj : set = 4096 := by omega
    subst hsj
    refine R_il fx_119_57 rfl ?_
    refine R_push fx_119_59 ?_
    refine R_icge fx_119_62 (by omega) (fun hc => ?_) (fun hc => by omega)
    exact K g _ _ _ _ hF hR
  | succ n ih =>
    intro set X5 X6 X7 g hs hF hR
    refine R_il fx_119_57 rfl ?_
    refine R_push fx_119_59 ?_
    refine R_icge fx_119_62 (by omega) (fun hc => by omega) (fun hc => ?_)
    refine R_al fx_119_65 rfl (by omega) ?_
    refine R_il fx_119_66 rfl ?_
    refine R_push fx_119_67 ?_
    refine R_icne fx_119_68 (by omega) (fun hc => ?_) (fun hc => by omega)
    refine R_push fx_119_75 ?_
    refine R_pf fx_119_77 kd_149 rfl (fun h => absurd h (by decide)) ?_
    refine R_al fx_119_80 rfl (by omega) ?_
    refine R_il fx_119_81 rfl ?_
    refine R_push fx_119_82 ?_
    refine R_icne fx_119_83 (by omega) (fun hc => ?_) (fun hc => by omega)
    refine R_push fx_119_90 ?_
    refine R_pf fx_119_91 kd_149 rfl (fun h => absurd h (by decide)) ?_
    refine R_push fx_119_94 ?_
    refine R_il fx_119_97 rfl ?_
    refine R_push fx_119_98 ?_
    refine R_add fx_119_99 ?_
    refine R_mul fx_119_100 ?_
    refine R_is fx_119_101 ?_
    refine R_il fx_119_103 rfl ?_
    refine R_push fx_119_104 ?_
    refine R_icge fx_119_105 (by omega) (fun hc => by omega) (fun hc => ?_)
    refine R_il fx_119_108 rfl ?_
    refine R_ifne fx_119_109 (by decide) (fun _ => ?_) (fun h => absurd h (by decide))
    refine R_push fx_119_126 ?_
    refine R_is fx_119_127 ?_
    have hSU : SI (xup (xup g 149 20 1000000) 149 21 0) G 96 := fun j hj => by rw [xup_a (by omega), xup_a (by omega), hF.1 157 (by omega) (by omega) (by omega)]; exact hI j hj
    have hBU : BO (xup (xup g 149 20 1000000) 149 21 0) G 576 := fun j hj => by rw [xup_a (by omega), xup_a (by omega), hF.1 158 (by omega) (by omega) (by omega)]; exact hB j hj
    have hNU : RowN (xup (xup g 149 20 1000000) 149 21 0) G (k + 1) := fun v hv => by rw [xup_a (by omega), xup_a (by omega), xup_a (by omega), xup_a (by omega), (hF.2.2 _ (by omega)).1, (hF.2.2 _ (by omega)).2]; exact hN v hv
    refine C_119_r10 hV hk h1 h2 (by omega) hSU hNU (fun g2 Y6 Y7 a b c => ?_) 12 0 _ _ (by omega) ⟨fun _ _ => rfl, fun _ _ _ => rfl⟩ (by rw [xup_i (by omega), xup_s]; rfl) (by rw [xup_s]; rfl)
    refine R_al fx_119_313 rfl (by omega) ?_
    refine R_gr fx_119_314 kd_149 rfl rr_149_18 ?_
    refine R_push fx_119_317 ?_
    refine R_il fx_119_320 rfl ?_
    refine R_mul fx_119_321 ?_
    refine R_il fx_119_322 rfl ?_
    refine R_add fx_119_324 ?_
    refine R_al fx_119_325 rfl (by omega) ?_
    refine R_gf fx_119_326 kd_149 rfl ?_
    refine R_ias fx_119_329 kd_159 (by omega) (by rw [ln_159]; omega) (by omega) ?_
    refine R_al fx_119_330 rfl (by omega) ?_
    refine R_gr fx_119_331 kd_149 rfl rr_149_19 ?_
    refine R_push fx_119_334 ?_
    refine R_il fx_119_337 rfl ?_
    refine R_mul fx_119_338 ?_
    refine R_il fx_119_339 rfl ?_
    refine R_add fx_119_341 ?_
    refine R_al fx_119_342 rfl (by omega) ?_
    refine R_gf fx_119_343 kd_149 rfl ?_
    refine R_ias fx_119_346 kd_160 (by omega) (by rw [ln_160]; omega) (by omega) ?_
    refine R_inc fx_119_347 rfl ?_
    refine R_goto fx_119_350 ?_
    rw [show (4096 * (k : Int) + (set : Int)).toNat = 4096 * k + set by omega]
    have ha : NF g2 g := ⟨fun c q => by rw [a.1 c q]; funext y; rw [xup_a q, xup_a q], fun i q1 q2 => by rw [a.2 i q1 q2, xup_i q2, xup_i q1]⟩
    obtain ⟨z1, z2⟩ := SF_store hF (by omega) (lev10 hV hk h1 h2).symm hR ha b c
    exact ih (set + 1) _ _ _ _ (by omega) z1 z2
theorem C_119_s01 {k : Nat} (hV : VG G) (hk : k < 4) (h1 : G (4 + 2 * k) = -1) (h2 : G (4 + (2 * k + 1)) ≠ -1) (hI : SI f G 96) (hB : BO f G 576) (hN : RowN f G (k + 1)) (K : ∀ (g : xF) (X4 X5 X6 X7 : Option xV), SF g f k → RowN g G k → Rf (SHL L) 119 353 [some (.inr 149), some (.inl (k : Int)), some (.inl 0), some (.inl 1), X4, X5, X6, X7] [] g Q) : ∀ (n set : Nat) (X5 X6 X7 : Option xV) (g : xF), set + n = 4096 → SF g f k → RowU g G k set → Rf (SHL L) 119 57 [some (.inr 149), some (.inl (k : Int)), some (.inl 0), some (.inl 1), some (.inl (set : Int)), X5, X6, X7] [] g Q := by
  intro n
  induction n with
  | zero =>
    intro set X5 X6 X7 g hs hF hR
    have hsj : set = 4096 := by omega
    subst hsj
    refine R_il fx_119_57 rfl ?_
    refine R_push fx_119_59 ?_
    refine R_icge fx_119_62 (by omega) (fun hc => ?_) (fun hc => by omega)
    exact K g _ _ _ _ hF hR
  | succ n ih =>
    intro set X5 X6 X7 g hs hF hR
    refine R_il fx_119_57 rfl ?_
    refine R_push fx_119_59 ?_
    refine R_icge fx_119_62 (by omega) (fun hc => by omega) (fun hc => ?_)
    refine R_al fx_119_65 rfl (by omega) ?_
    refine R_il fx_119_66 rfl ?_
    refine R_push fx_119_67 ?_
    refine R_icne fx_119_68 (by omega) (fun hc => ?_) (fun hc => by omega)
    refine R_push fx_119_75 ?_
    refine R_pf fx_119_77 kd_149 rfl (fun h => absurd h (by decide)) ?_
    refine R_al fx_119_80 rfl (by omega) ?_
    refine R_il fx_119_81 rfl ?_
    refine R_push fx_119_82 ?_
    refine R_icne fx_119_83 (by omega) (fun hc => ?_) (fun hc => by omega)
    refine R_push fx_119_90 ?_
    refine R_pf fx_119_91 kd_149 rfl (fun h => absurd h (by decide)) ?_
    refine R_push fx_119_94 ?_
    refine R_il fx_119_97 rfl ?_
    refine R_push fx_119_98 ?_
    refine R_add fx_119_99 ?_
    refine R_mul fx_119_100 ?_
    refine R_is fx_119_101 ?_
    refine R_il fx_119_103 rfl ?_
    refine R_push fx_119_104 ?_
    refine R_icge fx_119_105 (by omega) (fun hc => by omega) (fun hc => ?_)
    refine R_il fx_119_108 rfl ?_
    refine R_ifne fx_119_109 (by decide) (fun h => absurd h (by decide)) (fun _ => ?_)
    refine R_il fx_119_112 rfl ?_
    refine R_ifne fx_119_113 (by decide) (fun _ => ?_) (fun h => absurd h (by decide))
    refine R_push fx_119_126 ?_
    refine R_is fx_119_127 ?_
    have hSU : SI (xup (xup g 149 20 1000000) 149 21 0) G 96 := fun j hj => by rw [xup_a (by omega), xup_a (by omega), hF.1 157 (by omega) (by omega) (by omega)]; exact hI j hj
    have hBU : BO (xup (xup g 149 20 1000000) 149 21 0) G 576 := fun j hj => by rw [xup_a (by omega), xup_a (by omega), hF.1 158 (by omega) (by omega) (by omega)]; exact hB j hj
    have hNU : RowN (xup (xup g 149 20 1000000) 149 21 0) G (k + 1) := fun v hv => by rw [xup_a (by omega), xup_a (by omega), xup_a (by omega), xup_a (by omega), (hF.2.2 _ (by omega)).1, (hF.2.2 _ (by omega)).2]; exact hN v hv
    refine C_119_r01 hV hk h1 h2 (by omega) hSU hNU (fun g2 Y6 Y7 a b c => ?_) 12 0 _ _ (by omega) ⟨fun _ _ => rfl, fun _ _ _ => rfl⟩ (by rw [xup_i (by omega), xup_s]; rfl) (by rw [xup_s]; rfl)
    refine R_al fx_119_313 rfl (by omega) ?_
    refine R_gr fx_119_314 kd_149 rfl rr_149_18 ?_
    refine R_push fx_119_317 ?_
    refine R_il fx_119_320 rfl ?_
    refine R_mul fx_119_321 ?_
    refine R_il fx_119_322 rfl ?_
    refine R_add fx_119_324 ?_
    refine R_al fx_119_325 rfl (by omega) ?_
    refine R_gf fx_119_326 kd_149 rfl ?_
    refine R_ias fx_119_329 kd_159 (by omega) (by rw [ln_159]; omega) (by omega) ?_
    refine R_al fx_119_330 rfl (by omega) ?_
    refine R_gr fx_119_331 kd_149 rfl rr_149_19 ?_
    refine R_push fx_119_334 ?_
    refine R_il fx_119_337 rfl ?_
    refine R_mul fx_119_338 ?_
    refine R_il fx_119_339 rfl ?_
    refine R_add fx_119_341 ?_
    refine R_al fx_119_342 rfl (by omega) ?_
    refine R_gf fx_119_343 kd_149 rfl ?_
    refine R_ias fx_119_346 kd_160 (by omega) (by rw [ln_160]; omega) (by omega) ?_
    refine R_inc fx_119_347 rfl ?_
    refine R_goto fx_119_350 ?_
    rw [show (4096 * (k : Int) + (set : Int)).toNat = 4096 * k + set by omega]
    have ha : NF g2 g := ⟨fun c q => by rw [a.1 c q]; funext y; rw [xup_a q, xup_a q], fun i q1 q2 => by rw [a.2 i q1 q2, xup_i q2, xup_i q1]⟩
    obtain ⟨z1, z2⟩ := SF_store hF (by omega) (lev01 hV hk h1 h2).symm hR ha b c
    exact ih (set + 1) _ _ _ _ (by omega) z1 z2
theorem C_119_s11 {k : Nat} (hV : VG G) (hk : k < 4) (h1 : G (4 + 2 * k) ≠ -1) (h2 : G (4 + (2 * k + 1)) ≠ -1) (hI : SI f G 96) (hB : BO f G 576) (hN : RowN f G (k + 1)) (K : ∀ (g : xF) (X4 X5 X6 X7 : Option xV), SF g f k → RowN g G k → Rf (SHL L) 119 353 [some (.inr 149), some (.inl (k : Int)), some (.inl 1), some (.inl 1), X4, X5, X6, X7] [] g Q) : ∀ (n set : Nat) (X5 X6 X7 : Option xV) (g : xF), set + n = 4096 → SF g f k → RowU g G k set → Rf (SHL L) 119 57 [some (.inr 149), some (.inl (k : Int)), some (.inl 1), some (.inl 1), some (.inl (set : Int)), X5, X6, X7] [] g Q := by
  intro n
  induction n with
  | zero =>
    intro set X5 X6 X7 g hs hF hR
    have hsj : set = 4096 := by omega
    subst hsj
    refine R_il fx_119_57 rfl ?_
    refine R_push fx_119_59 ?_
    refine R_icge fx_119_62 (by omega) (fun hc => ?_) (fun hc => by omega)
    exact K g _ _ _ _ hF hR
  | succ n ih =>
    intro set X5 X6 X7 g hs hF hR
    refine R_il fx_119_57 rfl ?_
    refine R_push fx_119_59 ?_
    refine R_icge fx_119_62 (by omega) (fun hc => by omega) (fun hc => ?_)
    refine R_al fx_119_65 rfl (by omega) ?_
    refine R_il fx_119_66 rfl ?_
    refine R_push fx_119_67 ?_
    refine R_icne fx_119_68 (by omega) (fun hc => ?_) (fun hc => by omega)
    refine R_push fx_119_75 ?_
    refine R_pf fx_119_77 kd_149 rfl (fun h => absurd h (by decide)) ?_
    refine R_al fx_119_80 rfl (by omega) ?_
    refine R_il fx_119_81 rfl ?_
    refine R_push fx_119_82 ?_
    refine R_icne fx_119_83 (by omega) (fun hc => ?_) (fun hc => by omega)
    refine R_push fx_119_90 ?_
    refine R_pf fx_119_91 kd_149 rfl (fun h => absurd h (by decide)) ?_
    refine R_push fx_119_94 ?_
    refine R_il fx_119_97 rfl ?_
    refine R_push fx_119_98 ?_
    refine R_add fx_119_99 ?_
    refine R_mul fx_119_100 ?_
    refine R_is fx_119_101 ?_
    refine R_il fx_119_103 rfl ?_
    refine R_push fx_119_104 ?_
    refine R_icge fx_119_105 (by omega) (fun hc => by omega) (fun hc => ?_)
    refine R_il fx_119_108 rfl ?_
    refine R_ifne fx_119_109 (by decide) (fun _ => ?_) (fun h => absurd h (by decide))
    refine R_push fx_119_126 ?_
    refine R_is fx_119_127 ?_
    have hSU : SI (xup (xup g 149 20 1000000) 149 21 0) G 96 := fun j hj => by rw [xup_a (by omega), xup_a (by omega), hF.1 157 (by omega) (by omega) (by omega)]; exact hI j hj
    have hBU : BO (xup (xup g 149 20 1000000) 149 21 0) G 576 := fun j hj => by rw [xup_a (by omega), xup_a (by omega), hF.1 158 (by omega) (by omega) (by omega)]; exact hB j hj
    have hNU : RowN (xup (xup g 149 20 1000000) 149 21 0) G (k + 1) := fun v hv => by rw [xup_a (by omega), xup_a (by omega), xup_a (by omega), xup_a (by omega), (hF.2.2 _ (by omega)).1, (hF.2.2 _ (by omega)).2]; exact hN v hv
    refine C_119_r11 hV hk h1 h2 (by omega) hBU hNU (fun g2 Y6 Y7 a b c => ?_) 12 0 _ _ (by omega) ⟨fun _ _ => rfl, fun _ _ _ => rfl⟩ (by rw [xup_i (by omega), xup_s]; rfl) (by rw [xup_s]; rfl)
    refine R_al fx_119_313 rfl (by omega) ?_
    refine R_gr fx_119_314 kd_149 rfl rr_149_18 ?_
    refine R_push fx_119_317 ?_
    refine R_il fx_119_320 rfl ?_
    refine R_mul fx_119_321 ?_
    refine R_il fx_119_322 rfl ?_
    refine R_add fx_119_324 ?_
    refine R_al fx_119_325 rfl (by omega) ?_
    refine R_gf fx_119_326 kd_149 rfl ?_
    refine R_ias fx_119_329 kd_159 (by omega) (by rw [ln_159]; omega) (by omega) ?_
    refine R_al fx_119_330 rfl (by omega) ?_
    refine R_gr fx_119_331 kd_149 rfl rr_149_19 ?_
    refine R_push fx_119_334 ?_
    refine R_il fx_119_337 rfl ?_
    refine R_mul fx_119_338 ?_
    refine R_il fx_119_339 rfl ?_
    refine R_add fx_119_341 ?_
    refine R_al fx_119_342 rfl (by omega) ?_
    refine R_gf fx_119_343 kd_149 rfl ?_
    refine R_ias fx_119_346 kd_160 (by omega) (by rw [ln_160]; omega) (by omega) ?_
    refine R_inc fx_119_347 rfl ?_
    refine R_goto fx_119_350 ?_
    rw [show (4096 * (k : Int) + (set : Int)).toNat = 4096 * k + set by omega]
    have ha : NF g2 g := ⟨fun c q => by rw [a.1 c q]; funext y; rw [xup_a q, xup_a q], fun i q1 q2 => by rw [a.2 i q1 q2, xup_i q2, xup_i q1]⟩
    obtain ⟨z1, z2⟩ := SF_store hF (by omega) (lev11 hV hk h1 h2).symm hR ha b c
    exact ih (set + 1) _ _ _ _ (by omega) z1 z2
theorem C_119_s4 (hV : VG G) (K : ∀ (g : xF) (X4 X5 X6 X7 : Option xV), SF g f 4 → RowN g G 4 → Rf (SHL L) 119 353 [some (.inr 149), some (.inl 4), some (.inl 0), some (.inl 0), X4, X5, X6, X7] [] g Q) : ∀ (n set : Nat) (X5 X6 X7 : Option xV) (g : xF), set + n = 4096 → SF g f 4 → RowU g G 4 set → Rf (SHL L) 119 57 [some (.inr 149), some (.inl 4), some (.inl 0), some (.inl 0), some (.inl (set : Int)), X5, X6, X7] [] g Q := by
  intro n
  induction n with
  | zero =>
    intro set X5 X6 X7 g hs hF hR
    have hsj : set = 4096 := by omega
    subst hsj
    refine R_il fx_119_57 rfl ?_
    refine R_push fx_119_59 ?_
    refine R_icge fx_119_62 (by omega) (fun hc => ?_) (fun hc => by omega)
    exact K g _ _ _ _ hF hR
  | succ n ih =>
    intro set X5 X6 X7 g hs hF hR
    refine R_il fx_119_57 rfl ?_
    refine R_push fx_119_59 ?_
    refine R_icge fx_119_62 (by omega) (fun hc => by omega) (fun hc => ?_)
    refine R_al fx_119_65 rfl (by omega) ?_
    refine R_il fx_119_66 rfl ?_
    refine R_push fx_119_67 ?_
    refine R_icne fx_119_68 (by decide) (fun h => absurd h (by decide)) (fun _ => ?_)
    refine R_push fx_119_71 ?_
    refine R_goto fx_119_72 ?_
    refine R_pf fx_119_77 kd_149 rfl (fun h => absurd h (by decide)) ?_
    refine R_al fx_119_80 rfl (by omega) ?_
    refine R_il fx_119_81 rfl ?_
    refine R_push fx_119_82 ?_
    refine R_icne fx_119_83 (by decide) (fun h => absurd h (by decide)) (fun _ => ?_)
    refine R_push fx_119_86 ?_
    refine R_goto fx_119_87 ?_
    refine R_pf fx_119_91 kd_149 rfl (fun h => absurd h (by decide)) ?_
    refine R_push fx_119_94 ?_
    refine R_il fx_119_97 rfl ?_
    refine R_push fx_119_98 ?_
    refine R_add fx_119_99 ?_
    refine R_mul fx_119_100 ?_
    refine R_is fx_119_101 ?_
    refine R_il fx_119_103 rfl ?_
    refine R_push fx_119_104 ?_
    refine R_icge fx_119_105 (by decide) (fun _ => ?_) (fun h => absurd h (by decide))
    refine R_push fx_119_126 ?_
    refine R_is fx_119_127 ?_
    refine R_il fx_119_129 rfl ?_
    refine R_push fx_119_131 ?_
    refine R_icge fx_119_133 (by decide) (fun h => absurd h (by decide)) (fun _ => ?_)
    refine R_il fx_119_136 rfl ?_
    refine R_ifne fx_119_137 (by decide) (fun h => absurd h (by decide)) (fun _ => ?_)
    refine R_il fx_119_140 rfl ?_
    refine R_ifeq fx_119_141 (by decide) (fun _ => ?_) (fun h => absurd h (by decide))
    refine R_al fx_119_313 rfl (by omega) ?_
    refine R_gr fx_119_314 kd_149 rfl rr_149_18 ?_
    refine R_push fx_119_317 ?_
    refine R_il fx_119_320 rfl ?_
    refine R_mul fx_119_321 ?_
    refine R_il fx_119_322 rfl ?_
    refine R_add fx_119_324 ?_
    refine R_al fx_119_325 rfl (by omega) ?_
    refine R_gf fx_119_326 kd_149 rfl ?_
    refine R_ias fx_119_329 kd_159 (by omega) (by rw [ln_159]; omega) (by omega) ?_
    refine R_al fx_119_330 rfl (by omega) ?_
    refine R_gr fx_119_331 kd_149 rfl rr_149_19 ?_
    refine R_push fx_119_334 ?_
    refine R_il fx_119_337 rfl ?_
    refine R_mul fx_119_338 ?_
    refine R_il fx_119_339 rfl ?_
    refine R_add fx_119_341 ?_
    refine R_al fx_119_342 rfl (by omega) ?_
    refine R_gf fx_119_343 kd_149 rfl ?_
    refine R_ias fx_119_346 kd_160 (by omega) (by rw [ln_160]; omega) (by omega) ?_
    refine R_inc fx_119_347 rfl ?_
    refine R_goto fx_119_350 ?_
    rw [show ((4096 : Int) * 4 + (set : Int)).toNat = 4096 * 4 + set by omega]
    obtain ⟨z1, z2⟩ := SF_store (k := 4) (l := [0]) (g2 := (xup (xup g 149 20 0) 149 21 1)) hF (by omega) lev_8.symm hR ⟨fun c a => by funext y; rw [xup_a a, xup_a a], fun i a b => by rw [xup_i b, xup_i a]⟩ rfl rfl
    exact ih (set + 1) _ _ _ _ (by omega) z1 z2
theorem C_119_k (hV : VG G) (hM : Mg f G) (hI : SI f G 96) (hB : BO f G 576) (K : ∀ g : xF, (∀ c, c ≠ 149 → c ≠ 159 → c ≠ 160 → g c = f c) → (∀ i, i ≠ 20 → i ≠ 21 → g 149 i = f 149 i) → (∀ k, k ≤ 4 → RowN g G k) → Q [] g) : ∀ (n : Nat) (x : Int) (X2 X3 X4 X5 X6 X7 : Option xV) (g : xF), x = (n : Int) - 1 → n ≤ 5 → (∀ c, c ≠ 149 → c ≠ 159 → c ≠ 160 → g c = f c) → (∀ i, i ≠ 20 → i ≠ 21 → g 149 i = f 149 i) → (∀ k, n ≤ k → k ≤ 4 → RowN g G k) → Rf (SHL L) 119 6 [some (.inr 149), some (.inl x), X2, X3, X4, X5, X6, X7] [] g Q := by
  intro n
  induction n with
  | zero =>
    intro x X2 X3 X4 X5 X6 X7 g hx hn hA hB2 hR
    refine R_il fx_119_6 rfl ?_
    refine R_iflt fx_119_7 (by omega) (fun hc => ?_) (fun hc => by omega)
    exact R_retv fx_119_359 rfl (K g hA hB2 (fun k hk => hR k (by omega) hk))
  | succ k ih =>
    intro x X2 X3 X4 X5 X6 X7 g hx hn hA hB2 hR
    have hx2 : x = (k : Int) := by omega
    subst hx2
    have hMg : Mg g G := hM.kept (hB2 4 (by omega) (by omega)) (hA 150 (by omega) (by omega) (by omega))
    have hIg : SI g G 96 := fun j hj => by rw [hA 157 (by omega) (by omega) (by omega)]; exact hI j hj
    have hBg : BO g G 576 := fun j hj => by rw [hA 158 (by omega) (by omega) (by omega)]; exact hB j hj
    have fin : ∀ (g2 : xF) (Y2 Y3 Y4 Y5 Y6 Y7 : Option xV), SF g2 g k → RowN g2 G k → Rf (SHL L) 119 353 [some (.inr 149), some (.inl (k : Int)), Y2, Y3, Y4, Y5, Y6, Y7] [] g2 Q := fun g2 Y2 Y3 Y4 Y5 Y6 Y7 a b => by
      refine R_inc fx_119_353 rfl ?_
      refine R_goto fx_119_356 ?_
      refine ih _ _ _ _ _ _ _ g2 (by omega) (by omega) (fun c c1 c2 c3 => by rw [a.1 c c1 c2 c3]; exact hA c c1 c2 c3) (fun i q1 q2 => by rw [a.2.1 i q1 q2]; exact hB2 i q1 q2) (fun k2 h1 h2 => ?_)
      by_cases e : k2 = k
      · subst e; exact b
      · intro v hv
        rw [(a.2.2 _ (by omega)).1, (a.2.2 _ (by omega)).2]
        exact hR k2 (by omega) h2 v hv
    by_cases h4 : k = 4
    case pos =>
      subst h4
      refine R_il fx_119_6 rfl ?_
      refine R_iflt fx_119_7 (by decide) (fun h => absurd h (by decide)) (fun _ => ?_)
      refine R_il fx_119_10 rfl ?_
      refine R_push fx_119_11 ?_
      refine R_icge fx_119_12 (by decide) (fun _ => ?_) (fun h => absurd h (by decide))
      refine R_push fx_119_29 ?_
      refine R_is fx_119_30 ?_
      refine R_il fx_119_31 rfl ?_
      refine R_push fx_119_32 ?_
      refine R_icge fx_119_33 (by decide) (fun _ => ?_) (fun h => absurd h (by decide))
      refine R_push fx_119_52 ?_
      refine R_is fx_119_53 ?_
      refine R_push fx_119_54 ?_
      refine R_is fx_119_55 ?_
      exact C_119_s4 hV (fun g2 Y4 Y5 Y6 Y7 a b => fin g2 _ _ Y4 Y5 Y6 Y7 a b) 4096 0 _ _ _ g (by omega) ⟨fun _ _ _ _ => rfl, fun _ _ _ => rfl, fun _ _ => ⟨rfl, rfl⟩⟩ (fun v hv => absurd hv (by omega))
    have e1 : (2 * (k : Int)).toNat = 2 * k := by omega
    have e2 : (2 * (k : Int) + 1).toNat = 2 * k + 1 := by omega
    have v1 := hV.2.2.2.1 (2 * k) (by omega)
    have v2 := hV.2.2.2.1 (2 * k + 1) (by omega)
    have hN := hR (k + 1) (by omega) (by omega)
    refine R_il fx_119_6 rfl ?_
    refine R_iflt fx_119_7 (by omega) (fun hc => by omega) (fun hc => ?_)
    refine R_il fx_119_10 rfl ?_
    refine R_push fx_119_11 ?_
    refine R_icge fx_119_12 (by omega) (fun hc => by omega) (fun hc => ?_)
    refine R_al fx_119_15 rfl (by omega) ?_
    refine R_push fx_119_16 ?_
    refine R_il fx_119_17 rfl ?_
    refine R_mul fx_119_18 ?_
    refine R_cv fx_119_19 rfl rfl rfl rfl kd_149 ?_
    refine C_109 (by omega) hMg (by rw [e1]; omega) (fun hc1 => ?_) (fun hc1 => ?_) <;> rw [e1] at hc1
    · refine R_ifeq fx_119_22 (by decide) (fun h => absurd h (by decide)) (fun _ => ?_)
      refine R_push fx_119_25 ?_
      refine R_goto fx_119_26 ?_
      refine R_is fx_119_30 ?_
      refine R_il fx_119_31 rfl ?_
      refine R_push fx_119_32 ?_
      refine R_icge fx_119_33 (by omega) (fun hc => by omega) (fun hc => ?_)
      refine R_al fx_119_36 rfl (by omega) ?_
      refine R_push fx_119_37 ?_
      refine R_il fx_119_38 rfl ?_
      refine R_mul fx_119_39 ?_
      refine R_push fx_119_40 ?_
      refine R_add fx_119_41 ?_
      refine R_cv fx_119_42 rfl rfl rfl rfl kd_149 ?_
      refine C_109 (by omega) hMg (by rw [e2]; omega) (fun hc2 => ?_) (fun hc2 => ?_) <;> rw [e2] at hc2
      · refine R_ifeq fx_119_45 (by decide) (fun h => absurd h (by decide)) (fun _ => ?_)
        refine R_push fx_119_48 ?_
        refine R_goto fx_119_49 ?_
        refine R_is fx_119_53 ?_
        refine R_push fx_119_54 ?_
        refine R_is fx_119_55 ?_
        exact C_119_s11 hV (by omega) hc1 hc2 hIg hBg hN (fun g2 Y4 Y5 Y6 Y7 a b => fin g2 _ _ Y4 Y5 Y6 Y7 a b) 4096 0 _ _ _ g (by omega) ⟨fun _ _ _ _ => rfl, fun _ _ _ => rfl, fun _ _ => ⟨rfl, rfl⟩⟩ (fun v hv => absurd hv (by omega))
      · refine R_ifeq fx_119_45 (by decide) (fun _ => ?_) (fun h => absurd h (by decide))
        refine R_push fx_119_52 ?_
        refine R_is fx_119_53 ?_
        refine R_push fx_119_54 ?_
        refine R_is fx_119_55 ?_
        exact C_119_s10 hV (by omega) hc1 (by omega) hIg hBg hN (fun g2 Y4 Y5 Y6 Y7 a b => fin g2 _ _ Y4 Y5 Y6 Y7 a b) 4096 0 _ _ _ g (by omega) ⟨fun _ _ _ _ => rfl, fun _ _ _ => rfl, fun _ _ => ⟨rfl, rfl⟩⟩ (fun v hv => absurd hv (by omega))
    · refine R_ifeq fx_119_22 (by decide) (fun _ => ?_) (fun h => absurd h (by decide))
      refine R_push fx_119_29 ?_
      refine R_is fx_119_30 ?_
      refine R_il fx_119_31 rfl ?_
      refine R_push fx_119_32 ?_
      refine R_icge fx_119_33 (by omega) (fun hc => by omega) (fun hc => ?_)
      refine R_al fx_119_36 rfl (by omega) ?_
      refine R_push fx_119_37 ?_
      refine R_il fx_119_38 rfl ?_
      refine R_mul fx_119_39 ?_
      refine R_push fx_119_40 ?_
      refine R_add fx_119_41 ?_
      refine R_cv fx_119_42 rfl rfl rfl rfl kd_149 ?_
      refine C_109 (by omega) hMg (by rw [e2]; omega) (fun hc2 => ?_) (fun hc2 => ?_) <;> rw [e2] at hc2
      · refine R_ifeq fx_119_45 (by decide) (fun h => absurd h (by decide)) (fun _ => ?_)
        refine R_push fx_119_48 ?_
        refine R_goto fx_119_49 ?_
        refine R_is fx_119_53 ?_
        refine R_push fx_119_54 ?_
        refine R_is fx_119_55 ?_
        exact C_119_s01 hV (by omega) (by omega) hc2 hIg hBg hN (fun g2 Y4 Y5 Y6 Y7 a b => fin g2 _ _ Y4 Y5 Y6 Y7 a b) 4096 0 _ _ _ g (by omega) ⟨fun _ _ _ _ => rfl, fun _ _ _ => rfl, fun _ _ => ⟨rfl, rfl⟩⟩ (fun v hv => absurd hv (by omega))
      · refine R_ifeq fx_119_45 (by decide) (fun _ => ?_) (fun h => absurd h (by decide))
        refine R_push fx_119_52 ?_
        refine R_is fx_119_53 ?_
        refine R_push fx_119_54 ?_
        refine R_is fx_119_55 ?_
        exact C_119_s00 hV (by omega) (by omega) (by omega) hIg hBg hN (fun g2 Y4 Y5 Y6 Y7 a b => fin g2 _ _ Y4 Y5 Y6 Y7 a b) 4096 0 _ _ _ g (by omega) ⟨fun _ _ _ _ => rfl, fun _ _ _ => rfl, fun _ _ => ⟨rfl, rfl⟩⟩ (fun v hv => absurd hv (by omega))
theorem C_119 (hV : VG G) (hM : Mg f G) (hT : MT f) (K : ∀ g : xF, LF g f → SI g G 96 → BO g G 576 → (∀ k, k ≤ 4 → RowN g G k) → Q [] g) : Rf (SHL L) 119 0 (xloc 119 [.inr 149]) [] f Q := by
  refine R_al fx_119_0 rfl (by omega) ?_
  refine R_cv fx_119_1 rfl rfl rfl rfl kd_149 ?_
  refine C_120 hV hM hT (fun g1 hF hI hB => ?_)
  have hM1 : Mg g1 G := hM.kept (hF.2.1 4 (by omega)) (hF.1 150 (by omega) (by omega) (by omega) (by omega) (by omega))
  refine R_push fx_119_4 ?_
  refine R_is fx_119_5 ?_
  refine C_119_k hV hM1 hI hB (fun g a b c => K g ⟨fun c9 h9 => ?_, fun i hi => ?_, fun j hj => ?_, ?_⟩ (fun j hj => ?_) (fun j hj => ?_) c) 5 4 _ _ _ _ _ _ g1 (by omega) (by omega) (fun _ _ _ _ => rfl) (fun _ _ _ => rfl) (fun k h1 h2 => absurd h1 (by omega))
  · rw [a c9 (by omega) (by omega) (by omega)]; exact hF.1 c9 (by omega) (by omega) (by omega) (by omega) (by omega)
  · rw [b i (by omega) (by omega)]; exact hF.2.1 i (by omega)
  · rw [a 156 (by omega) (by omega) (by omega)]; exact hF.2.2.1 j hj
  · rw [b 11 (by omega) (by omega)]; exact hF.2.2.2
  · rw [a 157 (by omega) (by omega) (by omega)]; exact hI j hj
  · rw [a 158 (by omega) (by omega) (by omega)]; exact hB j hj
end FM
