/-! ===== the law ===== -/
theorem xb_and15 (x : Int) : ∃ z : Nat, z ≤ 15 ∧ xbin 5 x 15 = some (z : Int) := by
  refine ⟨(Int32.ofInt x &&& Int32.ofInt 15).toInt.toNat, ?_, ?_⟩
  · have h : (Int32.ofInt x &&& Int32.ofInt 15).toBitVec.toNat ≤ 15 := by
      show ((Int32.ofInt x).toBitVec &&& (Int32.ofInt 15).toBitVec).toNat ≤ 15
      rw [BitVec.toNat_and]
      exact Nat.and_le_right
    have := xi_of_bv (z := Int32.ofInt x &&& Int32.ofInt 15) rfl (by omega)
    omega
  · have h : (Int32.ofInt x &&& Int32.ofInt 15).toBitVec.toNat ≤ 15 := by
      show ((Int32.ofInt x).toBitVec &&& (Int32.ofInt 15).toBitVec).toNat ≤ 15
      rw [BitVec.toNat_and]
      exact Nat.and_le_right
    have h2 := xi_of_bv (z := Int32.ofInt x &&& Int32.ofInt 15) rfl (by omega)
    show some (Int32.ofInt x &&& Int32.ofInt 15).toInt = _
    rw [Int.toNat_of_nonneg (by omega)]
def CI (f : xF) (G : Nat → Int) (n x : Nat) (hi : Nat → Nat → Int) (sc : Nat → Int) : Prop := Sg f 4 G ∧ Hc f n x hi ∧ Pk f G ∧ (∀ i, i < 24 → f 2 i = xnth xkeys i 0) ∧ f 1 = sc
def MMv (f : xF) (G : Nat → Int) (n : Nat) (hi : Nat → Nat → Int) : Prop := Mst f G ∧ Mk f n hi ∧ MT f ∧ (∀ s, s < 8 → f 152 s = xnth xkeys (0 * 8 + s) 0) ∧ (∀ s, s < 8 → f 153 s = xnth xkeys (1 * 8 + s) 0) ∧ ∀ s, s < 8 → f 154 s = xnth xkeys (2 * 8 + s) 0
section LW
variable {f f2 : xF} {G G2 : Nat → Int} {n x n2 : Nat} {hi hi2 : Nat → Nat → Int} {sc : Nat → Int}
theorem Pk.kept (h : Pk f G) (h1 : f2 141 = f 141) (h2 : f2 143 = f 143) (h3 : f2 144 = f 144) (h4 : f2 148 = f 148) : Pk f2 G := by
  unfold Pk Pl at *
  rw [h1, h2, h3, h4]
  exact h
theorem CI.kw (h : CI f G n x hi sc) (he : ∀ c, (c < 125 ∨ (140 < c ∧ c < 149)) → f2 c = f c) : CI f2 G n x hi sc := ⟨h.1.kept (fun c _ _ => he c (by omega)), h.2.1.kept (fun c _ _ => he c (by omega)), h.2.2.1.kept (he _ (by omega)) (he _ (by omega)) (he _ (by omega)) (he _ (by omega)), by rw [he 2 (by omega)]; exact h.2.2.2.1, by rw [he 1 (by omega)]; exact h.2.2.2.2⟩
theorem MMv.kept (h : MMv f G n hi) (he : ∀ c, 149 ≤ c → f2 c = f c) : MMv f2 G n hi := by
  obtain ⟨a1, a2, a3, a4, a5, a6⟩ := h
  refine ⟨?_, a2.kept (by rw [he 149 (by omega)]) (he 151 (by omega)), ?_, ?_, ?_, ?_⟩
  · unfold Mst Mg at *; rw [he 149 (by omega), he 150 (by omega)]; exact a1
  · unfold MT at *; rw [he 149 (by omega), he 156 (by omega)]; exact a3
  · rw [he 152 (by omega)]; exact a4
  · rw [he 153 (by omega)]; exact a5
  · rw [he 154 (by omega)]; exact a6
theorem CI_dn (h : CI f G n x hi sc) (hD : Dn f f2 n x hi G G2) : CI f2 G2 (min (n + 1) 6) ((x + 1) % 6) (consG G hi) sc := ⟨hD.1, hD.2.1, Or.inl hD.2.2.1, by rw [hD.2.2.2.2 2 (by omega) (by omega)]; exact h.2.2.2.1, by rw [hD.2.2.2.2 1 (by omega) (by omega)]; exact h.2.2.2.2⟩
theorem MM_dn (h : MMv f G n hi) (hD : Dn f f2 n x hi G G2) : MMv f2 G n hi := h.kept (fun c hc => hD.2.2.2.2 c (by omega) (by omega))
theorem MM_dw (h : MMv f G n hi) (hD : Dw f f2 n2 hi2 G2) : MMv f2 G2 n2 hi2 := ⟨Or.inl hD.1, hD.2.1, hD.2.2.2, by rw [hD.2.2.1 152 (by omega)]; exact h.2.2.2.1, by rw [hD.2.2.1 153 (by omega)]; exact h.2.2.2.2.1, by rw [hD.2.2.1 154 (by omega)]; exact h.2.2.2.2.2⟩
theorem CI_dw (h : CI f G n x hi sc) (hD : Dw f f2 n2 hi2 G2) : CI f2 G n x hi sc := h.kw (fun c hc => hD.2.2.1 c (by omega))
theorem CI_pf (h : CI f G n x hi sc) (hD : PF f2 f G) : CI f2 G n x hi sc := ⟨h.1.kept (fun c _ _ => hD.1 c (by omega)), h.2.1.kept (fun c _ _ => hD.1 c (by omega)), Or.inr hD.2, by rw [hD.1 2 (by omega)]; exact h.2.2.2.1, by rw [hD.1 1 (by omega)]; exact h.2.2.2.2⟩
theorem MM_pf (h : MMv f G n hi) (hD : PF f2 f G) : MMv f2 G n hi := h.kept (fun c hc => hD.1 c (by omega))
theorem CI_dk (h : CI f G n x hi sc) (hD : Dk f f2 n x hi G) : CI f2 (mkF G) (min (n + 1) 6) ((x + 1) % 6) (consG G hi) sc := ⟨hD.1, hD.2.1, Or.inl hD.2.2.1, by rw [hD.2.2.2 2 (by omega)]; exact h.2.2.2.1, by rw [hD.2.2.2 1 (by omega)]; exact h.2.2.2.2⟩
theorem MM_dk (h : MMv f G n hi) (hD : Dk f f2 n x hi G) : MMv f2 G n hi := h.kept (fun c hc => hD.2.2.2 c (by omega))
theorem vg_cons (hV : VG G) (h : ∀ i, i < n → VG (hi i)) : ∀ i, i < min (n + 1) 6 → VG (consG G hi i) := fun i hi9 => by
  cases i with
  | zero => exact hV
  | succ i => exact h i (by omega)
theorem VG_mkF (hV : VG G) : VG (mkF G) := by
  have h := (MI_mkS hV 4 (by omega)).2.2
  obtain ⟨a1, a2, a3, a4, a5, a6⟩ := h
  have e : ∀ i, ¬ (4 ≤ i ∧ i < 12) → i ≠ 3 → mkF G i = mkS G 4 i := fun i h1 h2 => by unfold mkF; rw [if_neg h1, if_neg h2]
  have ew : ∀ s, s < 8 → mkF G (4 + s) = -1 := fun s hs => by unfold mkF; rw [if_pos (by omega)]
  refine ⟨by rw [e 0 (by omega) (by omega)]; exact a1, by rw [e 1 (by omega) (by omega)]; exact a2, by rw [e 2 (by omega) (by omega)]; exact a3, fun s hs => by rw [ew s hs]; omega, fun k hk => by rw [e (12 + k) (by omega) (by omega), e (16 + k) (by omega) (by omega)]; exact a5 k hk, fun r hr hg => ?_⟩
  rw [e 0 (by omega) (by omega)] at hg
  rw [e (20 + 7 * r) (by omega) (by omega), e (20 + 7 * r + 1) (by omega) (by omega), e (20 + 7 * r + 2) (by omega) (by omega), e (20 + 7 * r + 3) (by omega) (by omega)]
  exact a6 r hr hg
end LW
section LX
variable {L : Nat} {f : xF} {G : Nat → Int} {n x : Nat} {hi : Nat → Nat → Int} {sc : Nat → Int} {k : Nat × Nat} {y : Int} {Q : List xV → xM → Prop}
theorem L_0 (hL : L ≤ 2560) (hk1 : k.1 ≤ xmi 128 7) (hk2 : k.2 ≤ xmi 128 8) (hsc : ∀ j, xok (sc j)) (hV : VG G) (hVh : ∀ i, i < n → VG (hi i)) (hC : CI f G n x hi sc) (hM : MMv f G n hi) (hy : 0 ≤ y ∧ y ≤ (L : Int) - 5) (go : ∀ (f2 : xF) (G2 : Nat → Int) (n2 x2 : Nat) (hi2 : Nat → Nat → Int), VG G2 → (∀ i, i < n2 → VG (hi2 i)) → CI f2 G2 n2 x2 hi2 sc → MMv f2 G2 n2 hi2 → Rg 128 590 k [some (.inr 1), some (.inr 3), some (.inr 149), some (.inl y)] [] (SHL L, f2) Q) : Rg 128 112 k [some (.inr 1), some (.inr 3), some (.inr 149), some (.inl y)] [] (SHL L, f) Q := by
  obtain ⟨hS, hH, hP, hK2, hs1⟩ := hC
  have hC : CI f G n x hi sc := ⟨hS, hH, hP, hK2, hs1⟩
  obtain ⟨m1, m2, m3, m4, m5, m6⟩ := hM
  have hM : MMv f G n hi := ⟨m1, m2, m3, m4, m5, m6⟩
  refine G_al fx_128_112 rfl (by omega) ?_
  refine G_al fx_128_113 rfl (by omega) ?_
  refine G_il fx_128_114 rfl ?_
  refine G_push fx_128_115 ?_
  refine G_add fx_128_116 ?_
  refine G_ia fx_128_117 (Or.inr kd_1) (by omega) (by rw [ln_1]; omega) (by omega) ?_
  rw [hs1]
  refine G_al fx_128_118 rfl (by omega) ?_
  refine G_il fx_128_119 rfl ?_
  refine G_push fx_128_120 ?_
  refine G_add fx_128_121 ?_
  refine G_ia fx_128_122 (Or.inr kd_1) (by omega) (by rw [ln_1]; omega) (by omega) ?_
  rw [hs1]
  refine G_al fx_128_123 rfl (by omega) ?_
  refine G_il fx_128_124 rfl ?_
  refine G_push fx_128_125 ?_
  refine G_add fx_128_126 ?_
  refine G_ia fx_128_127 (Or.inr kd_1) (by omega) (by rw [ln_1]; omega) (by omega) ?_
  rw [hs1]
  refine G_cv fx_128_128 rfl ⟨rfl, rfl⟩ ⟨Nat.le_of_ble_eq_true rfl, Nat.le_of_ble_eq_true rfl, by decide, by decide, hk1, hk2⟩ rfl rfl kd_3 ?_
  refine C_8 hV hH hS (hsc _) (hsc _) (hsc _) (fun hc f2 hD => ?_) (fun hc => ?_)
  · have hC2 := CI_dn hC hD
    have hM2 := MM_dn (x := x) hM hD
    have hs2 : f2 1 = sc := hC2.2.2.2.2
    obtain ⟨q1, q2, q3, q4, q5, q6⟩ := hM2
    refine G_al fx_128_131 rfl (by omega) ?_
    refine G_al fx_128_132 rfl (by omega) ?_
    refine G_il fx_128_133 rfl ?_
    refine G_push fx_128_134 ?_
    refine G_add fx_128_135 ?_
    refine G_ia fx_128_136 (Or.inr kd_1) (by omega) (by rw [ln_1]; omega) (by omega) ?_
    rw [hs2]
    refine G_al fx_128_137 rfl (by omega) ?_
    refine G_il fx_128_138 rfl ?_
    refine G_push fx_128_139 ?_
    refine G_add fx_128_140 ?_
    refine G_ia fx_128_141 (Or.inr kd_1) (by omega) (by rw [ln_1]; omega) (by omega) ?_
    rw [hs2]
    refine G_al fx_128_142 rfl (by omega) ?_
    refine G_il fx_128_143 rfl ?_
    refine G_push fx_128_144 ?_
    refine G_add fx_128_145 ?_
    refine G_ia fx_128_146 (Or.inr kd_1) (by omega) (by rw [ln_1]; omega) (by omega) ?_
    rw [hs2]
    refine G_cv fx_128_147 rfl ⟨rfl, rfl⟩ ⟨Nat.le_of_ble_eq_true rfl, Nat.le_of_ble_eq_true rfl, by decide, by decide, hk1, hk2⟩ rfl rfl kd_149 ?_
    refine C_94 hV (hsc _) (hsc _) (hsc _) q1 q2 (fun _ f3 hD3 => ?_) (fun hn => absurd hc hn)
    refine G_iceq fx_128_150 (Or.inr rfl) (fun _ => ?_) (fun h => absurd rfl h)
    exact go f3 _ _ _ _ (VG_reed hV hc.2 hc.1.1 hc.1.2.1 hc.1.2.2) (vg_cons hV hVh) (CI_dw hC2 (hD3.w q3)) (MM_dw ⟨q1, q2, q3, q4, q5, q6⟩ (hD3.w q3))
  · have hC2 := hC
    have hM2 : MMv f G n hi := hM
    have hs2 : f 1 = sc := hC2.2.2.2.2
    obtain ⟨q1, q2, q3, q4, q5, q6⟩ := hM2
    refine G_al fx_128_131 rfl (by omega) ?_
    refine G_al fx_128_132 rfl (by omega) ?_
    refine G_il fx_128_133 rfl ?_
    refine G_push fx_128_134 ?_
    refine G_add fx_128_135 ?_
    refine G_ia fx_128_136 (Or.inr kd_1) (by omega) (by rw [ln_1]; omega) (by omega) ?_
    rw [hs2]
    refine G_al fx_128_137 rfl (by omega) ?_
    refine G_il fx_128_138 rfl ?_
    refine G_push fx_128_139 ?_
    refine G_add fx_128_140 ?_
    refine G_ia fx_128_141 (Or.inr kd_1) (by omega) (by rw [ln_1]; omega) (by omega) ?_
    rw [hs2]
    refine G_al fx_128_142 rfl (by omega) ?_
    refine G_il fx_128_143 rfl ?_
    refine G_push fx_128_144 ?_
    refine G_add fx_128_145 ?_
    refine G_ia fx_128_146 (Or.inr kd_1) (by omega) (by rw [ln_1]; omega) (by omega) ?_
    rw [hs2]
    refine G_cv fx_128_147 rfl ⟨rfl, rfl⟩ ⟨Nat.le_of_ble_eq_true rfl, Nat.le_of_ble_eq_true rfl, by decide, by decide, hk1, hk2⟩ rfl rfl kd_149 ?_
    refine C_94 hV (hsc _) (hsc _) (hsc _) q1 q2 (fun hp => absurd hp hc) (fun _ f3 hD3 => ?_)
    refine G_iceq fx_128_150 (Or.inr rfl) (fun _ => ?_) (fun h => absurd rfl h)
    exact go f3 G n x hi hV hVh (CI_dw hC2 (hD3.w q3)) (MM_dw ⟨q1, q2, q3, q4, q5, q6⟩ (hD3.w q3))
theorem L_1 (hL : L ≤ 2560) (hk1 : k.1 ≤ xmi 128 7) (hk2 : k.2 ≤ xmi 128 8) (hsc : ∀ j, xok (sc j)) (hV : VG G) (hVh : ∀ i, i < n → VG (hi i)) (hC : CI f G n x hi sc) (hM : MMv f G n hi) (hy : 0 ≤ y ∧ y ≤ (L : Int) - 5) (go : ∀ (f2 : xF) (G2 : Nat → Int) (n2 x2 : Nat) (hi2 : Nat → Nat → Int), VG G2 → (∀ i, i < n2 → VG (hi2 i)) → CI f2 G2 n2 x2 hi2 sc → MMv f2 G2 n2 hi2 → Rg 128 590 k [some (.inr 1), some (.inr 3), some (.inr 149), some (.inl y)] [] (SHL L, f2) Q) : Rg 128 155 k [some (.inr 1), some (.inr 3), some (.inr 149), some (.inl y)] [] (SHL L, f) Q := by
  obtain ⟨hS, hH, hP, hK2, hs1⟩ := hC
  have hC : CI f G n x hi sc := ⟨hS, hH, hP, hK2, hs1⟩
  obtain ⟨m1, m2, m3, m4, m5, m6⟩ := hM
  have hM : MMv f G n hi := ⟨m1, m2, m3, m4, m5, m6⟩
  refine G_al fx_128_155 rfl (by omega) ?_
  refine G_al fx_128_156 rfl (by omega) ?_
  refine G_il fx_128_157 rfl ?_
  refine G_push fx_128_158 ?_
  refine G_add fx_128_159 ?_
  refine G_ia fx_128_160 (Or.inr kd_1) (by omega) (by rw [ln_1]; omega) (by omega) ?_
  rw [hs1]
  refine G_cv fx_128_161 rfl ⟨rfl, rfl⟩ ⟨Nat.le_of_ble_eq_true rfl, Nat.le_of_ble_eq_true rfl, by decide, by decide, hk1, hk2⟩ rfl rfl kd_3 ?_
  refine C_17 hV hH hS (hsc _) (fun hc1 hc2 f2 hD => ?_) (fun hc => ?_)
  · rw [scrap_eq] at hD
    have hC2 := CI_dn hC hD
    have hM2 := MM_dn (x := x) hM hD
    have hs2 : f2 1 = sc := hC2.2.2.2.2
    obtain ⟨q1, q2, q3, q4, q5, q6⟩ := hM2
    refine G_al fx_128_164 rfl (by omega) ?_
    refine G_al fx_128_165 rfl (by omega) ?_
    refine G_il fx_128_166 rfl ?_
    refine G_push fx_128_167 ?_
    refine G_add fx_128_168 ?_
    refine G_ia fx_128_169 (Or.inr kd_1) (by omega) (by rw [ln_1]; omega) (by omega) ?_
    rw [hs2]
    refine G_cv fx_128_170 rfl ⟨rfl, rfl⟩ ⟨Nat.le_of_ble_eq_true rfl, Nat.le_of_ble_eq_true rfl, by decide, by decide, hk1, hk2⟩ rfl rfl kd_149 ?_
    refine C_96 hV (hsc _) q1 q2 (fun _ _ f3 hD3 => ?_) (fun hn => absurd ⟨hc1, hc2⟩ hn)
    refine G_iceq fx_128_173 (Or.inr rfl) (fun _ => ?_) (fun h => absurd rfl h)
    exact go f3 _ _ _ _ (scrap_eq ▸ VG_scrap hV (by have := hV.1; omega) (by omega)) (vg_cons hV hVh) (CI_dw hC2 (hD3.w q3)) (MM_dw ⟨q1, q2, q3, q4, q5, q6⟩ (hD3.w q3))
  · have hC2 := hC
    have hM2 : MMv f G n hi := hM
    have hs2 : f 1 = sc := hC2.2.2.2.2
    obtain ⟨q1, q2, q3, q4, q5, q6⟩ := hM2
    refine G_al fx_128_164 rfl (by omega) ?_
    refine G_al fx_128_165 rfl (by omega) ?_
    refine G_il fx_128_166 rfl ?_
    refine G_push fx_128_167 ?_
    refine G_add fx_128_168 ?_
    refine G_ia fx_128_169 (Or.inr kd_1) (by omega) (by rw [ln_1]; omega) (by omega) ?_
    rw [hs2]
    refine G_cv fx_128_170 rfl ⟨rfl, rfl⟩ ⟨Nat.le_of_ble_eq_true rfl, Nat.le_of_ble_eq_true rfl, by decide, by decide, hk1, hk2⟩ rfl rfl kd_149 ?_
    refine C_96 hV (hsc _) q1 q2 (fun h1 h2 => absurd ⟨h1, h2⟩ hc) (fun _ f3 hD3 => ?_)
    refine G_iceq fx_128_173 (Or.inr rfl) (fun _ => ?_) (fun h => absurd rfl h)
    exact go f3 G n x hi hV hVh (CI_dw hC2 (hD3.w q3)) (MM_dw ⟨q1, q2, q3, q4, q5, q6⟩ (hD3.w q3))
theorem L_2 (hL : L ≤ 2560) (hk1 : k.1 ≤ xmi 128 7) (hk2 : k.2 ≤ xmi 128 8) (hsc : ∀ j, xok (sc j)) (hV : VG G) (hVh : ∀ i, i < n → VG (hi i)) (hC : CI f G n x hi sc) (hM : MMv f G n hi) (hy : 0 ≤ y ∧ y ≤ (L : Int) - 5) (go : ∀ (f2 : xF) (G2 : Nat → Int) (n2 x2 : Nat) (hi2 : Nat → Nat → Int), VG G2 → (∀ i, i < n2 → VG (hi2 i)) → CI f2 G2 n2 x2 hi2 sc → MMv f2 G2 n2 hi2 → Rg 128 590 k [some (.inr 1), some (.inr 3), some (.inr 149), some (.inl y)] [] (SHL L, f2) Q) : Rg 128 178 k [some (.inr 1), some (.inr 3), some (.inr 149), some (.inl y)] [] (SHL L, f) Q := by
  obtain ⟨hS, hH, hP, hK2, hs1⟩ := hC
  have hC : CI f G n x hi sc := ⟨hS, hH, hP, hK2, hs1⟩
  obtain ⟨m1, m2, m3, m4, m5, m6⟩ := hM
  have hM : MMv f G n hi := ⟨m1, m2, m3, m4, m5, m6⟩
  refine G_al fx_128_178 rfl (by omega) ?_
  refine G_al fx_128_179 rfl (by omega) ?_
  refine G_il fx_128_180 rfl ?_
  refine G_push fx_128_181 ?_
  refine G_add fx_128_182 ?_
  refine G_ia fx_128_183 (Or.inr kd_1) (by omega) (by rw [ln_1]; omega) (by omega) ?_
  rw [hs1]
  refine G_al fx_128_184 rfl (by omega) ?_
  refine G_il fx_128_185 rfl ?_
  refine G_push fx_128_186 ?_
  refine G_add fx_128_187 ?_
  refine G_ia fx_128_188 (Or.inr kd_1) (by omega) (by rw [ln_1]; omega) (by omega) ?_
  rw [hs1]
  refine G_cv fx_128_189 rfl ⟨rfl, rfl⟩ ⟨Nat.le_of_ble_eq_true rfl, Nat.le_of_ble_eq_true rfl, by decide, by decide, hk1, hk2⟩ rfl rfl kd_3 ?_
  refine C_20 hH hS (hsc _) (hsc _) (fun hc f2 hD => ?_) (fun hc => ?_)
  · have hC2 := CI_dn hC hD
    have hM2 := MM_dn (x := x) hM hD
    have hs2 : f2 1 = sc := hC2.2.2.2.2
    obtain ⟨q1, q2, q3, q4, q5, q6⟩ := hM2
    refine G_al fx_128_192 rfl (by omega) ?_
    refine G_al fx_128_193 rfl (by omega) ?_
    refine G_il fx_128_194 rfl ?_
    refine G_push fx_128_195 ?_
    refine G_add fx_128_196 ?_
    refine G_ia fx_128_197 (Or.inr kd_1) (by omega) (by rw [ln_1]; omega) (by omega) ?_
    rw [hs2]
    refine G_al fx_128_198 rfl (by omega) ?_
    refine G_il fx_128_199 rfl ?_
    refine G_push fx_128_200 ?_
    refine G_add fx_128_201 ?_
    refine G_ia fx_128_202 (Or.inr kd_1) (by omega) (by rw [ln_1]; omega) (by omega) ?_
    rw [hs2]
    refine G_cv fx_128_203 rfl ⟨rfl, rfl⟩ ⟨Nat.le_of_ble_eq_true rfl, Nat.le_of_ble_eq_true rfl, by decide, by decide, hk1, hk2⟩ rfl rfl kd_149 ?_
    refine C_100 (hsc _) (hsc _) q1 q2 (fun _ f3 hD3 => ?_) (fun hn => absurd hc hn)
    refine G_iceq fx_128_206 (Or.inr rfl) (fun _ => ?_) (fun h => absurd rfl h)
    exact go f3 _ _ _ _ (VG_rates hV hc.1 hc.2) (vg_cons hV hVh) (CI_dw hC2 (hD3.w q3)) (MM_dw ⟨q1, q2, q3, q4, q5, q6⟩ (hD3.w q3))
  · have hC2 := hC
    have hM2 : MMv f G n hi := hM
    have hs2 : f 1 = sc := hC2.2.2.2.2
    obtain ⟨q1, q2, q3, q4, q5, q6⟩ := hM2
    refine G_al fx_128_192 rfl (by omega) ?_
    refine G_al fx_128_193 rfl (by omega) ?_
    refine G_il fx_128_194 rfl ?_
    refine G_push fx_128_195 ?_
    refine G_add fx_128_196 ?_
    refine G_ia fx_128_197 (Or.inr kd_1) (by omega) (by rw [ln_1]; omega) (by omega) ?_
    rw [hs2]
    refine G_al fx_128_198 rfl (by omega) ?_
    refine G_il fx_128_199 rfl ?_
    refine G_push fx_128_200 ?_
    refine G_add fx_128_201 ?_
    refine G_ia fx_128_202 (Or.inr kd_1) (by omega) (by rw [ln_1]; omega) (by omega) ?_
    rw [hs2]
    refine G_cv fx_128_203 rfl ⟨rfl, rfl⟩ ⟨Nat.le_of_ble_eq_true rfl, Nat.le_of_ble_eq_true rfl, by decide, by decide, hk1, hk2⟩ rfl rfl kd_149 ?_
    refine C_100 (hsc _) (hsc _) q1 q2 (fun hp => absurd hp hc) (fun _ f3 hD3 => ?_)
    refine G_iceq fx_128_206 (Or.inr rfl) (fun _ => ?_) (fun h => absurd rfl h)
    exact go f3 G n x hi hV hVh (CI_dw hC2 (hD3.w q3)) (MM_dw ⟨q1, q2, q3, q4, q5, q6⟩ (hD3.w q3))
theorem L_3 (hL : L ≤ 2560) (hk1 : k.1 ≤ xmi 128 7) (hk2 : k.2 ≤ xmi 128 8) (hsc : ∀ j, xok (sc j)) (hV : VG G) (hVh : ∀ i, i < n → VG (hi i)) (hC : CI f G n x hi sc) (hM : MMv f G n hi) (hy : 0 ≤ y ∧ y ≤ (L : Int) - 5) (go : ∀ (f2 : xF) (G2 : Nat → Int) (n2 x2 : Nat) (hi2 : Nat → Nat → Int), VG G2 → (∀ i, i < n2 → VG (hi2 i)) → CI f2 G2 n2 x2 hi2 sc → MMv f2 G2 n2 hi2 → Rg 128 590 k [some (.inr 1), some (.inr 3), some (.inr 149), some (.inl y)] [] (SHL L, f2) Q) : Rg 128 211 k [some (.inr 1), some (.inr 3), some (.inr 149), some (.inl y)] [] (SHL L, f) Q := by
  obtain ⟨hS, hH, hP, hK2, hs1⟩ := hC
  have hC : CI f G n x hi sc := ⟨hS, hH, hP, hK2, hs1⟩
  obtain ⟨m1, m2, m3, m4, m5, m6⟩ := hM
  have hM : MMv f G n hi := ⟨m1, m2, m3, m4, m5, m6⟩
  refine G_al fx_128_211 rfl (by omega) ?_
  refine G_al fx_128_212 rfl (by omega) ?_
  refine G_il fx_128_213 rfl ?_
  refine G_push fx_128_214 ?_
  refine G_add fx_128_215 ?_
  refine G_ia fx_128_216 (Or.inr kd_1) (by omega) (by rw [ln_1]; omega) (by omega) ?_
  rw [hs1]
  refine G_al fx_128_217 rfl (by omega) ?_
  refine G_il fx_128_218 rfl ?_
  refine G_push fx_128_219 ?_
  refine G_add fx_128_220 ?_
  refine G_ia fx_128_221 (Or.inr kd_1) (by omega) (by rw [ln_1]; omega) (by omega) ?_
  rw [hs1]
  refine G_cv fx_128_222 rfl ⟨rfl, rfl⟩ ⟨Nat.le_of_ble_eq_true rfl, Nat.le_of_ble_eq_true rfl, by decide, by decide, hk1, hk2⟩ rfl rfl kd_3 ?_
  refine C_21 hH hS (hsc _) (hsc _) (fun hc f2 hD => ?_) (fun hc => ?_)
  · have hC2 := CI_dn hC hD
    have hM2 := MM_dn (x := x) hM hD
    have hs2 : f2 1 = sc := hC2.2.2.2.2
    obtain ⟨q1, q2, q3, q4, q5, q6⟩ := hM2
    refine G_al fx_128_225 rfl (by omega) ?_
    refine G_al fx_128_226 rfl (by omega) ?_
    refine G_il fx_128_227 rfl ?_
    refine G_push fx_128_228 ?_
    refine G_add fx_128_229 ?_
    refine G_ia fx_128_230 (Or.inr kd_1) (by omega) (by rw [ln_1]; omega) (by omega) ?_
    rw [hs2]
    refine G_al fx_128_231 rfl (by omega) ?_
    refine G_il fx_128_232 rfl ?_
    refine G_push fx_128_233 ?_
    refine G_add fx_128_234 ?_
    refine G_ia fx_128_235 (Or.inr kd_1) (by omega) (by rw [ln_1]; omega) (by omega) ?_
    rw [hs2]
    refine G_cv fx_128_236 rfl ⟨rfl, rfl⟩ ⟨Nat.le_of_ble_eq_true rfl, Nat.le_of_ble_eq_true rfl, by decide, by decide, hk1, hk2⟩ rfl rfl kd_149 ?_
    refine C_101 (hsc _) (hsc _) q1 q2 (fun _ f3 hD3 => ?_) (fun hn => absurd hc hn)
    refine G_iceq fx_128_239 (Or.inr rfl) (fun _ => ?_) (fun h => absurd rfl h)
    exact go f3 _ _ _ _ (VG_want hV (by omega) hc.2) (vg_cons hV hVh) (CI_dw hC2 (hD3.w q3)) (MM_dw ⟨q1, q2, q3, q4, q5, q6⟩ (hD3.w q3))
  · have hC2 := hC
    have hM2 : MMv f G n hi := hM
    have hs2 : f 1 = sc := hC2.2.2.2.2
    obtain ⟨q1, q2, q3, q4, q5, q6⟩ := hM2
    refine G_al fx_128_225 rfl (by omega) ?_
    refine G_al fx_128_226 rfl (by omega) ?_
    refine G_il fx_128_227 rfl ?_
    refine G_push fx_128_228 ?_
    refine G_add fx_128_229 ?_
    refine G_ia fx_128_230 (Or.inr kd_1) (by omega) (by rw [ln_1]; omega) (by omega) ?_
    rw [hs2]
    refine G_al fx_128_231 rfl (by omega) ?_
    refine G_il fx_128_232 rfl ?_
    refine G_push fx_128_233 ?_
    refine G_add fx_128_234 ?_
    refine G_ia fx_128_235 (Or.inr kd_1) (by omega) (by rw [ln_1]; omega) (by omega) ?_
    rw [hs2]
    refine G_cv fx_128_236 rfl ⟨rfl, rfl⟩ ⟨Nat.le_of_ble_eq_true rfl, Nat.le_of_ble_eq_true rfl, by decide, by decide, hk1, hk2⟩ rfl rfl kd_149 ?_
    refine C_101 (hsc _) (hsc _) q1 q2 (fun hp => absurd hp hc) (fun _ f3 hD3 => ?_)
    refine G_iceq fx_128_239 (Or.inr rfl) (fun _ => ?_) (fun h => absurd rfl h)
    exact go f3 G n x hi hV hVh (CI_dw hC2 (hD3.w q3)) (MM_dw ⟨q1, q2, q3, q4, q5, q6⟩ (hD3.w q3))
theorem L_4 (hL : L ≤ 2560) (hk1 : k.1 ≤ xmi 128 7) (hk2 : k.2 ≤ xmi 128 8) (hsc : ∀ j, xok (sc j)) (hV : VG G) (hVh : ∀ i, i < n → VG (hi i)) (hC : CI f G n x hi sc) (hM : MMv f G n hi) (hy : 0 ≤ y ∧ y ≤ (L : Int) - 5) (go : ∀ (f2 : xF) (G2 : Nat → Int) (n2 x2 : Nat) (hi2 : Nat → Nat → Int), VG G2 → (∀ i, i < n2 → VG (hi2 i)) → CI f2 G2 n2 x2 hi2 sc → MMv f2 G2 n2 hi2 → Rg 128 590 k [some (.inr 1), some (.inr 3), some (.inr 149), some (.inl y)] [] (SHL L, f2) Q) : Rg 128 244 k [some (.inr 1), some (.inr 3), some (.inr 149), some (.inl y)] [] (SHL L, f) Q := by
  obtain ⟨hS, hH, hP, hK2, hs1⟩ := hC
  have hC : CI f G n x hi sc := ⟨hS, hH, hP, hK2, hs1⟩
  obtain ⟨m1, m2, m3, m4, m5, m6⟩ := hM
  have hM : MMv f G n hi := ⟨m1, m2, m3, m4, m5, m6⟩
  refine G_al fx_128_244 rfl (by omega) ?_
  refine G_al fx_128_245 rfl (by omega) ?_
  refine G_il fx_128_246 rfl ?_
  refine G_push fx_128_247 ?_
  refine G_add fx_128_248 ?_
  refine G_ia fx_128_249 (Or.inr kd_1) (by omega) (by rw [ln_1]; omega) (by omega) ?_
  rw [hs1]
  refine G_al fx_128_250 rfl (by omega) ?_
  refine G_il fx_128_251 rfl ?_
  refine G_push fx_128_252 ?_
  refine G_add fx_128_253 ?_
  refine G_ia fx_128_254 (Or.inr kd_1) (by omega) (by rw [ln_1]; omega) (by omega) ?_
  rw [hs1]
  refine G_cv fx_128_255 rfl ⟨rfl, rfl⟩ ⟨Nat.le_of_ble_eq_true rfl, Nat.le_of_ble_eq_true rfl, by decide, by decide, hk1, hk2⟩ rfl rfl kd_3 ?_
  refine C_22 hH hS (hsc _) (hsc _) hK2 (fun hc f2 hD => ?_) (fun hc => ?_)
  · have hC2 := CI_dn hC hD
    have hM2 := MM_dn (x := x) hM hD
    have hs2 : f2 1 = sc := hC2.2.2.2.2
    obtain ⟨q1, q2, q3, q4, q5, q6⟩ := hM2
    refine G_al fx_128_258 rfl (by omega) ?_
    refine G_al fx_128_259 rfl (by omega) ?_
    refine G_il fx_128_260 rfl ?_
    refine G_push fx_128_261 ?_
    refine G_add fx_128_262 ?_
    refine G_ia fx_128_263 (Or.inr kd_1) (by omega) (by rw [ln_1]; omega) (by omega) ?_
    rw [hs2]
    refine G_al fx_128_264 rfl (by omega) ?_
    refine G_il fx_128_265 rfl ?_
    refine G_push fx_128_266 ?_
    refine G_add fx_128_267 ?_
    refine G_ia fx_128_268 (Or.inr kd_1) (by omega) (by rw [ln_1]; omega) (by omega) ?_
    rw [hs2]
    refine G_cv fx_128_269 rfl ⟨rfl, rfl⟩ ⟨Nat.le_of_ble_eq_true rfl, Nat.le_of_ble_eq_true rfl, by decide, by decide, hk1, hk2⟩ rfl rfl kd_149 ?_
    refine C_102 (hsc _) (hsc _) q1 q2 q4 q5 q6 (fun _ f3 hD3 _ => ?_) (fun hn => absurd hc hn)
    refine G_iceq fx_128_272 (Or.inr rfl) (fun _ => ?_) (fun h => absurd rfl h)
    exact go f3 _ _ _ _ (VG_tun hV hc.1 hc.2) (vg_cons hV hVh) (CI_dw hC2 (hD3.w q3)) (MM_dw ⟨q1, q2, q3, q4, q5, q6⟩ (hD3.w q3))
  · have hC2 := hC
    have hM2 : MMv f G n hi := hM
    have hs2 : f 1 = sc := hC2.2.2.2.2
    obtain ⟨q1, q2, q3, q4, q5, q6⟩ := hM2
    refine G_al fx_128_258 rfl (by omega) ?_
    refine G_al fx_128_259 rfl (by omega) ?_
    refine G_il fx_128_260 rfl ?_
    refine G_push fx_128_261 ?_
    refine G_add fx_128_262 ?_
    refine G_ia fx_128_263 (Or.inr kd_1) (by omega) (by rw [ln_1]; omega) (by omega) ?_
    rw [hs2]
    refine G_al fx_128_264 rfl (by omega) ?_
    refine G_il fx_128_265 rfl ?_
    refine G_push fx_128_266 ?_
    refine G_add fx_128_267 ?_
    refine G_ia fx_128_268 (Or.inr kd_1) (by omega) (by rw [ln_1]; omega) (by omega) ?_
    rw [hs2]
    refine G_cv fx_128_269 rfl ⟨rfl, rfl⟩ ⟨Nat.le_of_ble_eq_true rfl, Nat.le_of_ble_eq_true rfl, by decide, by decide, hk1, hk2⟩ rfl rfl kd_149 ?_
    refine C_102 (hsc _) (hsc _) q1 q2 q4 q5 q6 (fun hp => absurd hp hc) (fun _ f3 hD3 _ => ?_)
    refine G_iceq fx_128_272 (Or.inr rfl) (fun _ => ?_) (fun h => absurd rfl h)
    exact go f3 G n x hi hV hVh (CI_dw hC2 (hD3.w q3)) (MM_dw ⟨q1, q2, q3, q4, q5, q6⟩ (hD3.w q3))
theorem L_5 (hL : L ≤ 2560) (hk1 : k.1 ≤ xmi 128 7) (hk2 : k.2 ≤ xmi 128 8) (hsc : ∀ j, xok (sc j)) (hV : VG G) (hVh : ∀ i, i < n → VG (hi i)) (hC : CI f G n x hi sc) (hM : MMv f G n hi) (hy : 0 ≤ y ∧ y ≤ (L : Int) - 5) (go : ∀ (f2 : xF) (G2 : Nat → Int) (n2 x2 : Nat) (hi2 : Nat → Nat → Int), VG G2 → (∀ i, i < n2 → VG (hi2 i)) → CI f2 G2 n2 x2 hi2 sc → MMv f2 G2 n2 hi2 → Rg 128 590 k [some (.inr 1), some (.inr 3), some (.inr 149), some (.inl y)] [] (SHL L, f2) Q) : Rg 128 277 k [some (.inr 1), some (.inr 3), some (.inr 149), some (.inl y)] [] (SHL L, f) Q := by
  obtain ⟨hS, hH, hP, hK2, hs1⟩ := hC
  have hC : CI f G n x hi sc := ⟨hS, hH, hP, hK2, hs1⟩
  obtain ⟨m1, m2, m3, m4, m5, m6⟩ := hM
  have hM : MMv f G n hi := ⟨m1, m2, m3, m4, m5, m6⟩
  refine G_al fx_128_277 rfl (by omega) ?_
  refine G_al fx_128_278 rfl (by omega) ?_
  refine G_il fx_128_279 rfl ?_
  refine G_push fx_128_280 ?_
  refine G_add fx_128_281 ?_
  refine G_ia fx_128_282 (Or.inr kd_1) (by omega) (by rw [ln_1]; omega) (by omega) ?_
  rw [hs1]
  refine G_al fx_128_283 rfl (by omega) ?_
  refine G_il fx_128_284 rfl ?_
  refine G_push fx_128_285 ?_
  refine G_add fx_128_286 ?_
  refine G_ia fx_128_287 (Or.inr kd_1) (by omega) (by rw [ln_1]; omega) (by omega) ?_
  rw [hs1]
  refine G_al fx_128_288 rfl (by omega) ?_
  refine G_il fx_128_289 rfl ?_
  refine G_push fx_128_290 ?_
  refine G_add fx_128_291 ?_
  refine G_ia fx_128_292 (Or.inr kd_1) (by omega) (by rw [ln_1]; omega) (by omega) ?_
  rw [hs1]
  refine G_cv fx_128_293 rfl ⟨rfl, rfl⟩ ⟨Nat.le_of_ble_eq_true rfl, Nat.le_of_ble_eq_true rfl, by decide, by decide, hk1, hk2⟩ rfl rfl kd_3 ?_
  refine C_23 hH hS (hsc _) (hsc _) (hsc _) (fun hc f2 hD => ?_) (fun hc => ?_)
  · have hC2 := CI_dn hC hD
    have hM2 := MM_dn (x := x) hM hD
    have hs2 : f2 1 = sc := hC2.2.2.2.2
    obtain ⟨q1, q2, q3, q4, q5, q6⟩ := hM2
    refine G_al fx_128_296 rfl (by omega) ?_
    refine G_al fx_128_297 rfl (by omega) ?_
    refine G_il fx_128_298 rfl ?_
    refine G_push fx_128_299 ?_
    refine G_add fx_128_300 ?_
    refine G_ia fx_128_301 (Or.inr kd_1) (by omega) (by rw [ln_1]; omega) (by omega) ?_
    rw [hs2]
    refine G_al fx_128_302 rfl (by omega) ?_
    refine G_il fx_128_303 rfl ?_
    refine G_push fx_128_304 ?_
    refine G_add fx_128_305 ?_
    refine G_ia fx_128_306 (Or.inr kd_1) (by omega) (by rw [ln_1]; omega) (by omega) ?_
    rw [hs2]
    refine G_al fx_128_307 rfl (by omega) ?_
    refine G_il fx_128_308 rfl ?_
    refine G_push fx_128_309 ?_
    refine G_add fx_128_310 ?_
    refine G_ia fx_128_311 (Or.inr kd_1) (by omega) (by rw [ln_1]; omega) (by omega) ?_
    rw [hs2]
    refine G_cv fx_128_312 rfl ⟨rfl, rfl⟩ ⟨Nat.le_of_ble_eq_true rfl, Nat.le_of_ble_eq_true rfl, by decide, by decide, hk1, hk2⟩ rfl rfl kd_149 ?_
    refine C_103 (hsc _) (hsc _) (hsc _) q1 q2 (fun _ f3 hD3 => ?_) (fun hn => absurd hc hn)
    refine G_iceq fx_128_315 (Or.inr rfl) (fun _ => ?_) (fun h => absurd rfl h)
    exact go f3 _ _ _ _ (VG_beat hV (by omega) hc.2.1 hc.2.2) (vg_cons hV hVh) (CI_dw hC2 (hD3.w q3)) (MM_dw ⟨q1, q2, q3, q4, q5, q6⟩ (hD3.w q3))
  · have hC2 := hC
    have hM2 : MMv f G n hi := hM
    have hs2 : f 1 = sc := hC2.2.2.2.2
    obtain ⟨q1, q2, q3, q4, q5, q6⟩ := hM2
    refine G_al fx_128_296 rfl (by omega) ?_
    refine G_al fx_128_297 rfl (by omega) ?_
    refine G_il fx_128_298 rfl ?_
    refine G_push fx_128_299 ?_
    refine G_add fx_128_300 ?_
    refine G_ia fx_128_301 (Or.inr kd_1) (by omega) (by rw [ln_1]; omega) (by omega) ?_
    rw [hs2]
    refine G_al fx_128_302 rfl (by omega) ?_
    refine G_il fx_128_303 rfl ?_
    refine G_push fx_128_304 ?_
    refine G_add fx_128_305 ?_
    refine G_ia fx_128_306 (Or.inr kd_1) (by omega) (by rw [ln_1]; omega) (by omega) ?_
    rw [hs2]
    refine G_al fx_128_307 rfl (by omega) ?_
    refine G_il fx_128_308 rfl ?_
    refine G_push fx_128_309 ?_
    refine G_add fx_128_310 ?_
    refine G_ia fx_128_311 (Or.inr kd_1) (by omega) (by rw [ln_1]; omega) (by omega) ?_
    rw [hs2]
    refine G_cv fx_128_312 rfl ⟨rfl, rfl⟩ ⟨Nat.le_of_ble_eq_true rfl, Nat.le_of_ble_eq_true rfl, by decide, by decide, hk1, hk2⟩ rfl rfl kd_149 ?_
    refine C_103 (hsc _) (hsc _) (hsc _) q1 q2 (fun hp => absurd hp hc) (fun _ f3 hD3 => ?_)
    refine G_iceq fx_128_315 (Or.inr rfl) (fun _ => ?_) (fun h => absurd rfl h)
    exact go f3 G n x hi hV hVh (CI_dw hC2 (hD3.w q3)) (MM_dw ⟨q1, q2, q3, q4, q5, q6⟩ (hD3.w q3))
theorem L_6 (hL : L ≤ 2560) (hk1 : k.1 ≤ xmi 128 7) (hk2 : k.2 ≤ xmi 128 8) (hsc : ∀ j, xok (sc j)) (hV : VG G) (hVh : ∀ i, i < n → VG (hi i)) (hC : CI f G n x hi sc) (hM : MMv f G n hi) (hy : 0 ≤ y ∧ y ≤ (L : Int) - 5) (go : ∀ (f2 : xF) (G2 : Nat → Int) (n2 x2 : Nat) (hi2 : Nat → Nat → Int), VG G2 → (∀ i, i < n2 → VG (hi2 i)) → CI f2 G2 n2 x2 hi2 sc → MMv f2 G2 n2 hi2 → Rg 128 590 k [some (.inr 1), some (.inr 3), some (.inr 149), some (.inl y)] [] (SHL L, f2) Q) : Rg 128 320 k [some (.inr 1), some (.inr 3), some (.inr 149), some (.inl y)] [] (SHL L, f) Q := by
  obtain ⟨hS, hH, hP, hK2, hs1⟩ := hC
  have hC : CI f G n x hi sc := ⟨hS, hH, hP, hK2, hs1⟩
  obtain ⟨m1, m2, m3, m4, m5, m6⟩ := hM
  have hM : MMv f G n hi := ⟨m1, m2, m3, m4, m5, m6⟩
  refine G_al fx_128_320 rfl (by omega) ?_
  refine G_al fx_128_321 rfl (by omega) ?_
  refine G_il fx_128_322 rfl ?_
  refine G_push fx_128_323 ?_
  refine G_add fx_128_324 ?_
  refine G_ia fx_128_325 (Or.inr kd_1) (by omega) (by rw [ln_1]; omega) (by omega) ?_
  rw [hs1]
  refine G_al fx_128_326 rfl (by omega) ?_
  refine G_il fx_128_327 rfl ?_
  refine G_push fx_128_328 ?_
  refine G_add fx_128_329 ?_
  refine G_ia fx_128_330 (Or.inr kd_1) (by omega) (by rw [ln_1]; omega) (by omega) ?_
  rw [hs1]
  refine G_al fx_128_331 rfl (by omega) ?_
  refine G_il fx_128_332 rfl ?_
  refine G_push fx_128_333 ?_
  refine G_add fx_128_334 ?_
  refine G_ia fx_128_335 (Or.inr kd_1) (by omega) (by rw [ln_1]; omega) (by omega) ?_
  rw [hs1]
  refine G_cv fx_128_336 rfl ⟨rfl, rfl⟩ ⟨Nat.le_of_ble_eq_true rfl, Nat.le_of_ble_eq_true rfl, by decide, by decide, hk1, hk2⟩ rfl rfl kd_3 ?_
  refine C_24 hV hH hS (hsc _) (hsc _) (hsc _) (fun hc1 hc2 hc3 f2 hD => ?_) (fun hc => ?_)
  · have hC2 := CI_dn hC hD
    have hM2 := MM_dn (x := x) hM hD
    have hs2 : f2 1 = sc := hC2.2.2.2.2
    obtain ⟨q1, q2, q3, q4, q5, q6⟩ := hM2
    refine G_al fx_128_339 rfl (by omega) ?_
    refine G_al fx_128_340 rfl (by omega) ?_
    refine G_il fx_128_341 rfl ?_
    refine G_push fx_128_342 ?_
    refine G_add fx_128_343 ?_
    refine G_ia fx_128_344 (Or.inr kd_1) (by omega) (by rw [ln_1]; omega) (by omega) ?_
    rw [hs2]
    refine G_al fx_128_345 rfl (by omega) ?_
    refine G_il fx_128_346 rfl ?_
    refine G_push fx_128_347 ?_
    refine G_add fx_128_348 ?_
    refine G_ia fx_128_349 (Or.inr kd_1) (by omega) (by rw [ln_1]; omega) (by omega) ?_
    rw [hs2]
    refine G_al fx_128_350 rfl (by omega) ?_
    refine G_il fx_128_351 rfl ?_
    refine G_push fx_128_352 ?_
    refine G_add fx_128_353 ?_
    refine G_ia fx_128_354 (Or.inr kd_1) (by omega) (by rw [ln_1]; omega) (by omega) ?_
    rw [hs2]
    refine G_cv fx_128_355 rfl ⟨rfl, rfl⟩ ⟨Nat.le_of_ble_eq_true rfl, Nat.le_of_ble_eq_true rfl, by decide, by decide, hk1, hk2⟩ rfl rfl kd_149 ?_
    refine C_104 hV (hsc _) (hsc _) (hsc _) q1 q2 (fun _ _ _ f3 hD3 => ?_) (fun hn => absurd ⟨hc1, hc2, hc3⟩ hn)
    refine G_iceq fx_128_358 (Or.inr rfl) (fun _ => ?_) (fun h => absurd rfl h)
    exact go f3 _ _ _ _ (VG_file hV (by have := hV.1; omega) (by omega) hc3.1 hc3.2) (vg_cons hV hVh) (CI_dw hC2 (hD3.w q3)) (MM_dw ⟨q1, q2, q3, q4, q5, q6⟩ (hD3.w q3))
  · have hC2 := hC
    have hM2 : MMv f G n hi := hM
    have hs2 : f 1 = sc := hC2.2.2.2.2
    obtain ⟨q1, q2, q3, q4, q5, q6⟩ := hM2
    refine G_al fx_128_339 rfl (by omega) ?_
    refine G_al fx_128_340 rfl (by omega) ?_
    refine G_il fx_128_341 rfl ?_
    refine G_push fx_128_342 ?_
    refine G_add fx_128_343 ?_
    refine G_ia fx_128_344 (Or.inr kd_1) (by omega) (by rw [ln_1]; omega) (by omega) ?_
    rw [hs2]
    refine G_al fx_128_345 rfl (by omega) ?_
    refine G_il fx_128_346 rfl ?_
    refine G_push fx_128_347 ?_
    refine G_add fx_128_348 ?_
    refine G_ia fx_128_349 (Or.inr kd_1) (by omega) (by rw [ln_1]; omega) (by omega) ?_
    rw [hs2]
    refine G_al fx_128_350 rfl (by omega) ?_
    refine G_il fx_128_351 rfl ?_
    refine G_push fx_128_352 ?_
    refine G_add fx_128_353 ?_
    refine G_ia fx_128_354 (Or.inr kd_1) (by omega) (by rw [ln_1]; omega) (by omega) ?_
    rw [hs2]
    refine G_cv fx_128_355 rfl ⟨rfl, rfl⟩ ⟨Nat.le_of_ble_eq_true rfl, Nat.le_of_ble_eq_true rfl, by decide, by decide, hk1, hk2⟩ rfl rfl kd_149 ?_
    refine C_104 hV (hsc _) (hsc _) (hsc _) q1 q2 (fun h1 h2 h3 => absurd ⟨h1, h2, h3⟩ hc) (fun _ f3 hD3 => ?_)
    refine G_iceq fx_128_358 (Or.inr rfl) (fun _ => ?_) (fun h => absurd rfl h)
    exact go f3 G n x hi hV hVh (CI_dw hC2 (hD3.w q3)) (MM_dw ⟨q1, q2, q3, q4, q5, q6⟩ (hD3.w q3))
theorem L_7 (hL : L ≤ 2560) (hk1 : k.1 ≤ xmi 128 7) (hk2 : k.2 ≤ xmi 128 8) (hsc : ∀ j, xok (sc j)) (hV : VG G) (hVh : ∀ i, i < n → VG (hi i)) (hC : CI f G n x hi sc) (hM : MMv f G n hi) (hy : 0 ≤ y ∧ y ≤ (L : Int) - 5) (go : ∀ (f2 : xF) (G2 : Nat → Int) (n2 x2 : Nat) (hi2 : Nat → Nat → Int), VG G2 → (∀ i, i < n2 → VG (hi2 i)) → CI f2 G2 n2 x2 hi2 sc → MMv f2 G2 n2 hi2 → Rg 128 590 k [some (.inr 1), some (.inr 3), some (.inr 149), some (.inl y)] [] (SHL L, f2) Q) : Rg 128 363 k [some (.inr 1), some (.inr 3), some (.inr 149), some (.inl y)] [] (SHL L, f) Q := by
  obtain ⟨hS, hH, hP, hK2, hs1⟩ := hC
  have hC : CI f G n x hi sc := ⟨hS, hH, hP, hK2, hs1⟩
  obtain ⟨m1, m2, m3, m4, m5, m6⟩ := hM
  have hM : MMv f G n hi := ⟨m1, m2, m3, m4, m5, m6⟩
  refine G_al fx_128_363 rfl (by omega) ?_
  refine G_al fx_128_364 rfl (by omega) ?_
  refine G_il fx_128_365 rfl ?_
  refine G_push fx_128_366 ?_
  refine G_add fx_128_367 ?_
  refine G_ia fx_128_368 (Or.inr kd_1) (by omega) (by rw [ln_1]; omega) (by omega) ?_
  rw [hs1]
  refine G_cv fx_128_369 rfl ⟨rfl, rfl⟩ ⟨Nat.le_of_ble_eq_true rfl, Nat.le_of_ble_eq_true rfl, by decide, by decide, hk1, hk2⟩ rfl rfl kd_3 ?_
  refine C_27 hV hS (hsc _) ?_
  · have hC2 := hC
    have hM2 : MMv f G n hi := hM
    rw [fr_eq hS, ws_eq hS]
    have hs2 : f 1 = sc := hC2.2.2.2.2
    obtain ⟨q1, q2, q3, q4, q5, q6⟩ := hM2
    refine G_al fx_128_372 rfl (by omega) ?_
    refine G_al fx_128_373 rfl (by omega) ?_
    refine G_il fx_128_374 rfl ?_
    refine G_push fx_128_375 ?_
    refine G_add fx_128_376 ?_
    refine G_ia fx_128_377 (Or.inr kd_1) (by omega) (by rw [ln_1]; omega) (by omega) ?_
    rw [hs2]
    refine G_cv fx_128_378 rfl ⟨rfl, rfl⟩ ⟨Nat.le_of_ble_eq_true rfl, Nat.le_of_ble_eq_true rfl, by decide, by decide, hk1, hk2⟩ rfl rfl kd_149 ?_
    refine C_108 hV (hsc _) q1 q2 q3 (fun f3 v hv hD3 => ?_)
    refine G_iceq fx_128_381 (Or.inr hv.symm) (fun _ => ?_) (fun h => absurd hv.symm h)
    exact go f3 G n x hi hV hVh (CI_dw hC2 hD3) (MM_dw ⟨q1, q2, q3, q4, q5, q6⟩ hD3)
theorem L_8 (hL : L ≤ 2560) (hk1 : k.1 ≤ xmi 128 7) (hk2 : k.2 ≤ xmi 128 8) (hsc : ∀ j, xok (sc j)) (hV : VG G) (hVh : ∀ i, i < n → VG (hi i)) (hC : CI f G n x hi sc) (hM : MMv f G n hi) (hy : 0 ≤ y ∧ y ≤ (L : Int) - 5) (go : ∀ (f2 : xF) (G2 : Nat → Int) (n2 x2 : Nat) (hi2 : Nat → Nat → Int), VG G2 → (∀ i, i < n2 → VG (hi2 i)) → CI f2 G2 n2 x2 hi2 sc → MMv f2 G2 n2 hi2 → Rg 128 590 k [some (.inr 1), some (.inr 3), some (.inr 149), some (.inl y)] [] (SHL L, f2) Q) : Rg 128 386 k [some (.inr 1), some (.inr 3), some (.inr 149), some (.inl y)] [] (SHL L, f) Q := by
  obtain ⟨hS, hH, hP, hK2, hs1⟩ := hC
  have hC : CI f G n x hi sc := ⟨hS, hH, hP, hK2, hs1⟩
  obtain ⟨m1, m2, m3, m4, m5, m6⟩ := hM
  have hM : MMv f G n hi := ⟨m1, m2, m3, m4, m5, m6⟩
  refine G_al fx_128_386 rfl (by omega) ?_
  refine G_al fx_128_387 rfl (by omega) ?_
  refine G_il fx_128_388 rfl ?_
  refine G_push fx_128_389 ?_
  refine G_add fx_128_390 ?_
  refine G_ia fx_128_391 (Or.inr kd_1) (by omega) (by rw [ln_1]; omega) (by omega) ?_
  rw [hs1]
  refine G_al fx_128_392 rfl (by omega) ?_
  refine G_il fx_128_393 rfl ?_
  refine G_push fx_128_394 ?_
  refine G_add fx_128_395 ?_
  refine G_ia fx_128_396 (Or.inr kd_1) (by omega) (by rw [ln_1]; omega) (by omega) ?_
  rw [hs1]
  refine G_cv fx_128_397 rfl ⟨rfl, rfl⟩ ⟨Nat.le_of_ble_eq_true rfl, Nat.le_of_ble_eq_true rfl, by decide, by decide, hk1, hk2⟩ rfl rfl kd_3 ?_
  refine C_34 hV hS (hsc _) (hsc _) (fun hc1 hc2 => ?_) (fun hc => ?_)
  · have hC2 := hC
    have hM2 : MMv f G n hi := hM
    have hs2 : f 1 = sc := hC2.2.2.2.2
    obtain ⟨q1, q2, q3, q4, q5, q6⟩ := hM2
    refine G_al fx_128_400 rfl (by omega) ?_
    refine G_al fx_128_401 rfl (by omega) ?_
    refine G_il fx_128_402 rfl ?_
    refine G_push fx_128_403 ?_
    refine G_add fx_128_404 ?_
    refine G_ia fx_128_405 (Or.inr kd_1) (by omega) (by rw [ln_1]; omega) (by omega) ?_
    rw [hs2]
    refine G_al fx_128_406 rfl (by omega) ?_
    refine G_il fx_128_407 rfl ?_
    refine G_push fx_128_408 ?_
    refine G_add fx_128_409 ?_
    refine G_ia fx_128_410 (Or.inr kd_1) (by omega) (by rw [ln_1]; omega) (by omega) ?_
    rw [hs2]
    refine G_cv fx_128_411 rfl ⟨rfl, rfl⟩ ⟨Nat.le_of_ble_eq_true rfl, Nat.le_of_ble_eq_true rfl, by decide, by decide, hk1, hk2⟩ rfl rfl kd_149 ?_
    refine C_111 hV (hsc _) (hsc _) q1 q2 (fun _ _ f3 hD3 => ?_) (fun hn => absurd ⟨hc1, hc2⟩ hn)
    refine G_iceq fx_128_414 (Or.inr rfl) (fun _ => ?_) (fun h => absurd rfl h)
    exact go f3 G n x hi hV hVh (CI_dw hC2 (hD3.w q3)) (MM_dw ⟨q1, q2, q3, q4, q5, q6⟩ (hD3.w q3))
  · have hC2 := hC
    have hM2 : MMv f G n hi := hM
    have hs2 : f 1 = sc := hC2.2.2.2.2
    obtain ⟨q1, q2, q3, q4, q5, q6⟩ := hM2
    refine G_al fx_128_400 rfl (by omega) ?_
    refine G_al fx_128_401 rfl (by omega) ?_
    refine G_il fx_128_402 rfl ?_
    refine G_push fx_128_403 ?_
    refine G_add fx_128_404 ?_
    refine G_ia fx_128_405 (Or.inr kd_1) (by omega) (by rw [ln_1]; omega) (by omega) ?_
    rw [hs2]
    refine G_al fx_128_406 rfl (by omega) ?_
    refine G_il fx_128_407 rfl ?_
    refine G_push fx_128_408 ?_
    refine G_add fx_128_409 ?_
    refine G_ia fx_128_410 (Or.inr kd_1) (by omega) (by rw [ln_1]; omega) (by omega) ?_
    rw [hs2]
    refine G_cv fx_128_411 rfl ⟨rfl, rfl⟩ ⟨Nat.le_of_ble_eq_true rfl, Nat.le_of_ble_eq_true rfl, by decide, by decide, hk1, hk2⟩ rfl rfl kd_149 ?_
    refine C_111 hV (hsc _) (hsc _) q1 q2 (fun h1 h2 => absurd ⟨h1, h2⟩ hc) (fun _ f3 hD3 => ?_)
    refine G_iceq fx_128_414 (Or.inr rfl) (fun _ => ?_) (fun h => absurd rfl h)
    exact go f3 G n x hi hV hVh (CI_dw hC2 (hD3.w q3)) (MM_dw ⟨q1, q2, q3, q4, q5, q6⟩ (hD3.w q3))
theorem L_9 (hL : L ≤ 2560) (hk1 : k.1 ≤ xmi 128 7) (hk2 : k.2 ≤ xmi 128 8) (hsc : ∀ j, xok (sc j)) (hV : VG G) (hVh : ∀ i, i < n → VG (hi i)) (hC : CI f G n x hi sc) (hM : MMv f G n hi) (hy : 0 ≤ y ∧ y ≤ (L : Int) - 5) (go : ∀ (f2 : xF) (G2 : Nat → Int) (n2 x2 : Nat) (hi2 : Nat → Nat → Int), VG G2 → (∀ i, i < n2 → VG (hi2 i)) → CI f2 G2 n2 x2 hi2 sc → MMv f2 G2 n2 hi2 → Rg 128 590 k [some (.inr 1), some (.inr 3), some (.inr 149), some (.inl y)] [] (SHL L, f2) Q) : Rg 128 419 k [some (.inr 1), some (.inr 3), some (.inr 149), some (.inl y)] [] (SHL L, f) Q := by
  obtain ⟨hS, hH, hP, hK2, hs1⟩ := hC
  have hC : CI f G n x hi sc := ⟨hS, hH, hP, hK2, hs1⟩
  obtain ⟨m1, m2, m3, m4, m5, m6⟩ := hM
  have hM : MMv f G n hi := ⟨m1, m2, m3, m4, m5, m6⟩
  refine G_al fx_128_419 rfl (by omega) ?_
  refine G_al fx_128_420 rfl (by omega) ?_
  refine G_il fx_128_421 rfl ?_
  refine G_push fx_128_422 ?_
  refine G_add fx_128_423 ?_
  refine G_ia fx_128_424 (Or.inr kd_1) (by omega) (by rw [ln_1]; omega) (by omega) ?_
  rw [hs1]
  refine G_al fx_128_425 rfl (by omega) ?_
  refine G_il fx_128_426 rfl ?_
  refine G_push fx_128_427 ?_
  refine G_add fx_128_428 ?_
  refine G_ia fx_128_429 (Or.inr kd_1) (by omega) (by rw [ln_1]; omega) (by omega) ?_
  rw [hs1]
  refine G_al fx_128_430 rfl (by omega) ?_
  refine G_il fx_128_431 rfl ?_
  refine G_push fx_128_432 ?_
  refine G_add fx_128_433 ?_
  refine G_ia fx_128_434 (Or.inr kd_1) (by omega) (by rw [ln_1]; omega) (by omega) ?_
  rw [hs1]
  refine G_cv fx_128_435 rfl ⟨rfl, rfl⟩ ⟨Nat.le_of_ble_eq_true rfl, Nat.le_of_ble_eq_true rfl, by decide, by decide, hk1, hk2⟩ rfl rfl kd_3 ?_
  refine C_35 hV hS (hsc _) (hsc _) (hsc _) (fun f2 v hv hF => ?_)
  · have hC2 : CI f2 G n x hi sc := hC.kw (fun c hc => hF c (by omega))
    have hM2 : MMv f2 G n hi := hM.kept (fun c hc => hF c (by omega))
    have hs2 : f2 1 = sc := hC2.2.2.2.2
    obtain ⟨q1, q2, q3, q4, q5, q6⟩ := hM2
    refine G_al fx_128_438 rfl (by omega) ?_
    refine G_al fx_128_439 rfl (by omega) ?_
    refine G_il fx_128_440 rfl ?_
    refine G_push fx_128_441 ?_
    refine G_add fx_128_442 ?_
    refine G_ia fx_128_443 (Or.inr kd_1) (by omega) (by rw [ln_1]; omega) (by omega) ?_
    rw [hs2]
    refine G_al fx_128_444 rfl (by omega) ?_
    refine G_il fx_128_445 rfl ?_
    refine G_push fx_128_446 ?_
    refine G_add fx_128_447 ?_
    refine G_ia fx_128_448 (Or.inr kd_1) (by omega) (by rw [ln_1]; omega) (by omega) ?_
    rw [hs2]
    refine G_al fx_128_449 rfl (by omega) ?_
    refine G_il fx_128_450 rfl ?_
    refine G_push fx_128_451 ?_
    refine G_add fx_128_452 ?_
    refine G_ia fx_128_453 (Or.inr kd_1) (by omega) (by rw [ln_1]; omega) (by omega) ?_
    rw [hs2]
    refine G_cv fx_128_454 rfl ⟨rfl, rfl⟩ ⟨Nat.le_of_ble_eq_true rfl, Nat.le_of_ble_eq_true rfl, by decide, by decide, hk1, hk2⟩ rfl rfl kd_149 ?_
    refine C_112 hV (hsc _) (hsc _) (hsc _) q1 q2 q3 (fun f3 v2 hv2 hD3 => ?_)
    refine G_iceq fx_128_457 (Or.inr (hv.trans hv2.symm)) (fun _ => ?_) (fun h => absurd (hv.trans hv2.symm) h)
    exact go f3 G n x hi hV hVh (CI_dw hC2 hD3) (MM_dw ⟨q1, q2, q3, q4, q5, q6⟩ hD3)
theorem L_10 (hL : L ≤ 2560) (hk1 : k.1 ≤ xmi 128 7) (hk2 : k.2 ≤ xmi 128 8) (hsc : ∀ j, xok (sc j)) (hV : VG G) (hVh : ∀ i, i < n → VG (hi i)) (hC : CI f G n x hi sc) (hM : MMv f G n hi) (hy : 0 ≤ y ∧ y ≤ (L : Int) - 5) (go : ∀ (f2 : xF) (G2 : Nat → Int) (n2 x2 : Nat) (hi2 : Nat → Nat → Int), VG G2 → (∀ i, i < n2 → VG (hi2 i)) → CI f2 G2 n2 x2 hi2 sc → MMv f2 G2 n2 hi2 → Rg 128 590 k [some (.inr 1), some (.inr 3), some (.inr 149), some (.inl y)] [] (SHL L, f2) Q) : Rg 128 462 k [some (.inr 1), some (.inr 3), some (.inr 149), some (.inl y)] [] (SHL L, f) Q := by
  obtain ⟨hS, hH, hP, hK2, hs1⟩ := hC
  have hC : CI f G n x hi sc := ⟨hS, hH, hP, hK2, hs1⟩
  obtain ⟨m1, m2, m3, m4, m5, m6⟩ := hM
  have hM : MMv f G n hi := ⟨m1, m2, m3, m4, m5, m6⟩
  refine G_al fx_128_462 rfl (by omega) ?_
  refine G_al fx_128_463 rfl (by omega) ?_
  refine G_il fx_128_464 rfl ?_
  refine G_push fx_128_465 ?_
  refine G_add fx_128_466 ?_
  refine G_ia fx_128_467 (Or.inr kd_1) (by omega) (by rw [ln_1]; omega) (by omega) ?_
  rw [hs1]
  refine G_al fx_128_468 rfl (by omega) ?_
  refine G_il fx_128_469 rfl ?_
  refine G_push fx_128_470 ?_
  refine G_add fx_128_471 ?_
  refine G_ia fx_128_472 (Or.inr kd_1) (by omega) (by rw [ln_1]; omega) (by omega) ?_
  rw [hs1]
  refine G_al fx_128_473 rfl (by omega) ?_
  refine G_il fx_128_474 rfl ?_
  refine G_push fx_128_475 ?_
  refine G_add fx_128_476 ?_
  refine G_ia fx_128_477 (Or.inr kd_1) (by omega) (by rw [ln_1]; omega) (by omega) ?_
  rw [hs1]
  refine G_al fx_128_478 rfl (by omega) ?_
  refine G_il fx_128_479 rfl ?_
  refine G_push fx_128_480 ?_
  refine G_add fx_128_481 ?_
  refine G_ia fx_128_482 (Or.inr kd_1) (by omega) (by rw [ln_1]; omega) (by omega) ?_
  rw [hs1]
  refine G_cv fx_128_483 rfl ⟨rfl, rfl⟩ ⟨Nat.le_of_ble_eq_true rfl, Nat.le_of_ble_eq_true rfl, by decide, by decide, hk1, hk2⟩ rfl rfl kd_3 ?_
  refine C_42 hV hS (hsc _) (hsc _) (hsc _) (hsc _) (fun f2 v hv hF => ?_)
  · have hC2 : CI f2 G n x hi sc := hC.kw (fun c hc => hF c (by omega))
    have hM2 : MMv f2 G n hi := hM.kept (fun c hc => hF c (by omega))
    have hs2 : f2 1 = sc := hC2.2.2.2.2
    obtain ⟨q1, q2, q3, q4, q5, q6⟩ := hM2
    refine G_al fx_128_486 rfl (by omega) ?_
    refine G_al fx_128_487 rfl (by omega) ?_
    refine G_il fx_128_488 rfl ?_
    refine G_push fx_128_489 ?_
    refine G_add fx_128_490 ?_
    refine G_ia fx_128_491 (Or.inr kd_1) (by omega) (by rw [ln_1]; omega) (by omega) ?_
    rw [hs2]
    refine G_al fx_128_492 rfl (by omega) ?_
    refine G_il fx_128_493 rfl ?_
    refine G_push fx_128_494 ?_
    refine G_add fx_128_495 ?_
    refine G_ia fx_128_496 (Or.inr kd_1) (by omega) (by rw [ln_1]; omega) (by omega) ?_
    rw [hs2]
    refine G_al fx_128_497 rfl (by omega) ?_
    refine G_il fx_128_498 rfl ?_
    refine G_push fx_128_499 ?_
    refine G_add fx_128_500 ?_
    refine G_ia fx_128_501 (Or.inr kd_1) (by omega) (by rw [ln_1]; omega) (by omega) ?_
    rw [hs2]
    refine G_al fx_128_502 rfl (by omega) ?_
    refine G_il fx_128_503 rfl ?_
    refine G_push fx_128_504 ?_
    refine G_add fx_128_505 ?_
    refine G_ia fx_128_506 (Or.inr kd_1) (by omega) (by rw [ln_1]; omega) (by omega) ?_
    rw [hs2]
    refine G_cv fx_128_507 rfl ⟨rfl, rfl⟩ ⟨Nat.le_of_ble_eq_true rfl, Nat.le_of_ble_eq_true rfl, by decide, by decide, hk1, hk2⟩ rfl rfl kd_149 ?_
    refine C_115 hV (hsc _) (hsc _) (hsc _) (hsc _) q1 q2 q3 (fun f3 v2 hv2 hD3 => ?_)
    refine G_iceq fx_128_510 (Or.inr (hv.trans hv2.symm)) (fun _ => ?_) (fun h => absurd (hv.trans hv2.symm) h)
    exact go f3 G n x hi hV hVh (CI_dw hC2 hD3) (MM_dw ⟨q1, q2, q3, q4, q5, q6⟩ hD3)
theorem L_11 (hL : L ≤ 2560) (hk1 : k.1 ≤ xmi 128 7) (hk2 : k.2 ≤ xmi 128 8) (hsc : ∀ j, xok (sc j)) (hV : VG G) (hVh : ∀ i, i < n → VG (hi i)) (hC : CI f G n x hi sc) (hM : MMv f G n hi) (hy : 0 ≤ y ∧ y ≤ (L : Int) - 5) (go : ∀ (f2 : xF) (G2 : Nat → Int) (n2 x2 : Nat) (hi2 : Nat → Nat → Int), VG G2 → (∀ i, i < n2 → VG (hi2 i)) → CI f2 G2 n2 x2 hi2 sc → MMv f2 G2 n2 hi2 → Rg 128 590 k [some (.inr 1), some (.inr 3), some (.inr 149), some (.inl y)] [] (SHL L, f2) Q) : Rg 128 515 k [some (.inr 1), some (.inr 3), some (.inr 149), some (.inl y)] [] (SHL L, f) Q := by
  obtain ⟨hS, hH, hP, hK2, hs1⟩ := hC
  have hC : CI f G n x hi sc := ⟨hS, hH, hP, hK2, hs1⟩
  obtain ⟨m1, m2, m3, m4, m5, m6⟩ := hM
  have hM : MMv f G n hi := ⟨m1, m2, m3, m4, m5, m6⟩
  refine G_al fx_128_515 rfl (by omega) ?_
  refine G_al fx_128_516 rfl (by omega) ?_
  refine G_il fx_128_517 rfl ?_
  refine G_push fx_128_518 ?_
  refine G_add fx_128_519 ?_
  refine G_ia fx_128_520 (Or.inr kd_1) (by omega) (by rw [ln_1]; omega) (by omega) ?_
  rw [hs1]
  refine G_cv fx_128_521 rfl ⟨rfl, rfl⟩ ⟨Nat.le_of_ble_eq_true rfl, Nat.le_of_ble_eq_true rfl, by decide, by decide, hk1, hk2⟩ rfl rfl kd_3 ?_
  refine C_56 hV hS hP (hsc _) (fun f2 v hv hF => ?_)
  · have hC2 := CI_pf hC hF
    have hM2 := MM_pf hM hF
    have hs2 : f2 1 = sc := hC2.2.2.2.2
    obtain ⟨q1, q2, q3, q4, q5, q6⟩ := hM2
    refine G_al fx_128_524 rfl (by omega) ?_
    refine G_al fx_128_525 rfl (by omega) ?_
    refine G_il fx_128_526 rfl ?_
    refine G_push fx_128_527 ?_
    refine G_add fx_128_528 ?_
    refine G_ia fx_128_529 (Or.inr kd_1) (by omega) (by rw [ln_1]; omega) (by omega) ?_
    rw [hs2]
    refine G_cv fx_128_530 rfl ⟨rfl, rfl⟩ ⟨Nat.le_of_ble_eq_true rfl, Nat.le_of_ble_eq_true rfl, by decide, by decide, hk1, hk2⟩ rfl rfl kd_149 ?_
    refine C_117 hV (hsc _) q1 q2 q3 (fun f3 v2 hv2 hD3 => ?_)
    refine G_iceq fx_128_533 (Or.inr (hv.trans hv2.symm)) (fun _ => ?_) (fun h => absurd (hv.trans hv2.symm) h)
    exact go f3 G n x hi hV hVh (CI_dw hC2 hD3) (MM_dw ⟨q1, q2, q3, q4, q5, q6⟩ hD3)
theorem L_12 (hL : L ≤ 2560) (hk1 : k.1 ≤ xmi 128 7) (hk2 : k.2 ≤ xmi 128 8) (hsc : ∀ j, xok (sc j)) (hV : VG G) (hVh : ∀ i, i < n → VG (hi i)) (hC : CI f G n x hi sc) (hM : MMv f G n hi) (hy : 0 ≤ y ∧ y ≤ (L : Int) - 5) (go : ∀ (f2 : xF) (G2 : Nat → Int) (n2 x2 : Nat) (hi2 : Nat → Nat → Int), VG G2 → (∀ i, i < n2 → VG (hi2 i)) → CI f2 G2 n2 x2 hi2 sc → MMv f2 G2 n2 hi2 → Rg 128 590 k [some (.inr 1), some (.inr 3), some (.inr 149), some (.inl y)] [] (SHL L, f2) Q) : Rg 128 538 k [some (.inr 1), some (.inr 3), some (.inr 149), some (.inl y)] [] (SHL L, f) Q := by
  obtain ⟨hS, hH, hP, hK2, hs1⟩ := hC
  have hC : CI f G n x hi sc := ⟨hS, hH, hP, hK2, hs1⟩
  obtain ⟨m1, m2, m3, m4, m5, m6⟩ := hM
  have hM : MMv f G n hi := ⟨m1, m2, m3, m4, m5, m6⟩
  refine G_al fx_128_538 rfl (by omega) ?_
  refine G_cv fx_128_539 rfl ⟨rfl, rfl⟩ ⟨Nat.le_of_ble_eq_true rfl, Nat.le_of_ble_eq_true rfl, by decide, by decide, hk1, hk2⟩ rfl rfl kd_3 ?_
  refine C_76 hV hS hP (fun f2 v hv hF => ?_)
  · have hC2 := CI_pf hC hF
    have hM2 := MM_pf hM hF
    have hs2 : f2 1 = sc := hC2.2.2.2.2
    obtain ⟨q1, q2, q3, q4, q5, q6⟩ := hM2
    refine G_al fx_128_542 rfl (by omega) ?_
    refine G_cv fx_128_543 rfl ⟨rfl, rfl⟩ ⟨Nat.le_of_ble_eq_true rfl, Nat.le_of_ble_eq_true rfl, by decide, by decide, hk1, hk2⟩ rfl rfl kd_149 ?_
    refine C_124 hV q1 q2 q3 (fun f3 v2 hv2 hD3 => ?_)
    refine G_iceq fx_128_546 (Or.inr (hv.trans hv2.symm)) (fun _ => ?_) (fun h => absurd (hv.trans hv2.symm) h)
    exact go f3 G n x hi hV hVh (CI_dw hC2 hD3) (MM_dw ⟨q1, q2, q3, q4, q5, q6⟩ hD3)
theorem L_13 (hL : L ≤ 2560) (hk1 : k.1 ≤ xmi 128 7) (hk2 : k.2 ≤ xmi 128 8) (hsc : ∀ j, xok (sc j)) (hV : VG G) (hVh : ∀ i, i < n → VG (hi i)) (hC : CI f G n x hi sc) (hM : MMv f G n hi) (hy : 0 ≤ y ∧ y ≤ (L : Int) - 5) (go : ∀ (f2 : xF) (G2 : Nat → Int) (n2 x2 : Nat) (hi2 : Nat → Nat → Int), VG G2 → (∀ i, i < n2 → VG (hi2 i)) → CI f2 G2 n2 x2 hi2 sc → MMv f2 G2 n2 hi2 → Rg 128 590 k [some (.inr 1), some (.inr 3), some (.inr 149), some (.inl y)] [] (SHL L, f2) Q) : Rg 128 551 k [some (.inr 1), some (.inr 3), some (.inr 149), some (.inl y)] [] (SHL L, f) Q := by
  obtain ⟨hS, hH, hP, hK2, hs1⟩ := hC
  have hC : CI f G n x hi sc := ⟨hS, hH, hP, hK2, hs1⟩
  obtain ⟨m1, m2, m3, m4, m5, m6⟩ := hM
  have hM : MMv f G n hi := ⟨m1, m2, m3, m4, m5, m6⟩
  refine G_al fx_128_551 rfl (by omega) ?_
  refine G_cv fx_128_552 rfl ⟨rfl, rfl⟩ ⟨Nat.le_of_ble_eq_true rfl, Nat.le_of_ble_eq_true rfl, by decide, by decide, hk1, hk2⟩ rfl rfl kd_3 ?_
  refine C_77 hV hS hH hP (fun hc1 hc2 f2 hD => ?_) (fun hc f2 hF => ?_)
  · have hC2 := CI_dk hC hD
    have hM2 := MM_dk (x := x) hM hD
    have hs2 : f2 1 = sc := hC2.2.2.2.2
    obtain ⟨q1, q2, q3, q4, q5, q6⟩ := hM2
    refine G_al fx_128_555 rfl (by omega) ?_
    refine G_cv fx_128_556 rfl ⟨rfl, rfl⟩ ⟨Nat.le_of_ble_eq_true rfl, Nat.le_of_ble_eq_true rfl, by decide, by decide, hk1, hk2⟩ rfl rfl kd_149 ?_
    refine C_125 hV q1 q2 q3 (fun _ _ f3 hD3 => ?_) (fun hn => absurd ⟨hc1, hc2⟩ hn)
    refine G_iceq fx_128_559 (Or.inr rfl) (fun _ => ?_) (fun h => absurd rfl h)
    exact go f3 _ _ _ _ (VG_mkF hV) (vg_cons hV hVh) (CI_dw hC2 hD3) (MM_dw ⟨q1, q2, q3, q4, q5, q6⟩ hD3)
  · have hC2 := CI_pf hC hF
    have hM2 := MM_pf hM hF
    have hs2 : f2 1 = sc := hC2.2.2.2.2
    obtain ⟨q1, q2, q3, q4, q5, q6⟩ := hM2
    refine G_al fx_128_555 rfl (by omega) ?_
    refine G_cv fx_128_556 rfl ⟨rfl, rfl⟩ ⟨Nat.le_of_ble_eq_true rfl, Nat.le_of_ble_eq_true rfl, by decide, by decide, hk1, hk2⟩ rfl rfl kd_149 ?_
    refine C_125 hV q1 q2 q3 (fun h1 h2 => absurd ⟨h1, h2⟩ hc) (fun _ f3 hD3 => ?_)
    refine G_iceq fx_128_559 (Or.inr rfl) (fun _ => ?_) (fun h => absurd rfl h)
    exact go f3 G n x hi hV hVh (CI_dw hC2 hD3) (MM_dw ⟨q1, q2, q3, q4, q5, q6⟩ hD3)
theorem L_14 (hL : L ≤ 2560) (hk1 : k.1 ≤ xmi 128 7) (hk2 : k.2 ≤ xmi 128 8) (hsc : ∀ j, xok (sc j)) (hV : VG G) (hVh : ∀ i, i < n → VG (hi i)) (hC : CI f G n x hi sc) (hM : MMv f G n hi) (hy : 0 ≤ y ∧ y ≤ (L : Int) - 5) (go : ∀ (f2 : xF) (G2 : Nat → Int) (n2 x2 : Nat) (hi2 : Nat → Nat → Int), VG G2 → (∀ i, i < n2 → VG (hi2 i)) → CI f2 G2 n2 x2 hi2 sc → MMv f2 G2 n2 hi2 → Rg 128 590 k [some (.inr 1), some (.inr 3), some (.inr 149), some (.inl y)] [] (SHL L, f2) Q) : Rg 128 564 k [some (.inr 1), some (.inr 3), some (.inr 149), some (.inl y)] [] (SHL L, f) Q := by
  obtain ⟨hS, hH, hP, hK2, hs1⟩ := hC
  have hC : CI f G n x hi sc := ⟨hS, hH, hP, hK2, hs1⟩
  obtain ⟨m1, m2, m3, m4, m5, m6⟩ := hM
  have hM : MMv f G n hi := ⟨m1, m2, m3, m4, m5, m6⟩
  refine G_al fx_128_564 rfl (by omega) ?_
  refine G_cv fx_128_565 rfl ⟨rfl, rfl⟩ ⟨Nat.le_of_ble_eq_true rfl, Nat.le_of_ble_eq_true rfl, by decide, by decide, hk1, hk2⟩ rfl rfl kd_3 ?_
  refine C_82 hV hS hP (fun f2 v hv hF => ?_)
  · have hC2 := CI_pf hC hF
    have hM2 := MM_pf hM hF
    have hs2 : f2 1 = sc := hC2.2.2.2.2
    obtain ⟨q1, q2, q3, q4, q5, q6⟩ := hM2
    refine G_al fx_128_568 rfl (by omega) ?_
    refine G_cv fx_128_569 rfl ⟨rfl, rfl⟩ ⟨Nat.le_of_ble_eq_true rfl, Nat.le_of_ble_eq_true rfl, by decide, by decide, hk1, hk2⟩ rfl rfl kd_149 ?_
    refine C_127 hV q1 q2 q3 (fun f3 v2 hv2 hD3 => ?_)
    refine G_iceq fx_128_572 (Or.inr (LkA_uniq hv hv2)) (fun _ => ?_) (fun h => absurd (LkA_uniq hv hv2) h)
    exact go f3 G n x hi hV hVh (CI_dw hC2 hD3) (MM_dw ⟨q1, q2, q3, q4, q5, q6⟩ hD3)
theorem L_15 (hL : L ≤ 2560) (hk1 : k.1 ≤ xmi 128 7) (hk2 : k.2 ≤ xmi 128 8) (hsc : ∀ j, xok (sc j)) (hV : VG G) (hVh : ∀ i, i < n → VG (hi i)) (hC : CI f G n x hi sc) (hM : MMv f G n hi) (hy : 0 ≤ y ∧ y ≤ (L : Int) - 5) (go : ∀ (f2 : xF) (G2 : Nat → Int) (n2 x2 : Nat) (hi2 : Nat → Nat → Int), VG G2 → (∀ i, i < n2 → VG (hi2 i)) → CI f2 G2 n2 x2 hi2 sc → MMv f2 G2 n2 hi2 → Rg 128 590 k [some (.inr 1), some (.inr 3), some (.inr 149), some (.inl y)] [] (SHL L, f2) Q) : Rg 128 577 k [some (.inr 1), some (.inr 3), some (.inr 149), some (.inl y)] [] (SHL L, f) Q := by
  obtain ⟨hS, hH, hP, hK2, hs1⟩ := hC
  have hC : CI f G n x hi sc := ⟨hS, hH, hP, hK2, hs1⟩
  obtain ⟨m1, m2, m3, m4, m5, m6⟩ := hM
  have hM : MMv f G n hi := ⟨m1, m2, m3, m4, m5, m6⟩
  refine G_al fx_128_577 rfl (by omega) ?_
  refine G_cv fx_128_578 rfl ⟨rfl, rfl⟩ ⟨Nat.le_of_ble_eq_true rfl, Nat.le_of_ble_eq_true rfl, by decide, by decide, hk1, hk2⟩ rfl rfl kd_3 ?_
  refine C_89 hH (fun hc f2 u1 u2 u3 u4 u5 => ?_) (fun hc => ?_)
  · have hC2 : CI f2 (hi 0) (n - 1) ((x + 5) % 6) (fun i => hi (i + 1)) sc := ⟨u1, u2, Or.inl u3, by rw [u5 2 (by omega) (by omega)]; exact hK2, by rw [u5 1 (by omega) (by omega)]; exact hs1⟩
    have hM2 : MMv f2 G n hi := hM.kept (fun c hc => u5 c (by omega) (by omega))
    have hs2 : f2 1 = sc := hC2.2.2.2.2
    obtain ⟨q1, q2, q3, q4, q5, q6⟩ := hM2
    refine G_al fx_128_581 rfl (by omega) ?_
    refine G_cv fx_128_582 rfl ⟨rfl, rfl⟩ ⟨Nat.le_of_ble_eq_true rfl, Nat.le_of_ble_eq_true rfl, by decide, by decide, hk1, hk2⟩ rfl rfl kd_149 ?_
    refine C_92 q1 q2 (fun _ f3 hD3 => ?_) (fun hn => by omega)
    refine G_iceq fx_128_585 (Or.inr rfl) (fun _ => ?_) (fun h => absurd rfl h)
    exact go f3 (hi 0) _ _ _ (hVh 0 hc) (fun i h9 => hVh (i + 1) (by omega)) (CI_dw hC2 (hD3.w q3)) (MM_dw ⟨q1, q2, q3, q4, q5, q6⟩ (hD3.w q3))
  · have hC2 := hC
    have hM2 : MMv f G n hi := hM
    have hs2 : f 1 = sc := hC2.2.2.2.2
    obtain ⟨q1, q2, q3, q4, q5, q6⟩ := hM2
    refine G_al fx_128_581 rfl (by omega) ?_
    refine G_cv fx_128_582 rfl ⟨rfl, rfl⟩ ⟨Nat.le_of_ble_eq_true rfl, Nat.le_of_ble_eq_true rfl, by decide, by decide, hk1, hk2⟩ rfl rfl kd_149 ?_
    refine C_92 q1 q2 (fun hp => by omega) (fun _ f3 hD3 => ?_)
    refine G_iceq fx_128_585 (Or.inr rfl) (fun _ => ?_) (fun h => absurd rfl h)
    exact go f3 G n x hi hV hVh (CI_dw hC2 (hD3.w q3)) (MM_dw ⟨q1, q2, q3, q4, q5, q6⟩ (hD3.w q3))
end LX
