/-! ===== the model: pairWorks ===== -/
def inM (G : Nat → Int) (k a b : Nat) : Prop := G (12 + k) ≤ G (16 + k) → G (12 + k) ≤ G (4 + (2 * k + 1)) - G (4 + 2 * k) + b - a ∧ G (4 + (2 * k + 1)) - G (4 + 2 * k) + b - a ≤ G (16 + k)
def PD (G : Nat → Int) (r q k : Nat) (D : Nat → Nat → Prop) (v : Int) : Prop := ∃ a b : Nat, (a < 101 ∧ b < 101) ∧ D a b ∧ rowv G r (2 * k) a ≠ 268435456 ∧ rowv G q (2 * k + 1) b ≠ 268435456 ∧ inM G k a b ∧ v = jk (rowv G r (2 * k) a) (rowv G q (2 * k + 1) b)
def PV (ps pt pr ot v : Int) : Prop := (v = 268435456 ∧ ps = 1000000) ∨ (v = ((ps * 32 + pt) * 32 + pr) * 32 + ot ∧ (0 ≤ ps ∧ ps ≤ 78) ∧ (0 ≤ pt ∧ pt ≤ 31) ∧ (0 ≤ pr ∧ pr ≤ 31) ∧ 0 ≤ ot ∧ ot ≤ 31)
section PQ
variable {G : Nat → Int} {r q k : Nat} {v : Int} {D D' : Nat → Nat → Prop}
theorem rowv_b2 {s : Nat} (hV : VG G) (hr : r < 12) (hg : (r : Int) < G 0) (k : Nat) : rowv G r s k = 268435456 ∨ (0 ≤ rowv G r s k ∧ rowv G r s k ≤ 1268 ∧ rowv G r s k % 32 ≤ 20 ∧ 0 ≤ rowv G r s k / 32 - rowv G r s k % 32 ∧ rowv G r s k / 32 - rowv G r s k % 32 ≤ 19) := by
  have := hV.2.2.2.2.2 r hr hg
  unfold rowv
  split
  · rcases nr_b (s := s) (x := (k : Int) - 50 + G 2) hV hr hg with h | h
    · exact Or.inl h
    · exact Or.inr ⟨h.1, h.2.1, by omega, h.2.2.2.1, by omega⟩
  · exact Or.inl rfl
theorem PD_congr (h : ∀ a b, a < 101 → b < 101 → rowv G r (2 * k) a ≠ 268435456 → rowv G q (2 * k + 1) b ≠ 268435456 → inM G k a b → (D a b ↔ D' a b)) : ∀ v, PD G r q k D v ↔ PD G r q k D' v := by
  intro v
  constructor
  · rintro ⟨a, b, h1, h2, h3, h4, h5, h6⟩
    exact ⟨a, b, h1, (h a b h1.1 h1.2 h3 h4 h5).mp h2, h3, h4, h5, h6⟩
  · rintro ⟨a, b, h1, h2, h3, h4, h5, h6⟩
    exact ⟨a, b, h1, (h a b h1.1 h1.2 h3 h4 h5).mpr h2, h3, h4, h5, h6⟩
theorem PD_add {a0 b0 : Nat} (h1 : a0 < 101 ∧ b0 < 101) (h3 : rowv G r (2 * k) a0 ≠ 268435456) (h4 : rowv G q (2 * k + 1) b0 ≠ 268435456) (h5 : inM G k a0 b0) (hD : ∀ a b, D' a b ↔ D a b ∨ (a = a0 ∧ b = b0)) : ∀ v, PD G r q k D' v ↔ PD G r q k D v ∨ v = jk (rowv G r (2 * k) a0) (rowv G q (2 * k + 1) b0) := by
  intro v
  constructor
  · rintro ⟨a, b, g1, g2, g3, g4, g5, g6⟩
    rcases (hD a b).mp g2 with h | ⟨rfl, rfl⟩
    · exact Or.inl ⟨a, b, g1, h, g3, g4, g5, g6⟩
    · exact Or.inr g6
  · rintro (⟨a, b, g1, g2, g3, g4, g5, g6⟩ | h)
    · exact ⟨a, b, g1, (hD a b).mpr (Or.inl g2), g3, g4, g5, g6⟩
    · exact ⟨a0, b0, h1, (hD a0 b0).mpr (Or.inr ⟨rfl, rfl⟩), h3, h4, h5, h⟩
theorem pk_of (hV : VG G) (hr : r < 12) (hg : (r : Int) < G 0) (hr2 : q < 12) (hg2 : (q : Int) < G 0) (h : Lst (PD G r q k (fun _ _ => True)) 268435456 v) : v = pk G r q k := by
  refine Lst.uniq (P := PK G r q k) (h.congr (fun v => ⟨?_, ?_⟩)) (pk_is hV hr hg hr2 hg2)
  · rintro ⟨a, b, h1, _, h3, h4, h5, h6⟩
    obtain ⟨x, x1, x2, x3⟩ := rowv_x hV h3
    obtain ⟨y, y1, y2, y3⟩ := rowv_x hV h4
    refine ⟨x, x1, by rw [← x3]; exact h3, y, y1, fun hb => ?_, by rw [← y3]; exact h4, by rw [← x3, ← y3]; exact h6⟩
    have := h5 hb
    omega
  · rintro ⟨x, x1, h3, y, y1, h5, h4, h6⟩
    obtain ⟨a1, a2, a3⟩ := rowv_nr (r := r) (s := 2 * k) hV x x1
    obtain ⟨b1, b2, b3⟩ := rowv_nr (r := q) (s := 2 * k + 1) hV y y1
    refine ⟨_, _, ⟨a2, b2⟩, True.intro, by rw [a1]; exact h3, by rw [b1]; exact h4, fun hb => ?_, by rw [a1, b1]; exact h6⟩
    have := h5 hb
    omega
end PQ
section PP
variable {L : Nat} {f : xF} {Q : List xV → xF → Prop} {G : Nat → Int}
theorem C_116_3 {r q k : Nat} (hV : VG G) (hM : Mg f G) (hr : r < 12) (hg : (r : Int) < G 0) (hq : q < 12) (hgq : (q : Int) < G 0) (hk : k < 4) {a : Nat} (ha : a < 101) (hna : rowv G r (2 * k) a ≠ 268435456) (K : ∀ (g : xF) (v : Int) (X1 X2 X3 X4 X5 : Option xV), WF g f → (∀ c : Nat, c < 101 → MV (g 155 c) (g 156 c) (rowv G r (2 * k) c)) → (∀ c : Nat, c < 101 → MV (g 155 (101 + c)) (g 156 (101 + c)) (rowv G q (2 * k + 1) c)) → PV (g 149 12) (g 149 13) (g 149 14) (g 149 15) v → Lst (PD G r q k (fun a' b' => a' < a + 1)) 268435456 v → Rf (SHL L) 116 352 [some (.inr 149), some (.inl (r : Int)), some (.inl (q : Int)), some (.inl (k : Int)), some (.inl (G (4 + (2 * k + 1)) - G (4 + 2 * k))), some (.inl (a : Int)), X1, X2, X3, X4, X5] [] g Q) : ∀ (n b : Nat) (g : xF) (v : Int) (X2 X3 X4 X5 : Option xV), b + n = 101 → WF g f → (∀ c : Nat, c < 101 → MV (g 155 c) (g 156 c) (rowv G r (2 * k) c)) → (∀ c : Nat, c < 101 → MV (g 155 (101 + c)) (g 156 (101 + c)) (rowv G q (2 * k + 1) c)) → PV (g 149 12) (g 149 13) (g 149 14) (g 149 15) v → Lst (PD G r q k (fun a' b' => a' < a ∨ (a' = a ∧ b' < b))) 268435456 v → Rf (SHL L) 116 79 [some (.inr 149), some (.inl (r : Int)), some (.inl (q : Int)), some (.inl (k : Int)), some (.inl (G (4 + (2 * k + 1)) - G (4 + 2 * k))), some (.inl (a : Int)), some (.inl (b : Int)), X2, X3, X4, X5] [] g Q := by
  have v2 := hV.2.2.1
  have v3 := hV.2.2.2.1 (2 * k) (by omega)
  have v4 := hV.2.2.2.1 (2 * k + 1) (by omega)
  have v5 := hV.2.2.2.2.1 k hk
  intro n
  induction n with
  | zero =>
    intro b g v X2 X3 X4 X5 hb hF hA hB hv hL
    refine R_il fx_116_79 rfl ?_
    refine R_push fx_116_81 ?_
    refine R_icge fx_116_83 (by omega) (fun hc => ?_) (fun hc => by omega)
    exact K g v _ _ _ _ _ hF hA hB hv (hL.congr (PD_congr (fun a2 b2 _ _ _ _ _ => by omega)))
  | succ n ih =>
    intro b g v X2 X3 X4 X5 hb hF hA hB hv hL
    have hMg : Mg g G := hM.kept (hF.2.1 4 (by omega)) (hF.1 150 (by omega) (by omega) (by omega))
    have hA1 := hA a ha
    have hB1 := hB b (by omega)
    have hbA := rowv_b2 (s := 2 * k) hV hr hg a
    have hbB := rowv_b2 (s := 2 * k + 1) hV hq hgq b
    have q1 : g 155 (a : Int).toNat = g 155 a := by rw [Int.toNat_natCast]
    have q2 : g 156 (a : Int).toNat = g 156 a := by rw [Int.toNat_natCast]
    have q3 : g 155 (101 + (b : Int)).toNat = g 155 (101 + b) := by congr 1
    have q4 : g 156 (101 + (b : Int)).toNat = g 156 (101 + b) := by congr 1
    have q5 : g 150 (12 + (k : Int)).toNat = G (12 + k) := by rw [show (12 + (k : Int)).toNat = 12 + k by omega]; exact hMg.2 _ (by omega)
    have q6 : g 150 (16 + (k : Int)).toNat = G (16 + k) := by rw [show (16 + (k : Int)).toNat = 16 + k by omega]; exact hMg.2 _ (by omega)
    have q7 : (k : Int).toNat = k := Int.toNat_natCast k
    unfold MV at hA1 hB1
    have hA2 := hA1.resolve_left (fun z => hna z.1)
    have hv2 := hv
    unfold PV at hv2
    have hO : (0 ≤ g 149 12 ∧ g 149 12 ≤ 1000000) := by rcases hv2 with h | h <;> omega
    have hno : (rowv G q (2 * k + 1) b = 268435456 ∨ ¬ inM G k a b) → Lst (PD G r q k (fun a' b' => a' < a ∨ (a' = a ∧ b' < b + 1))) 268435456 v := fun h => hL.congr (PD_congr (fun a2 b2 _ _ d1 d2 d3 => by
      by_cases e : a2 = a ∧ b2 = b
      · obtain ⟨rfl, rfl⟩ := e
        rcases h with h | h
        · exact absurd h d2
        · exact absurd d3 h
      · omega))
    have hjk : rowv G q (2 * k + 1) b ≠ 268435456 → (jk (rowv G r (2 * k) a) (rowv G q (2 * k + 1) b) = (((g 155 a + g 155 (101 + b)) * 32 + g 156 a) * 32 + (g 155 a - g 156 a)) * 32 + g 156 (101 + b) ∧ (0 ≤ g 155 (101 + b) ∧ g 155 (101 + b) ≤ 39 ∧ 0 ≤ g 156 (101 + b) ∧ g 156 (101 + b) ≤ 20)) := fun h => by
      have hB2 := hB1.resolve_left (fun z => h z.1)
      refine ⟨?_, by omega⟩
      unfold jk
      rw [hA2.2.1, hA2.2.2, hB2.2.1, hB2.2.2]
    have hA3 : (0 ≤ g 155 a ∧ g 155 a ≤ 39 ∧ 0 ≤ g 156 a ∧ g 156 a ≤ 20 ∧ 0 ≤ g 155 a - g 156 a ∧ g 155 a - g 156 a ≤ 19) := by omega
    have hadd : rowv G q (2 * k + 1) b ≠ 268435456 → inM G k a b → Lst (PD G r q k (fun a' b' => a' < a ∨ (a' = a ∧ b' < b + 1))) 268435456 (if jk (rowv G r (2 * k) a) (rowv G q (2 * k + 1) b) < v then jk (rowv G r (2 * k) a) (rowv G q (2 * k + 1) b) else v) := fun h1 h2 => hL.add (by have := hjk h1; omega) (PD_add ⟨ha, by omega⟩ hna h1 h2 (fun a2 b2 => by omega))
    have hO2 : (0 ≤ g 155 (101 + b) ∧ g 155 (101 + b) ≤ 1000000) := by rcases hB1 with h | h <;> omega
    have hq9 : 0 ≤ g 149 12 → g 149 12 ≤ 999999 → (0 ≤ g 149 13 ∧ g 149 13 ≤ 31) ∧ (0 ≤ g 149 14 ∧ g 149 14 ≤ 31) ∧ 0 ≤ g 149 15 ∧ g 149 15 ≤ 31 := by rcases hv2 with h | h <;> omega
    refine R_il fx_116_79 rfl ?_
    refine R_push fx_116_81 ?_
    refine R_icge fx_116_83 (by omega) (fun hc => by omega) (fun hc => ?_)
    refine R_al fx_116_86 rfl (by omega) ?_
    refine R_gr fx_116_87 kd_149 rfl rr_149_8 ?_
    refine R_push fx_116_90 ?_
    refine R_il fx_116_92 rfl ?_
    refine R_add fx_116_94 ?_
    refine R_ia fx_116_95 (Or.inl kd_155) (by omega) (by rw [ln_155]; omega) (by omega) ?_
    refine R_push fx_116_96 ?_
    refine R_icne fx_116_98 (by omega) (fun hn => ?_) (fun hn => ?_)
    · have hnb : rowv G q (2 * k + 1) b ≠ 268435456 := fun z => by rcases hB1 with h | h <;> omega
      have hj := hjk hnb
      refine R_il fx_116_104 rfl ?_
      refine R_il fx_116_106 rfl ?_
      refine R_add fx_116_108 ?_
      refine R_il fx_116_109 rfl ?_
      refine R_sub fx_116_111 ?_
      refine R_is fx_116_112 ?_
      refine R_al fx_116_114 rfl (by omega) ?_
      refine R_il fx_116_115 rfl ?_
      refine R_cv fx_116_116 rfl rfl rfl rfl kd_149 ?_
      refine C_110 (by omega) hMg (by rw [q7]; omega) (fun hbt => ?_) (fun hbt => ?_)
      · refine R_ifeq fx_116_119 (by decide) (fun h => absurd h (by decide)) (fun _ => ?_)
        refine R_il fx_116_122 rfl ?_
        refine R_al fx_116_124 rfl (by omega) ?_
        refine R_gr fx_116_125 kd_149 rfl rr_149_1 ?_
        refine R_push fx_116_128 ?_
        refine R_il fx_116_130 rfl ?_
        refine R_add fx_116_131 ?_
        refine R_ia fx_116_132 (Or.inl kd_150) (by omega) (by rw [ln_150]; omega) (by omega) ?_
        refine R_iclt fx_116_133 (by omega) (fun hw1 => ?_) (fun hw1 => ?_)
        · refine R_inc fx_116_346 rfl ?_
          refine R_goto fx_116_349 ?_
          rw [q7] at hbt
          refine ih (b + 1) g v _ _ _ _ (by omega) hF hA hB hv (hno (Or.inr (fun z => ?_)))
          have z2 := z hbt
          omega
        · refine R_il fx_116_136 rfl ?_
          refine R_al fx_116_138 rfl (by omega) ?_
          refine R_gr fx_116_139 kd_149 rfl rr_149_1 ?_
          refine R_push fx_116_142 ?_
          refine R_il fx_116_144 rfl ?_
          refine R_add fx_116_145 ?_
          refine R_ia fx_116_146 (Or.inl kd_150) (by omega) (by rw [ln_150]; omega) (by omega) ?_
          refine R_icle fx_116_147 (by omega) (fun hw2 => ?_) (fun hw2 => ?_)
          · have hin : inM G k a b := fun z => by (try rw [q7] at hbt); omega
            have hst := hadd hnb hin
            refine R_al fx_116_153 rfl (by omega) ?_
            refine R_gr fx_116_154 kd_149 rfl rr_149_8 ?_
            refine R_il fx_116_157 rfl ?_
            refine R_ia fx_116_159 (Or.inl kd_155) (by omega) (by rw [ln_155]; omega) (by omega) ?_
            refine R_al fx_116_160 rfl (by omega) ?_
            refine R_gr fx_116_161 kd_149 rfl rr_149_8 ?_
            refine R_push fx_116_164 ?_
            refine R_il fx_116_166 rfl ?_
            refine R_add fx_116_168 ?_
            refine R_ia fx_116_169 (Or.inl kd_155) (by omega) (by rw [ln_155]; omega) (by omega) ?_
            refine R_add fx_116_170 ?_
            refine R_is fx_116_171 ?_
            refine R_al fx_116_173 rfl (by omega) ?_
            refine R_gr fx_116_174 kd_149 rfl rr_149_8 ?_
            refine R_il fx_116_177 rfl ?_
            refine R_ia fx_116_179 (Or.inl kd_155) (by omega) (by rw [ln_155]; omega) (by omega) ?_
            refine R_al fx_116_180 rfl (by omega) ?_
            refine R_gr fx_116_181 kd_149 rfl rr_149_9 ?_
            refine R_il fx_116_184 rfl ?_
            refine R_ia fx_116_186 (Or.inl kd_156) (by omega) (by rw [ln_156]; omega) (by omega) ?_
            refine R_sub fx_116_187 ?_
            refine R_is fx_116_188 ?_
            refine R_il fx_116_190 rfl ?_
            refine R_al fx_116_192 rfl (by omega) ?_
            refine R_gf fx_116_193 kd_149 rfl ?_
            refine R_icge fx_116_196 (by omega) (fun hc1 => ?_) (fun hc1 => ?_)
            · refine R_push fx_116_203 ?_
              refine R_is fx_116_204 ?_
              refine R_il fx_116_206 rfl ?_
              refine R_al fx_116_208 rfl (by omega) ?_
              refine R_gf fx_116_209 kd_149 rfl ?_
              refine R_icne fx_116_212 (by omega) (fun hc2 => ?_) (fun hc2 => ?_)
              · refine R_il fx_116_301 rfl ?_
                refine R_ifne fx_116_303 (by decide) (fun h => absurd h (by decide)) (fun _ => ?_)
                refine R_goto fx_116_306 ?_
                refine R_inc fx_116_346 rfl ?_
                refine R_goto fx_116_349 ?_
                rw [if_neg (by rcases hv2 with h | h <;> omega)] at hst
                exact ih (b + 1) g v _ _ _ _ (by omega) hF hA hB hv hst
              · refine R_al fx_116_215 rfl (by omega) ?_
                refine R_gr fx_116_216 kd_149 rfl rr_149_9 ?_
                refine R_il fx_116_219 rfl ?_
                refine R_ia fx_116_221 (Or.inl kd_156) (by omega) (by rw [ln_156]; omega) (by omega) ?_
                refine R_al fx_116_222 rfl (by omega) ?_
                refine R_gf fx_116_223 kd_149 rfl ?_
                have h9 := hq9 (by omega) (by omega)
                refine R_iceq fx_116_226 (by omega) (fun hc3 => ?_) (fun hc3 => ?_)
                · refine R_il fx_116_251 rfl ?_
                  refine R_al fx_116_253 rfl (by omega) ?_
                  refine R_gf fx_116_254 kd_149 rfl ?_
                  refine R_iceq fx_116_257 (by omega) (fun hc5 => ?_) (fun hc5 => ?_)
                  · refine R_al fx_116_277 rfl (by omega) ?_
                    refine R_gr fx_116_278 kd_149 rfl rr_149_9 ?_
                    refine R_push fx_116_281 ?_
                    refine R_il fx_116_283 rfl ?_
                    refine R_add fx_116_285 ?_
                    refine R_ia fx_116_286 (Or.inl kd_156) (by omega) (by rw [ln_156]; omega) (by omega) ?_
                    refine R_al fx_116_287 rfl (by omega) ?_
                    refine R_gf fx_116_288 kd_149 rfl ?_
                    refine R_icge fx_116_291 (by omega) (fun hc7 => ?_) (fun hc7 => ?_)
                    · refine R_push fx_116_298 ?_
                      refine R_is fx_116_299 ?_
                      refine R_il fx_116_301 rfl ?_
                      refine R_ifne fx_116_303 (by decide) (fun h => absurd h (by decide)) (fun _ => ?_)
                      refine R_goto fx_116_306 ?_
                      refine R_inc fx_116_346 rfl ?_
                      refine R_goto fx_116_349 ?_
                      rw [if_neg (by rcases hv2 with h | h <;> omega)] at hst
                      exact ih (b + 1) g v _ _ _ _ (by omega) hF hA hB hv hst
                    · refine R_push fx_116_294 ?_
                      refine R_goto fx_116_295 ?_
                      refine R_is fx_116_299 ?_
                      refine R_il fx_116_301 rfl ?_
                      refine R_ifne fx_116_303 (by decide) (fun _ => ?_) (fun h => absurd h (by decide))
                      refine R_al fx_116_309 rfl (by omega) ?_
                      refine R_il fx_116_310 rfl ?_
                      refine R_pf fx_116_312 kd_149 rfl (fun h => absurd h (by decide)) ?_
                      refine R_al fx_116_315 rfl (by omega) ?_
                      refine R_al fx_116_316 rfl (by omega) ?_
                      refine R_gr fx_116_317 kd_149 rfl rr_149_9 ?_
                      refine R_il fx_116_320 rfl ?_
                      refine R_ia fx_116_322 (Or.inl kd_156) (by omega) (by rw [ln_156]; omega) (by omega) ?_
                      refine R_pf fx_116_323 kd_149 rfl (fun h => absurd h (by decide)) ?_
                      refine R_al fx_116_326 rfl (by omega) ?_
                      refine R_il fx_116_327 rfl ?_
                      refine R_pf fx_116_329 kd_149 rfl (fun h => absurd h (by decide)) ?_
                      refine R_al fx_116_332 rfl (by omega) ?_
                      refine R_al fx_116_333 rfl (by omega) ?_
                      refine R_gr fx_116_334 kd_149 rfl rr_149_9 ?_
                      refine R_push fx_116_337 ?_
                      refine R_il fx_116_339 rfl ?_
                      refine R_add fx_116_341 ?_
                      refine R_ia fx_116_342 (Or.inl kd_156) (by omega) (by rw [ln_156]; omega) (by omega) ?_
                      refine R_pf fx_116_343 kd_149 rfl (fun h => absurd h (by decide)) ?_
                      refine R_inc fx_116_346 rfl ?_
                      refine R_goto fx_116_349 ?_
                      rw [if_pos (by rcases hv2 with h | h <;> omega)] at hst
                      simp only [xup_a (show (156 : Nat) ≠ 149 by omega), xup_a (show (155 : Nat) ≠ 149 by omega)]
                      rw [q1, q2, q3, q4]
                      refine ih (b + 1) _ _ _ _ _ _ (by omega) ⟨fun c c1 c2 c3 => ?_, fun i hi => ?_, fun j hj => ?_, ?_⟩ (fun c hc => ?_) (fun c hc => ?_) (Or.inr ?_) hst
                      · funext y; rw [xup_a c1, xup_a c1, xup_a c1, xup_a c1]; exact congrFun (hF.1 c c1 c2 c3) y
                      · rw [xup_i (by omega), xup_i (by omega), xup_i (by omega), xup_i (by omega)]; exact hF.2.1 i hi
                      · rw [xup_a (by omega), xup_a (by omega), xup_a (by omega), xup_a (by omega)]; exact hF.2.2.1 j hj
                      · rw [xup_i (by omega), xup_i (by omega), xup_i (by omega), xup_i (by omega)]; exact hF.2.2.2
                      · simp only [xup_a (show (156 : Nat) ≠ 149 by omega), xup_a (show (155 : Nat) ≠ 149 by omega)]; exact hA c hc
                      · simp only [xup_a (show (156 : Nat) ≠ 149 by omega), xup_a (show (155 : Nat) ≠ 149 by omega)]; exact hB c hc
                      · rw [xup_i (by omega), xup_i (by omega), xup_i (by omega), xup_s, xup_i (by omega), xup_i (by omega), xup_s, xup_i (by omega), xup_s, xup_s]; exact ⟨hj.1, by omega, by omega, by omega, by omega⟩
                  · refine R_il fx_116_260 rfl ?_
                    refine R_al fx_116_262 rfl (by omega) ?_
                    refine R_gf fx_116_263 kd_149 rfl ?_
                    refine R_icge fx_116_266 (by omega) (fun hc6 => ?_) (fun hc6 => ?_)
                    · refine R_push fx_116_273 ?_
                      refine R_goto fx_116_274 ?_
                      refine R_is fx_116_299 ?_
                      refine R_il fx_116_301 rfl ?_
                      refine R_ifne fx_116_303 (by decide) (fun h => absurd h (by decide)) (fun _ => ?_)
                      refine R_goto fx_116_306 ?_
                      refine R_inc fx_116_346 rfl ?_
                      refine R_goto fx_116_349 ?_
                      rw [if_neg (by rcases hv2 with h | h <;> omega)] at hst
                      exact ih (b + 1) g v _ _ _ _ (by omega) hF hA hB hv hst
                    · refine R_push fx_116_269 ?_
                      refine R_goto fx_116_270 ?_
                      refine R_is fx_116_299 ?_
                      refine R_il fx_116_301 rfl ?_
                      refine R_ifne fx_116_303 (by decide) (fun _ => ?_) (fun h => absurd h (by decide))
                      refine R_al fx_116_309 rfl (by omega) ?_
                      refine R_il fx_116_310 rfl ?_
                      refine R_pf fx_116_312 kd_149 rfl (fun h => absurd h (by decide)) ?_
                      refine R_al fx_116_315 rfl (by omega) ?_
                      refine R_al fx_116_316 rfl (by omega) ?_
                      refine R_gr fx_116_317 kd_149 rfl rr_149_9 ?_
                      refine R_il fx_116_320 rfl ?_
                      refine R_ia fx_116_322 (Or.inl kd_156) (by omega) (by rw [ln_156]; omega) (by omega) ?_
                      refine R_pf fx_116_323 kd_149 rfl (fun h => absurd h (by decide)) ?_
                      refine R_al fx_116_326 rfl (by omega) ?_
                      refine R_il fx_116_327 rfl ?_
                      refine R_pf fx_116_329 kd_149 rfl (fun h => absurd h (by decide)) ?_
                      refine R_al fx_116_332 rfl (by omega) ?_
                      refine R_al fx_116_333 rfl (by omega) ?_
                      refine R_gr fx_116_334 kd_149 rfl rr_149_9 ?_
                      refine R_push fx_116_337 ?_
                      refine R_il fx_116_339 rfl ?_
                      refine R_add fx_116_341 ?_
                      refine R_ia fx_116_342 (Or.inl kd_156) (by omega) (by rw [ln_156]; omega) (by omega) ?_
                      refine R_pf fx_116_343 kd_149 rfl (fun h => absurd h (by decide)) ?_
                      refine R_inc fx_116_346 rfl ?_
                      refine R_goto fx_116_349 ?_
                      rw [if_pos (by rcases hv2 with h | h <;> omega)] at hst
                      simp only [xup_a (show (156 : Nat) ≠ 149 by omega), xup_a (show (155 : Nat) ≠ 149 by omega)]
                      rw [q1, q2, q3, q4]
                      refine ih (b + 1) _ _ _ _ _ _ (by omega) ⟨fun c c1 c2 c3 => ?_, fun i hi => ?_, fun j hj => ?_, ?_⟩ (fun c hc => ?_) (fun c hc => ?_) (Or.inr ?_) hst
                      · funext y; rw [xup_a c1, xup_a c1, xup_a c1, xup_a c1]; exact congrFun (hF.1 c c1 c2 c3) y
                      · rw [xup_i (by omega), xup_i (by omega), xup_i (by omega), xup_i (by omega)]; exact hF.2.1 i hi
                      · rw [xup_a (by omega), xup_a (by omega), xup_a (by omega), xup_a (by omega)]; exact hF.2.2.1 j hj
                      · rw [xup_i (by omega), xup_i (by omega), xup_i (by omega), xup_i (by omega)]; exact hF.2.2.2
                      · simp only [xup_a (show (156 : Nat) ≠ 149 by omega), xup_a (show (155 : Nat) ≠ 149 by omega)]; exact hA c hc
                      · simp only [xup_a (show (156 : Nat) ≠ 149 by omega), xup_a (show (155 : Nat) ≠ 149 by omega)]; exact hB c hc
                      · rw [xup_i (by omega), xup_i (by omega), xup_i (by omega), xup_s, xup_i (by omega), xup_i (by omega), xup_s, xup_i (by omega), xup_s, xup_s]; exact ⟨hj.1, by omega, by omega, by omega, by omega⟩
                · refine R_al fx_116_229 rfl (by omega) ?_
                  refine R_gr fx_116_230 kd_149 rfl rr_149_9 ?_
                  refine R_il fx_116_233 rfl ?_
                  refine R_ia fx_116_235 (Or.inl kd_156) (by omega) (by rw [ln_156]; omega) (by omega) ?_
                  refine R_al fx_116_236 rfl (by omega) ?_
                  refine R_gf fx_116_237 kd_149 rfl ?_
                  refine R_icge fx_116_240 (by omega) (fun hc4 => ?_) (fun hc4 => ?_)
                  · refine R_push fx_116_247 ?_
                    refine R_goto fx_116_248 ?_
                    refine R_is fx_116_299 ?_
                    refine R_il fx_116_301 rfl ?_
                    refine R_ifne fx_116_303 (by decide) (fun h => absurd h (by decide)) (fun _ => ?_)
                    refine R_goto fx_116_306 ?_
                    refine R_inc fx_116_346 rfl ?_
                    refine R_goto fx_116_349 ?_
                    rw [if_neg (by rcases hv2 with h | h <;> omega)] at hst
                    exact ih (b + 1) g v _ _ _ _ (by omega) hF hA hB hv hst
                  · refine R_push fx_116_243 ?_
                    refine R_goto fx_116_244 ?_
                    refine R_is fx_116_299 ?_
                    refine R_il fx_116_301 rfl ?_
                    refine R_ifne fx_116_303 (by decide) (fun _ => ?_) (fun h => absurd h (by decide))
                    refine R_al fx_116_309 rfl (by omega) ?_
                    refine R_il fx_116_310 rfl ?_
                    refine R_pf fx_116_312 kd_149 rfl (fun h => absurd h (by decide)) ?_
                    refine R_al fx_116_315 rfl (by omega) ?_
                    refine R_al fx_116_316 rfl (by omega) ?_
                    refine R_gr fx_116_317 kd_149 rfl rr_149_9 ?_
                    refine R_il fx_116_320 rfl ?_
                    refine R_ia fx_116_322 (Or.inl kd_156) (by omega) (by rw [ln_156]; omega) (by omega) ?_
                    refine R_pf fx_116_323 kd_149 rfl (fun h => absurd h (by decide)) ?_
                    refine R_al fx_116_326 rfl (by omega) ?_
                    refine R_il fx_116_327 rfl ?_
                    refine R_pf fx_116_329 kd_149 rfl (fun h => absurd h (by decide)) ?_
                    refine R_al fx_116_332 rfl (by omega) ?_
                    refine R_al fx_116_333 rfl (by omega) ?_
                    refine R_gr fx_116_334 kd_149 rfl rr_149_9 ?_
                    refine R_push fx_116_337 ?_
                    refine R_il fx_116_339 rfl ?_
                    refine R_add fx_116_341 ?_
                    refine R_ia fx_116_342 (Or.inl kd_156) (by omega) (by rw [ln_156]; omega) (by omega) ?_
                    refine R_pf fx_116_343 kd_149 rfl (fun h => absurd h (by decide)) ?_
                    refine R_inc fx_116_346 rfl ?_
                    refine R_goto fx_116_349 ?_
                    rw [if_pos (by rcases hv2 with h | h <;> omega)] at hst
                    simp only [xup_a (show (156 : Nat) ≠ 149 by omega), xup_a (show (155 : Nat) ≠ 149 by omega)]
                    rw [q1, q2, q3, q4]
                    refine ih (b + 1) _ _ _ _ _ _ (by omega) ⟨fun c c1 c2 c3 => ?_, fun i hi => ?_, fun j hj => ?_, ?_⟩ (fun c hc => ?_) (fun c hc => ?_) (Or.inr ?_) hst
                    · funext y; rw [xup_a c1, xup_a c1, xup_a c1, xup_a c1]; exact congrFun (hF.1 c c1 c2 c3) y
                    · rw [xup_i (by omega), xup_i (by omega), xup_i (by omega), xup_i (by omega)]; exact hF.2.1 i hi
                    · rw [xup_a (by omega), xup_a (by omega), xup_a (by omega), xup_a (by omega)]; exact hF.2.2.1 j hj
                    · rw [xup_i (by omega), xup_i (by omega), xup_i (by omega), xup_i (by omega)]; exact hF.2.2.2
                    · simp only [xup_a (show (156 : Nat) ≠ 149 by omega), xup_a (show (155 : Nat) ≠ 149 by omega)]; exact hA c hc
                    · simp only [xup_a (show (156 : Nat) ≠ 149 by omega), xup_a (show (155 : Nat) ≠ 149 by omega)]; exact hB c hc
                    · rw [xup_i (by omega), xup_i (by omega), xup_i (by omega), xup_s, xup_i (by omega), xup_i (by omega), xup_s, xup_i (by omega), xup_s, xup_s]; exact ⟨hj.1, by omega, by omega, by omega, by omega⟩
            · refine R_push fx_116_199 ?_
              refine R_goto fx_116_200 ?_
              refine R_is fx_116_204 ?_
              refine R_il fx_116_206 rfl ?_
              refine R_al fx_116_208 rfl (by omega) ?_
              refine R_gf fx_116_209 kd_149 rfl ?_
              refine R_icne fx_116_212 (by omega) (fun hc2 => ?_) (fun hc2 => ?_)
              · refine R_il fx_116_301 rfl ?_
                refine R_ifne fx_116_303 (by decide) (fun _ => ?_) (fun h => absurd h (by decide))
                refine R_al fx_116_309 rfl (by omega) ?_
                refine R_il fx_116_310 rfl ?_
                refine R_pf fx_116_312 kd_149 rfl (fun h => absurd h (by decide)) ?_
                refine R_al fx_116_315 rfl (by omega) ?_
                refine R_al fx_116_316 rfl (by omega) ?_
                refine R_gr fx_116_317 kd_149 rfl rr_149_9 ?_
                refine R_il fx_116_320 rfl ?_
                refine R_ia fx_116_322 (Or.inl kd_156) (by omega) (by rw [ln_156]; omega) (by omega) ?_
                refine R_pf fx_116_323 kd_149 rfl (fun h => absurd h (by decide)) ?_
                refine R_al fx_116_326 rfl (by omega) ?_
                refine R_il fx_116_327 rfl ?_
                refine R_pf fx_116_329 kd_149 rfl (fun h => absurd h (by decide)) ?_
                refine R_al fx_116_332 rfl (by omega) ?_
                refine R_al fx_116_333 rfl (by omega) ?_
                refine R_gr fx_116_334 kd_149 rfl rr_149_9 ?_
                refine R_push fx_116_337 ?_
                refine R_il fx_116_339 rfl ?_
                refine R_add fx_116_341 ?_
                refine R_ia fx_116_342 (Or.inl kd_156) (by omega) (by rw [ln_156]; omega) (by omega) ?_
                refine R_pf fx_116_343 kd_149 rfl (fun h => absurd h (by decide)) ?_
                refine R_inc fx_116_346 rfl ?_
                refine R_goto fx_116_349 ?_
                rw [if_pos (by rcases hv2 with h | h <;> omega)] at hst
                simp only [xup_a (show (156 : Nat) ≠ 149 by omega), xup_a (show (155 : Nat) ≠ 149 by omega)]
                rw [q1, q2, q3, q4]
                refine ih (b + 1) _ _ _ _ _ _ (by omega) ⟨fun c c1 c2 c3 => ?_, fun i hi => ?_, fun j hj => ?_, ?_⟩ (fun c hc => ?_) (fun c hc => ?_) (Or.inr ?_) hst
                · funext y; rw [xup_a c1, xup_a c1, xup_a c1, xup_a c1]; exact congrFun (hF.1 c c1 c2 c3) y
                · rw [xup_i (by omega), xup_i (by omega), xup_i (by omega), xup_i (by omega)]; exact hF.2.1 i hi
                · rw [xup_a (by omega), xup_a (by omega), xup_a (by omega), xup_a (by omega)]; exact hF.2.2.1 j hj
                · rw [xup_i (by omega), xup_i (by omega), xup_i (by omega), xup_i (by omega)]; exact hF.2.2.2
                · simp only [xup_a (show (156 : Nat) ≠ 149 by omega), xup_a (show (155 : Nat) ≠ 149 by omega)]; exact hA c hc
                · simp only [xup_a (show (156 : Nat) ≠ 149 by omega), xup_a (show (155 : Nat) ≠ 149 by omega)]; exact hB c hc
                · rw [xup_i (by omega), xup_i (by omega), xup_i (by omega), xup_s, xup_i (by omega), xup_i (by omega), xup_s, xup_i (by omega), xup_s, xup_s]; exact ⟨hj.1, by omega, by omega, by omega, by omega⟩
              · refine R_al fx_116_215 rfl (by omega) ?_
                refine R_gr fx_116_216 kd_149 rfl rr_149_9 ?_
                refine R_il fx_116_219 rfl ?_
                refine R_ia fx_116_221 (Or.inl kd_156) (by omega) (by rw [ln_156]; omega) (by omega) ?_
                refine R_al fx_116_222 rfl (by omega) ?_
                refine R_gf fx_116_223 kd_149 rfl ?_
                have h9 := hq9 (by omega) (by omega)
                refine R_iceq fx_116_226 (by omega) (fun hc3 => ?_) (fun hc3 => ?_)
                · refine R_il fx_116_251 rfl ?_
                  refine R_al fx_116_253 rfl (by omega) ?_
                  refine R_gf fx_116_254 kd_149 rfl ?_
                  refine R_iceq fx_116_257 (by omega) (fun hc5 => ?_) (fun hc5 => ?_)
                  · refine R_al fx_116_277 rfl (by omega) ?_
                    refine R_gr fx_116_278 kd_149 rfl rr_149_9 ?_
                    refine R_push fx_116_281 ?_
                    refine R_il fx_116_283 rfl ?_
                    refine R_add fx_116_285 ?_
                    refine R_ia fx_116_286 (Or.inl kd_156) (by omega) (by rw [ln_156]; omega) (by omega) ?_
                    refine R_al fx_116_287 rfl (by omega) ?_
                    refine R_gf fx_116_288 kd_149 rfl ?_
                    refine R_icge fx_116_291 (by omega) (fun hc7 => ?_) (fun hc7 => ?_)
                    · refine R_push fx_116_298 ?_
                      refine R_is fx_116_299 ?_
                      refine R_il fx_116_301 rfl ?_
                      refine R_ifne fx_116_303 (by decide) (fun h => absurd h (by decide)) (fun _ => ?_)
                      refine R_goto fx_116_306 ?_
                      refine R_inc fx_116_346 rfl ?_
                      refine R_goto fx_116_349 ?_
                      rw [if_neg (by rcases hv2 with h | h <;> omega)] at hst
                      exact ih (b + 1) g v _ _ _ _ (by omega) hF hA hB hv hst
                    · refine R_push fx_116_294 ?_
                      refine R_goto fx_116_295 ?_
                      refine R_is fx_116_299 ?_
                      refine R_il fx_116_301 rfl ?_
                      refine R_ifne fx_116_303 (by decide) (fun _ => ?_) (fun h => absurd h (by decide))
                      refine R_al fx_116_309 rfl (by omega) ?_
                      refine R_il fx_116_310 rfl ?_
                      refine R_pf fx_116_312 kd_149 rfl (fun h => absurd h (by decide)) ?_
                      refine R_al fx_116_315 rfl (by omega) ?_
                      refine R_al fx_116_316 rfl (by omega) ?_
                      refine R_gr fx_116_317 kd_149 rfl rr_149_9 ?_
                      refine R_il fx_116_320 rfl ?_
                      refine R_ia fx_116_322 (Or.inl kd_156) (by omega) (by rw [ln_156]; omega) (by omega) ?_
                      refine R_pf fx_116_323 kd_149 rfl (fun h => absurd h (by decide)) ?_
                      refine R_al fx_116_326 rfl (by omega) ?_
                      refine R_il fx_116_327 rfl ?_
                      refine R_pf fx_116_329 kd_149 rfl (fun h => absurd h (by decide)) ?_
                      refine R_al fx_116_332 rfl (by omega) ?_
                      refine R_al fx_116_333 rfl (by omega) ?_
                      refine R_gr fx_116_334 kd_149 rfl rr_149_9 ?_
                      refine R_push fx_116_337 ?_
                      refine R_il fx_116_339 rfl ?_
                      refine R_add fx_116_341 ?_
                      refine R_ia fx_116_342 (Or.inl kd_156) (by omega) (by rw [ln_156]; omega) (by omega) ?_
                      refine R_pf fx_116_343 kd_149 rfl (fun h => absurd h (by decide)) ?_
                      refine R_inc fx_116_346 rfl ?_
                      refine R_goto fx_116_349 ?_
                      rw [if_pos (by rcases hv2 with h | h <;> omega)] at hst
                      simp only [xup_a (show (156 : Nat) ≠ 149 by omega), xup_a (show (155 : Nat) ≠ 149 by omega)]
                      rw [q1, q2, q3, q4]
                      refine ih (b + 1) _ _ _ _ _ _ (by omega) ⟨fun c c1 c2 c3 => ?_, fun i hi => ?_, fun j hj => ?_, ?_⟩ (fun c hc => ?_) (fun c hc => ?_) (Or.inr ?_) hst
                      · funext y; rw [xup_a c1, xup_a c1, xup_a c1, xup_a c1]; exact congrFun (hF.1 c c1 c2 c3) y
                      · rw [xup_i (by omega), xup_i (by omega), xup_i (by omega), xup_i (by omega)]; exact hF.2.1 i hi
                      · rw [xup_a (by omega), xup_a (by omega), xup_a (by omega), xup_a (by omega)]; exact hF.2.2.1 j hj
                      · rw [xup_i (by omega), xup_i (by omega), xup_i (by omega), xup_i (by omega)]; exact hF.2.2.2
                      · simp only [xup_a (show (156 : Nat) ≠ 149 by omega), xup_a (show (155 : Nat) ≠ 149 by omega)]; exact hA c hc
                      · simp only [xup_a (show (156 : Nat) ≠ 149 by omega), xup_a (show (155 : Nat) ≠ 149 by omega)]; exact hB c hc
                      · rw [xup_i (by omega), xup_i (by omega), xup_i (by omega), xup_s, xup_i (by omega), xup_i (by omega), xup_s, xup_i (by omega), xup_s, xup_s]; exact ⟨hj.1, by omega, by omega, by omega, by omega⟩
                  · refine R_il fx_116_260 rfl ?_
                    refine R_al fx_116_262 rfl (by omega) ?_
                    refine R_gf fx_116_263 kd_149 rfl ?_
                    refine R_icge fx_116_266 (by omega) (fun hc6 => ?_) (fun hc6 => ?_)
                    · refine R_push fx_116_273 ?_
                      refine R_goto fx_116_274 ?_
                      refine R_is fx_116_299 ?_
                      refine R_il fx_116_301 rfl ?_
                      refine R_ifne fx_116_303 (by decide) (fun h => absurd h (by decide)) (fun _ => ?_)
                      refine R_goto fx_116_306 ?_
                      refine R_inc fx_116_346 rfl ?_
                      refine R_goto fx_116_349 ?_
                      rw [if_neg (by rcases hv2 with h | h <;> omega)] at hst
                      exact ih (b + 1) g v _ _ _ _ (by omega) hF hA hB hv hst
                    · refine R_push fx_116_269 ?_
                      refine R_goto fx_116_270 ?_
                      refine R_is fx_116_299 ?_
                      refine R_il fx_116_301 rfl ?_
                      refine R_ifne fx_116_303 (by decide) (fun _ => ?_) (fun h => absurd h (by decide))
                      refine R_al fx_116_309 rfl (by omega) ?_
                      refine R_il fx_116_310 rfl ?_
                      refine R_pf fx_116_312 kd_149 rfl (fun h => absurd h (by decide)) ?_
                      refine R_al fx_116_315 rfl (by omega) ?_
                      refine R_al fx_116_316 rfl (by omega) ?_
                      refine R_gr fx_116_317 kd_149 rfl rr_149_9 ?_
                      refine R_il fx_116_320 rfl ?_
                      refine R_ia fx_116_322 (Or.inl kd_156) (by omega) (by rw [ln_156]; omega) (by omega) ?_
                      refine R_pf fx_116_323 kd_149 rfl (fun h => absurd h (by decide)) ?_
                      refine R_al fx_116_326 rfl (by omega) ?_
                      refine R_il fx_116_327 rfl ?_
                      refine R_pf fx_116_329 kd_149 rfl (fun h => absurd h (by decide)) ?_
                      refine R_al fx_116_332 rfl (by omega) ?_
                      refine R_al fx_116_333 rfl (by omega) ?_
                      refine R_gr fx_116_334 kd_149 rfl rr_149_9 ?_
                      refine R_push fx_116_337 ?_
                      refine R_il fx_116_339 rfl ?_
                      refine R_add fx_116_341 ?_
                      refine R_ia fx_116_342 (Or.inl kd_156) (by omega) (by rw [ln_156]; omega) (by omega) ?_
                      refine R_pf fx_116_343 kd_149 rfl (fun h => absurd h (by decide)) ?_
                      refine R_inc fx_116_346 rfl ?_
                      refine R_goto fx_116_349 ?_
                      rw [if_pos (by rcases hv2 with h | h <;> omega)] at hst
                      simp only [xup_a (show (156 : Nat) ≠ 149 by omega), xup_a (show (155 : Nat) ≠ 149 by omega)]
                      rw [q1, q2, q3, q4]
                      refine ih (b + 1) _ _ _ _ _ _ (by omega) ⟨fun c c1 c2 c3 => ?_, fun i hi => ?_, fun j hj => ?_, ?_⟩ (fun c hc => ?_) (fun c hc => ?_) (Or.inr ?_) hst
                      · funext y; rw [xup_a c1, xup_a c1, xup_a c1, xup_a c1]; exact congrFun (hF.1 c c1 c2 c3) y
                      · rw [xup_i (by omega), xup_i (by omega), xup_i (by omega), xup_i (by omega)]; exact hF.2.1 i hi
                      · rw [xup_a (by omega), xup_a (by omega), xup_a (by omega), xup_a (by omega)]; exact hF.2.2.1 j hj
                      · rw [xup_i (by omega), xup_i (by omega), xup_i (by omega), xup_i (by omega)]; exact hF.2.2.2
                      · simp only [xup_a (show (156 : Nat) ≠ 149 by omega), xup_a (show (155 : Nat) ≠ 149 by omega)]; exact hA c hc
                      · simp only [xup_a (show (156 : Nat) ≠ 149 by omega), xup_a (show (155 : Nat) ≠ 149 by omega)]; exact hB c hc
                      · rw [xup_i (by omega), xup_i (by omega), xup_i (by omega), xup_s, xup_i (by omega), xup_i (by omega), xup_s, xup_i (by omega), xup_s, xup_s]; exact ⟨hj.1, by omega, by omega, by omega, by omega⟩
                · refine R_al fx_116_229 rfl (by omega) ?_
                  refine R_gr fx_116_230 kd_149 rfl rr_149_9 ?_
                  refine R_il fx_116_233 rfl ?_
                  refine R_ia fx_116_235 (Or.inl kd_156) (by omega) (by rw [ln_156]; omega) (by omega) ?_
                  refine R_al fx_116_236 rfl (by omega) ?_
                  refine R_gf fx_116_237 kd_149 rfl ?_
                  refine R_icge fx_116_240 (by omega) (fun hc4 => ?_) (fun hc4 => ?_)
                  · refine R_push fx_116_247 ?_
                    refine R_goto fx_116_248 ?_
                    refine R_is fx_116_299 ?_
                    refine R_il fx_116_301 rfl ?_
                    refine R_ifne fx_116_303 (by decide) (fun h => absurd h (by decide)) (fun _ => ?_)
                    refine R_goto fx_116_306 ?_
                    refine R_inc fx_116_346 rfl ?_
                    refine R_goto fx_116_349 ?_
                    rw [if_neg (by rcases hv2 with h | h <;> omega)] at hst
                    exact ih (b + 1) g v _ _ _ _ (by omega) hF hA hB hv hst
                  · refine R_push fx_116_243 ?_
                    refine R_goto fx_116_244 ?_
                    refine R_is fx_116_299 ?_
                    refine R_il fx_116_301 rfl ?_
                    refine R_ifne fx_116_303 (by decide) (fun _ => ?_) (fun h => absurd h (by decide))
                    refine R_al fx_116_309 rfl (by omega) ?_
                    refine R_il fx_116_310 rfl ?_
                    refine R_pf fx_116_312 kd_149 rfl (fun h => absurd h (by decide)) ?_
                    refine R_al fx_116_315 rfl (by omega) ?_
                    refine R_al fx_116_316 rfl (by omega) ?_
                    refine R_gr fx_116_317 kd_149 rfl rr_149_9 ?_
                    refine R_il fx_116_320 rfl ?_
                    refine R_ia fx_116_322 (Or.inl kd_156) (by omega) (by rw [ln_156]; omega) (by omega) ?_
                    refine R_pf fx_116_323 kd_149 rfl (fun h => absurd h (by decide)) ?_
                    refine R_al fx_116_326 rfl (by omega) ?_
                    refine R_il fx_116_327 rfl ?_
                    refine R_pf fx_116_329 kd_149 rfl (fun h => absurd h (by decide)) ?_
                    refine R_al fx_116_332 rfl (by omega) ?_
                    refine R_al fx_116_333 rfl (by omega) ?_
                    refine R_gr fx_116_334 kd_149 rfl rr_149_9 ?_
                    refine R_push fx_116_337 ?_
                    refine R_il fx_116_339 rfl ?_
                    refine R_add fx_116_341 ?_
                    refine R_ia fx_116_342 (Or.inl kd_156) (by omega) (by rw [ln_156]; omega) (by omega) ?_
                    refine R_pf fx_116_343 kd_149 rfl (fun h => absurd h (by decide)) ?_
                    refine R_inc fx_116_346 rfl ?_
                    refine R_goto fx_116_349 ?_
                    rw [if_pos (by rcases hv2 with h | h <;> omega)] at hst
                    simp only [xup_a (show (156 : Nat) ≠ 149 by omega), xup_a (show (155 : Nat) ≠ 149 by omega)]
                    rw [q1, q2, q3, q4]
                    refine ih (b + 1) _ _ _ _ _ _ (by omega) ⟨fun c c1 c2 c3 => ?_, fun i hi => ?_, fun j hj => ?_, ?_⟩ (fun c hc => ?_) (fun c hc => ?_) (Or.inr ?_) hst
                    · funext y; rw [xup_a c1, xup_a c1, xup_a c1, xup_a c1]; exact congrFun (hF.1 c c1 c2 c3) y
                    · rw [xup_i (by omega), xup_i (by omega), xup_i (by omega), xup_i (by omega)]; exact hF.2.1 i hi
                    · rw [xup_a (by omega), xup_a (by omega), xup_a (by omega), xup_a (by omega)]; exact hF.2.2.1 j hj
                    · rw [xup_i (by omega), xup_i (by omega), xup_i (by omega), xup_i (by omega)]; exact hF.2.2.2
                    · simp only [xup_a (show (156 : Nat) ≠ 149 by omega), xup_a (show (155 : Nat) ≠ 149 by omega)]; exact hA c hc
                    · simp only [xup_a (show (156 : Nat) ≠ 149 by omega), xup_a (show (155 : Nat) ≠ 149 by omega)]; exact hB c hc
                    · rw [xup_i (by omega), xup_i (by omega), xup_i (by omega), xup_s, xup_i (by omega), xup_i (by omega), xup_s, xup_i (by omega), xup_s, xup_s]; exact ⟨hj.1, by omega, by omega, by omega, by omega⟩
          · refine R_goto fx_116_150 ?_
            refine R_inc fx_116_346 rfl ?_
            refine R_goto fx_116_349 ?_
            rw [q7] at hbt
            refine ih (b + 1) g v _ _ _ _ (by omega) hF hA hB hv (hno (Or.inr (fun z => ?_)))
            have z2 := z hbt
            omega
      · refine R_ifeq fx_116_119 (by decide) (fun _ => ?_) (fun h => absurd h (by decide))
        have hin : inM G k a b := fun z => by (try rw [q7] at hbt); omega
        have hst := hadd hnb hin
        refine R_al fx_116_153 rfl (by omega) ?_
        refine R_gr fx_116_154 kd_149 rfl rr_149_8 ?_
        refine R_il fx_116_157 rfl ?_
        refine R_ia fx_116_159 (Or.inl kd_155) (by omega) (by rw [ln_155]; omega) (by omega) ?_
        refine R_al fx_116_160 rfl (by omega) ?_
        refine R_gr fx_116_161 kd_149 rfl rr_149_8 ?_
        refine R_push fx_116_164 ?_
        refine R_il fx_116_166 rfl ?_
        refine R_add fx_116_168 ?_
        refine R_ia fx_116_169 (Or.inl kd_155) (by omega) (by rw [ln_155]; omega) (by omega) ?_
        refine R_add fx_116_170 ?_
        refine R_is fx_116_171 ?_
        refine R_al fx_116_173 rfl (by omega) ?_
        refine R_gr fx_116_174 kd_149 rfl rr_149_8 ?_
        refine R_il fx_116_177 rfl ?_
        refine R_ia fx_116_179 (Or.inl kd_155) (by omega) (by rw [ln_155]; omega) (by omega) ?_
        refine R_al fx_116_180 rfl (by omega) ?_
        refine R_gr fx_116_181 kd_149 rfl rr_149_9 ?_
        refine R_il fx_116_184 rfl ?_
        refine R_ia fx_116_186 (Or.inl kd_156) (by omega) (by rw [ln_156]; omega) (by omega) ?_
        refine R_sub fx_116_187 ?_
        refine R_is fx_116_188 ?_
        refine R_il fx_116_190 rfl ?_
        refine R_al fx_116_192 rfl (by omega) ?_
        refine R_gf fx_116_193 kd_149 rfl ?_
        refine R_icge fx_116_196 (by omega) (fun hc1 => ?_) (fun hc1 => ?_)
        · refine R_push fx_116_203 ?_
          refine R_is fx_116_204 ?_
          refine R_il fx_116_206 rfl ?_
          refine R_al fx_116_208 rfl (by omega) ?_
          refine R_gf fx_116_209 kd_149 rfl ?_
          refine R_icne fx_116_212 (by omega) (fun hc2 => ?_) (fun hc2 => ?_)
          · refine R_il fx_116_301 rfl ?_
            refine R_ifne fx_116_303 (by decide) (fun h => absurd h (by decide)) (fun _ => ?_)
            refine R_goto fx_116_306 ?_
            refine R_inc fx_116_346 rfl ?_
            refine R_goto fx_116_349 ?_
            rw [if_neg (by rcases hv2 with h | h <;> omega)] at hst
            exact ih (b + 1) g v _ _ _ _ (by omega) hF hA hB hv hst
          · refine R_al fx_116_215 rfl (by omega) ?_
            refine R_gr fx_116_216 kd_149 rfl rr_149_9 ?_
            refine R_il fx_116_219 rfl ?_
            refine R_ia fx_116_221 (Or.inl kd_156) (by omega) (by rw [ln_156]; omega) (by omega) ?_
            refine R_al fx_116_222 rfl (by omega) ?_
            refine R_gf fx_116_223 kd_149 rfl ?_
            have h9 := hq9 (by omega) (by omega)
            refine R_iceq fx_116_226 (by omega) (fun hc3 => ?_) (fun hc3 => ?_)
            · refine R_il fx_116_251 rfl ?_
              refine R_al fx_116_253 rfl (by omega) ?_
              refine R_gf fx_116_254 kd_149 rfl ?_
              refine R_iceq fx_116_257 (by omega) (fun hc5 => ?_) (fun hc5 => ?_)
              · refine R_al fx_116_277 rfl (by omega) ?_
                refine R_gr fx_116_278 kd_149 rfl rr_149_9 ?_
                refine R_push fx_116_281 ?_
                refine R_il fx_116_283 rfl ?_
                refine R_add fx_116_285 ?_
                refine R_ia fx_116_286 (Or.inl kd_156) (by omega) (by rw [ln_156]; omega) (by omega) ?_
                refine R_al fx_116_287 rfl (by omega) ?_
                refine R_gf fx_116_288 kd_149 rfl ?_
                refine R_icge fx_116_291 (by omega) (fun hc7 => ?_) (fun hc7 => ?_)
                · refine R_push fx_116_298 ?_
                  refine R_is fx_116_299 ?_
                  refine R_il fx_116_301 rfl ?_
                  refine R_ifne fx_116_303 (by decide) (fun h => absurd h (by decide)) (fun _ => ?_)
                  refine R_goto fx_116_306 ?_
                  refine R_inc fx_116_346 rfl ?_
                  refine R_goto fx_116_349 ?_
                  rw [if_neg (by rcases hv2 with h | h <;> omega)] at hst
                  exact ih (b + 1) g v _ _ _ _ (by omega) hF hA hB hv hst
                · refine R_push fx_116_294 ?_
                  refine R_goto fx_116_295 ?_
                  refine R_is fx_116_299 ?_
                  refine R_il fx_116_301 rfl ?_
                  refine R_ifne fx_116_303 (by decide) (fun _ => ?_) (fun h => absurd h (by decide))
                  refine R_al fx_116_309 rfl (by omega) ?_
                  refine R_il fx_116_310 rfl ?_
                  refine R_pf fx_116_312 kd_149 rfl (fun h => absurd h (by decide)) ?_
                  refine R_al fx_116_315 rfl (by omega) ?_
                  refine R_al fx_116_316 rfl (by omega) ?_
                  refine R_gr fx_116_317 kd_149 rfl rr_149_9 ?_
                  refine R_il fx_116_320 rfl ?_
                  refine R_ia fx_116_322 (Or.inl kd_156) (by omega) (by rw [ln_156]; omega) (by omega) ?_
                  refine R_pf fx_116_323 kd_149 rfl (fun h => absurd h (by decide)) ?_
                  refine R_al fx_116_326 rfl (by omega) ?_
                  refine R_il fx_116_327 rfl ?_
                  refine R_pf fx_116_329 kd_149 rfl (fun h => absurd h (by decide)) ?_
                  refine R_al fx_116_332 rfl (by omega) ?_
                  refine R_al fx_116_333 rfl (by omega) ?_
                  refine R_gr fx_116_334 kd_149 rfl rr_149_9 ?_
                  refine R_push fx_116_337 ?_
                  refine R_il fx_116_339 rfl ?_
                  refine R_add fx_116_341 ?_
                  refine R_ia fx_116_342 (Or.inl kd_156) (by omega) (by rw [ln_156]; omega) (by omega) ?_
                  refine R_pf fx_116_343 kd_149 rfl (fun h => absurd h (by decide)) ?_
                  refine R_inc fx_116_346 rfl ?_
                  refine R_goto fx_116_349 ?_
                  rw [if_pos (by rcases hv2 with h | h <;> omega)] at hst
                  simp only [xup_a (show (156 : Nat) ≠ 149 by omega), xup_a (show (155 : Nat) ≠ 149 by omega)]
                  rw [q1, q2, q3, q4]
                  refine ih (b + 1) _ _ _ _ _ _ (by omega) ⟨fun c c1 c2 c3 => ?_, fun i hi => ?_, fun j hj => ?_, ?_⟩ (fun c hc => ?_) (fun c hc => ?_) (Or.inr ?_) hst
                  · funext y; rw [xup_a c1, xup_a c1, xup_a c1, xup_a c1]; exact congrFun (hF.1 c c1 c2 c3) y
                  · rw [xup_i (by omega), xup_i (by omega), xup_i (by omega), xup_i (by omega)]; exact hF.2.1 i hi
                  · rw [xup_a (by omega), xup_a (by omega), xup_a (by omega), xup_a (by omega)]; exact hF.2.2.1 j hj
                  · rw [xup_i (by omega), xup_i (by omega), xup_i (by omega), xup_i (by omega)]; exact hF.2.2.2
                  · simp only [xup_a (show (156 : Nat) ≠ 149 by omega), xup_a (show (155 : Nat) ≠ 149 by omega)]; exact hA c hc
                  · simp only [xup_a (show (156 : Nat) ≠ 149 by omega), xup_a (show (155 : Nat) ≠ 149 by omega)]; exact hB c hc
                  · rw [xup_i (by omega), xup_i (by omega), xup_i (by omega), xup_s, xup_i (by omega), xup_i (by omega), xup_s, xup_i (by omega), xup_s, xup_s]; exact ⟨hj.1, by omega, by omega, by omega, by omega⟩
              · refine R_il fx_116_260 rfl ?_
                refine R_al fx_116_262 rfl (by omega) ?_
                refine R_gf fx_116_263 kd_149 rfl ?_
                refine R_icge fx_116_266 (by omega) (fun hc6 => ?_) (fun hc6 => ?_)
                · refine R_push fx_116_273 ?_
                  refine R_goto fx_116_274 ?_
                  refine R_is fx_116_299 ?_
                  refine R_il fx_116_301 rfl ?_
                  refine R_ifne fx_116_303 (by decide) (fun h => absurd h (by decide)) (fun _ => ?_)
                  refine R_goto fx_116_306 ?_
                  refine R_inc fx_116_346 rfl ?_
                  refine R_goto fx_116_349 ?_
                  rw [if_neg (by rcases hv2 with h | h <;> omega)] at hst
                  exact ih (b + 1) g v _ _ _ _ (by omega) hF hA hB hv hst
                · refine R_push fx_116_269 ?_
                  refine R_goto fx_116_270 ?_
                  refine R_is fx_116_299 ?_
                  refine R_il fx_116_301 rfl ?_
                  refine R_ifne fx_116_303 (by decide) (fun _ => ?_) (fun h => absurd h (by decide))
                  refine R_al fx_116_309 rfl (by omega) ?_
                  refine R_il fx_116_310 rfl ?_
                  refine R_pf fx_116_312 kd_149 rfl (fun h => absurd h (by decide)) ?_
                  refine R_al fx_116_315 rfl (by omega) ?_
                  refine R_al fx_116_316 rfl (by omega) ?_
                  refine R_gr fx_116_317 kd_149 rfl rr_149_9 ?_
                  refine R_il fx_116_320 rfl ?_
                  refine R_ia fx_116_322 (Or.inl kd_156) (by omega) (by rw [ln_156]; omega) (by omega) ?_
                  refine R_pf fx_116_323 kd_149 rfl (fun h => absurd h (by decide)) ?_
                  refine R_al fx_116_326 rfl (by omega) ?_
                  refine R_il fx_116_327 rfl ?_
                  refine R_pf fx_116_329 kd_149 rfl (fun h => absurd h (by decide)) ?_
                  refine R_al fx_116_332 rfl (by omega) ?_
                  refine R_al fx_116_333 rfl (by omega) ?_
                  refine R_gr fx_116_334 kd_149 rfl rr_149_9 ?_
                  refine R_push fx_116_337 ?_
                  refine R_il fx_116_339 rfl ?_
                  refine R_add fx_116_341 ?_
                  refine R_ia fx_116_342 (Or.inl kd_156) (by omega) (by rw [ln_156]; omega) (by omega) ?_
                  refine R_pf fx_116_343 kd_149 rfl (fun h => absurd h (by decide)) ?_
                  refine R_inc fx_116_346 rfl ?_
                  refine R_goto fx_116_349 ?_
                  rw [if_pos (by rcases hv2 with h | h <;> omega)] at hst
                  simp only [xup_a (show (156 : Nat) ≠ 149 by omega), xup_a (show (155 : Nat) ≠ 149 by omega)]
                  rw [q1, q2, q3, q4]
                  refine ih (b + 1) _ _ _ _ _ _ (by omega) ⟨fun c c1 c2 c3 => ?_, fun i hi => ?_, fun j hj => ?_, ?_⟩ (fun c hc => ?_) (fun c hc => ?_) (Or.inr ?_) hst
                  · funext y; rw [xup_a c1, xup_a c1, xup_a c1, xup_a c1]; exact congrFun (hF.1 c c1 c2 c3) y
                  · rw [xup_i (by omega), xup_i (by omega), xup_i (by omega), xup_i (by omega)]; exact hF.2.1 i hi
                  · rw [xup_a (by omega), xup_a (by omega), xup_a (by omega), xup_a (by omega)]; exact hF.2.2.1 j hj
                  · rw [xup_i (by omega), xup_i (by omega), xup_i (by omega), xup_i (by omega)]; exact hF.2.2.2
                  · simp only [xup_a (show (156 : Nat) ≠ 149 by omega), xup_a (show (155 : Nat) ≠ 149 by omega)]; exact hA c hc
                  · simp only [xup_a (show (156 : Nat) ≠ 149 by omega), xup_a (show (155 : Nat) ≠ 149 by omega)]; exact hB c hc
                  · rw [xup_i (by omega), xup_i (by omega), xup_i (by omega), xup_s, xup_i (by omega), xup_i (by omega), xup_s, xup_i (by omega), xup_s, xup_s]; exact ⟨hj.1, by omega, by omega, by omega, by omega⟩
            · refine R_al fx_116_229 rfl (by omega) ?_
              refine R_gr fx_116_230 kd_149 rfl rr_149_9 ?_
              refine R_il fx_116_233 rfl ?_
              refine R_ia fx_116_235 (Or.inl kd_156) (by omega) (by rw [ln_156]; omega) (by omega) ?_
              refine R_al fx_116_236 rfl (by omega) ?_
              refine R_gf fx_116_237 kd_149 rfl ?_
              refine R_icge fx_116_240 (by omega) (fun hc4 => ?_) (fun hc4 => ?_)
              · refine R_push fx_116_247 ?_
                refine R_goto fx_116_248 ?_
                refine R_is fx_116_299 ?_
                refine R_il fx_116_301 rfl ?_
                refine R_ifne fx_116_303 (by decide) (fun h => absurd h (by decide)) (fun _ => ?_)
                refine R_goto fx_116_306 ?_
                refine R_inc fx_116_346 rfl ?_
                refine R_goto fx_116_349 ?_
                rw [if_neg (by rcases hv2 with h | h <;> omega)] at hst
                exact ih (b + 1) g v _ _ _ _ (by omega) hF hA hB hv hst
              · refine R_push fx_116_243 ?_
                refine R_goto fx_116_244 ?_
                refine R_is fx_116_299 ?_
                refine R_il fx_116_301 rfl ?_
                refine R_ifne fx_116_303 (by decide) (fun _ => ?_) (fun h => absurd h (by decide))
                refine R_al fx_116_309 rfl (by omega) ?_
                refine R_il fx_116_310 rfl ?_
                refine R_pf fx_116_312 kd_149 rfl (fun h => absurd h (by decide)) ?_
                refine R_al fx_116_315 rfl (by omega) ?_
                refine R_al fx_116_316 rfl (by omega) ?_
                refine R_gr fx_116_317 kd_149 rfl rr_149_9 ?_
                refine R_il fx_116_320 rfl ?_
                refine R_ia fx_116_322 (Or.inl kd_156) (by omega) (by rw [ln_156]; omega) (by omega) ?_
                refine R_pf fx_116_323 kd_149 rfl (fun h => absurd h (by decide)) ?_
                refine R_al fx_116_326 rfl (by omega) ?_
                refine R_il fx_116_327 rfl ?_
                refine R_pf fx_116_329 kd_149 rfl (fun h => absurd h (by decide)) ?_
                refine R_al fx_116_332 rfl (by omega) ?_
                refine R_al fx_116_333 rfl (by omega) ?_
                refine R_gr fx_116_334 kd_149 rfl rr_149_9 ?_
                refine R_push fx_116_337 ?_
                refine R_il fx_116_339 rfl ?_
                refine R_add fx_116_341 ?_
                refine R_ia fx_116_342 (Or.inl kd_156) (by omega) (by rw [ln_156]; omega) (by omega) ?_
                refine R_pf fx_116_343 kd_149 rfl (fun h => absurd h (by decide)) ?_
                refine R_inc fx_116_346 rfl ?_
                refine R_goto fx_116_349 ?_
                rw [if_pos (by rcases hv2 with h | h <;> omega)] at hst
                simp only [xup_a (show (156 : Nat) ≠ 149 by omega), xup_a (show (155 : Nat) ≠ 149 by omega)]
                rw [q1, q2, q3, q4]
                refine ih (b + 1) _ _ _ _ _ _ (by omega) ⟨fun c c1 c2 c3 => ?_, fun i hi => ?_, fun j hj => ?_, ?_⟩ (fun c hc => ?_) (fun c hc => ?_) (Or.inr ?_) hst
                · funext y; rw [xup_a c1, xup_a c1, xup_a c1, xup_a c1]; exact congrFun (hF.1 c c1 c2 c3) y
                · rw [xup_i (by omega), xup_i (by omega), xup_i (by omega), xup_i (by omega)]; exact hF.2.1 i hi
                · rw [xup_a (by omega), xup_a (by omega), xup_a (by omega), xup_a (by omega)]; exact hF.2.2.1 j hj
                · rw [xup_i (by omega), xup_i (by omega), xup_i (by omega), xup_i (by omega)]; exact hF.2.2.2
                · simp only [xup_a (show (156 : Nat) ≠ 149 by omega), xup_a (show (155 : Nat) ≠ 149 by omega)]; exact hA c hc
                · simp only [xup_a (show (156 : Nat) ≠ 149 by omega), xup_a (show (155 : Nat) ≠ 149 by omega)]; exact hB c hc
                · rw [xup_i (by omega), xup_i (by omega), xup_i (by omega), xup_s, xup_i (by omega), xup_i (by omega), xup_s, xup_i (by omega), xup_s, xup_s]; exact ⟨hj.1, by omega, by omega, by omega, by omega⟩
        · refine R_push fx_116_199 ?_
          refine R_goto fx_116_200 ?_
          refine R_is fx_116_204 ?_
          refine R_il fx_116_206 rfl ?_
          refine R_al fx_116_208 rfl (by omega) ?_
          refine R_gf fx_116_209 kd_149 rfl ?_
          refine R_icne fx_116_212 (by omega) (fun hc2 => ?_) (fun hc2 => ?_)
          · refine R_il fx_116_301 rfl ?_
            refine R_ifne fx_116_303 (by decide) (fun _ => ?_) (fun h => absurd h (by decide))
            refine R_al fx_116_309 rfl (by omega) ?_
            refine R_il fx_116_310 rfl ?_
            refine R_pf fx_116_312 kd_149 rfl (fun h => absurd h (by decide)) ?_
            refine R_al fx_116_315 rfl (by omega) ?_
            refine R_al fx_116_316 rfl (by omega) ?_
            refine R_gr fx_116_317 kd_149 rfl rr_149_9 ?_
            refine R_il fx_116_320 rfl ?_
            refine R_ia fx_116_322 (Or.inl kd_156) (by omega) (by rw [ln_156]; omega) (by omega) ?_
            refine R_pf fx_116_323 kd_149 rfl (fun h => absurd h (by decide)) ?_
            refine R_al fx_116_326 rfl (by omega) ?_
            refine R_il fx_116_327 rfl ?_
            refine R_pf fx_116_329 kd_149 rfl (fun h => absurd h (by decide)) ?_
            refine R_al fx_116_332 rfl (by omega) ?_
            refine R_al fx_116_333 rfl (by omega) ?_
            refine R_gr fx_116_334 kd_149 rfl rr_149_9 ?_
            refine R_push fx_116_337 ?_
            refine R_il fx_116_339 rfl ?_
            refine R_add fx_116_341 ?_
            refine R_ia fx_116_342 (Or.inl kd_156) (by omega) (by rw [ln_156]; omega) (by omega) ?_
            refine R_pf fx_116_343 kd_149 rfl (fun h => absurd h (by decide)) ?_
            refine R_inc fx_116_346 rfl ?_
            refine R_goto fx_116_349 ?_
            rw [if_pos (by rcases hv2 with h | h <;> omega)] at hst
            simp only [xup_a (show (156 : Nat) ≠ 149 by omega), xup_a (show (155 : Nat) ≠ 149 by omega)]
            rw [q1, q2, q3, q4]
            refine ih (b + 1) _ _ _ _ _ _ (by omega) ⟨fun c c1 c2 c3 => ?_, fun i hi => ?_, fun j hj => ?_, ?_⟩ (fun c hc => ?_) (fun c hc => ?_) (Or.inr ?_) hst
            · funext y; rw [xup_a c1, xup_a c1, xup_a c1, xup_a c1]; exact congrFun (hF.1 c c1 c2 c3) y
            · rw [xup_i (by omega), xup_i (by omega), xup_i (by omega), xup_i (by omega)]; exact hF.2.1 i hi
            · rw [xup_a (by omega), xup_a (by omega), xup_a (by omega), xup_a (by omega)]; exact hF.2.2.1 j hj
            · rw [xup_i (by omega), xup_i (by omega), xup_i (by omega), xup_i (by omega)]; exact hF.2.2.2
            · simp only [xup_a (show (156 : Nat) ≠ 149 by omega), xup_a (show (155 : Nat) ≠ 149 by omega)]; exact hA c hc
            · simp only [xup_a (show (156 : Nat) ≠ 149 by omega), xup_a (show (155 : Nat) ≠ 149 by omega)]; exact hB c hc
            · rw [xup_i (by omega), xup_i (by omega), xup_i (by omega), xup_s, xup_i (by omega), xup_i (by omega), xup_s, xup_i (by omega), xup_s, xup_s]; exact ⟨hj.1, by omega, by omega, by omega, by omega⟩
          · refine R_al fx_116_215 rfl (by omega) ?_
            refine R_gr fx_116_216 kd_149 rfl rr_149_9 ?_
            refine R_il fx_116_219 rfl ?_
            refine R_ia fx_116_221 (Or.inl kd_156) (by omega) (by rw [ln_156]; omega) (by omega) ?_
            refine R_al fx_116_222 rfl (by omega) ?_
            refine R_gf fx_116_223 kd_149 rfl ?_
            have h9 := hq9 (by omega) (by omega)
            refine R_iceq fx_116_226 (by omega) (fun hc3 => ?_) (fun hc3 => ?_)
            · refine R_il fx_116_251 rfl ?_
              refine R_al fx_116_253 rfl (by omega) ?_
              refine R_gf fx_116_254 kd_149 rfl ?_
              refine R_iceq fx_116_257 (by omega) (fun hc5 => ?_) (fun hc5 => ?_)
              · refine R_al fx_116_277 rfl (by omega) ?_
                refine R_gr fx_116_278 kd_149 rfl rr_149_9 ?_
                refine R_push fx_116_281 ?_
                refine R_il fx_116_283 rfl ?_
                refine R_add fx_116_285 ?_
                refine R_ia fx_116_286 (Or.inl kd_156) (by omega) (by rw [ln_156]; omega) (by omega) ?_
                refine R_al fx_116_287 rfl (by omega) ?_
                refine R_gf fx_116_288 kd_149 rfl ?_
                refine R_icge fx_116_291 (by omega) (fun hc7 => ?_) (fun hc7 => ?_)
                · refine R_push fx_116_298 ?_
                  refine R_is fx_116_299 ?_
                  refine R_il fx_116_301 rfl ?_
                  refine R_ifne fx_116_303 (by decide) (fun h => absurd h (by decide)) (fun _ => ?_)
                  refine R_goto fx_116_306 ?_
                  refine R_inc fx_116_346 rfl ?_
                  refine R_goto fx_116_349 ?_
                  rw [if_neg (by rcases hv2 with h | h <;> omega)] at hst
                  exact ih (b + 1) g v _ _ _ _ (by omega) hF hA hB hv hst
                · refine R_push fx_116_294 ?_
                  refine R_goto fx_116_295 ?_
                  refine R_is fx_116_299 ?_
                  refine R_il fx_116_301 rfl ?_
                  refine R_ifne fx_116_303 (by decide) (fun _ => ?_) (fun h => absurd h (by decide))
                  refine R_al fx_116_309 rfl (by omega) ?_
                  refine R_il fx_116_310 rfl ?_
                  refine R_pf fx_116_312 kd_149 rfl (fun h => absurd h (by decide)) ?_
                  refine R_al fx_116_315 rfl (by omega) ?_
                  refine R_al fx_116_316 rfl (by omega) ?_
                  refine R_gr fx_116_317 kd_149 rfl rr_149_9 ?_
                  refine R_il fx_116_320 rfl ?_
                  refine R_ia fx_116_322 (Or.inl kd_156) (by omega) (by rw [ln_156]; omega) (by omega) ?_
                  refine R_pf fx_116_323 kd_149 rfl (fun h => absurd h (by decide)) ?_
                  refine R_al fx_116_326 rfl (by omega) ?_
                  refine R_il fx_116_327 rfl ?_
                  refine R_pf fx_116_329 kd_149 rfl (fun h => absurd h (by decide)) ?_
                  refine R_al fx_116_332 rfl (by omega) ?_
                  refine R_al fx_116_333 rfl (by omega) ?_
                  refine R_gr fx_116_334 kd_149 rfl rr_149_9 ?_
                  refine R_push fx_116_337 ?_
                  refine R_il fx_116_339 rfl ?_
                  refine R_add fx_116_341 ?_
                  refine R_ia fx_116_342 (Or.inl kd_156) (by omega) (by rw [ln_156]; omega) (by omega) ?_
                  refine R_pf fx_116_343 kd_149 rfl (fun h => absurd h (by decide)) ?_
                  refine R_inc fx_116_346 rfl ?_
                  refine R_goto fx_116_349 ?_
                  rw [if_pos (by rcases hv2 with h | h <;> omega)] at hst
                  simp only [xup_a (show (156 : Nat) ≠ 149 by omega), xup_a (show (155 : Nat) ≠ 149 by omega)]
                  rw [q1, q2, q3, q4]
                  refine ih (b + 1) _ _ _ _ _ _ (by omega) ⟨fun c c1 c2 c3 => ?_, fun i hi => ?_, fun j hj => ?_, ?_⟩ (fun c hc => ?_) (fun c hc => ?_) (Or.inr ?_) hst
                  · funext y; rw [xup_a c1, xup_a c1, xup_a c1, xup_a c1]; exact congrFun (hF.1 c c1 c2 c3) y
                  · rw [xup_i (by omega), xup_i (by omega), xup_i (by omega), xup_i (by omega)]; exact hF.2.1 i hi
                  · rw [xup_a (by omega), xup_a (by omega), xup_a (by omega), xup_a (by omega)]; exact hF.2.2.1 j hj
                  · rw [xup_i (by omega), xup_i (by omega), xup_i (by omega), xup_i (by omega)]; exact hF.2.2.2
                  · simp only [xup_a (show (156 : Nat) ≠ 149 by omega), xup_a (show (155 : Nat) ≠ 149 by omega)]; exact hA c hc
                  · simp only [xup_a (show (156 : Nat) ≠ 149 by omega), xup_a (show (155 : Nat) ≠ 149 by omega)]; exact hB c hc
                  · rw [xup_i (by omega), xup_i (by omega), xup_i (by omega), xup_s, xup_i (by omega), xup_i (by omega), xup_s, xup_i (by omega), xup_s, xup_s]; exact ⟨hj.1, by omega, by omega, by omega, by omega⟩
              · refine R_il fx_116_260 rfl ?_
                refine R_al fx_116_262 rfl (by omega) ?_
                refine R_gf fx_116_263 kd_149 rfl ?_
                refine R_icge fx_116_266 (by omega) (fun hc6 => ?_) (fun hc6 => ?_)
                · refine R_push fx_116_273 ?_
                  refine R_goto fx_116_274 ?_
                  refine R_is fx_116_299 ?_
                  refine R_il fx_116_301 rfl ?_
                  refine R_ifne fx_116_303 (by decide) (fun h => absurd h (by decide)) (fun _ => ?_)
                  refine R_goto fx_116_306 ?_
                  refine R_inc fx_116_346 rfl ?_
                  refine R_goto fx_116_349 ?_
                  rw [if_neg (by rcases hv2 with h | h <;> omega)] at hst
                  exact ih (b + 1) g v _ _ _ _ (by omega) hF hA hB hv hst
                · refine R_push fx_116_269 ?_
                  refine R_goto fx_116_270 ?_
                  refine R_is fx_116_299 ?_
                  refine R_il fx_116_301 rfl ?_
                  refine R_ifne fx_116_303 (by decide) (fun _ => ?_) (fun h => absurd h (by decide))
                  refine R_al fx_116_309 rfl (by omega) ?_
                  refine R_il fx_116_310 rfl ?_
                  refine R_pf fx_116_312 kd_149 rfl (fun h => absurd h (by decide)) ?_
                  refine R_al fx_116_315 rfl (by omega) ?_
                  refine R_al fx_116_316 rfl (by omega) ?_
                  refine R_gr fx_116_317 kd_149 rfl rr_149_9 ?_
                  refine R_il fx_116_320 rfl ?_
                  refine R_ia fx_116_322 (Or.inl kd_156) (by omega) (by rw [ln_156]; omega) (by omega) ?_
                  refine R_pf fx_116_323 kd_149 rfl (fun h => absurd h (by decide)) ?_
                  refine R_al fx_116_326 rfl (by omega) ?_
                  refine R_il fx_116_327 rfl ?_
                  refine R_pf fx_116_329 kd_149 rfl (fun h => absurd h (by decide)) ?_
                  refine R_al fx_116_332 rfl (by omega) ?_
                  refine R_al fx_116_333 rfl (by omega) ?_
                  refine R_gr fx_116_334 kd_149 rfl rr_149_9 ?_
                  refine R_push fx_116_337 ?_
                  refine R_il fx_116_339 rfl ?_
                  refine R_add fx_116_341 ?_
                  refine R_ia fx_116_342 (Or.inl kd_156) (by omega) (by rw [ln_156]; omega) (by omega) ?_
                  refine R_pf fx_116_343 kd_149 rfl (fun h => absurd h (by decide)) ?_
                  refine R_inc fx_116_346 rfl ?_
                  refine R_goto fx_116_349 ?_
                  rw [if_pos (by rcases hv2 with h | h <;> omega)] at hst
                  simp only [xup_a (show (156 : Nat) ≠ 149 by omega), xup_a (show (155 : Nat) ≠ 149 by omega)]
                  rw [q1, q2, q3, q4]
                  refine ih (b + 1) _ _ _ _ _ _ (by omega) ⟨fun c c1 c2 c3 => ?_, fun i hi => ?_, fun j hj => ?_, ?_⟩ (fun c hc => ?_) (fun c hc => ?_) (Or.inr ?_) hst
                  · funext y; rw [xup_a c1, xup_a c1, xup_a c1, xup_a c1]; exact congrFun (hF.1 c c1 c2 c3) y
                  · rw [xup_i (by omega), xup_i (by omega), xup_i (by omega), xup_i (by omega)]; exact hF.2.1 i hi
                  · rw [xup_a (by omega), xup_a (by omega), xup_a (by omega), xup_a (by omega)]; exact hF.2.2.1 j hj
                  · rw [xup_i (by omega), xup_i (by omega), xup_i (by omega), xup_i (by omega)]; exact hF.2.2.2
                  · simp only [xup_a (show (156 : Nat) ≠ 149 by omega), xup_a (show (155 : Nat) ≠ 149 by omega)]; exact hA c hc
                  · simp only [xup_a (show (156 : Nat) ≠ 149 by omega), xup_a (show (155 : Nat) ≠ 149 by omega)]; exact hB c hc
                  · rw [xup_i (by omega), xup_i (by omega), xup_i (by omega), xup_s, xup_i (by omega), xup_i (by omega), xup_s, xup_i (by omega), xup_s, xup_s]; exact ⟨hj.1, by omega, by omega, by omega, by omega⟩
            · refine R_al fx_116_229 rfl (by omega) ?_
              refine R_gr fx_116_230 kd_149 rfl rr_149_9 ?_
              refine R_il fx_116_233 rfl ?_
              refine R_ia fx_116_235 (Or.inl kd_156) (by omega) (by rw [ln_156]; omega) (by omega) ?_
              refine R_al fx_116_236 rfl (by omega) ?_
              refine R_gf fx_116_237 kd_149 rfl ?_
              refine R_icge fx_116_240 (by omega) (fun hc4 => ?_) (fun hc4 => ?_)
              · refine R_push fx_116_247 ?_
                refine R_goto fx_116_248 ?_
                refine R_is fx_116_299 ?_
                refine R_il fx_116_301 rfl ?_
                refine R_ifne fx_116_303 (by decide) (fun h => absurd h (by decide)) (fun _ => ?_)
                refine R_goto fx_116_306 ?_
                refine R_inc fx_116_346 rfl ?_
                refine R_goto fx_116_349 ?_
                rw [if_neg (by rcases hv2 with h | h <;> omega)] at hst
                exact ih (b + 1) g v _ _ _ _ (by omega) hF hA hB hv hst
              · refine R_push fx_116_243 ?_
                refine R_goto fx_116_244 ?_
                refine R_is fx_116_299 ?_
                refine R_il fx_116_301 rfl ?_
                refine R_ifne fx_116_303 (by decide) (fun _ => ?_) (fun h => absurd h (by decide))
                refine R_al fx_116_309 rfl (by omega) ?_
                refine R_il fx_116_310 rfl ?_
                refine R_pf fx_116_312 kd_149 rfl (fun h => absurd h (by decide)) ?_
                refine R_al fx_116_315 rfl (by omega) ?_
                refine R_al fx_116_316 rfl (by omega) ?_
                refine R_gr fx_116_317 kd_149 rfl rr_149_9 ?_
                refine R_il fx_116_320 rfl ?_
                refine R_ia fx_116_322 (Or.inl kd_156) (by omega) (by rw [ln_156]; omega) (by omega) ?_
                refine R_pf fx_116_323 kd_149 rfl (fun h => absurd h (by decide)) ?_
                refine R_al fx_116_326 rfl (by omega) ?_
                refine R_il fx_116_327 rfl ?_
                refine R_pf fx_116_329 kd_149 rfl (fun h => absurd h (by decide)) ?_
                refine R_al fx_116_332 rfl (by omega) ?_
                refine R_al fx_116_333 rfl (by omega) ?_
                refine R_gr fx_116_334 kd_149 rfl rr_149_9 ?_
                refine R_push fx_116_337 ?_
                refine R_il fx_116_339 rfl ?_
                refine R_add fx_116_341 ?_
                refine R_ia fx_116_342 (Or.inl kd_156) (by omega) (by rw [ln_156]; omega) (by omega) ?_
                refine R_pf fx_116_343 kd_149 rfl (fun h => absurd h (by decide)) ?_
                refine R_inc fx_116_346 rfl ?_
                refine R_goto fx_116_349 ?_
                rw [if_pos (by rcases hv2 with h | h <;> omega)] at hst
                simp only [xup_a (show (156 : Nat) ≠ 149 by omega), xup_a (show (155 : Nat) ≠ 149 by omega)]
                rw [q1, q2, q3, q4]
                refine ih (b + 1) _ _ _ _ _ _ (by omega) ⟨fun c c1 c2 c3 => ?_, fun i hi => ?_, fun j hj => ?_, ?_⟩ (fun c hc => ?_) (fun c hc => ?_) (Or.inr ?_) hst
                · funext y; rw [xup_a c1, xup_a c1, xup_a c1, xup_a c1]; exact congrFun (hF.1 c c1 c2 c3) y
                · rw [xup_i (by omega), xup_i (by omega), xup_i (by omega), xup_i (by omega)]; exact hF.2.1 i hi
                · rw [xup_a (by omega), xup_a (by omega), xup_a (by omega), xup_a (by omega)]; exact hF.2.2.1 j hj
                · rw [xup_i (by omega), xup_i (by omega), xup_i (by omega), xup_i (by omega)]; exact hF.2.2.2
                · simp only [xup_a (show (156 : Nat) ≠ 149 by omega), xup_a (show (155 : Nat) ≠ 149 by omega)]; exact hA c hc
                · simp only [xup_a (show (156 : Nat) ≠ 149 by omega), xup_a (show (155 : Nat) ≠ 149 by omega)]; exact hB c hc
                · rw [xup_i (by omega), xup_i (by omega), xup_i (by omega), xup_s, xup_i (by omega), xup_i (by omega), xup_s, xup_i (by omega), xup_s, xup_s]; exact ⟨hj.1, by omega, by omega, by omega, by omega⟩
    · refine R_goto fx_116_101 ?_
      refine R_inc fx_116_346 rfl ?_
      refine R_goto fx_116_349 ?_
      exact ih (b + 1) g v _ _ _ _ (by omega) hF hA hB hv (hno (Or.inl (by rcases hB1 with h | h <;> omega)))
theorem C_116_2 {r q k : Nat} (hV : VG G) (hM : Mg f G) (hr : r < 12) (hg : (r : Int) < G 0) (hq : q < 12) (hgq : (q : Int) < G 0) (hk : k < 4) (K1 : pk G r q k ≠ 268435456 → ∀ g : xF, WF g f → (g 149 12 = pk G r q k / 32768 ∧ g 149 13 = pk G r q k / 1024 % 32 ∧ g 149 14 = pk G r q k / 32 % 32 ∧ g 149 15 = pk G r q k % 32) → Q [.inl 1] g) (K0 : pk G r q k = 268435456 → ∀ g : xF, WF g f → Q [.inl 0] g) : ∀ (n a : Nat) (g : xF) (v : Int) (X1 X2 X3 X4 X5 : Option xV), a + n = 101 → WF g f → (∀ c : Nat, c < 101 → MV (g 155 c) (g 156 c) (rowv G r (2 * k) c)) → (∀ c : Nat, c < 101 → MV (g 155 (101 + c)) (g 156 (101 + c)) (rowv G q (2 * k + 1) c)) → PV (g 149 12) (g 149 13) (g 149 14) (g 149 15) v → Lst (PD G r q k (fun a' b' => a' < a)) 268435456 v → Rf (SHL L) 116 54 [some (.inr 149), some (.inl (r : Int)), some (.inl (q : Int)), some (.inl (k : Int)), some (.inl (G (4 + (2 * k + 1)) - G (4 + 2 * k))), some (.inl (a : Int)), X1, X2, X3, X4, X5] [] g Q := by
  have v2 := hV.2.2.1
  have v3 := hV.2.2.2.1 (2 * k) (by omega)
  have v4 := hV.2.2.2.1 (2 * k + 1) (by omega)
  have v5 := hV.2.2.2.2.1 k hk
  intro n
  induction n with
  | zero =>
    intro a g v X1 X2 X3 X4 X5 ha hF hA hB hv hL
    have e := pk_of hV hr hg hq hgq (hL.congr (PD_congr (D' := fun _ _ => True) (fun a2 b2 _ _ _ _ _ => ⟨fun _ => True.intro, fun _ => by omega⟩)))
    have hv2 := hv
    unfold PV at hv2
    have hb := pk_b (k := k) hV hr hg hq hgq
    refine R_il fx_116_54 rfl ?_
    refine R_push fx_116_56 ?_
    refine R_icge fx_116_58 (by omega) (fun hc => ?_) (fun hc => by omega)
    refine R_al fx_116_358 rfl (by omega) ?_
    refine R_gf fx_116_359 kd_149 rfl ?_
    refine R_push fx_116_362 ?_
    refine R_icge fx_116_364 (by rcases hv2 with h | h <;> omega) (fun hc => ?_) (fun hc => ?_)
    · refine R_push fx_116_371 ?_
      refine R_ret fx_116_372 (by decide) ?_
      first | exact K0 (by rcases hv2 with h | h <;> omega) g hF | exact K1 (by rcases hv2 with h | h <;> omega) g hF (by rcases hv2 with h | h; exact (by omega); exact (by rw [← e, h.1]; omega))
    · refine R_push fx_116_367 ?_
      refine R_goto fx_116_368 ?_
      refine R_ret fx_116_372 (by decide) ?_
      first | exact K0 (by rcases hv2 with h | h <;> omega) g hF | exact K1 (by rcases hv2 with h | h <;> omega) g hF (by rcases hv2 with h | h; exact (by omega); exact (by rw [← e, h.1]; omega))
  | succ n ih =>
    intro a g v X1 X2 X3 X4 X5 ha hF hA hB hv hL
    have hA1 := hA a (by omega)
    have hbA := rowv_b2 (s := 2 * k) hV hr hg a
    have q1 : g 155 (a : Int).toNat = g 155 a := by rw [Int.toNat_natCast]
    unfold MV at hA1
    have hO : 0 ≤ g 155 a ∧ g 155 a ≤ 1000000 := by rcases hA1 with h | h <;> omega
    refine R_il fx_116_54 rfl ?_
    refine R_push fx_116_56 ?_
    refine R_icge fx_116_58 (by omega) (fun hc => by omega) (fun hc => ?_)
    refine R_al fx_116_61 rfl (by omega) ?_
    refine R_gr fx_116_62 kd_149 rfl rr_149_8 ?_
    refine R_il fx_116_65 rfl ?_
    refine R_ia fx_116_67 (Or.inl kd_155) (by omega) (by rw [ln_155]; omega) (by omega) ?_
    refine R_push fx_116_68 ?_
    refine R_icne fx_116_70 (by omega) (fun hn => ?_) (fun hn => ?_)
    · refine R_push fx_116_76 ?_
      refine R_is fx_116_77 ?_
      refine C_116_3 hV hM hr hg hq hgq hk (by omega) (fun z => by rcases hA1 with h | h <;> omega) (fun g2 v2 Y1 Y2 Y3 Y4 Y5 hF2 hA2 hB2 hv2 hL2 => ?_) 101 0 g v _ _ _ _ (by omega) hF hA hB hv (hL.congr (PD_congr (fun a2 b2 _ _ _ _ _ => by omega)))
      refine R_inc fx_116_352 rfl ?_
      refine R_goto fx_116_355 ?_
      exact ih (a + 1) g2 v2 _ _ _ _ _ (by omega) hF2 hA2 hB2 hv2 hL2
    · refine R_goto fx_116_73 ?_
      refine R_inc fx_116_352 rfl ?_
      refine R_goto fx_116_355 ?_
      refine ih (a + 1) g v _ _ _ _ _ (by omega) hF hA hB hv (hL.congr (PD_congr (fun a2 b2 _ _ d1 _ _ => ?_)))
      by_cases e : a2 = a
      · subst e; exact absurd (by rcases hA1 with h | h <;> omega) d1
      · omega
theorem C_116 {r2 q2 k2 : Int} {r q k : Nat} (hV : VG G) (hM : Mg f G) (hr : r < 12) (hg : (r : Int) < G 0) (hq : q < 12) (hgq : (q : Int) < G 0) (hk : k < 4) (er : r2 = r) (eq : q2 = q) (ek : k2 = k) (hT : MT f) (K1 : pk G r q k ≠ 268435456 → ∀ g : xF, WF g f → (g 149 12 = pk G r q k / 32768 ∧ g 149 13 = pk G r q k / 1024 % 32 ∧ g 149 14 = pk G r q k / 32 % 32 ∧ g 149 15 = pk G r q k % 32) → Q [.inl 1] g) (K0 : pk G r q k = 268435456 → ∀ g : xF, WF g f → Q [.inl 0] g) : Rf (SHL L) 116 0 (xloc 116 [.inr 149, .inl r2, .inl q2, .inl k2]) [] f Q := by
  subst er eq ek
  have v2 := hV.2.2.1
  have v3 := hV.2.2.2.1 (2 * k) (by omega)
  have v4 := hV.2.2.2.1 (2 * k + 1) (by omega)
  have v5 := hV.2.2.2.2.1 k hk
  refine R_al fx_116_0 rfl (by omega) ?_
  refine R_push fx_116_1 ?_
  refine R_il fx_116_2 rfl ?_
  refine R_push fx_116_3 ?_
  refine R_il fx_116_4 rfl ?_
  refine R_mul fx_116_5 ?_
  refine R_cv fx_116_6 rfl rfl rfl rfl kd_149 ?_
  refine C_114 (p := 0) (r := r) (s := 2 * k) hV hM hr hg (by omega) (by omega) rfl (by omega) rfl hT.1 (fun g hF hR => ?_)
  have hMg : Mg g G := hM.kept (by rw [hF.1 149 (by omega) (by omega)]) (hF.1 150 (by omega) (by omega))
  refine R_al fx_116_9 rfl (by omega) ?_
  refine R_push fx_116_10 ?_
  refine R_il fx_116_11 rfl ?_
  refine R_push fx_116_12 ?_
  refine R_il fx_116_13 rfl ?_
  refine R_mul fx_116_14 ?_
  refine R_push fx_116_15 ?_
  refine R_add fx_116_16 ?_
  refine R_cv fx_116_17 rfl rfl rfl rfl kd_149 ?_
  refine C_114 (p := 1) (r := q) (s := 2 * k + 1) hV hMg hq hgq (by omega) (by omega) rfl (by omega) rfl hF.2.1 (fun g2 hF2 hR2 => ?_)
  have hMg2 : Mg g2 G := hMg.kept (by rw [hF2.1 149 (by omega) (by omega)]) (hF2.1 150 (by omega) (by omega))
  have e1 : (xup g2 149 12 1000000) 150 (4 + 2 * (k : Int) + 1).toNat = G (4 + (2 * k + 1)) := by rw [xup_a (by omega), show (4 + 2 * (k : Int) + 1).toNat = 4 + (2 * k + 1) by omega]; exact hMg2.2 _ (by omega)
  have e2 : (xup g2 149 12 1000000) 150 (4 + 2 * (k : Int)).toNat = G (4 + 2 * k) := by rw [xup_a (by omega), show (4 + 2 * (k : Int)).toNat = 4 + 2 * k by omega]; exact hMg2.2 _ (by omega)
  refine R_al fx_116_20 rfl (by omega) ?_
  refine R_push fx_116_21 ?_
  refine R_pf fx_116_23 kd_149 rfl (fun h => absurd h (by decide)) ?_
  refine R_al fx_116_26 rfl (by omega) ?_
  refine R_gr fx_116_27 kd_149 rfl rr_149_1 ?_
  refine R_push fx_116_30 ?_
  refine R_push fx_116_31 ?_
  refine R_il fx_116_32 rfl ?_
  refine R_mul fx_116_33 ?_
  refine R_add fx_116_34 ?_
  refine R_push fx_116_35 ?_
  refine R_add fx_116_36 ?_
  refine R_ia fx_116_37 (Or.inl kd_150) (by omega) (by rw [ln_150]; omega) (by omega) ?_
  refine R_al fx_116_38 rfl (by omega) ?_
  refine R_gr fx_116_39 kd_149 rfl rr_149_1 ?_
  refine R_push fx_116_42 ?_
  refine R_push fx_116_43 ?_
  refine R_il fx_116_44 rfl ?_
  refine R_mul fx_116_45 ?_
  refine R_add fx_116_46 ?_
  refine R_ia fx_116_47 (Or.inl kd_150) (by omega) (by rw [ln_150]; omega) (by omega) ?_
  refine R_sub fx_116_48 ?_
  refine R_is fx_116_49 ?_
  refine R_push fx_116_51 ?_
  refine R_is fx_116_52 ?_
  rw [e1, e2]
  refine C_116_2 hV hM hr hg hq hgq hk K1 K0 101 0 _ 268435456 _ _ _ _ _ (by omega) ⟨fun c c1 c2 c3 => ?_, fun i hi => ?_, fun j hj => ?_, ?_⟩ (fun c hc => ?_) (fun c hc => ?_) (Or.inl ⟨rfl, by rw [xup_s]⟩) (Or.inl ⟨rfl, fun v ⟨a, b, _, h2, _⟩ => absurd h2 (by omega)⟩)
  · funext y; rw [xup_a c1, hF2.1 c c2 c3, hF.1 c c2 c3]
  · rw [xup_i (by omega), hF2.1 149 (by omega) (by omega), hF.1 149 (by omega) (by omega)]
  · rw [xup_a (by omega)]; exact hF2.2.1 j hj
  · rw [xup_i (by omega), hF2.1 149 (by omega) (by omega), hF.1 149 (by omega) (by omega)]; exact hT.2
  · have h1 := hR c hc
    have h2 := hF2.2.2 c (by omega)
    rw [xup_a (by omega), xup_a (by omega), h2.1, h2.2]
    simpa using h1
  · have h1 := hR2 c hc
    rw [xup_a (by omega), xup_a (by omega)]
    simpa using h1
end PP
