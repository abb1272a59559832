/-! ===== the model: takesLay ===== -/
theorem nv_ok {c : Int} {a b : List Int} (hc : c = 268435456 ∨ (0 ≤ c ∧ c ≤ 1000)) (ha : sml a) (hb : sml b) : (nv c < 1000000 ∧ nv (mn b) < 1000000 ∧ nv c + nv (mn b) = nv (mn a)) ↔ okC c (mn b) (mn a) = true := by
  have ba := mn_b ha
  have bb := mn_b hb
  unfold okC nv
  rw [decide_eq_true_eq]
  split <;> split <;> split <;> omega
def RowA (f : xF) (G : Nat → Int) : Prop := ∀ k, k ≤ 4 → RowN f G k
theorem RowA_b {f : xF} {G : Nat → Int} (hV : VG G) (h : RowA f G) : ∀ j, j < 20480 → 0 ≤ f 159 j ∧ f 159 j ≤ 1000000 := fun j hj => by
  have h1 := (h (j / 4096) (by omega) (j % 4096) (by omega)).1
  rw [show 4096 * (j / 4096) + j % 4096 = j by omega] at h1
  rw [h1]
  have := mn_b (lev_sml (coG_ok hV) (s := 2 * (j / 4096)) (set := j % 4096) (by omega))
  unfold nv
  split <;> omega
theorem nv_b {c : Int} (hc : c = 268435456 ∨ (0 ≤ c ∧ c ≤ 1000)) : 0 ≤ nv c ∧ nv c ≤ 1000000 := by unfold nv; split <;> omega
section TL
variable {L : Nat} {f : xF} {Q : List xV → xF → Prop} {G : Nat → Int}
theorem C_118_x {k set : Nat} {A B : Int} (hk : k < 4) (hx1 : xok (f 161 (2 * k))) (hx2 : xok (f 161 (2 * k + 1))) (hf : f 161 (2 * k) ≠ -1 ∨ f 161 (2 * k + 1) ≠ -1) (K : ∀ X7 X8 : Option xV, Rf (SHL L) 118 368 [some (.inr 149), some (.inl (set : Int)), some (.inl (k : Int)), some (.inl A), some (.inl B), some (.inl (4096 * (k : Int) + (set : Int))), some (.inl (4096 * ((k : Int) + 1))), X7, X8] [] f Q) (x : Int) (hx : 0 ≤ x ∧ x ≤ 12) (X8 : Option xV) : Rf (SHL L) 118 98 [some (.inr 149), some (.inl (set : Int)), some (.inl (k : Int)), some (.inl A), some (.inl B), some (.inl (4096 * (k : Int) + (set : Int))), some (.inl (4096 * ((k : Int) + 1))), some (.inl x), X8] [] f Q := by
  have e1 : f 161 (2 * (k : Int)).toNat = f 161 (2 * k) := by congr 1
  have e2 : f 161 (2 * (k : Int) + 1).toNat = f 161 (2 * k + 1) := by congr 1
  refine R_il fx_118_98 rfl ?_
  refine R_push fx_118_100 ?_
  refine R_icge fx_118_102 (by omega) (fun hc => ?_) (fun hc => ?_)
  · exact K _ _
  · refine R_al fx_118_105 rfl (by omega) ?_
    refine R_gr fx_118_106 kd_149 rfl rr_149_22 ?_
    refine R_push fx_118_109 ?_
    refine R_il fx_118_110 rfl ?_
    refine R_mul fx_118_111 ?_
    refine R_ia fx_118_112 (Or.inl kd_161) (by omega) (by rw [ln_161]; omega) (by omega) ?_
    refine R_push fx_118_113 ?_
    refine R_icne fx_118_114 (by omega) (fun hc2 => ?_) (fun hc2 => ?_)
    · exact K _ _
    · refine R_al fx_118_117 rfl (by omega) ?_
      refine R_gr fx_118_118 kd_149 rfl rr_149_22 ?_
      refine R_push fx_118_121 ?_
      refine R_il fx_118_122 rfl ?_
      refine R_mul fx_118_123 ?_
      refine R_push fx_118_124 ?_
      refine R_add fx_118_125 ?_
      refine R_ia fx_118_126 (Or.inl kd_161) (by omega) (by rw [ln_161]; omega) (by omega) ?_
      refine R_push fx_118_127 ?_
      refine R_icne fx_118_128 (by omega) (fun hc3 => ?_) (fun hc3 => by omega)
      exact K _ _
theorem C_118_r10 {k set r0 : Nat} (hV : VG G) (hk : k < 4) (h1 : G (4 + 2 * k) ≠ -1) (h2 : G (4 + (2 * k + 1)) = -1) (hset : set < 4096) (hI : SI f G 96) (hR : RowA f G) (hl1 : f 161 (2 * k) = -1) (hl2 : f 161 (2 * k + 1) = -1) (hr0 : r0 < 12) (hok : okS (coG G) (2 * k) set r0 = true) (hno : ∀ i, i < r0 → okS (coG G) (2 * k) set i = false) (K : ∀ (X7 X8 : Option xV), Rf (SHL L) 118 368 [some (.inr 149), some (.inl (set : Int)), some (.inl (k : Int)), some (.inl 1), some (.inl 0), some (.inl (4096 * (k : Int) + (set : Int))), some (.inl (4096 * ((k : Int) + 1))), X7, X8] [] (xup f 161 (2 * k) (r0 : Int)) Q) : ∀ (d m : Nat) (X8 : Option xV), m + d = r0 → Rf (SHL L) 118 98 [some (.inr 149), some (.inl (set : Int)), some (.inl (k : Int)), some (.inl 1), some (.inl 0), some (.inl (4096 * (k : Int) + (set : Int))), some (.inl (4096 * ((k : Int) + 1))), some (.inl (m : Int)), X8] [] f Q := by
  have ho := coG_ok hV
  have e1 : f 161 (2 * (k : Int)).toNat = -1 := hl1
  have e2 : f 161 (2 * (k : Int) + 1).toNat = -1 := hl2
  have hlu := (hR k (by omega) set hset).1
  have hfb := RowA_b hV hR
  have hlv : ∀ v, lev (coG G) (2 * k + 1) v = lev (coG G) (2 * k + 2) v := fun v => lev_skip ho (by omega) (wsG_f h2)
  have hl0 : lev (coG G) (2 * k) set = lev (coG G) (2 * k) set := rfl
  have key : ∀ m, m < 12 → (okS (coG G) (2 * k) set m = true ↔ set.testBit m = false ∧ (nv (csG G (2 * k) m) < 1000000 ∧ f 159 (4096 * (k + 1) + (set ||| 2 ^ m)) < 1000000 ∧ nv (csG G (2 * k) m) + f 159 (4096 * (k + 1) + (set ||| 2 ^ m)) = f 159 (4096 * k + set))) := fun m hm => by
    have hnx := (hR (k + 1) (by omega) (set ||| 2 ^ m) (or_lt hset hm)).1
    have hcb := csG_b (s := 2 * k) hV hm
    have hq := nv_ok (c := csG G (2 * k) m) (a := lev (coG G) (2 * k) set) (b := lev (coG G) (2 * k + 2) (set ||| 2 ^ m)) (hcb.imp id (fun z => by omega)) (lev_sml ho (by omega)) (lev_sml ho (by omega))
    rw [hlu, hnx, show 2 * (k + 1) = 2 * k + 2 by omega, hq]
    unfold okS
    rw [show lev (coG G) (2 * k + 1) (set ||| 2 ^ m) = lev (coG G) (2 * k + 2) (set ||| 2 ^ m) from hlv _, show lev (coG G) (2 * k) set = lev (coG G) (2 * k) set from hl0.symm]
    simp only [Bool.and_eq_true, Bool.not_eq_true']
    exact Iff.rfl
  intro d
  induction d with
  | zero =>
    intro m X8 hm
    have hmj : m = r0 := by omega
    subst hmj
    have hp2 := p2b m (by omega)
    have hpw := pw12 hr0
    have hor := or_lt hset hr0
    have es : f 157 (8 * (m : Int) + 2 * (k : Int)).toNat = nv (csG G (2 * k) m) := by rw [show (8 * (m : Int) + 2 * (k : Int)).toNat = 8 * m + 2 * k by omega, hI _ (by omega), show (8 * m + 2 * k) % 8 = 2 * k by omega, show (8 * m + 2 * k) / 8 = m by omega]
    have hcb := csG_b (s := 2 * k) hV hr0
    have hnb := nv_b (c := csG G (2 * k) m) (hcb.imp id (fun z => by omega))
    obtain ⟨kb, kc⟩ := (key m hr0).mp hok
    refine R_il fx_118_98 rfl ?_
    refine R_push fx_118_100 ?_
    refine R_icge fx_118_102 (by omega) (fun hc => by omega) (fun hc => ?_)
    refine R_al fx_118_105 rfl (by omega) ?_
    refine R_gr fx_118_106 kd_149 rfl rr_149_22 ?_
    refine R_push fx_118_109 ?_
    refine R_il fx_118_110 rfl ?_
    refine R_mul fx_118_111 ?_
    refine R_ia fx_118_112 (Or.inl kd_161) (by omega) (by rw [ln_161]; omega) (by omega) ?_
    refine R_push fx_118_113 ?_
    refine R_icne fx_118_114 (by omega) (fun hc => by omega) (fun hc => ?_)
    refine R_al fx_118_117 rfl (by omega) ?_
    refine R_gr fx_118_118 kd_149 rfl rr_149_22 ?_
    refine R_push fx_118_121 ?_
    refine R_il fx_118_122 rfl ?_
    refine R_mul fx_118_123 ?_
    refine R_push fx_118_124 ?_
    refine R_add fx_118_125 ?_
    refine R_ia fx_118_126 (Or.inl kd_161) (by omega) (by rw [ln_161]; omega) (by omega) ?_
    refine R_push fx_118_127 ?_
    refine R_icne fx_118_128 (by omega) (fun hc => by omega) (fun hc => ?_)
    refine R_al fx_118_131 rfl (by omega) ?_
    refine R_il fx_118_132 rfl ?_
    refine R_il fx_118_133 rfl ?_
    refine R_cv fx_118_135 rfl rfl rfl rfl kd_149 ?_
    refine C_122 (by omega) (by omega) (fun hb => absurd hb (by rw [kb]; decide)) (fun hb => ?_)
    refine R_ifeq fx_118_138 (by decide) (fun _ => ?_) (fun h => absurd h (by decide))
    refine R_il fx_118_144 rfl ?_
    refine R_ifne fx_118_146 (by decide) (fun h => absurd h (by decide)) (fun _ => ?_)
    refine R_al fx_118_149 rfl (by omega) ?_
    refine R_il fx_118_150 rfl ?_
    refine R_il fx_118_152 rfl ?_
    refine R_il fx_118_154 rfl ?_
    refine R_push fx_118_155 ?_
    refine R_il fx_118_156 rfl ?_
    refine R_bin fx_118_158 (xb_shl (x := 1) (by omega) (by omega)) ?_
    refine R_bin fx_118_159 (xb_or (by omega) (by omega)) ?_
    rw [Nat.one_mul]
    refine R_add fx_118_160 ?_
    refine R_al fx_118_161 rfl (by omega) ?_
    refine R_gr fx_118_162 kd_149 rfl rr_149_16 ?_
    refine R_push fx_118_165 ?_
    refine R_il fx_118_167 rfl ?_
    refine R_mul fx_118_169 ?_
    refine R_push fx_118_170 ?_
    refine R_il fx_118_171 rfl ?_
    refine R_mul fx_118_172 ?_
    refine R_add fx_118_173 ?_
    refine R_ia fx_118_174 (Or.inl kd_157) (by omega) (by rw [ln_157]; omega) (by omega) ?_
    refine R_cv fx_118_175 rfl rfl rfl rfl kd_149 ?_
    rw [es]
    refine C_123 (by omega) (by omega) hnb hfb (fun hz => ?_) (fun hz => absurd (by rw [show (4096 * ((k : Int) + 1) + ((set ||| 2 ^ m : Nat) : Int)).toNat = 4096 * (k + 1) + (set ||| 2 ^ m) by omega, show (4096 * (k : Int) + (set : Int)).toNat = 4096 * k + set by omega]; exact kc) hz)
    refine R_ifeq fx_118_178 (by decide) (fun h => absurd h (by decide)) (fun _ => ?_)
    refine R_al fx_118_181 rfl (by omega) ?_
    refine R_gr fx_118_182 kd_149 rfl rr_149_22 ?_
    refine R_push fx_118_185 ?_
    refine R_il fx_118_186 rfl ?_
    refine R_mul fx_118_187 ?_
    refine R_il fx_118_188 rfl ?_
    refine R_ias fx_118_190 kd_161 (by omega) (by rw [ln_161]; omega) (by omega) ?_
    refine R_il fx_118_191 rfl ?_
    refine R_ifne fx_118_192 (by decide) (fun _ => ?_) (fun h => absurd h (by decide))
    refine R_push fx_118_241 ?_
    refine R_is fx_118_242 ?_
    refine R_il fx_118_244 rfl ?_
    refine R_push fx_118_246 ?_
    refine R_icge fx_118_248 (by decide) (fun h => absurd h (by decide)) (fun _ => ?_)
    refine R_il fx_118_251 rfl ?_
    refine R_ifeq fx_118_252 (by decide) (fun h => absurd h (by decide)) (fun _ => ?_)
    refine R_il fx_118_255 rfl ?_
    refine R_ifeq fx_118_257 (by decide) (fun _ => ?_) (fun h => absurd h (by decide))
    refine R_inc fx_118_362 rfl ?_
    refine R_goto fx_118_365 ?_
    rw [show (2 * (k : Int)).toNat = 2 * k by omega]
    refine C_118_x hk (by rw [xup_s]; omega) (by rw [xup_i (by omega)]; omega) (Or.inl (by rw [xup_s]; omega)) K _ (by omega) _
  | succ d ih =>
    intro m X8 hm
    have hm12 : m < 12 := by omega
    have hp2 := p2b m hm12
    have hpw := pw12 hm12
    have hor := or_lt hset hm12
    have es : f 157 (8 * (m : Int) + 2 * (k : Int)).toNat = nv (csG G (2 * k) m) := by rw [show (8 * (m : Int) + 2 * (k : Int)).toNat = 8 * m + 2 * k by omega, hI _ (by omega), show (8 * m + 2 * k) % 8 = 2 * k by omega, show (8 * m + 2 * k) / 8 = m by omega]
    have hcb := csG_b (s := 2 * k) hV hm12
    have hnb := nv_b (c := csG G (2 * k) m) (hcb.imp id (fun z => by omega))
    have hnk := hno m (by omega)
    refine R_il fx_118_98 rfl ?_
    refine R_push fx_118_100 ?_
    refine R_icge fx_118_102 (by omega) (fun hc => by omega) (fun hc => ?_)
    refine R_al fx_118_105 rfl (by omega) ?_
    refine R_gr fx_118_106 kd_149 rfl rr_149_22 ?_
    refine R_push fx_118_109 ?_
    refine R_il fx_118_110 rfl ?_
    refine R_mul fx_118_111 ?_
    refine R_ia fx_118_112 (Or.inl kd_161) (by omega) (by rw [ln_161]; omega) (by omega) ?_
    refine R_push fx_118_113 ?_
    refine R_icne fx_118_114 (by omega) (fun hc => by omega) (fun hc => ?_)
    refine R_al fx_118_117 rfl (by omega) ?_
    refine R_gr fx_118_118 kd_149 rfl rr_149_22 ?_
    refine R_push fx_118_121 ?_
    refine R_il fx_118_122 rfl ?_
    refine R_mul fx_118_123 ?_
    refine R_push fx_118_124 ?_
    refine R_add fx_118_125 ?_
    refine R_ia fx_118_126 (Or.inl kd_161) (by omega) (by rw [ln_161]; omega) (by omega) ?_
    refine R_push fx_118_127 ?_
    refine R_icne fx_118_128 (by omega) (fun hc => by omega) (fun hc => ?_)
    refine R_al fx_118_131 rfl (by omega) ?_
    refine R_il fx_118_132 rfl ?_
    refine R_il fx_118_133 rfl ?_
    refine R_cv fx_118_135 rfl rfl rfl rfl kd_149 ?_
    refine C_122 (by omega) (by omega) (fun hb => ?_) (fun hb => ?_)
    · refine R_ifeq fx_118_138 (by decide) (fun h => absurd h (by decide)) (fun _ => ?_)
      refine R_goto fx_118_141 ?_
      refine R_inc fx_118_362 rfl ?_
      refine R_goto fx_118_365 ?_
      exact ih (m + 1) _ (by omega)
    · refine R_ifeq fx_118_138 (by decide) (fun _ => ?_) (fun h => absurd h (by decide))
      refine R_il fx_118_144 rfl ?_
      refine R_ifne fx_118_146 (by decide) (fun h => absurd h (by decide)) (fun _ => ?_)
      refine R_al fx_118_149 rfl (by omega) ?_
      refine R_il fx_118_150 rfl ?_
      refine R_il fx_118_152 rfl ?_
      refine R_il fx_118_154 rfl ?_
      refine R_push fx_118_155 ?_
      refine R_il fx_118_156 rfl ?_
      refine R_bin fx_118_158 (xb_shl (x := 1) (by omega) (by omega)) ?_
      refine R_bin fx_118_159 (xb_or (by omega) (by omega)) ?_
      rw [Nat.one_mul]
      refine R_add fx_118_160 ?_
      refine R_al fx_118_161 rfl (by omega) ?_
      refine R_gr fx_118_162 kd_149 rfl rr_149_16 ?_
      refine R_push fx_118_165 ?_
      refine R_il fx_118_167 rfl ?_
      refine R_mul fx_118_169 ?_
      refine R_push fx_118_170 ?_
      refine R_il fx_118_171 rfl ?_
      refine R_mul fx_118_172 ?_
      refine R_add fx_118_173 ?_
      refine R_ia fx_118_174 (Or.inl kd_157) (by omega) (by rw [ln_157]; omega) (by omega) ?_
      refine R_cv fx_118_175 rfl rfl rfl rfl kd_149 ?_
      have kb : set.testBit m = false := by cases h9 : set.testBit m with
        | true => exact absurd h9 hb
        | false => rfl
      rw [es]
      refine C_123 (by omega) (by omega) hnb hfb (fun hz => absurd ((key m hm12).mpr ⟨kb, by rw [show (4096 * ((k : Int) + 1) + ((set ||| 2 ^ m : Nat) : Int)).toNat = 4096 * (k + 1) + (set ||| 2 ^ m) by omega, show (4096 * (k : Int) + (set : Int)).toNat = 4096 * k + set by omega] at hz; exact hz⟩) (by rw [hnk]; decide)) (fun hz => ?_)
      refine R_ifeq fx_118_178 (by decide) (fun _ => ?_) (fun h => absurd h (by decide))
      refine R_il fx_118_191 rfl ?_
      refine R_ifne fx_118_192 (by decide) (fun _ => ?_) (fun h => absurd h (by decide))
      refine R_push fx_118_241 ?_
      refine R_is fx_118_242 ?_
      refine R_il fx_118_244 rfl ?_
      refine R_push fx_118_246 ?_
      refine R_icge fx_118_248 (by decide) (fun h => absurd h (by decide)) (fun _ => ?_)
      refine R_il fx_118_251 rfl ?_
      refine R_ifeq fx_118_252 (by decide) (fun h => absurd h (by decide)) (fun _ => ?_)
      refine R_il fx_118_255 rfl ?_
      refine R_ifeq fx_118_257 (by decide) (fun _ => ?_) (fun h => absurd h (by decide))
      refine R_inc fx_118_362 rfl ?_
      refine R_goto fx_118_365 ?_
      exact ih (m + 1) _ (by omega)
theorem C_118_r01 {k set r0 : Nat} (hV : VG G) (hk : k < 4) (h1 : G (4 + 2 * k) = -1) (h2 : G (4 + (2 * k + 1)) ≠ -1) (hset : set < 4096) (hI : SI f G 96) (hR : RowA f G) (hl1 : f 161 (2 * k) = -1) (hl2 : f 161 (2 * k + 1) = -1) (hr0 : r0 < 12) (hok : okS (coG G) (2 * k + 1) set r0 = true) (hno : ∀ i, i < r0 → okS (coG G) (2 * k + 1) set i = false) (K : ∀ (X7 X8 : Option xV), Rf (SHL L) 118 368 [some (.inr 149), some (.inl (set : Int)), some (.inl (k : Int)), some (.inl 0), some (.inl 1), some (.inl (4096 * (k : Int) + (set : Int))), some (.inl (4096 * ((k : Int) + 1))), X7, X8] [] (xup f 161 (2 * k + 1) (r0 : Int)) Q) : ∀ (d m : Nat) (X8 : Option xV), m + d = r0 → Rf (SHL L) 118 98 [some (.inr 149), some (.inl (set : Int)), some (.inl (k : Int)), some (.inl 0), some (.inl 1), some (.inl (4096 * (k : Int) + (set : Int))), some (.inl (4096 * ((k : Int) + 1))), some (.inl (m : Int)), X8] [] f Q := by
  have ho := coG_ok hV
  have e1 : f 161 (2 * (k : Int)).toNat = -1 := hl1
  have e2 : f 161 (2 * (k : Int) + 1).toNat = -1 := hl2
  have hlu := (hR k (by omega) set hset).1
  have hfb := RowA_b hV hR
  have hl0 : lev (coG G) (2 * k) set = lev (coG G) (2 * k + 1) set := lev_skip ho (by omega) (wsG_f h1)
  have hlv : ∀ v, lev (coG G) (2 * k + 1 + 1) v = lev (coG G) (2 * k + 2) v := fun v => rfl
  have key : ∀ m, m < 12 → (okS (coG G) (2 * k + 1) set m = true ↔ set.testBit m = false ∧ (nv (csG G (2 * k + 1) m) < 1000000 ∧ f 159 (4096 * (k + 1) + (set ||| 2 ^ m)) < 1000000 ∧ nv (csG G (2 * k + 1) m) + f 159 (4096 * (k + 1) + (set ||| 2 ^ m)) = f 159 (4096 * k + set))) := fun m hm => by
    have hnx := (hR (k + 1) (by omega) (set ||| 2 ^ m) (or_lt hset hm)).1
    have hcb := csG_b (s := 2 * k + 1) hV hm
    have hq := nv_ok (c := csG G (2 * k + 1) m) (a := lev (coG G) (2 * k) set) (b := lev (coG G) (2 * k + 2) (set ||| 2 ^ m)) (hcb.imp id (fun z => by omega)) (lev_sml ho (by omega)) (lev_sml ho (by omega))
    rw [hlu, hnx, show 2 * (k + 1) = 2 * k + 2 by omega, hq]
    unfold okS
    rw [show lev (coG G) (2 * k + 1 + 1) (set ||| 2 ^ m) = lev (coG G) (2 * k + 2) (set ||| 2 ^ m) from hlv _, show lev (coG G) (2 * k + 1) set = lev (coG G) (2 * k) set from hl0.symm]
    simp only [Bool.and_eq_true, Bool.not_eq_true']
    exact Iff.rfl
  intro d
  induction d with
  | zero =>
    intro m X8 hm
    have hmj : m = r0 := by omega
    subst hmj
    have hp2 := p2b m (by omega)
    have hpw := pw12 hr0
    have hor := or_lt hset hr0
    have es : f 157 (8 * (m : Int) + 2 * (k : Int) + 1).toNat = nv (csG G (2 * k + 1) m) := by rw [show (8 * (m : Int) + 2 * (k : Int) + 1).toNat = 8 * m + 2 * k + 1 by omega, hI _ (by omega), show (8 * m + 2 * k + 1) % 8 = 2 * k + 1 by omega, show (8 * m + 2 * k + 1) / 8 = m by omega]
    have hcb := csG_b (s := 2 * k + 1) hV hr0
    have hnb := nv_b (c := csG G (2 * k + 1) m) (hcb.imp id (fun z => by omega))
    obtain ⟨kb, kc⟩ := (key m hr0).mp hok
    refine R_il fx_118_98 rfl ?_
    refine R_push fx_118_100 ?_
    refine R_icge fx_118_102 (by omega) (fun hc => by omega) (fun hc => ?_)
    refine R_al fx_118_105 rfl (by omega) ?_
    refine R_gr fx_118_106 kd_149 rfl rr_149_22 ?_
    refine R_push fx_118_109 ?_
    refine R_il fx_118_110 rfl ?_
    refine R_mul fx_118_111 ?_
    refine R_ia fx_118_112 (Or.inl kd_161) (by omega) (by rw [ln_161]; omega) (by omega) ?_
    refine R_push fx_118_113 ?_
    refine R_icne fx_118_114 (by omega) (fun hc => by omega) (fun hc => ?_)
    refine R_al fx_118_117 rfl (by omega) ?_
    refine R_gr fx_118_118 kd_149 rfl rr_149_22 ?_
    refine R_push fx_118_121 ?_
    refine R_il fx_118_122 rfl ?_
    refine R_mul fx_118_123 ?_
    refine R_push fx_118_124 ?_
    refine R_add fx_118_125 ?_
    refine R_ia fx_118_126 (Or.inl kd_161) (by omega) (by rw [ln_161]; omega) (by omega) ?_
    refine R_push fx_118_127 ?_
    refine R_icne fx_118_128 (by omega) (fun hc => by omega) (fun hc => ?_)
    refine R_al fx_118_131 rfl (by omega) ?_
    refine R_il fx_118_132 rfl ?_
    refine R_il fx_118_133 rfl ?_
    refine R_cv fx_118_135 rfl rfl rfl rfl kd_149 ?_
    refine C_122 (by omega) (by omega) (fun hb => absurd hb (by rw [kb]; decide)) (fun hb => ?_)
    refine R_ifeq fx_118_138 (by decide) (fun _ => ?_) (fun h => absurd h (by decide))
    refine R_il fx_118_144 rfl ?_
    refine R_ifne fx_118_146 (by decide) (fun _ => ?_) (fun h => absurd h (by decide))
    refine R_il fx_118_191 rfl ?_
    refine R_ifne fx_118_192 (by decide) (fun h => absurd h (by decide)) (fun _ => ?_)
    refine R_al fx_118_195 rfl (by omega) ?_
    refine R_il fx_118_196 rfl ?_
    refine R_il fx_118_198 rfl ?_
    refine R_il fx_118_200 rfl ?_
    refine R_push fx_118_201 ?_
    refine R_il fx_118_202 rfl ?_
    refine R_bin fx_118_204 (xb_shl (x := 1) (by omega) (by omega)) ?_
    refine R_bin fx_118_205 (xb_or (by omega) (by omega)) ?_
    rw [Nat.one_mul]
    refine R_add fx_118_206 ?_
    refine R_al fx_118_207 rfl (by omega) ?_
    refine R_gr fx_118_208 kd_149 rfl rr_149_16 ?_
    refine R_push fx_118_211 ?_
    refine R_il fx_118_213 rfl ?_
    refine R_mul fx_118_215 ?_
    refine R_push fx_118_216 ?_
    refine R_il fx_118_217 rfl ?_
    refine R_mul fx_118_218 ?_
    refine R_add fx_118_219 ?_
    refine R_push fx_118_220 ?_
    refine R_add fx_118_221 ?_
    refine R_ia fx_118_222 (Or.inl kd_157) (by omega) (by rw [ln_157]; omega) (by omega) ?_
    refine R_cv fx_118_223 rfl rfl rfl rfl kd_149 ?_
    rw [es]
    refine C_123 (by omega) (by omega) hnb hfb (fun hz => ?_) (fun hz => absurd (by rw [show (4096 * ((k : Int) + 1) + ((set ||| 2 ^ m : Nat) : Int)).toNat = 4096 * (k + 1) + (set ||| 2 ^ m) by omega, show (4096 * (k : Int) + (set : Int)).toNat = 4096 * k + set by omega]; exact kc) hz)
    refine R_ifeq fx_118_226 (by decide) (fun h => absurd h (by decide)) (fun _ => ?_)
    refine R_al fx_118_229 rfl (by omega) ?_
    refine R_gr fx_118_230 kd_149 rfl rr_149_22 ?_
    refine R_push fx_118_233 ?_
    refine R_il fx_118_234 rfl ?_
    refine R_mul fx_118_235 ?_
    refine R_push fx_118_236 ?_
    refine R_add fx_118_237 ?_
    refine R_il fx_118_238 rfl ?_
    refine R_ias fx_118_240 kd_161 (by omega) (by rw [ln_161]; omega) (by omega) ?_
    refine R_push fx_118_241 ?_
    refine R_is fx_118_242 ?_
    refine R_il fx_118_244 rfl ?_
    refine R_push fx_118_246 ?_
    refine R_icge fx_118_248 (by decide) (fun h => absurd h (by decide)) (fun _ => ?_)
    refine R_il fx_118_251 rfl ?_
    refine R_ifeq fx_118_252 (by decide) (fun _ => ?_) (fun h => absurd h (by decide))
    refine R_inc fx_118_362 rfl ?_
    refine R_goto fx_118_365 ?_
    rw [show (2 * (k : Int) + 1).toNat = 2 * k + 1 by omega]
    refine C_118_x hk (by rw [xup_i (by omega)]; omega) (by rw [xup_s]; omega) (Or.inr (by rw [xup_s]; omega)) K _ (by omega) _
  | succ d ih =>
    intro m X8 hm
    have hm12 : m < 12 := by omega
    have hp2 := p2b m hm12
    have hpw := pw12 hm12
    have hor := or_lt hset hm12
    have es : f 157 (8 * (m : Int) + 2 * (k : Int) + 1).toNat = nv (csG G (2 * k + 1) m) := by rw [show (8 * (m : Int) + 2 * (k : Int) + 1).toNat = 8 * m + 2 * k + 1 by omega, hI _ (by omega), show (8 * m + 2 * k + 1) % 8 = 2 * k + 1 by omega, show (8 * m + 2 * k + 1) / 8 = m by omega]
    have hcb := csG_b (s := 2 * k + 1) hV hm12
    have hnb := nv_b (c := csG G (2 * k + 1) m) (hcb.imp id (fun z => by omega))
    have hnk := hno m (by omega)
    refine R_il fx_118_98 rfl ?_
    refine R_push fx_118_100 ?_
    refine R_icge fx_118_102 (by omega) (fun hc => by omega) (fun hc => ?_)
    refine R_al fx_118_105 rfl (by omega) ?_
    refine R_gr fx_118_106 kd_149 rfl rr_149_22 ?_
    refine R_push fx_118_109 ?_
    refine R_il fx_118_110 rfl ?_
    refine R_mul fx_118_111 ?_
    refine R_ia fx_118_112 (Or.inl kd_161) (by omega) (by rw [ln_161]; omega) (by omega) ?_
    refine R_push fx_118_113 ?_
    refine R_icne fx_118_114 (by omega) (fun hc => by omega) (fun hc => ?_)
    refine R_al fx_118_117 rfl (by omega) ?_
    refine R_gr fx_118_118 kd_149 rfl rr_149_22 ?_
    refine R_push fx_118_121 ?_
    refine R_il fx_118_122 rfl ?_
    refine R_mul fx_118_123 ?_
    refine R_push fx_118_124 ?_
    refine R_add fx_118_125 ?_
    refine R_ia fx_118_126 (Or.inl kd_161) (by omega) (by rw [ln_161]; omega) (by omega) ?_
    refine R_push fx_118_127 ?_
    refine R_icne fx_118_128 (by omega) (fun hc => by omega) (fun hc => ?_)
    refine R_al fx_118_131 rfl (by omega) ?_
    refine R_il fx_118_132 rfl ?_
    refine R_il fx_118_133 rfl ?_
    refine R_cv fx_118_135 rfl rfl rfl rfl kd_149 ?_
    refine C_122 (by omega) (by omega) (fun hb => ?_) (fun hb => ?_)
    · refine R_ifeq fx_118_138 (by decide) (fun h => absurd h (by decide)) (fun _ => ?_)
      refine R_goto fx_118_141 ?_
      refine R_inc fx_118_362 rfl ?_
      refine R_goto fx_118_365 ?_
      exact ih (m + 1) _ (by omega)
    · refine R_ifeq fx_118_138 (by decide) (fun _ => ?_) (fun h => absurd h (by decide))
      refine R_il fx_118_144 rfl ?_
      refine R_ifne fx_118_146 (by decide) (fun _ => ?_) (fun h => absurd h (by decide))
      refine R_il fx_118_191 rfl ?_
      refine R_ifne fx_118_192 (by decide) (fun h => absurd h (by decide)) (fun _ => ?_)
      refine R_al fx_118_195 rfl (by omega) ?_
      refine R_il fx_118_196 rfl ?_
      refine R_il fx_118_198 rfl ?_
      refine R_il fx_118_200 rfl ?_
      refine R_push fx_118_201 ?_
      refine R_il fx_118_202 rfl ?_
      refine R_bin fx_118_204 (xb_shl (x := 1) (by omega) (by omega)) ?_
      refine R_bin fx_118_205 (xb_or (by omega) (by omega)) ?_
      rw [Nat.one_mul]
      refine R_add fx_118_206 ?_
      refine R_al fx_118_207 rfl (by omega) ?_
      refine R_gr fx_118_208 kd_149 rfl rr_149_16 ?_
      refine R_push fx_118_211 ?_
      refine R_il fx_118_213 rfl ?_
      refine R_mul fx_118_215 ?_
      refine R_push fx_118_216 ?_
      refine R_il fx_118_217 rfl ?_
      refine R_mul fx_118_218 ?_
      refine R_add fx_118_219 ?_
      refine R_push fx_118_220 ?_
      refine R_add fx_118_221 ?_
      refine R_ia fx_118_222 (Or.inl kd_157) (by omega) (by rw [ln_157]; omega) (by omega) ?_
      refine R_cv fx_118_223 rfl rfl rfl rfl kd_149 ?_
      have kb : set.testBit m = false := by cases h9 : set.testBit m with
        | true => exact absurd h9 hb
        | false => rfl
      rw [es]
      refine C_123 (by omega) (by omega) hnb hfb (fun hz => absurd ((key m hm12).mpr ⟨kb, by rw [show (4096 * ((k : Int) + 1) + ((set ||| 2 ^ m : Nat) : Int)).toNat = 4096 * (k + 1) + (set ||| 2 ^ m) by omega, show (4096 * (k : Int) + (set : Int)).toNat = 4096 * k + set by omega] at hz; exact hz⟩) (by rw [hnk]; decide)) (fun hz => ?_)
      refine R_ifeq fx_118_226 (by decide) (fun _ => ?_) (fun h => absurd h (by decide))
      refine R_push fx_118_241 ?_
      refine R_is fx_118_242 ?_
      refine R_il fx_118_244 rfl ?_
      refine R_push fx_118_246 ?_
      refine R_icge fx_118_248 (by decide) (fun h => absurd h (by decide)) (fun _ => ?_)
      refine R_il fx_118_251 rfl ?_
      refine R_ifeq fx_118_252 (by decide) (fun _ => ?_) (fun h => absurd h (by decide))
      refine R_inc fx_118_362 rfl ?_
      refine R_goto fx_118_365 ?_
      exact ih (m + 1) _ (by omega)
end TL
