/-! ===== the model: takesLay (pairs, and the rest) ===== -/
section TM
variable {L : Nat} {f : xF} {Q : List xV → xF → Prop} {G : Nat → Int}
theorem pkey {k set : Nat} (hV : VG G) (hk : k < 4) (hset : set < 4096) (hB : BO f G 576) (hR : RowA f G) (hl1 : f 161 (2 * k) = -1) (hl2 : f 161 (2 * k + 1) = -1) {r q : Nat} (hr : r < 12) (hq : q < 12) : (okP (coG G) (cbG G k) k set (12 * r + q) = true ↔ (set.testBit r = false ∧ set.testBit q = false) ∧ (nv (cbG G k r q) < 1000000 ∧ f 159 (4096 * (k + 1) + (set ||| 2 ^ r ||| 2 ^ q)) < 1000000 ∧ nv (cbG G k r q) + f 159 (4096 * (k + 1) + (set ||| 2 ^ r ||| 2 ^ q)) = f 159 (4096 * k + set))) := by
  have ho := coG_ok hV
  have hlu := (hR k (by omega) set hset).1
  have hnx := (hR (k + 1) (by omega) (set ||| 2 ^ r ||| 2 ^ q) (or_lt (or_lt hset hr) hq)).1
  have hq2 := nv_ok (c := cbG G k r q) (a := lev (coG G) (2 * k) set) (b := lev (coG G) (2 * k + 2) (set ||| 2 ^ r ||| 2 ^ q)) (cbG_b hV hr hq) (lev_sml ho (by omega)) (lev_sml ho (by omega))
  rw [hlu, hnx, show 2 * (k + 1) = 2 * k + 2 by omega, hq2]
  unfold okP
  rw [show (12 * r + q) / 12 = r by omega, show (12 * r + q) % 12 = q by omega]
  simp only [Bool.and_eq_true, Bool.not_eq_true', Bool.or_eq_false_iff]
theorem okP_rr {r : Nat} {k set : Nat} (hr : r < 12) : okP (coG G) (cbG G k) k set (12 * r + r) = false := by
  unfold okP okC
  rw [show (12 * r + r) / 12 = r by omega, show (12 * r + r) % 12 = r by omega, show cbG G k r r = 268435456 from if_pos (Or.inl rfl)]
  simp
theorem C_118_qn {k set : Nat} (hV : VG G) (hk : k < 4) (hset : set < 4096) (hB : BO f G 576) (hR : RowA f G) (hl1 : f 161 (2 * k) = -1) (hl2 : f 161 (2 * k + 1) = -1) {r : Nat} (hr : r < 12) (hbr : set.testBit r = false) (K : ∀ X8 : Option xV, Rf (SHL L) 118 362 [some (.inr 149), some (.inl (set : Int)), some (.inl (k : Int)), some (.inl 1), some (.inl 1), some (.inl (4096 * (k : Int) + (set : Int))), some (.inl (4096 * ((k : Int) + 1))), some (.inl (r : Int)), X8] [] f Q) : ∀ (n q : Nat), q + n = 12 → (∀ i, 12 * r + q ≤ i → i < 12 * r + 12 → okP (coG G) (cbG G k) k set i = false) → Rf (SHL L) 118 244 [some (.inr 149), some (.inl (set : Int)), some (.inl (k : Int)), some (.inl 1), some (.inl 1), some (.inl (4096 * (k : Int) + (set : Int))), some (.inl (4096 * ((k : Int) + 1))), some (.inl (r : Int)), some (.inl (q : Int))] [] f Q := by
  have e1 : f 161 (2 * (k : Int)).toNat = -1 := hl1
  have e2 : f 161 (2 * (k : Int) + 1).toNat = -1 := hl2
  have hfb := RowA_b hV hR
  have hp2 := p2b r hr
  have hpw := pw12 hr
  have hor := or_lt hset hr
  intro n
  induction n with
  | zero =>
    intro q hq hno
    have hqj : q = 12 := by omega
    subst hqj
    refine R_il fx_118_244 rfl ?_
    refine R_push fx_118_246 ?_
    refine R_icge fx_118_248 (by omega) (fun hc => ?_) (fun hc => by omega)
    exact K _
  | succ n ih =>
    intro q hq hno
    have hq12 : q < 12 := by omega
    have hp2q := p2b q hq12
    have hpwq := pw12 hq12
    have hor2 := or_lt hor hq12
    have es : f 158 (144 * (k : Int) + 12 * (r : Int) + (q : Int)).toNat = nv (cbG G k r q) := by rw [show (144 * (k : Int) + 12 * (r : Int) + (q : Int)).toNat = 144 * k + 12 * r + q by omega, hB _ (by omega), show (144 * k + 12 * r + q) / 144 = k by omega, show (144 * k + 12 * r + q) / 12 % 12 = r by omega, show (144 * k + 12 * r + q) % 12 = q by omega]
    have hnb := nv_b (c := cbG G k r q) (cbG_b hV hr hq12)
    have key := pkey hV hk hset hB hR hl1 hl2 hr hq12
    have hnk := hno (12 * r + q) (by omega) (by omega)
    refine R_il fx_118_244 rfl ?_
    refine R_push fx_118_246 ?_
    refine R_icge fx_118_248 (by omega) (fun hc => by omega) (fun hc => ?_)
    refine R_il fx_118_251 rfl ?_
    refine R_ifeq fx_118_252 (by decide) (fun h => absurd h (by decide)) (fun _ => ?_)
    refine R_il fx_118_255 rfl ?_
    refine R_ifeq fx_118_257 (by decide) (fun h => absurd h (by decide)) (fun _ => ?_)
    refine R_al fx_118_260 rfl (by omega) ?_
    refine R_gr fx_118_261 kd_149 rfl rr_149_22 ?_
    refine R_push fx_118_264 ?_
    refine R_il fx_118_265 rfl ?_
    refine R_mul fx_118_266 ?_
    refine R_ia fx_118_267 (Or.inl kd_161) (by omega) (by rw [ln_161]; omega) (by omega) ?_
    refine R_push fx_118_268 ?_
    refine R_icne fx_118_269 (by omega) (fun hc => by omega) (fun hc => ?_)
    refine R_al fx_118_272 rfl (by omega) ?_
    refine R_il fx_118_273 rfl ?_
    refine R_il fx_118_274 rfl ?_
    refine R_cv fx_118_276 rfl rfl rfl rfl kd_149 ?_
    refine C_122 (by omega) (by omega) (fun hb2 => ?_) (fun hb2 => ?_)
    · refine R_ifne fx_118_279 (by decide) (fun _ => ?_) (fun h => absurd h (by decide))
      refine R_inc fx_118_356 rfl ?_
      refine R_goto fx_118_359 ?_
      exact ih (q + 1) (by omega) (fun i a b => hno i (by omega) b)
    · refine R_ifne fx_118_279 (by decide) (fun h => absurd h (by decide)) (fun _ => ?_)
      refine R_il fx_118_282 rfl ?_
      refine R_il fx_118_284 rfl ?_
      refine R_iceq fx_118_286 (by omega) (fun hc2 => ?_) (fun hc2 => ?_)
      · refine R_inc fx_118_356 rfl ?_
        refine R_goto fx_118_359 ?_
        exact ih (q + 1) (by omega) (fun i a b => hno i (by omega) b)
      · refine R_al fx_118_289 rfl (by omega) ?_
        refine R_il fx_118_290 rfl ?_
        refine R_il fx_118_292 rfl ?_
        refine R_il fx_118_294 rfl ?_
        refine R_push fx_118_295 ?_
        refine R_il fx_118_296 rfl ?_
        refine R_bin fx_118_298 (xb_shl (x := 1) (by omega) (by omega)) ?_
        refine R_bin fx_118_299 (xb_or (by omega) (by omega)) ?_
        rw [Nat.one_mul]
        refine R_push fx_118_300 ?_
        refine R_il fx_118_301 rfl ?_
        refine R_bin fx_118_303 (xb_shl (x := 1) (by omega) (by omega)) ?_
        refine R_bin fx_118_304 (xb_or (by omega) (by omega)) ?_
        rw [Nat.one_mul]
        refine R_add fx_118_305 ?_
        refine R_al fx_118_306 rfl (by omega) ?_
        refine R_gr fx_118_307 kd_149 rfl rr_149_17 ?_
        refine R_push fx_118_310 ?_
        refine R_il fx_118_313 rfl ?_
        refine R_mul fx_118_314 ?_
        refine R_push fx_118_315 ?_
        refine R_il fx_118_317 rfl ?_
        refine R_mul fx_118_319 ?_
        refine R_add fx_118_320 ?_
        refine R_il fx_118_321 rfl ?_
        refine R_add fx_118_323 ?_
        refine R_ia fx_118_324 (Or.inl kd_158) (by omega) (by rw [ln_158]; omega) (by omega) ?_
        refine R_cv fx_118_325 rfl rfl rfl rfl kd_149 ?_
        have kb : set.testBit q = false := by cases h9 : set.testBit q with
          | true => exact absurd h9 hb2
          | false => rfl
        rw [es]
        refine C_123 (by omega) (by omega) hnb hfb (fun hz => absurd (key.mpr ⟨⟨hbr, kb⟩, by rw [show (4096 * ((k : Int) + 1) + ((set ||| 2 ^ r ||| 2 ^ q : Nat) : Int)).toNat = 4096 * (k + 1) + (set ||| 2 ^ r ||| 2 ^ q) by omega, show (4096 * (k : Int) + (set : Int)).toNat = 4096 * k + set by omega] at hz; exact hz⟩) (by rw [hnk]; decide)) (fun hz => ?_)
        refine R_ifne fx_118_328 (by decide) (fun h => absurd h (by decide)) (fun _ => ?_)
        refine R_goto fx_118_331 ?_
        refine R_inc fx_118_356 rfl ?_
        refine R_goto fx_118_359 ?_
        exact ih (q + 1) (by omega) (fun i a b => hno i (by omega) b)
theorem C_118_qf {k set : Nat} (hV : VG G) (hk : k < 4) (hset : set < 4096) (hB : BO f G 576) (hR : RowA f G) (hl1 : f 161 (2 * k) = -1) (hl2 : f 161 (2 * k + 1) = -1) {r q0 : Nat} (hr : r < 12) (hq0 : q0 < 12) (hok : okP (coG G) (cbG G k) k set (12 * r + q0) = true) (hbr : set.testBit r = false) (K : ∀ X8 : Option xV, Rf (SHL L) 118 362 [some (.inr 149), some (.inl (set : Int)), some (.inl (k : Int)), some (.inl 1), some (.inl 1), some (.inl (4096 * (k : Int) + (set : Int))), some (.inl (4096 * ((k : Int) + 1))), some (.inl (r : Int)), X8] [] (xup (xup f 161 (2 * k) (r : Int)) 161 (2 * k + 1) (q0 : Int)) Q) : ∀ (d q : Nat), q + d = q0 → (∀ i, 12 * r + q ≤ i → i < 12 * r + q0 → okP (coG G) (cbG G k) k set i = false) → Rf (SHL L) 118 244 [some (.inr 149), some (.inl (set : Int)), some (.inl (k : Int)), some (.inl 1), some (.inl 1), some (.inl (4096 * (k : Int) + (set : Int))), some (.inl (4096 * ((k : Int) + 1))), some (.inl (r : Int)), some (.inl (q : Int))] [] f Q := by
  have e1 : f 161 (2 * (k : Int)).toNat = -1 := hl1
  have e2 : f 161 (2 * (k : Int) + 1).toNat = -1 := hl2
  have hfb := RowA_b hV hR
  have hp2 := p2b r hr
  have hpw := pw12 hr
  have hor := or_lt hset hr
  intro d
  induction d with
  | zero =>
    intro q hq hno
    have hqj : q = q0 := by omega
    subst hqj
    have hq12 : q < 12 := by omega
    have hp2q := p2b q hq12
    have hpwq := pw12 hq12
    have hor2 := or_lt hor hq12
    have es : f 158 (144 * (k : Int) + 12 * (r : Int) + (q : Int)).toNat = nv (cbG G k r q) := by rw [show (144 * (k : Int) + 12 * (r : Int) + (q : Int)).toNat = 144 * k + 12 * r + q by omega, hB _ (by omega), show (144 * k + 12 * r + q) / 144 = k by omega, show (144 * k + 12 * r + q) / 12 % 12 = r by omega, show (144 * k + 12 * r + q) % 12 = q by omega]
    have hnb := nv_b (c := cbG G k r q) (cbG_b hV hr hq12)
    have key := pkey hV hk hset hB hR hl1 hl2 hr hq12
    obtain ⟨⟨_, kb⟩, kc⟩ := key.mp hok
    have hne : r ≠ q := fun z => by rw [← z, okP_rr hr] at hok; exact absurd hok (by decide)
    refine R_il fx_118_244 rfl ?_
    refine R_push fx_118_246 ?_
    refine R_icge fx_118_248 (by omega) (fun hc => by omega) (fun hc => ?_)
    refine R_il fx_118_251 rfl ?_
    refine R_ifeq fx_118_252 (by decide) (fun h => absurd h (by decide)) (fun _ => ?_)
    refine R_il fx_118_255 rfl ?_
    refine R_ifeq fx_118_257 (by decide) (fun h => absurd h (by decide)) (fun _ => ?_)
    refine R_al fx_118_260 rfl (by omega) ?_
    refine R_gr fx_118_261 kd_149 rfl rr_149_22 ?_
    refine R_push fx_118_264 ?_
    refine R_il fx_118_265 rfl ?_
    refine R_mul fx_118_266 ?_
    refine R_ia fx_118_267 (Or.inl kd_161) (by omega) (by rw [ln_161]; omega) (by omega) ?_
    refine R_push fx_118_268 ?_
    refine R_icne fx_118_269 (by omega) (fun hc => by omega) (fun hc => ?_)
    refine R_al fx_118_272 rfl (by omega) ?_
    refine R_il fx_118_273 rfl ?_
    refine R_il fx_118_274 rfl ?_
    refine R_cv fx_118_276 rfl rfl rfl rfl kd_149 ?_
    refine C_122 (by omega) (by omega) (fun hb => absurd hb (by rw [kb]; decide)) (fun hb => ?_)
    refine R_ifne fx_118_279 (by decide) (fun h => absurd h (by decide)) (fun _ => ?_)
    refine R_il fx_118_282 rfl ?_
    refine R_il fx_118_284 rfl ?_
    refine R_iceq fx_118_286 (by omega) (fun hc2 => by omega) (fun hc2 => ?_)
    refine R_al fx_118_289 rfl (by omega) ?_
    refine R_il fx_118_290 rfl ?_
    refine R_il fx_118_292 rfl ?_
    refine R_il fx_118_294 rfl ?_
    refine R_push fx_118_295 ?_
    refine R_il fx_118_296 rfl ?_
    refine R_bin fx_118_298 (xb_shl (x := 1) (by omega) (by omega)) ?_
    refine R_bin fx_118_299 (xb_or (by omega) (by omega)) ?_
    rw [Nat.one_mul]
    refine R_push fx_118_300 ?_
    refine R_il fx_118_301 rfl ?_
    refine R_bin fx_118_303 (xb_shl (x := 1) (by omega) (by omega)) ?_
    refine R_bin fx_118_304 (xb_or (by omega) (by omega)) ?_
    rw [Nat.one_mul]
    refine R_add fx_118_305 ?_
    refine R_al fx_118_306 rfl (by omega) ?_
    refine R_gr fx_118_307 kd_149 rfl rr_149_17 ?_
    refine R_push fx_118_310 ?_
    refine R_il fx_118_313 rfl ?_
    refine R_mul fx_118_314 ?_
    refine R_push fx_118_315 ?_
    refine R_il fx_118_317 rfl ?_
    refine R_mul fx_118_319 ?_
    refine R_add fx_118_320 ?_
    refine R_il fx_118_321 rfl ?_
    refine R_add fx_118_323 ?_
    refine R_ia fx_118_324 (Or.inl kd_158) (by omega) (by rw [ln_158]; omega) (by omega) ?_
    refine R_cv fx_118_325 rfl rfl rfl rfl kd_149 ?_
    rw [es]
    refine C_123 (by omega) (by omega) hnb hfb (fun hz => ?_) (fun hz => absurd (by rw [show (4096 * ((k : Int) + 1) + ((set ||| 2 ^ r ||| 2 ^ q : Nat) : Int)).toNat = 4096 * (k + 1) + (set ||| 2 ^ r ||| 2 ^ q) by omega, show (4096 * (k : Int) + (set : Int)).toNat = 4096 * k + set by omega]; exact kc) hz)
    refine R_ifne fx_118_328 (by decide) (fun _ => ?_) (fun h => absurd h (by decide))
    refine R_al fx_118_334 rfl (by omega) ?_
    refine R_gr fx_118_335 kd_149 rfl rr_149_22 ?_
    refine R_push fx_118_338 ?_
    refine R_il fx_118_339 rfl ?_
    refine R_mul fx_118_340 ?_
    refine R_il fx_118_341 rfl ?_
    refine R_ias fx_118_343 kd_161 (by omega) (by rw [ln_161]; omega) (by omega) ?_
    refine R_al fx_118_344 rfl (by omega) ?_
    refine R_gr fx_118_345 kd_149 rfl rr_149_22 ?_
    refine R_push fx_118_348 ?_
    refine R_il fx_118_349 rfl ?_
    refine R_mul fx_118_350 ?_
    refine R_push fx_118_351 ?_
    refine R_add fx_118_352 ?_
    refine R_il fx_118_353 rfl ?_
    refine R_ias fx_118_355 kd_161 (by omega) (by rw [ln_161]; omega) (by omega) ?_
    refine R_inc fx_118_356 rfl ?_
    refine R_goto fx_118_359 ?_
    rw [show (2 * (k : Int)).toNat = 2 * k by omega, show (2 * (k : Int) + 1).toNat = 2 * k + 1 by omega]
    have e9 : (xup (xup f 161 (2 * k) (r : Int)) 161 (2 * k + 1) (q : Int)) 161 (2 * (k : Int)).toNat = (r : Int) := by rw [show (2 * (k : Int)).toNat = 2 * k by omega, xup_i (by omega), xup_s]
    refine R_il fx_118_244 rfl ?_
    refine R_push fx_118_246 ?_
    refine R_icge fx_118_248 (by omega) (fun hc => ?_) (fun hc => ?_)
    · exact K _
    · refine R_il fx_118_251 rfl ?_
      refine R_ifeq fx_118_252 (by decide) (fun h => absurd h (by decide)) (fun _ => ?_)
      refine R_il fx_118_255 rfl ?_
      refine R_ifeq fx_118_257 (by decide) (fun h => absurd h (by decide)) (fun _ => ?_)
      refine R_al fx_118_260 rfl (by omega) ?_
      refine R_gr fx_118_261 kd_149 rfl rr_149_22 ?_
      refine R_push fx_118_264 ?_
      refine R_il fx_118_265 rfl ?_
      refine R_mul fx_118_266 ?_
      refine R_ia fx_118_267 (Or.inl kd_161) (by omega) (by rw [ln_161]; omega) (by omega) ?_
      refine R_push fx_118_268 ?_
      refine R_icne fx_118_269 (by omega) (fun hc3 => ?_) (fun hc3 => by omega)
      exact K _
  | succ d ih =>
    intro q hq hno
    have hq12 : q < 12 := by omega
    have hp2q := p2b q hq12
    have hpwq := pw12 hq12
    have hor2 := or_lt hor hq12
    have es : f 158 (144 * (k : Int) + 12 * (r : Int) + (q : Int)).toNat = nv (cbG G k r q) := by rw [show (144 * (k : Int) + 12 * (r : Int) + (q : Int)).toNat = 144 * k + 12 * r + q by omega, hB _ (by omega), show (144 * k + 12 * r + q) / 144 = k by omega, show (144 * k + 12 * r + q) / 12 % 12 = r by omega, show (144 * k + 12 * r + q) % 12 = q by omega]
    have hnb := nv_b (c := cbG G k r q) (cbG_b hV hr hq12)
    have key := pkey hV hk hset hB hR hl1 hl2 hr hq12
    have hnk := hno (12 * r + q) (by omega) (by omega)
    refine R_il fx_118_244 rfl ?_
    refine R_push fx_118_246 ?_
    refine R_icge fx_118_248 (by omega) (fun hc => by omega) (fun hc => ?_)
    refine R_il fx_118_251 rfl ?_
    refine R_ifeq fx_118_252 (by decide) (fun h => absurd h (by decide)) (fun _ => ?_)
    refine R_il fx_118_255 rfl ?_
    refine R_ifeq fx_118_257 (by decide) (fun h => absurd h (by decide)) (fun _ => ?_)
    refine R_al fx_118_260 rfl (by omega) ?_
    refine R_gr fx_118_261 kd_149 rfl rr_149_22 ?_
    refine R_push fx_118_264 ?_
    refine R_il fx_118_265 rfl ?_
    refine R_mul fx_118_266 ?_
    refine R_ia fx_118_267 (Or.inl kd_161) (by omega) (by rw [ln_161]; omega) (by omega) ?_
    refine R_push fx_118_268 ?_
    refine R_icne fx_118_269 (by omega) (fun hc => by omega) (fun hc => ?_)
    refine R_al fx_118_272 rfl (by omega) ?_
    refine R_il fx_118_273 rfl ?_
    refine R_il fx_118_274 rfl ?_
    refine R_cv fx_118_276 rfl rfl rfl rfl kd_149 ?_
    refine C_122 (by omega) (by omega) (fun hb2 => ?_) (fun hb2 => ?_)
    · refine R_ifne fx_118_279 (by decide) (fun _ => ?_) (fun h => absurd h (by decide))
      refine R_inc fx_118_356 rfl ?_
      refine R_goto fx_118_359 ?_
      exact ih (q + 1) (by omega) (fun i a b => hno i (by omega) b)
    · refine R_ifne fx_118_279 (by decide) (fun h => absurd h (by decide)) (fun _ => ?_)
      refine R_il fx_118_282 rfl ?_
      refine R_il fx_118_284 rfl ?_
      refine R_iceq fx_118_286 (by omega) (fun hc2 => ?_) (fun hc2 => ?_)
      · refine R_inc fx_118_356 rfl ?_
        refine R_goto fx_118_359 ?_
        exact ih (q + 1) (by omega) (fun i a b => hno i (by omega) b)
      · refine R_al fx_118_289 rfl (by omega) ?_
        refine R_il fx_118_290 rfl ?_
        refine R_il fx_118_292 rfl ?_
        refine R_il fx_118_294 rfl ?_
        refine R_push fx_118_295 ?_
        refine R_il fx_118_296 rfl ?_
        refine R_bin fx_118_298 (xb_shl (x := 1) (by omega) (by omega)) ?_
        refine R_bin fx_118_299 (xb_or (by omega) (by omega)) ?_
        rw [Nat.one_mul]
        refine R_push fx_118_300 ?_
        refine R_il fx_118_301 rfl ?_
        refine R_bin fx_118_303 (xb_shl (x := 1) (by omega) (by omega)) ?_
        refine R_bin fx_118_304 (xb_or (by omega) (by omega)) ?_
        rw [Nat.one_mul]
        refine R_add fx_118_305 ?_
        refine R_al fx_118_306 rfl (by omega) ?_
        refine R_gr fx_118_307 kd_149 rfl rr_149_17 ?_
        refine R_push fx_118_310 ?_
        refine R_il fx_118_313 rfl ?_
        refine R_mul fx_118_314 ?_
        refine R_push fx_118_315 ?_
        refine R_il fx_118_317 rfl ?_
        refine R_mul fx_118_319 ?_
        refine R_add fx_118_320 ?_
        refine R_il fx_118_321 rfl ?_
        refine R_add fx_118_323 ?_
        refine R_ia fx_118_324 (Or.inl kd_158) (by omega) (by rw [ln_158]; omega) (by omega) ?_
        refine R_cv fx_118_325 rfl rfl rfl rfl kd_149 ?_
        have kb : set.testBit q = false := by cases h9 : set.testBit q with
          | true => exact absurd h9 hb2
          | false => rfl
        rw [es]
        refine C_123 (by omega) (by omega) hnb hfb (fun hz => absurd (key.mpr ⟨⟨hbr, kb⟩, by rw [show (4096 * ((k : Int) + 1) + ((set ||| 2 ^ r ||| 2 ^ q : Nat) : Int)).toNat = 4096 * (k + 1) + (set ||| 2 ^ r ||| 2 ^ q) by omega, show (4096 * (k : Int) + (set : Int)).toNat = 4096 * k + set by omega] at hz; exact hz⟩) (by rw [hnk]; decide)) (fun hz => ?_)
        refine R_ifne fx_118_328 (by decide) (fun h => absurd h (by decide)) (fun _ => ?_)
        refine R_goto fx_118_331 ?_
        refine R_inc fx_118_356 rfl ?_
        refine R_goto fx_118_359 ?_
        exact ih (q + 1) (by omega) (fun i a b => hno i (by omega) b)
theorem C_118_r11 {k set : Nat} (hV : VG G) (hk : k < 4) (hset : set < 4096) (hB : BO f G 576) (hR : RowA f G) (hl1 : f 161 (2 * k) = -1) (hl2 : f 161 (2 * k + 1) = -1) {r0 q0 : Nat} (hr0 : r0 < 12) (hq0 : q0 < 12) (hok : okP (coG G) (cbG G k) k set (12 * r0 + q0) = true) (hno : ∀ i, i < 12 * r0 + q0 → okP (coG G) (cbG G k) k set i = false) (K : ∀ (X7 X8 : Option xV), Rf (SHL L) 118 368 [some (.inr 149), some (.inl (set : Int)), some (.inl (k : Int)), some (.inl 1), some (.inl 1), some (.inl (4096 * (k : Int) + (set : Int))), some (.inl (4096 * ((k : Int) + 1))), X7, X8] [] (xup (xup f 161 (2 * k) (r0 : Int)) 161 (2 * k + 1) (q0 : Int)) Q) : ∀ (d m : Nat) (X8 : Option xV), m + d = r0 → Rf (SHL L) 118 98 [some (.inr 149), some (.inl (set : Int)), some (.inl (k : Int)), some (.inl 1), some (.inl 1), some (.inl (4096 * (k : Int) + (set : Int))), some (.inl (4096 * ((k : Int) + 1))), some (.inl (m : Int)), X8] [] f Q := by
  have e1 : f 161 (2 * (k : Int)).toNat = -1 := hl1
  have e2 : f 161 (2 * (k : Int) + 1).toNat = -1 := hl2
  intro d
  induction d with
  | zero =>
    intro m X8 hm
    have hmj : m = r0 := by omega
    subst hmj
    obtain ⟨⟨kb, _⟩, _⟩ := (pkey hV hk hset hB hR hl1 hl2 hr0 hq0).mp hok
    refine R_il fx_118_98 rfl ?_
    refine R_push fx_118_100 ?_
    refine R_icge fx_118_102 (by omega) (fun hc => by omega) (fun hc => ?_)
    refine R_al fx_118_105 rfl (by omega) ?_
    refine R_gr fx_118_106 kd_149 rfl rr_149_22 ?_
    refine R_push fx_118_109 ?_
    refine R_il fx_118_110 rfl ?_
    refine R_mul fx_118_111 ?_
    refine R_ia fx_118_112 (Or.inl kd_161) (by omega) (by rw [ln_161]; omega) (by omega) ?_
    refine R_push fx_118_113 ?_
    refine R_icne fx_118_114 (by omega) (fun hc => by omega) (fun hc => ?_)
    refine R_al fx_118_117 rfl (by omega) ?_
    refine R_gr fx_118_118 kd_149 rfl rr_149_22 ?_
    refine R_push fx_118_121 ?_
    refine R_il fx_118_122 rfl ?_
    refine R_mul fx_118_123 ?_
    refine R_push fx_118_124 ?_
    refine R_add fx_118_125 ?_
    refine R_ia fx_118_126 (Or.inl kd_161) (by omega) (by rw [ln_161]; omega) (by omega) ?_
    refine R_push fx_118_127 ?_
    refine R_icne fx_118_128 (by omega) (fun hc => by omega) (fun hc => ?_)
    refine R_al fx_118_131 rfl (by omega) ?_
    refine R_il fx_118_132 rfl ?_
    refine R_il fx_118_133 rfl ?_
    refine R_cv fx_118_135 rfl rfl rfl rfl kd_149 ?_
    refine C_122 (by omega) (by omega) (fun hb => absurd hb (by rw [kb]; decide)) (fun hb => ?_)
    refine R_ifeq fx_118_138 (by decide) (fun _ => ?_) (fun h => absurd h (by decide))
    refine R_il fx_118_144 rfl ?_
    refine R_ifne fx_118_146 (by decide) (fun _ => ?_) (fun h => absurd h (by decide))
    refine R_il fx_118_191 rfl ?_
    refine R_ifne fx_118_192 (by decide) (fun _ => ?_) (fun h => absurd h (by decide))
    refine R_push fx_118_241 ?_
    refine R_is fx_118_242 ?_
    refine C_118_qf hV hk hset hB hR hl1 hl2 hr0 hq0 hok kb (fun Y8 => ?_) q0 0 (by omega) (fun i a b => hno i b)
    refine R_inc fx_118_362 rfl ?_
    refine R_goto fx_118_365 ?_
    exact C_118_x hk (by rw [xup_i (by omega), xup_s]; omega) (by rw [xup_s]; omega) (Or.inr (by rw [xup_s]; omega)) K _ (by omega) _
  | succ d ih =>
    intro m X8 hm
    refine R_il fx_118_98 rfl ?_
    refine R_push fx_118_100 ?_
    refine R_icge fx_118_102 (by omega) (fun hc => by omega) (fun hc => ?_)
    refine R_al fx_118_105 rfl (by omega) ?_
    refine R_gr fx_118_106 kd_149 rfl rr_149_22 ?_
    refine R_push fx_118_109 ?_
    refine R_il fx_118_110 rfl ?_
    refine R_mul fx_118_111 ?_
    refine R_ia fx_118_112 (Or.inl kd_161) (by omega) (by rw [ln_161]; omega) (by omega) ?_
    refine R_push fx_118_113 ?_
    refine R_icne fx_118_114 (by omega) (fun hc => by omega) (fun hc => ?_)
    refine R_al fx_118_117 rfl (by omega) ?_
    refine R_gr fx_118_118 kd_149 rfl rr_149_22 ?_
    refine R_push fx_118_121 ?_
    refine R_il fx_118_122 rfl ?_
    refine R_mul fx_118_123 ?_
    refine R_push fx_118_124 ?_
    refine R_add fx_118_125 ?_
    refine R_ia fx_118_126 (Or.inl kd_161) (by omega) (by rw [ln_161]; omega) (by omega) ?_
    refine R_push fx_118_127 ?_
    refine R_icne fx_118_128 (by omega) (fun hc => by omega) (fun hc => ?_)
    refine R_al fx_118_131 rfl (by omega) ?_
    refine R_il fx_118_132 rfl ?_
    refine R_il fx_118_133 rfl ?_
    refine R_cv fx_118_135 rfl rfl rfl rfl kd_149 ?_
    refine C_122 (by omega) (by omega) (fun hb => ?_) (fun hb => ?_)
    · refine R_ifeq fx_118_138 (by decide) (fun h => absurd h (by decide)) (fun _ => ?_)
      refine R_goto fx_118_141 ?_
      refine R_inc fx_118_362 rfl ?_
      refine R_goto fx_118_365 ?_
      exact ih (m + 1) _ (by omega)
    · refine R_ifeq fx_118_138 (by decide) (fun _ => ?_) (fun h => absurd h (by decide))
      refine R_il fx_118_144 rfl ?_
      refine R_ifne fx_118_146 (by decide) (fun _ => ?_) (fun h => absurd h (by decide))
      refine R_il fx_118_191 rfl ?_
      refine R_ifne fx_118_192 (by decide) (fun _ => ?_) (fun h => absurd h (by decide))
      refine R_push fx_118_241 ?_
      refine R_is fx_118_242 ?_
      have kb : set.testBit m = false := by cases h9 : set.testBit m with
        | true => exact absurd h9 hb
        | false => rfl
      refine C_118_qn hV hk hset hB hR hl1 hl2 (r := m) (by omega) kb (fun Y8 => ?_) 12 0 (by omega) (fun i a b => hno i (by omega))
      refine R_inc fx_118_362 rfl ?_
      refine R_goto fx_118_365 ?_
      exact ih (m + 1) _ (by omega)
theorem C_118_e {k set : Nat} {A B : Int} {a b : Option Nat} {X5 X6 X7 X8 : Option xV} (hk : k < 4) (hset : set < 4096) (ha : ∀ r, a = some r → r < 12) (hb : ∀ r, b = some r → r < 12) (e1 : f 161 (2 * k) = oz a) (e2 : f 161 (2 * k + 1) = oz b) (K : Rf (SHL L) 118 422 [some (.inr 149), some (.inl ((oset (oset set a) b : Nat) : Int)), some (.inl (k : Int)), some (.inl A), some (.inl B), X5, X6, X7, X8] [] f Q) : Rf (SHL L) 118 368 [some (.inr 149), some (.inl (set : Int)), some (.inl (k : Int)), some (.inl A), some (.inl B), X5, X6, X7, X8] [] f Q := by
  have f1 : f 161 (2 * (k : Int)).toNat = oz a := e1
  have f2 : f 161 (2 * (k : Int) + 1).toNat = oz b := e2
  cases a with
  | none =>
    have g1 : f 161 (2 * (k : Int)).toNat = -1 := f1
    cases b with
    | none =>
      have g2 : f 161 (2 * (k : Int) + 1).toNat = -1 := f2
      refine R_al fx_118_368 rfl (by omega) ?_
      refine R_gr fx_118_369 kd_149 rfl rr_149_22 ?_
      refine R_push fx_118_372 ?_
      refine R_il fx_118_373 rfl ?_
      refine R_mul fx_118_374 ?_
      refine R_ia fx_118_375 (Or.inl kd_161) (by omega) (by rw [ln_161]; omega) (by omega) ?_
      refine R_push fx_118_376 ?_
      refine R_iceq fx_118_377 (by omega) (fun hc => ?_) (fun hc => by omega)
      refine R_al fx_118_393 rfl (by omega) ?_
      refine R_gr fx_118_394 kd_149 rfl rr_149_22 ?_
      refine R_push fx_118_397 ?_
      refine R_il fx_118_398 rfl ?_
      refine R_mul fx_118_399 ?_
      refine R_push fx_118_400 ?_
      refine R_add fx_118_401 ?_
      refine R_ia fx_118_402 (Or.inl kd_161) (by omega) (by rw [ln_161]; omega) (by omega) ?_
      refine R_push fx_118_403 ?_
      refine R_iceq fx_118_404 (by omega) (fun hc => ?_) (fun hc => by omega)
      exact K
    | some q =>
      have g2 : f 161 (2 * (k : Int) + 1).toNat = (q : Int) := f2
      have hq := hb q rfl
      have p2 := p2b q hq
      have p3 := pw12 hq
      refine R_al fx_118_368 rfl (by omega) ?_
      refine R_gr fx_118_369 kd_149 rfl rr_149_22 ?_
      refine R_push fx_118_372 ?_
      refine R_il fx_118_373 rfl ?_
      refine R_mul fx_118_374 ?_
      refine R_ia fx_118_375 (Or.inl kd_161) (by omega) (by rw [ln_161]; omega) (by omega) ?_
      refine R_push fx_118_376 ?_
      refine R_iceq fx_118_377 (by omega) (fun hc => ?_) (fun hc => by omega)
      refine R_al fx_118_393 rfl (by omega) ?_
      refine R_gr fx_118_394 kd_149 rfl rr_149_22 ?_
      refine R_push fx_118_397 ?_
      refine R_il fx_118_398 rfl ?_
      refine R_mul fx_118_399 ?_
      refine R_push fx_118_400 ?_
      refine R_add fx_118_401 ?_
      refine R_ia fx_118_402 (Or.inl kd_161) (by omega) (by rw [ln_161]; omega) (by omega) ?_
      refine R_push fx_118_403 ?_
      refine R_iceq fx_118_404 (by omega) (fun hc => by omega) (fun hc => ?_)
      refine R_il fx_118_407 rfl ?_
      refine R_push fx_118_408 ?_
      refine R_al fx_118_409 rfl (by omega) ?_
      refine R_gr fx_118_410 kd_149 rfl rr_149_22 ?_
      refine R_push fx_118_413 ?_
      refine R_il fx_118_414 rfl ?_
      refine R_mul fx_118_415 ?_
      refine R_push fx_118_416 ?_
      refine R_add fx_118_417 ?_
      refine R_ia fx_118_418 (Or.inl kd_161) (by omega) (by rw [ln_161]; omega) (by omega) ?_
      rw [g2]
      refine R_bin fx_118_419 (xb_shl (x := 1) (by omega) (by omega)) ?_
      refine R_bin fx_118_420 (xb_or (by omega) (by omega)) ?_
      rw [Nat.one_mul]
      refine R_is fx_118_421 ?_
      exact K
  | some r =>
    have g1 : f 161 (2 * (k : Int)).toNat = (r : Int) := f1
    have hr := ha r rfl
    have p2 := p2b r hr
    have p3 := pw12 hr
    have hor := or_lt hset hr
    cases b with
    | none =>
      have g2 : f 161 (2 * (k : Int) + 1).toNat = -1 := f2
      refine R_al fx_118_368 rfl (by omega) ?_
      refine R_gr fx_118_369 kd_149 rfl rr_149_22 ?_
      refine R_push fx_118_372 ?_
      refine R_il fx_118_373 rfl ?_
      refine R_mul fx_118_374 ?_
      refine R_ia fx_118_375 (Or.inl kd_161) (by omega) (by rw [ln_161]; omega) (by omega) ?_
      refine R_push fx_118_376 ?_
      refine R_iceq fx_118_377 (by omega) (fun hc => by omega) (fun hc => ?_)
      refine R_il fx_118_380 rfl ?_
      refine R_push fx_118_381 ?_
      refine R_al fx_118_382 rfl (by omega) ?_
      refine R_gr fx_118_383 kd_149 rfl rr_149_22 ?_
      refine R_push fx_118_386 ?_
      refine R_il fx_118_387 rfl ?_
      refine R_mul fx_118_388 ?_
      refine R_ia fx_118_389 (Or.inl kd_161) (by omega) (by rw [ln_161]; omega) (by omega) ?_
      rw [g1]
      refine R_bin fx_118_390 (xb_shl (x := 1) (by omega) (by omega)) ?_
      refine R_bin fx_118_391 (xb_or (by omega) (by omega)) ?_
      rw [Nat.one_mul]
      refine R_is fx_118_392 ?_
      refine R_al fx_118_393 rfl (by omega) ?_
      refine R_gr fx_118_394 kd_149 rfl rr_149_22 ?_
      refine R_push fx_118_397 ?_
      refine R_il fx_118_398 rfl ?_
      refine R_mul fx_118_399 ?_
      refine R_push fx_118_400 ?_
      refine R_add fx_118_401 ?_
      refine R_ia fx_118_402 (Or.inl kd_161) (by omega) (by rw [ln_161]; omega) (by omega) ?_
      refine R_push fx_118_403 ?_
      refine R_iceq fx_118_404 (by omega) (fun hc => ?_) (fun hc => by omega)
      exact K
    | some q =>
      have g2 : f 161 (2 * (k : Int) + 1).toNat = (q : Int) := f2
      have hq := hb q rfl
      have p4 := p2b q hq
      have p5 := pw12 hq
      refine R_al fx_118_368 rfl (by omega) ?_
      refine R_gr fx_118_369 kd_149 rfl rr_149_22 ?_
      refine R_push fx_118_372 ?_
      refine R_il fx_118_373 rfl ?_
      refine R_mul fx_118_374 ?_
      refine R_ia fx_118_375 (Or.inl kd_161) (by omega) (by rw [ln_161]; omega) (by omega) ?_
      refine R_push fx_118_376 ?_
      refine R_iceq fx_118_377 (by omega) (fun hc => by omega) (fun hc => ?_)
      refine R_il fx_118_380 rfl ?_
      refine R_push fx_118_381 ?_
      refine R_al fx_118_382 rfl (by omega) ?_
      refine R_gr fx_118_383 kd_149 rfl rr_149_22 ?_
      refine R_push fx_118_386 ?_
      refine R_il fx_118_387 rfl ?_
      refine R_mul fx_118_388 ?_
      refine R_ia fx_118_389 (Or.inl kd_161) (by omega) (by rw [ln_161]; omega) (by omega) ?_
      rw [g1]
      refine R_bin fx_118_390 (xb_shl (x := 1) (by omega) (by omega)) ?_
      refine R_bin fx_118_391 (xb_or (by omega) (by omega)) ?_
      rw [Nat.one_mul]
      refine R_is fx_118_392 ?_
      refine R_al fx_118_393 rfl (by omega) ?_
      refine R_gr fx_118_394 kd_149 rfl rr_149_22 ?_
      refine R_push fx_118_397 ?_
      refine R_il fx_118_398 rfl ?_
      refine R_mul fx_118_399 ?_
      refine R_push fx_118_400 ?_
      refine R_add fx_118_401 ?_
      refine R_ia fx_118_402 (Or.inl kd_161) (by omega) (by rw [ln_161]; omega) (by omega) ?_
      refine R_push fx_118_403 ?_
      refine R_iceq fx_118_404 (by omega) (fun hc => by omega) (fun hc => ?_)
      refine R_il fx_118_407 rfl ?_
      refine R_push fx_118_408 ?_
      refine R_al fx_118_409 rfl (by omega) ?_
      refine R_gr fx_118_410 kd_149 rfl rr_149_22 ?_
      refine R_push fx_118_413 ?_
      refine R_il fx_118_414 rfl ?_
      refine R_mul fx_118_415 ?_
      refine R_push fx_118_416 ?_
      refine R_add fx_118_417 ?_
      refine R_ia fx_118_418 (Or.inl kd_161) (by omega) (by rw [ln_161]; omega) (by omega) ?_
      rw [g2]
      refine R_bin fx_118_419 (xb_shl (x := 1) (by omega) (by omega)) ?_
      refine R_bin fx_118_420 (xb_or (by omega) (by omega)) ?_
      rw [Nat.one_mul]
      refine R_is fx_118_421 ?_
      exact K
theorem C_118_k (hV : VG G) (hM : Mg f G) (hI : SI f G 96) (hB : BO f G 576) (hR : RowA f G) (K : ∀ g : xF, (∀ c, c ≠ 161 → g c = f c) → (∀ j, j < 8 → g 161 j = chG (coG G) j) → Q [.inl 1] g) : ∀ (n k : Nat) (X3 X4 X5 X6 X7 X8 : Option xV) (g : xF), k + n = 4 → (∀ c, c ≠ 161 → g c = f c) → (∀ j, j < 2 * k → g 161 j = chG (coG G) j) → Pst G (2 * k) (setK (coG G) k) → Rf (SHL L) 118 21 [some (.inr 149), some (.inl ((setK (coG G) k : Nat) : Int)), some (.inl (k : Int)), X3, X4, X5, X6, X7, X8] [] g Q := by
  have ho := coG_ok hV
  intro n
  induction n with
  | zero =>
    intro k X3 X4 X5 X6 X7 X8 g hk hA hj hP
    have hkj : k = 4 := by omega
    subst hkj
    refine R_il fx_118_21 rfl ?_
    refine R_push fx_118_22 ?_
    refine R_icge fx_118_23 (by omega) (fun hc => ?_) (fun hc => by omega)
    refine R_push fx_118_428 ?_
    exact R_ret fx_118_429 (by decide) (K g hA hj)
  | succ n ih =>
    intro k X3 X4 X5 X6 X7 X8 g hk hA hj hP
    obtain ⟨set, hse⟩ : ∃ s, s = setK (coG G) k := ⟨_, rfl⟩
    have hMg : Mg g G := hM.kept (by rw [hA 149 (by omega)]) (hA 150 (by omega))
    have e1 : (2 * (k : Int)).toNat = 2 * k := by omega
    have e2 : (2 * (k : Int) + 1).toNat = 2 * k + 1 := by omega
    have v1 := hV.2.2.2.1 (2 * k) (by omega)
    have v2 := hV.2.2.2.1 (2 * k + 1) (by omega)
    obtain ⟨gu, hgu⟩ : ∃ gu, gu = xup (xup g 161 (2 * k) (-1)) 161 (2 * k + 1) (-1) := ⟨_, rfl⟩
    have l1 : gu 161 (2 * k) = -1 := by rw [hgu, xup_i (by omega), xup_s]
    have l2 : gu 161 (2 * k + 1) = -1 := by rw [hgu, xup_s]
    have lj : ∀ j, j < 2 * k → gu 161 j = chG (coG G) j := fun j h => by rw [hgu, xup_i (by omega), xup_i (by omega)]; exact hj j h
    have lA : ∀ c, c ≠ 161 → gu c = f c := fun c h => by rw [hgu, ← hA c h]; funext y; rw [xup_a h, xup_a h]
    have hIu : SI gu G 96 := fun j h => by rw [lA 157 (by omega)]; exact hI j h
    have hBu : BO gu G 576 := fun j h => by rw [lA 158 (by omega)]; exact hB j h
    have hRu : RowA gu G := fun k2 h v hv => by rw [lA 159 (by omega), lA 160 (by omega)]; exact hR k2 h v hv
    have ea : chO (coG G) (2 * k) = (ch1 (coG G) k set).1 := by unfold chO; rw [if_pos (by omega), show 2 * k / 2 = k by omega, hse]
    have eb : chO (coG G) (2 * k + 1) = (ch1 (coG G) k set).2 := by unfold chO; rw [if_neg (by omega), show (2 * k + 1) / 2 = k by omega, hse]
    rw [← hse] at hP
    rw [← hse]
    have fin : ∀ (g2 : xF) (A B : Int) (Y5 Y6 Y7 Y8 : Option xV), (∀ c, c ≠ 161 → g2 c = f c) → (∀ j, j < 2 * k → g2 161 j = chG (coG G) j) → g2 161 (2 * k) = oz (ch1 (coG G) k set).1 → g2 161 (2 * k + 1) = oz (ch1 (coG G) k set).2 → Pst G (2 * k + 2) (st1 (coG G) k set) → Rf (SHL L) 118 422 [some (.inr 149), some (.inl ((st1 (coG G) k set : Nat) : Int)), some (.inl (k : Int)), some (.inl A), some (.inl B), Y5, Y6, Y7, Y8] [] g2 Q := fun g2 A B Y5 Y6 Y7 Y8 q1 q2 q3 q4 q5 => by
      refine R_inc fx_118_422 rfl ?_
      refine R_goto fx_118_425 ?_
      have hs1 : st1 (coG G) k set = setK (coG G) (k + 1) := by rw [hse]; rfl
      rw [hs1]
      refine ih (k + 1) _ _ _ _ _ _ g2 (by omega) q1 (fun j h => ?_) (by rw [← hs1]; exact q5)
      by_cases j1 : j = 2 * k
      · subst j1; unfold chG; rw [ea]; exact q3
      · by_cases j2 : j = 2 * k + 1
        · subst j2; unfold chG; rw [eb]; exact q4
        · exact q2 j (by omega)
    have hslot : mbG G k = false → Pst G (2 * k + 2) (st1 (coG G) k set) ∧ (ch1 (coG G) k set).1 = pkS (coG G) (2 * k) set ∧ (ch1 (coG G) k set).2 = pkS (coG G) (2 * k + 1) (oset set (pkS (coG G) (2 * k) set)) := fun hm => by
      have hm2 : (coG G).mb k = false := hm
      have c1 : ch1 (coG G) k set = (pkS (coG G) (2 * k) set, pkS (coG G) (2 * k + 1) (oset set (pkS (coG G) (2 * k) set))) := by unfold ch1; rw [hm2]; rfl
      have p1 := Pst_slot hV (s := 2 * k) (by omega) (by rw [show 2 * k / 2 = k by omega]; exact hm) hP
      have p2 := Pst_slot hV (s := 2 * k + 1) (by omega) (by rw [show (2 * k + 1) / 2 = k by omega]; exact hm) p1
      refine ⟨?_, by rw [c1], by rw [c1]⟩
      unfold st1
      rw [c1]
      exact p2
    refine R_il fx_118_21 rfl ?_
    refine R_push fx_118_22 ?_
    refine R_icge fx_118_23 (by omega) (fun hc => by omega) (fun hc => ?_)
    refine R_al fx_118_26 rfl (by omega) ?_
    refine R_push fx_118_27 ?_
    refine R_il fx_118_28 rfl ?_
    refine R_mul fx_118_29 ?_
    refine R_cv fx_118_30 rfl rfl rfl rfl kd_149 ?_
    refine C_109 (by omega) hMg (by rw [e1]; omega) (fun hc1 => ?_) (fun hc1 => ?_) <;> rw [e1] at hc1
    · refine R_is fx_118_33 ?_
      refine R_al fx_118_34 rfl (by omega) ?_
      refine R_push fx_118_35 ?_
      refine R_il fx_118_36 rfl ?_
      refine R_mul fx_118_37 ?_
      refine R_push fx_118_38 ?_
      refine R_add fx_118_39 ?_
      refine R_cv fx_118_40 rfl rfl rfl rfl kd_149 ?_
      refine C_109 (by omega) hMg (by rw [e2]; omega) (fun hc2 => ?_) (fun hc2 => ?_) <;> rw [e2] at hc2
      · refine R_is fx_118_43 ?_
        refine R_al fx_118_45 rfl (by omega) ?_
        refine R_gr fx_118_46 kd_149 rfl rr_149_22 ?_
        refine R_push fx_118_49 ?_
        refine R_il fx_118_50 rfl ?_
        refine R_mul fx_118_51 ?_
        refine R_push fx_118_52 ?_
        refine R_ias fx_118_53 kd_161 (by omega) (by rw [ln_161]; omega) (by omega) ?_
        refine R_al fx_118_54 rfl (by omega) ?_
        refine R_gr fx_118_55 kd_149 rfl rr_149_22 ?_
        refine R_push fx_118_58 ?_
        refine R_il fx_118_59 rfl ?_
        refine R_mul fx_118_60 ?_
        refine R_push fx_118_61 ?_
        refine R_add fx_118_62 ?_
        refine R_push fx_118_63 ?_
        refine R_ias fx_118_64 kd_161 (by omega) (by rw [ln_161]; omega) (by omega) ?_
        refine R_il fx_118_65 rfl ?_
        refine R_ifne fx_118_66 (by decide) (fun _ => ?_) (fun h => absurd h (by decide))
        refine R_push fx_118_77 ?_
        refine R_il fx_118_80 rfl ?_
        refine R_mul fx_118_81 ?_
        refine R_il fx_118_82 rfl ?_
        refine R_add fx_118_83 ?_
        refine R_is fx_118_84 ?_
        refine R_push fx_118_86 ?_
        refine R_il fx_118_89 rfl ?_
        refine R_push fx_118_90 ?_
        refine R_add fx_118_91 ?_
        refine R_mul fx_118_92 ?_
        refine R_is fx_118_93 ?_
        refine R_push fx_118_95 ?_
        refine R_is fx_118_96 ?_
        rw [e1, e2, ← hgu]
        have hch : ∃ r q, r < 12 ∧ q < 12 ∧ (ch1 (coG G) k set).1 = some r ∧ (ch1 (coG G) k set).2 = some q ∧ ff (okP (coG G) (cbG G k) k set) 144 = some (12 * r + q) ∧ Pst G (2 * k + 2) (st1 (coG G) k set) := by
          cases hm : mbG G k with
          | true =>
            obtain ⟨t, t1, t2, t3⟩ := Pst_pair hV (by omega) hm hP
            have hm2 : (coG G).mb k = true := hm
            have c1 : ch1 (coG G) k set = (some (t / 12), some (t % 12)) := by unfold ch1; rw [hm2]; show (Option.map _ (ff (okP (coG G) (cpG G k) k set) 144), Option.map _ (ff (okP (coG G) (cpG G k) k set) 144)) = _; rw [t2]; rfl
            refine ⟨t / 12, t % 12, by omega, by omega, by rw [c1], by rw [c1], ?_, ?_⟩
            · rw [show cbG G k = cpG G k from funext (fun r => funext (fun q => cb_mb hm)), t2]; congr 1; omega
            · unfold st1; rw [c1]; exact t3
          | false =>
            obtain ⟨p1, p2, p3⟩ := hslot hm
            have hn : ¬ G (12 + k) ≤ G (16 + k) := fun z => of_decide_eq_false hm ⟨z, hc1, hc2⟩
            obtain ⟨r, q, a1, a2, a3, a4, a5⟩ := two_pick ho (k := k) (set := set) (by omega) hm (decide_eq_true hc1 : wsG G (2 * k) = true) (decide_eq_true hc2 : wsG G (2 * k + 1) = true) hP.2.2.2
            refine ⟨r, q, a1, a2, by rw [p2]; exact a3, ?_, ?_, p1⟩
            · rw [p3, a3]; exact a4
            · rw [show cbG G k = c2 (coG G) k from funext (fun r => funext (fun q => cb_no hn))]; exact a5
        obtain ⟨r, q, a1, a2, a3, a4, a5, a6⟩ := hch
        obtain ⟨_, b2, b3⟩ := ff_spec a5
        refine C_118_r11 hV (by omega) hP.1 hBu hRu l1 l2 a1 a2 b2 b3 (fun Y7 Y8 => ?_) r 0 _ (by omega)
        have z1 : (xup (xup gu 161 (2 * k) (r : Int)) 161 (2 * k + 1) (q : Int)) 161 (2 * k) = oz (ch1 (coG G) k set).1 := by rw [xup_i (by omega), xup_s, a3]; rfl
        have z2 : (xup (xup gu 161 (2 * k) (r : Int)) 161 (2 * k + 1) (q : Int)) 161 (2 * k + 1) = oz (ch1 (coG G) k set).2 := by rw [xup_s, a4]; rfl
        refine C_118_e (a := (ch1 (coG G) k set).1) (b := (ch1 (coG G) k set).2) (by omega) hP.1 (fun r2 h => by rw [a3] at h; have := Option.some.inj h; omega) (fun r2 h => by rw [a4] at h; have := Option.some.inj h; omega) z1 z2 (fin _ _ _ _ _ _ _ (fun c h => ?_) (fun j h => ?_) z1 z2 a6)
        · funext y; rw [xup_a h, xup_a h, lA c h]
        · rw [xup_i (by omega), xup_i (by omega)]; exact lj j h
      · refine R_is fx_118_43 ?_
        refine R_al fx_118_45 rfl (by omega) ?_
        refine R_gr fx_118_46 kd_149 rfl rr_149_22 ?_
        refine R_push fx_118_49 ?_
        refine R_il fx_118_50 rfl ?_
        refine R_mul fx_118_51 ?_
        refine R_push fx_118_52 ?_
        refine R_ias fx_118_53 kd_161 (by omega) (by rw [ln_161]; omega) (by omega) ?_
        refine R_al fx_118_54 rfl (by omega) ?_
        refine R_gr fx_118_55 kd_149 rfl rr_149_22 ?_
        refine R_push fx_118_58 ?_
        refine R_il fx_118_59 rfl ?_
        refine R_mul fx_118_60 ?_
        refine R_push fx_118_61 ?_
        refine R_add fx_118_62 ?_
        refine R_push fx_118_63 ?_
        refine R_ias fx_118_64 kd_161 (by omega) (by rw [ln_161]; omega) (by omega) ?_
        refine R_il fx_118_65 rfl ?_
        refine R_ifne fx_118_66 (by decide) (fun _ => ?_) (fun h => absurd h (by decide))
        refine R_push fx_118_77 ?_
        refine R_il fx_118_80 rfl ?_
        refine R_mul fx_118_81 ?_
        refine R_il fx_118_82 rfl ?_
        refine R_add fx_118_83 ?_
        refine R_is fx_118_84 ?_
        refine R_push fx_118_86 ?_
        refine R_il fx_118_89 rfl ?_
        refine R_push fx_118_90 ?_
        refine R_add fx_118_91 ?_
        refine R_mul fx_118_92 ?_
        refine R_is fx_118_93 ?_
        refine R_push fx_118_95 ?_
        refine R_is fx_118_96 ?_
        rw [e1, e2, ← hgu]
        obtain ⟨p1, p2, p3⟩ := hslot (mbG_f2 (by omega))
        obtain ⟨r', x1, x2⟩ := slot_ex ho (s := 2 * k) (set := set) (by omega) (decide_eq_true hc1 : wsG G (2 * k) = true) (by rw [show 2 * k / 2 = k by omega]; exact mbG_f2 (by omega)) hP.2.2.2
        obtain ⟨r, er⟩ := ff_ex x1 x2
        obtain ⟨b1, b2, b3⟩ := ff_spec er
        have a3 : (ch1 (coG G) k set).1 = some r := by rw [p2]; unfold pkS; rw [show (coG G).wa (2 * k) = true from decide_eq_true hc1]; exact er
        have a4 : (ch1 (coG G) k set).2 = none := by rw [p3]; unfold pkS; rw [show (coG G).wa (2 * k + 1) = false from wsG_f (by omega)]; rfl
        refine C_118_r10 hV (by omega) hc1 (by omega) hP.1 hIu hRu l1 l2 b1 b2 b3 (fun Y7 Y8 => ?_) r 0 _ (by omega)
        have z1 : (xup gu 161 (2 * k) (r : Int)) 161 (2 * k) = oz (ch1 (coG G) k set).1 := by rw [xup_s, a3]; rfl
        have z2 : (xup gu 161 (2 * k) (r : Int)) 161 (2 * k + 1) = oz (ch1 (coG G) k set).2 := by rw [xup_i (by omega), l2, a4]; rfl
        refine C_118_e (a := (ch1 (coG G) k set).1) (b := (ch1 (coG G) k set).2) (by omega) hP.1 (fun r2 h => by rw [a3] at h; have := Option.some.inj h; omega) (fun r2 h => by rw [a4] at h; exact absurd h (by simp)) z1 z2 (fin _ _ _ _ _ _ _ (fun c h => ?_) (fun j h => ?_) z1 z2 p1)
        · funext y; rw [xup_a h, lA c h]
        · rw [xup_i (by omega)]; exact lj j h
    · refine R_is fx_118_33 ?_
      refine R_al fx_118_34 rfl (by omega) ?_
      refine R_push fx_118_35 ?_
      refine R_il fx_118_36 rfl ?_
      refine R_mul fx_118_37 ?_
      refine R_push fx_118_38 ?_
      refine R_add fx_118_39 ?_
      refine R_cv fx_118_40 rfl rfl rfl rfl kd_149 ?_
      refine C_109 (by omega) hMg (by rw [e2]; omega) (fun hc2 => ?_) (fun hc2 => ?_) <;> rw [e2] at hc2
      · refine R_is fx_118_43 ?_
        refine R_al fx_118_45 rfl (by omega) ?_
        refine R_gr fx_118_46 kd_149 rfl rr_149_22 ?_
        refine R_push fx_118_49 ?_
        refine R_il fx_118_50 rfl ?_
        refine R_mul fx_118_51 ?_
        refine R_push fx_118_52 ?_
        refine R_ias fx_118_53 kd_161 (by omega) (by rw [ln_161]; omega) (by omega) ?_
        refine R_al fx_118_54 rfl (by omega) ?_
        refine R_gr fx_118_55 kd_149 rfl rr_149_22 ?_
        refine R_push fx_118_58 ?_
        refine R_il fx_118_59 rfl ?_
        refine R_mul fx_118_60 ?_
        refine R_push fx_118_61 ?_
        refine R_add fx_118_62 ?_
        refine R_push fx_118_63 ?_
        refine R_ias fx_118_64 kd_161 (by omega) (by rw [ln_161]; omega) (by omega) ?_
        refine R_il fx_118_65 rfl ?_
        refine R_ifne fx_118_66 (by decide) (fun h => absurd h (by decide)) (fun _ => ?_)
        refine R_il fx_118_69 rfl ?_
        refine R_ifne fx_118_71 (by decide) (fun _ => ?_) (fun h => absurd h (by decide))
        refine R_push fx_118_77 ?_
        refine R_il fx_118_80 rfl ?_
        refine R_mul fx_118_81 ?_
        refine R_il fx_118_82 rfl ?_
        refine R_add fx_118_83 ?_
        refine R_is fx_118_84 ?_
        refine R_push fx_118_86 ?_
        refine R_il fx_118_89 rfl ?_
        refine R_push fx_118_90 ?_
        refine R_add fx_118_91 ?_
        refine R_mul fx_118_92 ?_
        refine R_is fx_118_93 ?_
        refine R_push fx_118_95 ?_
        refine R_is fx_118_96 ?_
        rw [e1, e2, ← hgu]
        obtain ⟨p1, p2, p3⟩ := hslot (mbG_f1 (by omega))
        have a3 : (ch1 (coG G) k set).1 = none := by rw [p2]; unfold pkS; rw [show (coG G).wa (2 * k) = false from wsG_f (by omega)]; rfl
        have hmn : mn (lev (coG G) (2 * k + 1) set) ≠ 268435456 := by rw [← lev_skip ho (s := 2 * k) (by omega) (wsG_f (by omega))]; exact hP.2.2.2
        obtain ⟨r', x1, x2⟩ := slot_ex ho (s := 2 * k + 1) (set := set) (by omega) (decide_eq_true hc2 : wsG G (2 * k + 1) = true) (by rw [show (2 * k + 1) / 2 = k by omega]; exact mbG_f1 (by omega)) hmn
        obtain ⟨r, er⟩ := ff_ex x1 x2
        obtain ⟨b1, b2, b3⟩ := ff_spec er
        have a4 : (ch1 (coG G) k set).2 = some r := by rw [p3, ← p2, a3]; unfold pkS; rw [show (coG G).wa (2 * k + 1) = true from decide_eq_true hc2]; exact er
        refine C_118_r01 hV (by omega) (by omega) hc2 hP.1 hIu hRu l1 l2 b1 b2 b3 (fun Y7 Y8 => ?_) r 0 _ (by omega)
        have z1 : (xup gu 161 (2 * k + 1) (r : Int)) 161 (2 * k) = oz (ch1 (coG G) k set).1 := by rw [xup_i (by omega), l1, a3]; rfl
        have z2 : (xup gu 161 (2 * k + 1) (r : Int)) 161 (2 * k + 1) = oz (ch1 (coG G) k set).2 := by rw [xup_s, a4]; rfl
        refine C_118_e (a := (ch1 (coG G) k set).1) (b := (ch1 (coG G) k set).2) (by omega) hP.1 (fun r2 h => by rw [a3] at h; exact absurd h (by simp)) (fun r2 h => by rw [a4] at h; have := Option.some.inj h; omega) z1 z2 (fin _ _ _ _ _ _ _ (fun c h => ?_) (fun j h => ?_) z1 z2 p1)
        · funext y; rw [xup_a h, lA c h]
        · rw [xup_i (by omega)]; exact lj j h
      · refine R_is fx_118_43 ?_
        refine R_al fx_118_45 rfl (by omega) ?_
        refine R_gr fx_118_46 kd_149 rfl rr_149_22 ?_
        refine R_push fx_118_49 ?_
        refine R_il fx_118_50 rfl ?_
        refine R_mul fx_118_51 ?_
        refine R_push fx_118_52 ?_
        refine R_ias fx_118_53 kd_161 (by omega) (by rw [ln_161]; omega) (by omega) ?_
        refine R_al fx_118_54 rfl (by omega) ?_
        refine R_gr fx_118_55 kd_149 rfl rr_149_22 ?_
        refine R_push fx_118_58 ?_
        refine R_il fx_118_59 rfl ?_
        refine R_mul fx_118_60 ?_
        refine R_push fx_118_61 ?_
        refine R_add fx_118_62 ?_
        refine R_push fx_118_63 ?_
        refine R_ias fx_118_64 kd_161 (by omega) (by rw [ln_161]; omega) (by omega) ?_
        refine R_il fx_118_65 rfl ?_
        refine R_ifne fx_118_66 (by decide) (fun h => absurd h (by decide)) (fun _ => ?_)
        refine R_il fx_118_69 rfl ?_
        refine R_ifne fx_118_71 (by decide) (fun h => absurd h (by decide)) (fun _ => ?_)
        refine R_goto fx_118_74 ?_
        rw [e1, e2, ← hgu]
        obtain ⟨p1, p2, p3⟩ := hslot (mbG_f1 (by omega))
        have a3 : (ch1 (coG G) k set).1 = none := by rw [p2]; unfold pkS; rw [show (coG G).wa (2 * k) = false from wsG_f (by omega)]; rfl
        have a4 : (ch1 (coG G) k set).2 = none := by rw [p3]; unfold pkS; rw [show (coG G).wa (2 * k + 1) = false from wsG_f (by omega)]; rfl
        have hst : st1 (coG G) k set = set := by unfold st1; rw [a3, a4]; rfl
        have h9 := fin gu 0 0 X5 X6 X7 X8 lA lj (by rw [l1, a3]; rfl) (by rw [l2, a4]; rfl) p1
        rw [hst] at h9
        exact h9
def TF (g f : xF) : Prop := (∀ c, (c < 149 ∨ (149 < c ∧ c < 155) ∨ 161 < c) → g c = f c) ∧ (∀ i, i < 10 → g 149 i = f 149 i) ∧ MT g
theorem C_118 (hV : VG G) (hM : Mg f G) (hT : MT f) (K1 : mn (lev (coG G) 0 0) ≠ 268435456 → ∀ g : xF, TF g f → g 159 0 = mn (lev (coG G) 0 0) → (∀ j, j < 8 → g 161 j = chG (coG G) j) → Q [.inl 1] g) (K0 : mn (lev (coG G) 0 0) = 268435456 → ∀ g : xF, TF g f → Q [.inl 0] g) : Rf (SHL L) 118 0 (xloc 118 [.inr 149]) [] f Q := by
  have hb := mn_b (lev_sml (coG_ok hV) (s := 0) (set := 0) (by omega))
  refine R_al fx_118_0 rfl (by omega) ?_
  refine R_cv fx_118_1 rfl rfl rfl rfl kd_149 ?_
  refine C_119 hV hM hT (fun g1 hF hI hB hR => ?_)
  have e0 : g1 159 (0 : Int).toNat = nv (mn (lev (coG G) 0 0)) := (hR 0 (by omega) 0 (by omega)).1
  have nb : (mn (lev (coG G) 0 0) = 268435456 ∧ nv (mn (lev (coG G) 0 0)) = 1000000) ∨ (mn (lev (coG G) 0 0) ≠ 268435456 ∧ nv (mn (lev (coG G) 0 0)) = mn (lev (coG G) 0 0)) := by unfold nv; split <;> omega
  have hT1 : TF g1 f := ⟨fun c h => hF.1 c (by omega), hF.2.1, hF.2.2⟩
  have hM1 : Mg g1 G := hM.kept (hF.2.1 4 (by omega)) (hF.1 150 (by omega))
  refine R_al fx_118_4 rfl (by omega) ?_
  refine R_gr fx_118_5 kd_149 rfl rr_149_18 ?_
  refine R_push fx_118_8 ?_
  refine R_ia fx_118_9 (Or.inl kd_159) (by omega) (by rw [ln_159]; omega) (by omega) ?_
  refine R_push fx_118_10 ?_
  refine R_iclt fx_118_12 (by omega) (fun hc => ?_) (fun hc => ?_)
  · refine R_push fx_118_17 ?_
    refine R_is fx_118_18 ?_
    refine R_push fx_118_19 ?_
    refine R_is fx_118_20 ?_
    refine C_118_k hV hM1 hI hB hR (fun g a b => K1 (by omega) g ⟨fun c h => by rw [a c (by omega)]; exact hT1.1 c h, fun i h => by rw [a 149 (by omega)]; exact hT1.2.1 i h, fun j h => by rw [a 156 (by omega)]; exact hT1.2.2.1 j h, by rw [a 149 (by omega)]; exact hT1.2.2.2⟩ (by rw [a 159 (by omega)]; have : g1 159 0 = nv (mn (lev (coG G) 0 0)) := e0; omega) b) 4 0 _ _ _ _ _ _ g1 (by omega) (fun _ _ => rfl) (fun j h => absurd h (by omega)) ⟨by show (0 : Nat) < 4096; omega, fun i hi => absurd (show (0 : Nat).testBit i = true from hi) (by simp), popc_0.symm, by show mn (lev (coG G) 0 0) ≠ _; omega⟩
  · refine R_push fx_118_15 ?_
    exact R_ret fx_118_16 (by decide) (K0 (by omega) g1 hT1)
end TM
