/-! ===== the model: make ===== -/
def QF (g f : xF) : Prop := (∀ c, c ≠ 149 → c ≠ 150 → c ≠ 155 → c ≠ 156 → g c = f c) ∧ (∀ i, (i < 10 ∨ 15 < i) → g 149 i = f 149 i) ∧ MT g
theorem QF_w {g g1 f : xF} (h : QF g f) (hW : WF g1 g) : QF g1 f := ⟨fun c c1 c2 c3 c4 => by rw [hW.1 c c1 c3 c4]; exact h.1 c c1 c2 c3 c4, fun i hi => by rw [hW.2.1 i hi]; exact h.2.1 i hi, hW.2.2⟩
theorem QF_g {g g1 f : xF} (h : QF g f) (hW : ∀ c, c ≠ 150 → g1 c = g c) : QF g1 f := ⟨fun c c1 c2 c3 c4 => by rw [hW c c2]; exact h.1 c c1 c2 c3 c4, fun i hi => by rw [hW 149 (by omega)]; exact h.2.1 i hi, fun j hj => by rw [hW 156 (by omega)]; exact h.2.2.1 j hj, by rw [hW 149 (by omega)]; exact h.2.2.2⟩
theorem Mg_w {g g1 : xF} {U : Nat → Int} (h : Mg g U) (hW : WF g1 g) : Mg g1 U := h.kept (hW.2.1 4 (by omega)) (hW.1 150 (by omega) (by omega) (by omega))
section MF
variable {L : Nat} {f : xF} {Q : List xV → xF → Prop} {G H U : Nat → Int} {set : Nat} {hi : Nat → Nat → Int} {n : Nat}
theorem C_125_SN {k : Nat} {A : Option xV} (hV : VG G) (hk : k < 4) (hI : MI G H set) (hMg : Mg f (upG H 3 (G 3 + 1))) (hT : MT f) {r : Nat} (hr : r < 12) (hbr : set.testBit r = false) (hcr : csG G (2 * k) r ≠ 268435456) (e1 : f 161 (2 * k) = (r : Int)) (e2 : f 161 (2 * k + 1) = -1) (K : ∀ (g : xF) (X4 X5 X6 : Option xV), QF g f → Mg g (upG (opS G H (2 * k) (some r)) 3 (G 3 + 1)) → Rf (SHL L) 125 295 [some (.inr 149), A, some (.inl (G 3)), some (.inl (k : Int)), X4, X5, X6] [] g Q) (X4 X5 X6 : Option xV) : Rf (SHL L) 125 83 [some (.inr 149), A, some (.inl (G 3)), some (.inl (k : Int)), X4, X5, X6] [] f Q := by
  have f1 : f 161 (2 * (k : Int)).toNat = (r : Int) := e1
  have f2 : f 161 (2 * (k : Int) + 1).toNat = -1 := e2
  have hVU : VG (upG H 3 (G 3 + 1)) := VG_3 hI.2.2
  have hU0 : upG H 3 (G 3 + 1) 0 = G 0 := by rw [upG_n (by omega)]; exact hI.1 0 (by omega)
  have br := wk_use hV hr hcr
  obtain ⟨ir, jr, zr1, zr2, yr1, yr2⟩ := wk_use2 hV hr hcr
  have gr : (r : Int) < upG H 3 (G 3 + 1) 0 := by rw [hU0]; exact br.1
  have tr1 : upG H 3 (G 3 + 1) (20 + 7 * r + 1) = G (20 + 7 * r + 1) := by rw [upG_n (by omega)]; exact hI.2.1 r hr hbr 1 (by omega)
  have tr2 : upG H 3 (G 3 + 1) (20 + 7 * r + 2) = G (20 + 7 * r + 2) := by rw [upG_n (by omega)]; exact hI.2.1 r hr hbr 2 (by omega)
  have vvr := hV.2.2.2.2.2 r hr br.1
  have wkr := MIwk3 (v := G 3 + 1) hI hr hbr (show 2 * k < 8 by omega)
  have ner := br.2.2.2.1
  clear br

  refine R_al fx_125_83 rfl (by omega) ?_
  refine R_gr fx_125_84 kd_149 rfl rr_149_22 ?_
  refine R_push fx_125_87 ?_
  refine R_il fx_125_88 rfl ?_
  refine R_mul fx_125_89 ?_
  refine R_ia fx_125_90 (Or.inl kd_161) (by omega) (by rw [ln_161]; omega) (by omega) ?_
  rw [f1]
  refine R_is fx_125_91 ?_
  refine R_al fx_125_93 rfl (by omega) ?_
  refine R_gr fx_125_94 kd_149 rfl rr_149_22 ?_
  refine R_push fx_125_97 ?_
  refine R_il fx_125_98 rfl ?_
  refine R_mul fx_125_99 ?_
  refine R_push fx_125_100 ?_
  refine R_add fx_125_101 ?_
  refine R_ia fx_125_102 (Or.inl kd_161) (by omega) (by rw [ln_161]; omega) (by omega) ?_
  rw [f2]
  refine R_is fx_125_103 ?_
  refine R_il fx_125_105 rfl ?_
  refine R_push fx_125_107 ?_
  refine R_iceq fx_125_108 (by omega) (fun hc => by omega) (fun hc => ?_)
  refine R_il fx_125_111 rfl ?_
  refine R_push fx_125_113 ?_
  refine R_iceq fx_125_114 (by omega) (fun hc => ?_) (fun hc => by omega)
  refine R_il fx_125_185 rfl ?_
  refine R_push fx_125_187 ?_
  refine R_iceq fx_125_188 (by omega) (fun hc => by omega) (fun hc => ?_)
  refine R_al fx_125_191 rfl (by omega) ?_
  refine R_il fx_125_192 rfl ?_
  refine R_push fx_125_194 ?_
  refine R_il fx_125_195 rfl ?_
  refine R_mul fx_125_196 ?_
  refine R_cv fx_125_197 rfl rfl rfl rfl kd_149 ?_
  refine C_113 (r := r) (s := 2 * k) rfl (by omega) hVU hMg hT hr gr (by omega) (fun h9 g1 hW x1 x2 => ?_) (fun h9 => absurd (wkr ▸ h9) ner)
  rw [wkr] at x1 x2
  have hM1 := Mg_w hMg hW
  have w1 : g1 149 10 - g1 149 11 = jr := by rw [x1, x2]; exact zr2
  have w2 : g1 149 11 = ir := by rw [x2]; exact zr1
  clear x1 x2
  refine R_ifeq fx_125_200 (by decide) (fun h => absurd h (by decide)) (fun _ => ?_)
  refine R_al fx_125_203 rfl (by omega) ?_
  refine R_il fx_125_204 rfl ?_
  refine R_al fx_125_206 rfl (by omega) ?_
  refine R_gf fx_125_207 kd_149 rfl ?_
  refine R_al fx_125_210 rfl (by omega) ?_
  refine R_gf fx_125_211 kd_149 rfl ?_
  refine R_al fx_125_214 rfl (by omega) ?_
  refine R_gf fx_125_215 kd_149 rfl ?_
  refine R_sub fx_125_218 ?_
  refine R_cv fx_125_219 rfl rfl rfl rfl kd_149 ?_
  rw [w1, w2]
  refine C_106i (by omega) (by omega) hM1 (fun g2 m2 k2 => ?_)
  rw [Int.toNat_natCast] at m2
  refine R_il fx_125_222 rfl ?_
  refine R_push fx_125_224 ?_
  refine R_iceq fx_125_225 (by omega) (fun hc => ?_) (fun hc => by omega)
  refine R_il fx_125_261 rfl ?_
  refine R_push fx_125_263 ?_
  refine R_iceq fx_125_264 (by omega) (fun hc => by omega) (fun hc => ?_)
  refine R_al fx_125_267 rfl (by omega) ?_
  refine R_push fx_125_268 ?_
  refine R_il fx_125_269 rfl ?_
  refine R_mul fx_125_270 ?_
  refine R_il fx_125_271 rfl ?_
  refine R_il fx_125_273 rfl ?_
  refine R_cv fx_125_274 rfl rfl rfl rfl kd_149 ?_
  refine C_126 (s := 2 * k) (r := r) (by omega) rfl hr m2 (fun g3 m3 k3 => ?_)
  rw [sets_done, done_3] at m3
  refine R_il fx_125_277 rfl ?_
  refine R_push fx_125_279 ?_
  refine R_iceq fx_125_280 (by omega) (fun hc => ?_) (fun hc => by omega)
  refine K g3 _ _ _ (QF_g (QF_g (QF_w ⟨fun _ _ _ _ _ => rfl, fun _ _ => rfl, hT⟩ hW) k2) k3) ?_
  have ez : opS G H (2 * k) (some r) = doneG H r (2 * k) (G 3) ir jr := by show doneG _ _ _ _ _ _ = _; rw [show wk G r (2 * k) / 32 - wk G r (2 * k) % 32 = jr from zr2, show wk G r (2 * k) % 32 = ir from zr1]
  rw [ez]
  exact m3
theorem C_125_NS {k : Nat} {A : Option xV} (hV : VG G) (hk : k < 4) (hI : MI G H set) (hMg : Mg f (upG H 3 (G 3 + 1))) (hT : MT f) {q : Nat} (hq : q < 12) (hbq : set.testBit q = false) (hcq : csG G (2 * k + 1) q ≠ 268435456) (e1 : f 161 (2 * k) = -1) (e2 : f 161 (2 * k + 1) = (q : Int)) (K : ∀ (g : xF) (X4 X5 X6 : Option xV), QF g f → Mg g (upG (opS G H (2 * k + 1) (some q)) 3 (G 3 + 1)) → Rf (SHL L) 125 295 [some (.inr 149), A, some (.inl (G 3)), some (.inl (k : Int)), X4, X5, X6] [] g Q) (X4 X5 X6 : Option xV) : Rf (SHL L) 125 83 [some (.inr 149), A, some (.inl (G 3)), some (.inl (k : Int)), X4, X5, X6] [] f Q := by
  have f1 : f 161 (2 * (k : Int)).toNat = -1 := e1
  have f2 : f 161 (2 * (k : Int) + 1).toNat = (q : Int) := e2
  have hVU : VG (upG H 3 (G 3 + 1)) := VG_3 hI.2.2
  have hU0 : upG H 3 (G 3 + 1) 0 = G 0 := by rw [upG_n (by omega)]; exact hI.1 0 (by omega)
  have bq := wk_use hV hq hcq
  obtain ⟨iq, jq, zq1, zq2, yq1, yq2⟩ := wk_use2 hV hq hcq
  have gq : (q : Int) < upG H 3 (G 3 + 1) 0 := by rw [hU0]; exact bq.1
  have tq1 : upG H 3 (G 3 + 1) (20 + 7 * q + 1) = G (20 + 7 * q + 1) := by rw [upG_n (by omega)]; exact hI.2.1 q hq hbq 1 (by omega)
  have tq2 : upG H 3 (G 3 + 1) (20 + 7 * q + 2) = G (20 + 7 * q + 2) := by rw [upG_n (by omega)]; exact hI.2.1 q hq hbq 2 (by omega)
  have vvq := hV.2.2.2.2.2 q hq bq.1
  have wkq := MIwk3 (v := G 3 + 1) hI hq hbq (show 2 * k + 1 < 8 by omega)
  have neq := bq.2.2.2.1
  clear bq

  refine R_al fx_125_83 rfl (by omega) ?_
  refine R_gr fx_125_84 kd_149 rfl rr_149_22 ?_
  refine R_push fx_125_87 ?_
  refine R_il fx_125_88 rfl ?_
  refine R_mul fx_125_89 ?_
  refine R_ia fx_125_90 (Or.inl kd_161) (by omega) (by rw [ln_161]; omega) (by omega) ?_
  rw [f1]
  refine R_is fx_125_91 ?_
  refine R_al fx_125_93 rfl (by omega) ?_
  refine R_gr fx_125_94 kd_149 rfl rr_149_22 ?_
  refine R_push fx_125_97 ?_
  refine R_il fx_125_98 rfl ?_
  refine R_mul fx_125_99 ?_
  refine R_push fx_125_100 ?_
  refine R_add fx_125_101 ?_
  refine R_ia fx_125_102 (Or.inl kd_161) (by omega) (by rw [ln_161]; omega) (by omega) ?_
  rw [f2]
  refine R_is fx_125_103 ?_
  refine R_il fx_125_105 rfl ?_
  refine R_push fx_125_107 ?_
  refine R_iceq fx_125_108 (by omega) (fun hc => ?_) (fun hc => by omega)
  refine R_il fx_125_185 rfl ?_
  refine R_push fx_125_187 ?_
  refine R_iceq fx_125_188 (by omega) (fun hc => ?_) (fun hc => by omega)
  refine R_il fx_125_222 rfl ?_
  refine R_push fx_125_224 ?_
  refine R_iceq fx_125_225 (by omega) (fun hc => by omega) (fun hc => ?_)
  refine R_al fx_125_228 rfl (by omega) ?_
  refine R_il fx_125_229 rfl ?_
  refine R_push fx_125_231 ?_
  refine R_il fx_125_232 rfl ?_
  refine R_mul fx_125_233 ?_
  refine R_push fx_125_234 ?_
  refine R_add fx_125_235 ?_
  refine R_cv fx_125_236 rfl rfl rfl rfl kd_149 ?_
  refine C_113 (r := q) (s := 2 * k + 1) rfl (by omega) hVU hMg hT hq gq (by omega) (fun h9 g1 hW x1 x2 => ?_) (fun h9 => absurd (wkq ▸ h9) neq)
  rw [wkq] at x1 x2
  have hM1 := Mg_w hMg hW
  have w1 : g1 149 10 - g1 149 11 = jq := by rw [x1, x2]; exact zq2
  have w2 : g1 149 11 = iq := by rw [x2]; exact zq1
  clear x1 x2
  refine R_ifeq fx_125_239 (by decide) (fun h => absurd h (by decide)) (fun _ => ?_)
  refine R_al fx_125_242 rfl (by omega) ?_
  refine R_il fx_125_243 rfl ?_
  refine R_al fx_125_245 rfl (by omega) ?_
  refine R_gf fx_125_246 kd_149 rfl ?_
  refine R_al fx_125_249 rfl (by omega) ?_
  refine R_gf fx_125_250 kd_149 rfl ?_
  refine R_al fx_125_253 rfl (by omega) ?_
  refine R_gf fx_125_254 kd_149 rfl ?_
  refine R_sub fx_125_257 ?_
  refine R_cv fx_125_258 rfl rfl rfl rfl kd_149 ?_
  rw [w1, w2]
  refine C_106i (by omega) (by omega) hM1 (fun g2 m2 k2 => ?_)
  rw [Int.toNat_natCast] at m2
  refine R_il fx_125_261 rfl ?_
  refine R_push fx_125_263 ?_
  refine R_iceq fx_125_264 (by omega) (fun hc => ?_) (fun hc => by omega)
  refine R_il fx_125_277 rfl ?_
  refine R_push fx_125_279 ?_
  refine R_iceq fx_125_280 (by omega) (fun hc => by omega) (fun hc => ?_)
  refine R_al fx_125_283 rfl (by omega) ?_
  refine R_push fx_125_284 ?_
  refine R_il fx_125_285 rfl ?_
  refine R_mul fx_125_286 ?_
  refine R_push fx_125_287 ?_
  refine R_add fx_125_288 ?_
  refine R_il fx_125_289 rfl ?_
  refine R_il fx_125_291 rfl ?_
  refine R_cv fx_125_292 rfl rfl rfl rfl kd_149 ?_
  refine C_126 (s := 2 * k + 1) (r := q) (by omega) rfl hq m2 (fun g3 m3 k3 => ?_)
  rw [sets_done, done_3] at m3
  refine K g3 _ _ _ (QF_g (QF_g (QF_w ⟨fun _ _ _ _ _ => rfl, fun _ _ => rfl, hT⟩ hW) k2) k3) ?_
  have ez : opS G H (2 * k + 1) (some q) = doneG H q (2 * k + 1) (G 3) iq jq := by show doneG _ _ _ _ _ _ = _; rw [show wk G q (2 * k + 1) / 32 - wk G q (2 * k + 1) % 32 = jq from zq2, show wk G q (2 * k + 1) % 32 = iq from zq1]
  rw [ez]
  exact m3
theorem C_125_NN {k : Nat} {A : Option xV} (hk : k < 4) (e1 : f 161 (2 * k) = -1) (e2 : f 161 (2 * k + 1) = -1) (K : ∀ (X4 X5 X6 : Option xV), Rf (SHL L) 125 295 [some (.inr 149), A, some (.inl (G 3)), some (.inl (k : Int)), X4, X5, X6] [] f Q) (X4 X5 X6 : Option xV) : Rf (SHL L) 125 83 [some (.inr 149), A, some (.inl (G 3)), some (.inl (k : Int)), X4, X5, X6] [] f Q := by
  have f1 : f 161 (2 * (k : Int)).toNat = -1 := e1
  have f2 : f 161 (2 * (k : Int) + 1).toNat = -1 := e2
  refine R_al fx_125_83 rfl (by omega) ?_
  refine R_gr fx_125_84 kd_149 rfl rr_149_22 ?_
  refine R_push fx_125_87 ?_
  refine R_il fx_125_88 rfl ?_
  refine R_mul fx_125_89 ?_
  refine R_ia fx_125_90 (Or.inl kd_161) (by omega) (by rw [ln_161]; omega) (by omega) ?_
  rw [f1]
  refine R_is fx_125_91 ?_
  refine R_al fx_125_93 rfl (by omega) ?_
  refine R_gr fx_125_94 kd_149 rfl rr_149_22 ?_
  refine R_push fx_125_97 ?_
  refine R_il fx_125_98 rfl ?_
  refine R_mul fx_125_99 ?_
  refine R_push fx_125_100 ?_
  refine R_add fx_125_101 ?_
  refine R_ia fx_125_102 (Or.inl kd_161) (by omega) (by rw [ln_161]; omega) (by omega) ?_
  rw [f2]
  refine R_is fx_125_103 ?_
  refine R_il fx_125_105 rfl ?_
  refine R_push fx_125_107 ?_
  refine R_iceq fx_125_108 (by omega) (fun hc => ?_) (fun hc => by omega)
  refine R_il fx_125_185 rfl ?_
  refine R_push fx_125_187 ?_
  refine R_iceq fx_125_188 (by omega) (fun hc => ?_) (fun hc => by omega)
  refine R_il fx_125_222 rfl ?_
  refine R_push fx_125_224 ?_
  refine R_iceq fx_125_225 (by omega) (fun hc => ?_) (fun hc => by omega)
  refine R_il fx_125_261 rfl ?_
  refine R_push fx_125_263 ?_
  refine R_iceq fx_125_264 (by omega) (fun hc => ?_) (fun hc => by omega)
  refine R_il fx_125_277 rfl ?_
  refine R_push fx_125_279 ?_
  refine R_iceq fx_125_280 (by omega) (fun hc => ?_) (fun hc => by omega)
  exact K _ _ _
theorem C_125_SS {k : Nat} {A : Option xV} (hV : VG G) (hk : k < 4) (hI : MI G H set) (hMg : Mg f (upG H 3 (G 3 + 1))) (hT : MT f) {r q : Nat} (hr : r < 12) (hbr : set.testBit r = false) (hq : q < 12) (hbq : set.testBit q = false) (hne : r ≠ q) (hcr : csG G (2 * k) r ≠ 268435456) (hcq : csG G (2 * k + 1) q ≠ 268435456) (hnb : ¬ G (12 + k) ≤ G (16 + k)) (e1 : f 161 (2 * k) = (r : Int)) (e2 : f 161 (2 * k + 1) = (q : Int)) (K : ∀ (g : xF) (X4 X5 X6 : Option xV), QF g f → Mg g (upG (opS G (opS G H (2 * k) (some r)) (2 * k + 1) (some q)) 3 (G 3 + 1)) → Rf (SHL L) 125 295 [some (.inr 149), A, some (.inl (G 3)), some (.inl (k : Int)), X4, X5, X6] [] g Q) (X4 X5 X6 : Option xV) : Rf (SHL L) 125 83 [some (.inr 149), A, some (.inl (G 3)), some (.inl (k : Int)), X4, X5, X6] [] f Q := by
  have f1 : f 161 (2 * (k : Int)).toNat = (r : Int) := e1
  have f2 : f 161 (2 * (k : Int) + 1).toNat = (q : Int) := e2
  have v5 := hI.2.2.2.2.2.2.1 k hk
  have u5 : upG H 3 (G 3 + 1) (12 + (k : Int).toNat) = G (12 + k) := by rw [Int.toNat_natCast, upG_n (by omega)]; exact hI.1 _ (by omega)
  have u6 : upG H 3 (G 3 + 1) (16 + (k : Int).toNat) = G (16 + k) := by rw [Int.toNat_natCast, upG_n (by omega)]; exact hI.1 _ (by omega)
  have v7 := hV.2.2.2.2.1 k hk
  have hVU : VG (upG H 3 (G 3 + 1)) := VG_3 hI.2.2
  have hU0 : upG H 3 (G 3 + 1) 0 = G 0 := by rw [upG_n (by omega)]; exact hI.1 0 (by omega)
  have br := wk_use hV hr hcr
  obtain ⟨ir, jr, zr1, zr2, yr1, yr2⟩ := wk_use2 hV hr hcr
  have gr : (r : Int) < upG H 3 (G 3 + 1) 0 := by rw [hU0]; exact br.1
  have tr1 : upG H 3 (G 3 + 1) (20 + 7 * r + 1) = G (20 + 7 * r + 1) := by rw [upG_n (by omega)]; exact hI.2.1 r hr hbr 1 (by omega)
  have tr2 : upG H 3 (G 3 + 1) (20 + 7 * r + 2) = G (20 + 7 * r + 2) := by rw [upG_n (by omega)]; exact hI.2.1 r hr hbr 2 (by omega)
  have vvr := hV.2.2.2.2.2 r hr br.1
  have wkr := MIwk3 (v := G 3 + 1) hI hr hbr (show 2 * k < 8 by omega)
  have ner := br.2.2.2.1
  clear br
  have bq := wk_use hV hq hcq
  obtain ⟨iq, jq, zq1, zq2, yq1, yq2⟩ := wk_use2 hV hq hcq
  have gq : (q : Int) < upG H 3 (G 3 + 1) 0 := by rw [hU0]; exact bq.1
  have tq1 : upG H 3 (G 3 + 1) (20 + 7 * q + 1) = G (20 + 7 * q + 1) := by rw [upG_n (by omega)]; exact hI.2.1 q hq hbq 1 (by omega)
  have tq2 : upG H 3 (G 3 + 1) (20 + 7 * q + 2) = G (20 + 7 * q + 2) := by rw [upG_n (by omega)]; exact hI.2.1 q hq hbq 2 (by omega)
  have vvq := hV.2.2.2.2.2 q hq bq.1
  have wkq := MIwk3 (v := G 3 + 1) hI hq hbq (show 2 * k + 1 < 8 by omega)
  have neq := bq.2.2.2.1
  clear bq

  refine R_al fx_125_83 rfl (by omega) ?_
  refine R_gr fx_125_84 kd_149 rfl rr_149_22 ?_
  refine R_push fx_125_87 ?_
  refine R_il fx_125_88 rfl ?_
  refine R_mul fx_125_89 ?_
  refine R_ia fx_125_90 (Or.inl kd_161) (by omega) (by rw [ln_161]; omega) (by omega) ?_
  rw [f1]
  refine R_is fx_125_91 ?_
  refine R_al fx_125_93 rfl (by omega) ?_
  refine R_gr fx_125_94 kd_149 rfl rr_149_22 ?_
  refine R_push fx_125_97 ?_
  refine R_il fx_125_98 rfl ?_
  refine R_mul fx_125_99 ?_
  refine R_push fx_125_100 ?_
  refine R_add fx_125_101 ?_
  refine R_ia fx_125_102 (Or.inl kd_161) (by omega) (by rw [ln_161]; omega) (by omega) ?_
  rw [f2]
  refine R_is fx_125_103 ?_
  refine R_il fx_125_105 rfl ?_
  refine R_push fx_125_107 ?_
  refine R_iceq fx_125_108 (by omega) (fun hc => by omega) (fun hc => ?_)
  refine R_il fx_125_111 rfl ?_
  refine R_push fx_125_113 ?_
  refine R_iceq fx_125_114 (by omega) (fun hc => by omega) (fun hc => ?_)
  refine R_al fx_125_117 rfl (by omega) ?_
  refine R_il fx_125_118 rfl ?_
  refine R_cv fx_125_119 rfl rfl rfl rfl kd_149 ?_
  refine C_110 (by omega) hMg (by rw [u5, u6]; omega) (fun hc => absurd (by rw [u5, u6] at hc; exact hc) hnb) (fun hc => ?_)
  refine R_ifeq fx_125_122 (by decide) (fun _ => ?_) (fun h => absurd h (by decide))
  refine R_il fx_125_185 rfl ?_
  refine R_push fx_125_187 ?_
  refine R_iceq fx_125_188 (by omega) (fun hc => by omega) (fun hc => ?_)
  refine R_al fx_125_191 rfl (by omega) ?_
  refine R_il fx_125_192 rfl ?_
  refine R_push fx_125_194 ?_
  refine R_il fx_125_195 rfl ?_
  refine R_mul fx_125_196 ?_
  refine R_cv fx_125_197 rfl rfl rfl rfl kd_149 ?_
  refine C_113 (r := r) (s := 2 * k) rfl (by omega) hVU hMg hT hr gr (by omega) (fun h9 g1 hW x1 x2 => ?_) (fun h9 => absurd (wkr ▸ h9) ner)
  rw [wkr] at x1 x2
  have hM1 := Mg_w hMg hW
  have w1 : g1 149 10 - g1 149 11 = jr := by rw [x1, x2]; exact zr2
  have w2 : g1 149 11 = ir := by rw [x2]; exact zr1
  clear x1 x2
  refine R_ifeq fx_125_200 (by decide) (fun h => absurd h (by decide)) (fun _ => ?_)
  refine R_al fx_125_203 rfl (by omega) ?_
  refine R_il fx_125_204 rfl ?_
  refine R_al fx_125_206 rfl (by omega) ?_
  refine R_gf fx_125_207 kd_149 rfl ?_
  refine R_al fx_125_210 rfl (by omega) ?_
  refine R_gf fx_125_211 kd_149 rfl ?_
  refine R_al fx_125_214 rfl (by omega) ?_
  refine R_gf fx_125_215 kd_149 rfl ?_
  refine R_sub fx_125_218 ?_
  refine R_cv fx_125_219 rfl rfl rfl rfl kd_149 ?_
  rw [w1, w2]
  refine C_106i (by omega) (by omega) hM1 (fun g2 m2 k2 => ?_)
  rw [Int.toNat_natCast] at m2
  have hVU1 := VG_file hVU hr gr (i := ir) (j := jr) (by rw [tr2]; exact yr1) (by rw [tr1]; exact yr2)
  have wkq2 : wk (upR (upG H 3 (G 3 + 1)) r (filed (upG H 3 (G 3 + 1)) r ir jr)) q (2 * k + 1) = wk G q (2 * k + 1) := by rw [← wkq]; exact wk_congr (upR_out (by omega)) (upR_out (by omega)) (upR_out (by omega)) (upR_out (by omega)) (upR_out (by omega)) (upR_out (by omega))
  have hT2 : MT g2 := ⟨fun j hj => by rw [k2 156 (by omega)]; exact hW.2.2.1 j hj, by rw [k2 149 (by omega)]; exact hW.2.2.2⟩
  refine R_il fx_125_222 rfl ?_
  refine R_push fx_125_224 ?_
  refine R_iceq fx_125_225 (by omega) (fun hc => by omega) (fun hc => ?_)
  refine R_al fx_125_228 rfl (by omega) ?_
  refine R_il fx_125_229 rfl ?_
  refine R_push fx_125_231 ?_
  refine R_il fx_125_232 rfl ?_
  refine R_mul fx_125_233 ?_
  refine R_push fx_125_234 ?_
  refine R_add fx_125_235 ?_
  refine R_cv fx_125_236 rfl rfl rfl rfl kd_149 ?_
  refine C_113 (r := q) (s := 2 * k + 1) rfl (by omega) hVU1 m2 hT2 hq (by rw [upR_out (by omega)]; exact gq) (by omega) (fun h9 g3 hW3 x1 x2 => ?_) (fun h9 => absurd (wkq2 ▸ h9) neq)
  rw [wkq2] at x1 x2
  have hM3 := Mg_w m2 hW3
  have w3 : g3 149 10 - g3 149 11 = jq := by rw [x1, x2]; exact zq2
  have w4 : g3 149 11 = iq := by rw [x2]; exact zq1
  clear x1 x2
  refine R_ifeq fx_125_239 (by decide) (fun h => absurd h (by decide)) (fun _ => ?_)
  refine R_al fx_125_242 rfl (by omega) ?_
  refine R_il fx_125_243 rfl ?_
  refine R_al fx_125_245 rfl (by omega) ?_
  refine R_gf fx_125_246 kd_149 rfl ?_
  refine R_al fx_125_249 rfl (by omega) ?_
  refine R_gf fx_125_250 kd_149 rfl ?_
  refine R_al fx_125_253 rfl (by omega) ?_
  refine R_gf fx_125_254 kd_149 rfl ?_
  refine R_sub fx_125_257 ?_
  refine R_cv fx_125_258 rfl rfl rfl rfl kd_149 ?_
  rw [w3, w4]
  refine C_106i (by omega) (by omega) hM3 (fun g4 m4 k4 => ?_)
  rw [Int.toNat_natCast] at m4
  refine R_il fx_125_261 rfl ?_
  refine R_push fx_125_263 ?_
  refine R_iceq fx_125_264 (by omega) (fun hc => by omega) (fun hc => ?_)
  refine R_al fx_125_267 rfl (by omega) ?_
  refine R_push fx_125_268 ?_
  refine R_il fx_125_269 rfl ?_
  refine R_mul fx_125_270 ?_
  refine R_il fx_125_271 rfl ?_
  refine R_il fx_125_273 rfl ?_
  refine R_cv fx_125_274 rfl rfl rfl rfl kd_149 ?_
  refine C_126 (s := 2 * k) (r := r) (by omega) rfl hr m4 (fun g5 m5 k5 => ?_)
  refine R_il fx_125_277 rfl ?_
  refine R_push fx_125_279 ?_
  refine R_iceq fx_125_280 (by omega) (fun hc => by omega) (fun hc => ?_)
  refine R_al fx_125_283 rfl (by omega) ?_
  refine R_push fx_125_284 ?_
  refine R_il fx_125_285 rfl ?_
  refine R_mul fx_125_286 ?_
  refine R_push fx_125_287 ?_
  refine R_add fx_125_288 ?_
  refine R_il fx_125_289 rfl ?_
  refine R_il fx_125_291 rfl ?_
  refine R_cv fx_125_292 rfl rfl rfl rfl kd_149 ?_
  refine C_126 (s := 2 * k + 1) (r := q) (by omega) rfl hq m5 (fun g6 m6 k6 => ?_)
  rw [two_done hne, done_3, done_3] at m6
  refine K g6 _ _ _ (QF_g (QF_g (QF_g (QF_w (QF_g (QF_w ⟨fun _ _ _ _ _ => rfl, fun _ _ => rfl, hT⟩ hW) k2) hW3) k4) k5) k6) ?_
  have ez : opS G (opS G H (2 * k) (some r)) (2 * k + 1) (some q) = doneG (doneG H r (2 * k) (G 3) ir jr) q (2 * k + 1) (G 3) iq jq := by show doneG (doneG _ _ _ _ _ _) _ _ _ _ _ = _; rw [show wk G r (2 * k) / 32 - wk G r (2 * k) % 32 = jr from zr2, show wk G r (2 * k) % 32 = ir from zr1, show wk G q (2 * k + 1) / 32 - wk G q (2 * k + 1) % 32 = jq from zq2, show wk G q (2 * k + 1) % 32 = iq from zq1]
  rw [ez]
  exact m6
theorem C_125_PP {k : Nat} {A : Option xV} (hV : VG G) (hk : k < 4) (hI : MI G H set) (hMg : Mg f (upG H 3 (G 3 + 1))) (hT : MT f) {r q : Nat} (hr : r < 12) (hbr : set.testBit r = false) (hq : q < 12) (hbq : set.testBit q = false) (hne : r ≠ q) (hcp : cpG G k r q ≠ 268435456) (e1 : f 161 (2 * k) = (r : Int)) (e2 : f 161 (2 * k + 1) = (q : Int)) (K : ∀ (g : xF) (X4 X5 X6 : Option xV), QF g f → Mg g (upG (opP G H k (some r) (some q)) 3 (G 3 + 1)) → Rf (SHL L) 125 295 [some (.inr 149), A, some (.inl (G 3)), some (.inl (k : Int)), X4, X5, X6] [] g Q) (X4 X5 X6 : Option xV) : Rf (SHL L) 125 83 [some (.inr 149), A, some (.inl (G 3)), some (.inl (k : Int)), X4, X5, X6] [] f Q := by
  have f1 : f 161 (2 * (k : Int)).toNat = (r : Int) := e1
  have f2 : f 161 (2 * (k : Int) + 1).toNat = (q : Int) := e2
  have v5 := hI.2.2.2.2.2.2.1 k hk
  have u5 : upG H 3 (G 3 + 1) (12 + (k : Int).toNat) = G (12 + k) := by rw [Int.toNat_natCast, upG_n (by omega)]; exact hI.1 _ (by omega)
  have u6 : upG H 3 (G 3 + 1) (16 + (k : Int).toNat) = G (16 + k) := by rw [Int.toNat_natCast, upG_n (by omega)]; exact hI.1 _ (by omega)
  have v7 := hV.2.2.2.2.1 k hk
  have hcb := (cpG_b (k := k) hV hr hq).resolve_left hcp
  have hbt : G (12 + k) ≤ G (16 + k) := (of_decide_eq_true (show decide _ = true from hcb.2.2.1)).1
  have gr0 := (wk_use hV hr hcb.2.2.2.2.1).1
  have gq0 := (wk_use hV hq hcb.2.2.2.2.2.1).1
  have hpn := hcb.2.2.2.2.2.2.1
  clear hcb
  have hVU : VG (upG H 3 (G 3 + 1)) := VG_3 hI.2.2
  have hU0 : upG H 3 (G 3 + 1) 0 = G 0 := by rw [upG_n (by omega)]; exact hI.1 0 (by omega)
  have gr : (r : Int) < upG H 3 (G 3 + 1) 0 := by rw [hU0]; exact gr0
  have gq : (q : Int) < upG H 3 (G 3 + 1) 0 := by rw [hU0]; exact gq0
  have vvr := hV.2.2.2.2.2 r hr gr0
  have vvq := hV.2.2.2.2.2 q hq gq0
  have hpk := MIpk3 (v := G 3 + 1) hI hr hbr hq hbq hk
  obtain ⟨P, i1, j1, i2, j2, hP, hPb, z1, z2, z3, z4, y1, y2, y3, y4⟩ := pk_use2 hV hr hq hcp
  refine R_al fx_125_83 rfl (by omega) ?_
  refine R_gr fx_125_84 kd_149 rfl rr_149_22 ?_
  refine R_push fx_125_87 ?_
  refine R_il fx_125_88 rfl ?_
  refine R_mul fx_125_89 ?_
  refine R_ia fx_125_90 (Or.inl kd_161) (by omega) (by rw [ln_161]; omega) (by omega) ?_
  rw [f1]
  refine R_is fx_125_91 ?_
  refine R_al fx_125_93 rfl (by omega) ?_
  refine R_gr fx_125_94 kd_149 rfl rr_149_22 ?_
  refine R_push fx_125_97 ?_
  refine R_il fx_125_98 rfl ?_
  refine R_mul fx_125_99 ?_
  refine R_push fx_125_100 ?_
  refine R_add fx_125_101 ?_
  refine R_ia fx_125_102 (Or.inl kd_161) (by omega) (by rw [ln_161]; omega) (by omega) ?_
  rw [f2]
  refine R_is fx_125_103 ?_
  refine R_il fx_125_105 rfl ?_
  refine R_push fx_125_107 ?_
  refine R_iceq fx_125_108 (by omega) (fun hc => by omega) (fun hc => ?_)
  refine R_il fx_125_111 rfl ?_
  refine R_push fx_125_113 ?_
  refine R_iceq fx_125_114 (by omega) (fun hc => by omega) (fun hc => ?_)
  refine R_al fx_125_117 rfl (by omega) ?_
  refine R_il fx_125_118 rfl ?_
  refine R_cv fx_125_119 rfl rfl rfl rfl kd_149 ?_
  refine C_110 (by omega) hMg (by rw [u5, u6]; omega) (fun hc => ?_) (fun hc => absurd (by rw [u5, u6]; exact hbt) hc)
  refine R_ifeq fx_125_122 (by decide) (fun h => absurd h (by decide)) (fun _ => ?_)
  refine R_al fx_125_125 rfl (by omega) ?_
  refine R_il fx_125_126 rfl ?_
  refine R_il fx_125_128 rfl ?_
  refine R_il fx_125_130 rfl ?_
  refine R_cv fx_125_131 rfl rfl rfl rfl kd_149 ?_
  refine C_116 (r := r) (q := q) (k := k) hVU hMg hr gr hq gq hk rfl rfl rfl hT (fun h9 g1 hW xx => ?_) (fun h9 => absurd (hpk ▸ h9) hpn)
  rw [hpk, hP] at xx
  have hM1 := Mg_w hMg hW
  have w1 : g1 149 13 = i1 := xx.2.1.trans z1
  have w2 : g1 149 14 = j1 := xx.2.2.1.trans z2
  have w3 : g1 149 15 = i2 := xx.2.2.2.trans z3
  have w4 : g1 149 12 - g1 149 13 - g1 149 14 - g1 149 15 = j2 := by rw [xx.1, xx.2.1, xx.2.2.1, xx.2.2.2]; exact z4
  clear xx
  refine R_pop fx_125_134 ?_
  refine R_al fx_125_135 rfl (by omega) ?_
  refine R_gf fx_125_136 kd_149 rfl ?_
  refine R_al fx_125_139 rfl (by omega) ?_
  refine R_gf fx_125_140 kd_149 rfl ?_
  refine R_sub fx_125_143 ?_
  refine R_al fx_125_144 rfl (by omega) ?_
  refine R_gf fx_125_145 kd_149 rfl ?_
  refine R_sub fx_125_148 ?_
  refine R_al fx_125_149 rfl (by omega) ?_
  refine R_gf fx_125_150 kd_149 rfl ?_
  refine R_sub fx_125_153 ?_
  rw [w4]
  refine R_is fx_125_154 ?_
  refine R_al fx_125_156 rfl (by omega) ?_
  refine R_il fx_125_157 rfl ?_
  refine R_al fx_125_159 rfl (by omega) ?_
  refine R_gf fx_125_160 kd_149 rfl ?_
  refine R_al fx_125_163 rfl (by omega) ?_
  refine R_gf fx_125_164 kd_149 rfl ?_
  refine R_cv fx_125_167 rfl rfl rfl rfl kd_149 ?_
  rw [w1, w2]
  refine C_106i (by omega) (by omega) hM1 (fun g2 m2 k2 => ?_)
  rw [Int.toNat_natCast] at m2
  refine R_al fx_125_170 rfl (by omega) ?_
  refine R_il fx_125_171 rfl ?_
  refine R_al fx_125_173 rfl (by omega) ?_
  refine R_gf fx_125_174 kd_149 rfl ?_
  refine R_il fx_125_177 rfl ?_
  refine R_cv fx_125_179 rfl rfl rfl rfl kd_149 ?_
  rw [show g2 149 15 = i2 by rw [k2 149 (by omega)]; exact w3]
  refine C_106i (by omega) (by omega) m2 (fun g4 m4 k4 => ?_)
  rw [Int.toNat_natCast] at m4
  refine R_goto fx_125_182 ?_
  refine R_il fx_125_261 rfl ?_
  refine R_push fx_125_263 ?_
  refine R_iceq fx_125_264 (by omega) (fun hc => by omega) (fun hc => ?_)
  refine R_al fx_125_267 rfl (by omega) ?_
  refine R_push fx_125_268 ?_
  refine R_il fx_125_269 rfl ?_
  refine R_mul fx_125_270 ?_
  refine R_il fx_125_271 rfl ?_
  refine R_il fx_125_273 rfl ?_
  refine R_cv fx_125_274 rfl rfl rfl rfl kd_149 ?_
  refine C_126 (s := 2 * k) (r := r) (by omega) rfl hr m4 (fun g5 m5 k5 => ?_)
  refine R_il fx_125_277 rfl ?_
  refine R_push fx_125_279 ?_
  refine R_iceq fx_125_280 (by omega) (fun hc => by omega) (fun hc => ?_)
  refine R_al fx_125_283 rfl (by omega) ?_
  refine R_push fx_125_284 ?_
  refine R_il fx_125_285 rfl ?_
  refine R_mul fx_125_286 ?_
  refine R_push fx_125_287 ?_
  refine R_add fx_125_288 ?_
  refine R_il fx_125_289 rfl ?_
  refine R_il fx_125_291 rfl ?_
  refine R_cv fx_125_292 rfl rfl rfl rfl kd_149 ?_
  refine C_126 (s := 2 * k + 1) (r := q) (by omega) rfl hq m5 (fun g6 m6 k6 => ?_)
  rw [two_done hne, done_3, done_3] at m6
  refine K g6 _ _ _ (QF_g (QF_g (QF_g (QF_g (QF_w ⟨fun _ _ _ _ _ => rfl, fun _ _ => rfl, hT⟩ hW) k2) k4) k5) k6) ?_
  have ez : opP G H k (some r) (some q) = doneG (doneG H r (2 * k) (G 3) i1 j1) q (2 * k + 1) (G 3) i2 j2 := by
    show doneG (doneG H r (2 * k) (G 3) (pk G r q k / 1024 % 32) (pk G r q k / 32 % 32)) q (2 * k + 1) (G 3) (pk G r q k % 32) (pk G r q k / 32768 - pk G r q k / 1024 % 32 - pk G r q k / 32 % 32 - pk G r q k % 32) = _
    rw [hP]
    rw [show (P : Int) / 32768 - (P : Int) / 1024 % 32 - (P : Int) / 32 % 32 - (P : Int) % 32 = j2 from z4, show (P : Int) / 1024 % 32 = i1 from z1, show (P : Int) / 32 % 32 = j1 from z2, show (P : Int) % 32 = i2 from z3]
  rw [ez]
  exact m6
end MF
