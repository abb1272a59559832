/-! ===== the model: look ===== -/
def frG (G : Nat → Int) (r : Nat) : Bool := decide ((r : Int) < G 0 ∧ G (20 + 7 * r + 3) = 0)
def wsG (G : Nat → Int) (s : Nat) : Bool := decide (G (4 + s) ≠ -1)
theorem bset_congr {p q : Nat → Bool} : ∀ {n : Nat}, (∀ i, i < n → p i = q i) → bset p n = bset q n
  | 0, _ => rfl
  | n + 1, h => by
    unfold bset
    rw [bset_congr (n := n) (fun i hi => h i (by omega)), h n (by omega)]
theorem fr_eq {f : xF} {G : Nat → Int} (hS : Sg f 4 G) : bset (frp f) 12 = bset (frG G) 12 := by
  refine bset_congr (fun i hi => ?_)
  unfold frp frG
  by_cases h : (i : Int) < G 0
  · rw [hS.1.1, hS.rd hi h (by omega)]
  · rw [hS.1.1]; simp [h]
theorem ws_eq {f : xF} {G : Nat → Int} (hS : Sg f 4 G) : bset (wsp f) 8 = bset (wsG G) 8 := by
  refine bset_congr (fun i hi => ?_)
  unfold wsp wsG
  rw [show f 6 i = f (4 + 2) i from rfl, hS.2.1 i hi]
theorem popc_skip {x m : Nat} : ∀ {n : Nat}, (∀ i, m ≤ i → i < m + n → x.testBit i = false) → popc x (m + n) = popc x m
  | 0, _ => rfl
  | n + 1, h => by
    show popc x (m + n) + (if x.testBit (m + n) then 1 else 0) = _
    rw [popc_skip (n := n) (fun i a b => h i a (by omega)), h (m + n) (by omega) (by omega)]
    rfl
theorem frb {G : Nat → Int} {i : Nat} (hi : i < 12) : (bset (frG G) 12).testBit i = decide ((i : Int) < G 0 ∧ G (20 + 7 * i + 3) = 0) := by rw [bset_bit]; simp [hi, frG]
section LK
variable {L : Nat} {f : xF} {Q : List xV → xF → Prop} {G : Nat → Int} {hi : Nat → Nat → Int} {n : Nat}
theorem C_108_1 {w : Int} (hV : VG G) (hM : Mg f G) (K : Q [.inl ((popc (bset (frG G) 12) 12 : Nat) : Int)] f) : ∀ (t m : Nat), (m : Int) + t = G 0 → Rf (SHL L) 108 29 [some (.inr 149), some (.inl w), some (.inl ((popc (bset (frG G) 12) m : Nat) : Int)), some (.inl (m : Int))] [] f Q := by
  have h0 := hV.1
  have e0 : f 150 (0 : Int).toNat = G 0 := hM.2 0 (by omega)
  intro t
  induction t with
  | zero =>
    intro m hm
    have e : popc (bset (frG G) 12) 12 = popc (bset (frG G) 12) m := by
      have := popc_skip (x := bset (frG G) 12) (m := m) (n := 12 - m) (fun i a b => by rw [frb (by omega)]; simp; omega)
      rw [show m + (12 - m) = 12 by omega] at this
      exact this
    rw [e] at K
    refine R_il fx_108_29 rfl ?_
    refine R_al fx_108_30 rfl (by omega) ?_
    refine R_gr fx_108_31 kd_149 rfl rr_149_1 ?_
    refine R_push fx_108_34 ?_
    refine R_ia fx_108_35 (Or.inl kd_150) (by omega) (by rw [ln_150]; omega) (by omega) ?_
    refine R_icge fx_108_36 (by omega) (fun hc => ?_) (fun hc => by omega)
    refine R_il fx_108_57 rfl ?_
    exact R_ret fx_108_58 (Or.inl rfl) K
  | succ t ih =>
    intro m hm
    have ih1 := ih (m + 1) (by omega)
    have eb := frb (G := G) (i := m) (by omega)
    refine R_il fx_108_29 rfl ?_
    refine R_al fx_108_30 rfl (by omega) ?_
    refine R_gr fx_108_31 kd_149 rfl rr_149_1 ?_
    refine R_push fx_108_34 ?_
    refine R_ia fx_108_35 (Or.inl kd_150) (by omega) (by rw [ln_150]; omega) (by omega) ?_
    refine R_icge fx_108_36 (by omega) (fun hc => by omega) (fun hc => ?_)
    refine R_al fx_108_39 rfl (by omega) ?_
    refine R_il fx_108_40 rfl ?_
    refine R_cv fx_108_41 rfl rfl rfl rfl kd_149 ?_
    refine C_98 (by omega) hM (by have := (hV.2.2.2.2.2 m (by omega) (by omega)).2.2.2; rw [Int.toNat_natCast]; omega) (fun hc => ?_) (fun hc => ?_)
    · refine R_ifeq fx_108_44 (by decide) (fun h => absurd h (by decide)) (fun _ => ?_)
      refine R_il fx_108_47 rfl ?_
      refine R_push fx_108_48 ?_
      refine R_add fx_108_49 ?_
      refine R_is fx_108_50 ?_
      refine R_inc fx_108_51 rfl ?_
      refine R_goto fx_108_54 ?_
      rw [Int.toNat_natCast] at hc
      rw [show popc (bset (frG G) 12) (m + 1) = popc (bset (frG G) 12) m + 1 by show _ + _ = _; rw [eb, if_pos (by simp; omega)]] at ih1
      exact ih1
    · refine R_ifeq fx_108_44 (by decide) (fun _ => ?_) (fun h => absurd h (by decide))
      refine R_inc fx_108_51 rfl ?_
      refine R_goto fx_108_54 ?_
      rw [Int.toNat_natCast] at hc
      rw [show popc (bset (frG G) 12) (m + 1) = popc (bset (frG G) 12) m by show _ + _ = _; rw [eb, if_neg (by simp; omega)]; rfl] at ih1
      exact ih1
theorem C_108_2 {w : Int} (hV : VG G) (hM : Mg f G) (K : Q [.inl ((bset (wsG G) 8 : Nat) : Int)] f) : ∀ (t m : Nat), m + t = 8 → Rf (SHL L) 108 92 [some (.inr 149), some (.inl w), some (.inl ((bset (wsG G) m : Nat) : Int)), some (.inl (m : Int))] [] f Q := by
  intro t
  induction t with
  | zero =>
    intro m hm
    have hmj : m = 8 := by omega
    subst hmj
    refine R_il fx_108_92 rfl ?_
    refine R_push fx_108_93 ?_
    refine R_icge fx_108_95 (by omega) (fun hc => ?_) (fun hc => by omega)
    refine R_il fx_108_118 rfl ?_
    exact R_ret fx_108_119 (Or.inl rfl) K
  | succ t ih =>
    intro m hm
    have ih1 := ih (m + 1) (by omega)
    have hb := bset_lt (wsG G) m
    have hm2 := x2p m (by omega)
    refine R_il fx_108_92 rfl ?_
    refine R_push fx_108_93 ?_
    refine R_icge fx_108_95 (by omega) (fun hc => by omega) (fun hc => ?_)
    refine R_al fx_108_98 rfl (by omega) ?_
    refine R_il fx_108_99 rfl ?_
    refine R_cv fx_108_100 rfl rfl rfl rfl kd_149 ?_
    refine C_109 (by omega) hM (by have := hV.2.2.2.1 m (by omega); rw [Int.toNat_natCast]; omega) (fun hc => ?_) (fun hc => ?_)
    · refine R_ifeq fx_108_103 (by decide) (fun h => absurd h (by decide)) (fun _ => ?_)
      refine R_il fx_108_106 rfl ?_
      refine R_push fx_108_107 ?_
      refine R_il fx_108_108 rfl ?_
      refine R_bin fx_108_109 (xb_shl (x := 1) (by omega) (by omega)) ?_
      refine R_bin fx_108_110 (xb_or (by omega) (by omega)) ?_
      refine R_is fx_108_111 ?_
      refine R_inc fx_108_112 rfl ?_
      refine R_goto fx_108_115 ?_
      rw [Int.toNat_natCast] at hc
      rw [show bset (wsG G) (m + 1) = bset (wsG G) m ||| 1 * 2 ^ m by rw [bset_or]; simp [bset, wsG, hc]] at ih1
      exact ih1
    · refine R_ifeq fx_108_103 (by decide) (fun _ => ?_) (fun h => absurd h (by decide))
      refine R_inc fx_108_112 rfl ?_
      refine R_goto fx_108_115 ?_
      rw [Int.toNat_natCast] at hc
      rw [show bset (wsG G) (m + 1) = bset (wsG G) m by simp [bset, wsG]; omega] at ih1
      exact ih1
theorem C_108 {w : Int} (hV : VG G) (h1 : xok w) (hM0 : Mst f G) (hK0 : Mk f n hi) (hT : MT f) (K : ∀ g v, v = lookG G (bset (frG G) 12) (bset (wsG G) 8) w → Dw f g n hi G → Q [.inl v] g) : Rf (SHL L) 108 0 (xloc 108 [.inr 149, .inl w]) [] f Q := by
  have h0 := hV.1
  refine R_al fx_108_0 rfl (by omega) ?_
  refine R_push fx_108_1 ?_
  refine R_pf fx_108_2 kd_149 rfl (fun h => absurd h (by decide)) ?_
  refine R_al fx_108_5 rfl (by omega) ?_
  refine R_cv fx_108_6 rfl rfl rfl rfl kd_149 ?_
  refine C_93 hM0.told (fun f1 b1 b2 b3 => ?_)
  have hM : Mg f1 G := b1
  have hK : Mk f1 n hi := hK0.kept (by rw [b2 3 (by omega), xup_i (by omega)]) (by rw [b3 151 (by omega)]; funext i; rw [xup_a (by omega)])
  have hfr : ∀ c, (c < 149 ∨ 151 < c) → f1 c = f c := fun c hc => by rw [b3 c (by omega)]; funext i; rw [xup_a (by omega)]
  have hwt : f1 149 11 = f 149 11 := by rw [b2 11 (by omega), xup_i (by omega)]
  have hT1 : MT f1 := ⟨fun j hj => by rw [hfr 156 (by omega)]; exact hT.1 j hj, by rw [hwt]; exact hT.2⟩
  have eg : ∀ i : Nat, i < 112 → f1 150 i = G i := hM.2
  refine R_il fx_108_9 rfl ?_
  refine R_ifne fx_108_10 (by omega) (fun hc => ?_) (fun hc => ?_)
  · refine R_il fx_108_20 rfl ?_
    refine R_push fx_108_21 ?_
    refine R_icne fx_108_22 (by omega) (fun hc => ?_) (fun hc => ?_)
    · refine R_il fx_108_59 rfl ?_
      refine R_push fx_108_60 ?_
      refine R_icne fx_108_61 (by omega) (fun hc => ?_) (fun hc => ?_)
      · refine R_il fx_108_71 rfl ?_
        refine R_push fx_108_72 ?_
        refine R_icne fx_108_73 (by omega) (fun hc => ?_) (fun hc => ?_)
        · refine R_il fx_108_83 rfl ?_
          refine R_push fx_108_84 ?_
          refine R_icne fx_108_85 (by omega) (fun hc => ?_) (fun hc => ?_)
          · refine R_il fx_108_120 rfl ?_
            refine R_push fx_108_121 ?_
            refine R_icne fx_108_122 (by omega) (fun hc => ?_) (fun hc => ?_)
            · refine R_il fx_108_132 rfl ?_
              refine R_push fx_108_133 ?_
              refine R_iclt fx_108_135 (by omega) (fun hc => ?_) (fun hc => ?_)
              · refine R_il fx_108_156 rfl ?_
                refine R_push fx_108_157 ?_
                refine R_iclt fx_108_159 (by omega) (fun hc => ?_) (fun hc => ?_)
                · refine R_push fx_108_168 ?_
                  refine R_ret fx_108_171 (Or.inl rfl) (K f1 _ ?_ ⟨hM, hK, fun c hc => hfr c (by omega), hT1⟩)
                  unfold lookG
                  rw [if_neg (by omega), if_neg (by omega), if_neg (by omega), if_neg (by omega), if_neg (by omega), if_neg (by omega), if_neg (by omega), if_neg (by omega)]
                · refine R_il fx_108_162 rfl ?_
                  refine R_push fx_108_163 ?_
                  refine R_icle fx_108_165 (by omega) (fun hc => ?_) (fun hc => ?_)
                  · refine R_il fx_108_172 rfl ?_
                    refine R_push fx_108_173 ?_
                    refine R_sub fx_108_175 ?_
                    refine R_push fx_108_176 ?_
                    refine R_bin fx_108_177 (xb_div (by omega) (by omega) (by omega) (by omega)) ?_
                    refine R_is fx_108_178 ?_
                    refine R_al fx_108_179 rfl (by omega) ?_
                    refine R_il fx_108_180 rfl ?_
                    refine R_cv fx_108_181 rfl rfl rfl rfl kd_149 ?_
                    refine C_110 (by omega) hM (by have := hV.2.2.2.2.1 ((w - 20) / 2).toNat (by omega); omega) (fun hb2 => ?_) (fun hb2 => ?_)
                    · refine R_ifne fx_108_184 (by decide) (fun _ => ?_) (fun h => absurd h (by decide))
                      refine R_il fx_108_193 rfl ?_
                      refine R_push fx_108_194 ?_
                      refine R_bin fx_108_195 (xb_rem (by omega) (by omega) (by omega) (by omega)) ?_
                      refine R_ifne fx_108_196 (by omega) (fun hc => ?_) (fun hc => ?_)
                      · refine R_al fx_108_211 rfl (by omega) ?_
                        refine R_gr fx_108_212 kd_149 rfl rr_149_1 ?_
                        refine R_push fx_108_215 ?_
                        refine R_il fx_108_217 rfl ?_
                        refine R_add fx_108_218 ?_
                        refine R_ia fx_108_219 (Or.inl kd_150) (by omega) (by rw [ln_150]; omega) (by omega) ?_
                        refine R_ret fx_108_220 (Or.inl rfl) (K f1 _ ?_ ⟨hM, hK, fun c hc => hfr c (by omega), hT1⟩)
                        unfold lookG
                        rw [if_neg (by omega), if_neg (by omega), if_neg (by omega), if_neg (by omega), if_neg (by omega), if_neg (by omega), if_neg (by omega), if_pos (by omega)]
                        first | (rw [if_neg hb2]) | (rw [if_pos hb2, if_pos (by omega), show (12 + (w - 20) / 2).toNat = 12 + ((w - 20) / 2).toNat by omega]; exact hM.2 _ (by omega)) | (rw [if_pos hb2, if_neg (by omega), show (16 + (w - 20) / 2).toNat = 16 + ((w - 20) / 2).toNat by omega]; exact hM.2 _ (by omega))
                      · refine R_al fx_108_199 rfl (by omega) ?_
                        refine R_gr fx_108_200 kd_149 rfl rr_149_1 ?_
                        refine R_push fx_108_203 ?_
                        refine R_il fx_108_205 rfl ?_
                        refine R_add fx_108_206 ?_
                        refine R_ia fx_108_207 (Or.inl kd_150) (by omega) (by rw [ln_150]; omega) (by omega) ?_
                        refine R_goto fx_108_208 ?_
                        refine R_ret fx_108_220 (Or.inl rfl) (K f1 _ ?_ ⟨hM, hK, fun c hc => hfr c (by omega), hT1⟩)
                        unfold lookG
                        rw [if_neg (by omega), if_neg (by omega), if_neg (by omega), if_neg (by omega), if_neg (by omega), if_neg (by omega), if_neg (by omega), if_pos (by omega)]
                        first | (rw [if_neg hb2]) | (rw [if_pos hb2, if_pos (by omega), show (12 + (w - 20) / 2).toNat = 12 + ((w - 20) / 2).toNat by omega]; exact hM.2 _ (by omega)) | (rw [if_pos hb2, if_neg (by omega), show (16 + (w - 20) / 2).toNat = 16 + ((w - 20) / 2).toNat by omega]; exact hM.2 _ (by omega))
                    · refine R_ifne fx_108_184 (by decide) (fun h => absurd h (by decide)) (fun _ => ?_)
                      refine R_push fx_108_187 ?_
                      refine R_goto fx_108_190 ?_
                      refine R_ret fx_108_220 (Or.inl rfl) (K f1 _ ?_ ⟨hM, hK, fun c hc => hfr c (by omega), hT1⟩)
                      unfold lookG
                      rw [if_neg (by omega), if_neg (by omega), if_neg (by omega), if_neg (by omega), if_neg (by omega), if_neg (by omega), if_neg (by omega), if_pos (by omega)]
                      first | (rw [if_neg hb2]) | (rw [if_pos hb2, if_pos (by omega), show (12 + (w - 20) / 2).toNat = 12 + ((w - 20) / 2).toNat by omega]; exact hM.2 _ (by omega)) | (rw [if_pos hb2, if_neg (by omega), show (16 + (w - 20) / 2).toNat = 16 + ((w - 20) / 2).toNat by omega]; exact hM.2 _ (by omega))
                  · refine R_push fx_108_168 ?_
                    refine R_ret fx_108_171 (Or.inl rfl) (K f1 _ ?_ ⟨hM, hK, fun c hc => hfr c (by omega), hT1⟩)
                    unfold lookG
                    rw [if_neg (by omega), if_neg (by omega), if_neg (by omega), if_neg (by omega), if_neg (by omega), if_neg (by omega), if_neg (by omega), if_neg (by omega)]
              · refine R_il fx_108_138 rfl ?_
                refine R_push fx_108_139 ?_
                refine R_icge fx_108_141 (by omega) (fun hc => ?_) (fun hc => ?_)
                · refine R_il fx_108_156 rfl ?_
                  refine R_push fx_108_157 ?_
                  refine R_iclt fx_108_159 (by omega) (fun hc => ?_) (fun hc => ?_)
                  · refine R_push fx_108_168 ?_
                    refine R_ret fx_108_171 (Or.inl rfl) (K f1 _ ?_ ⟨hM, hK, fun c hc => hfr c (by omega), hT1⟩)
                    unfold lookG
                    rw [if_neg (by omega), if_neg (by omega), if_neg (by omega), if_neg (by omega), if_neg (by omega), if_neg (by omega), if_neg (by omega), if_neg (by omega)]
                  · refine R_il fx_108_162 rfl ?_
                    refine R_push fx_108_163 ?_
                    refine R_icle fx_108_165 (by omega) (fun hc => ?_) (fun hc => ?_)
                    · refine R_il fx_108_172 rfl ?_
                      refine R_push fx_108_173 ?_
                      refine R_sub fx_108_175 ?_
                      refine R_push fx_108_176 ?_
                      refine R_bin fx_108_177 (xb_div (by omega) (by omega) (by omega) (by omega)) ?_
                      refine R_is fx_108_178 ?_
                      refine R_al fx_108_179 rfl (by omega) ?_
                      refine R_il fx_108_180 rfl ?_
                      refine R_cv fx_108_181 rfl rfl rfl rfl kd_149 ?_
                      refine C_110 (by omega) hM (by have := hV.2.2.2.2.1 ((w - 20) / 2).toNat (by omega); omega) (fun hb2 => ?_) (fun hb2 => ?_)
                      · refine R_ifne fx_108_184 (by decide) (fun _ => ?_) (fun h => absurd h (by decide))
                        refine R_il fx_108_193 rfl ?_
                        refine R_push fx_108_194 ?_
                        refine R_bin fx_108_195 (xb_rem (by omega) (by omega) (by omega) (by omega)) ?_
                        refine R_ifne fx_108_196 (by omega) (fun hc => ?_) (fun hc => ?_)
                        · refine R_al fx_108_211 rfl (by omega) ?_
                          refine R_gr fx_108_212 kd_149 rfl rr_149_1 ?_
                          refine R_push fx_108_215 ?_
                          refine R_il fx_108_217 rfl ?_
                          refine R_add fx_108_218 ?_
                          refine R_ia fx_108_219 (Or.inl kd_150) (by omega) (by rw [ln_150]; omega) (by omega) ?_
                          refine R_ret fx_108_220 (Or.inl rfl) (K f1 _ ?_ ⟨hM, hK, fun c hc => hfr c (by omega), hT1⟩)
                          unfold lookG
                          rw [if_neg (by omega), if_neg (by omega), if_neg (by omega), if_neg (by omega), if_neg (by omega), if_neg (by omega), if_neg (by omega), if_pos (by omega)]
                          first | (rw [if_neg hb2]) | (rw [if_pos hb2, if_pos (by omega), show (12 + (w - 20) / 2).toNat = 12 + ((w - 20) / 2).toNat by omega]; exact hM.2 _ (by omega)) | (rw [if_pos hb2, if_neg (by omega), show (16 + (w - 20) / 2).toNat = 16 + ((w - 20) / 2).toNat by omega]; exact hM.2 _ (by omega))
                        · refine R_al fx_108_199 rfl (by omega) ?_
                          refine R_gr fx_108_200 kd_149 rfl rr_149_1 ?_
                          refine R_push fx_108_203 ?_
                          refine R_il fx_108_205 rfl ?_
                          refine R_add fx_108_206 ?_
                          refine R_ia fx_108_207 (Or.inl kd_150) (by omega) (by rw [ln_150]; omega) (by omega) ?_
                          refine R_goto fx_108_208 ?_
                          refine R_ret fx_108_220 (Or.inl rfl) (K f1 _ ?_ ⟨hM, hK, fun c hc => hfr c (by omega), hT1⟩)
                          unfold lookG
                          rw [if_neg (by omega), if_neg (by omega), if_neg (by omega), if_neg (by omega), if_neg (by omega), if_neg (by omega), if_neg (by omega), if_pos (by omega)]
                          first | (rw [if_neg hb2]) | (rw [if_pos hb2, if_pos (by omega), show (12 + (w - 20) / 2).toNat = 12 + ((w - 20) / 2).toNat by omega]; exact hM.2 _ (by omega)) | (rw [if_pos hb2, if_neg (by omega), show (16 + (w - 20) / 2).toNat = 16 + ((w - 20) / 2).toNat by omega]; exact hM.2 _ (by omega))
                      · refine R_ifne fx_108_184 (by decide) (fun h => absurd h (by decide)) (fun _ => ?_)
                        refine R_push fx_108_187 ?_
                        refine R_goto fx_108_190 ?_
                        refine R_ret fx_108_220 (Or.inl rfl) (K f1 _ ?_ ⟨hM, hK, fun c hc => hfr c (by omega), hT1⟩)
                        unfold lookG
                        rw [if_neg (by omega), if_neg (by omega), if_neg (by omega), if_neg (by omega), if_neg (by omega), if_neg (by omega), if_neg (by omega), if_pos (by omega)]
                        first | (rw [if_neg hb2]) | (rw [if_pos hb2, if_pos (by omega), show (12 + (w - 20) / 2).toNat = 12 + ((w - 20) / 2).toNat by omega]; exact hM.2 _ (by omega)) | (rw [if_pos hb2, if_neg (by omega), show (16 + (w - 20) / 2).toNat = 16 + ((w - 20) / 2).toNat by omega]; exact hM.2 _ (by omega))
                    · refine R_push fx_108_168 ?_
                      refine R_ret fx_108_171 (Or.inl rfl) (K f1 _ ?_ ⟨hM, hK, fun c hc => hfr c (by omega), hT1⟩)
                      unfold lookG
                      rw [if_neg (by omega), if_neg (by omega), if_neg (by omega), if_neg (by omega), if_neg (by omega), if_neg (by omega), if_neg (by omega), if_neg (by omega)]
                · refine R_al fx_108_144 rfl (by omega) ?_
                  refine R_gr fx_108_145 kd_149 rfl rr_149_1 ?_
                  refine R_push fx_108_148 ?_
                  refine R_il fx_108_149 rfl ?_
                  refine R_add fx_108_150 ?_
                  refine R_push fx_108_151 ?_
                  refine R_sub fx_108_153 ?_
                  refine R_ia fx_108_154 (Or.inl kd_150) (by omega) (by rw [ln_150]; omega) (by omega) ?_
                  refine R_ret fx_108_155 (Or.inl rfl) (K f1 _ ?_ ⟨hM, hK, fun c hc => hfr c (by omega), hT1⟩)
                  unfold lookG
                  rw [if_neg (by omega), if_neg (by omega), if_neg (by omega), if_neg (by omega), if_neg (by omega), if_neg (by omega), if_pos (by omega)]
                  rw [show (4 + w - 10).toNat = 4 + (w - 10).toNat by omega]; exact hM.2 _ (by omega)
            · refine R_al fx_108_125 rfl (by omega) ?_
              refine R_gr fx_108_126 kd_149 rfl rr_149_1 ?_
              refine R_push fx_108_129 ?_
              refine R_ia fx_108_130 (Or.inl kd_150) (by omega) (by rw [ln_150]; omega) (by omega) ?_
              refine R_ret fx_108_131 (Or.inl rfl) (K f1 _ ?_ ⟨hM, hK, fun c hc => hfr c (by omega), hT1⟩)
              unfold lookG
              rw [if_neg (by omega), if_neg (by omega), if_neg (by omega), if_neg (by omega), if_neg (by omega), if_pos (by omega)]
              exact hM.2 3 (by omega)
          · refine R_push fx_108_88 ?_
            refine R_is fx_108_89 ?_
            refine R_push fx_108_90 ?_
            refine R_is fx_108_91 ?_
            refine C_108_2 hV hM (K f1 _ ?_ ⟨hM, hK, fun c hc => hfr c (by omega), hT1⟩) 8 0 (by omega)
            unfold lookG
            rw [if_neg (by omega), if_neg (by omega), if_neg (by omega), if_neg (by omega), if_pos (by omega)]
        · refine R_al fx_108_76 rfl (by omega) ?_
          refine R_gr fx_108_77 kd_149 rfl rr_149_1 ?_
          refine R_push fx_108_80 ?_
          refine R_ia fx_108_81 (Or.inl kd_150) (by omega) (by rw [ln_150]; omega) (by omega) ?_
          refine R_ret fx_108_82 (Or.inl rfl) (K f1 _ ?_ ⟨hM, hK, fun c hc => hfr c (by omega), hT1⟩)
          unfold lookG
          rw [if_neg (by omega), if_neg (by omega), if_neg (by omega), if_pos (by omega)]
          exact hM.2 2 (by omega)
      · refine R_al fx_108_64 rfl (by omega) ?_
        refine R_gr fx_108_65 kd_149 rfl rr_149_1 ?_
        refine R_push fx_108_68 ?_
        refine R_ia fx_108_69 (Or.inl kd_150) (by omega) (by rw [ln_150]; omega) (by omega) ?_
        refine R_ret fx_108_70 (Or.inl rfl) (K f1 _ ?_ ⟨hM, hK, fun c hc => hfr c (by omega), hT1⟩)
        unfold lookG
        rw [if_neg (by omega), if_neg (by omega), if_pos (by omega)]
        exact hM.2 1 (by omega)
    · refine R_push fx_108_25 ?_
      refine R_is fx_108_26 ?_
      refine R_push fx_108_27 ?_
      refine R_is fx_108_28 ?_
      refine C_108_1 hV hM (K f1 _ ?_ ⟨hM, hK, fun c hc => hfr c (by omega), hT1⟩) (G 0).toNat 0 (by omega)
      unfold lookG
      rw [if_neg (by omega), if_pos (by omega)]
  · refine R_al fx_108_13 rfl (by omega) ?_
    refine R_gr fx_108_14 kd_149 rfl rr_149_1 ?_
    refine R_push fx_108_17 ?_
    refine R_ia fx_108_18 (Or.inl kd_150) (by omega) (by rw [ln_150]; omega) (by omega) ?_
    refine R_ret fx_108_19 (Or.inl rfl) (K f1 _ ?_ ⟨hM, hK, fun c hc => hfr c (by omega), hT1⟩)
    unfold lookG
    rw [if_pos (by omega)]
    exact hM.2 0 (by omega)
end LK
