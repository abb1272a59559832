/-! ===== the model: make (the rest) ===== -/
section MH
variable {L : Nat} {f : xF} {Q : List xV → xF → Prop} {G H U : Nat → Int} {set : Nat} {hi : Nat → Nat → Int} {n : Nat}
theorem C_125_k {A : Option xV} (hV : VG G) (hlay : ∀ j, j < 8 → f 161 j = chG (coG G) j) (K : ∀ (g : xF) (Y : Int) (X4 X5 X6 : Option xV), QF g f → Mg g (upG (mkS G 4) 3 (G 3 + 1)) → Rf (SHL L) 125 301 [some (.inr 149), A, some (.inl (G 3)), some (.inl Y), X4, X5, X6] [] g Q) : ∀ (n k : Nat) (X4 X5 X6 : Option xV) (g : xF), k + n = 4 → QF g f → Mg g (upG (mkS G k) 3 (G 3 + 1)) → Rf (SHL L) 125 78 [some (.inr 149), A, some (.inl (G 3)), some (.inl (k : Int)), X4, X5, X6] [] g Q := by
  intro n
  induction n with
  | zero =>
    intro k X4 X5 X6 g hk hF hM
    have hkj : k = 4 := by omega
    subst hkj
    refine R_il fx_125_78 rfl ?_
    refine R_push fx_125_79 ?_
    refine R_icge fx_125_80 (by omega) (fun hc => ?_) (fun hc => by omega)
    exact K g _ _ _ _ hF hM
  | succ n ih =>
    intro k X4 X5 X6 g hk hF hM
    have hI := MI_mkS hV k (by omega)
    obtain ⟨ca, cb, cm⟩ := ch1_ok (set := setK (coG G) k) hV (show k < 4 by omega)
    have hch : ∀ j, j < 8 → g 161 j = chG (coG G) j := fun j hj => by rw [hF.1 161 (by omega) (by omega) (by omega) (by omega)]; exact hlay j hj
    have ea : g 161 (2 * k) = oz (ch1 (coG G) k (setK (coG G) k)).1 := by rw [hch _ (by omega)]; unfold chG chO; rw [if_pos (by omega), show 2 * k / 2 = k by omega]
    have eb : g 161 (2 * k + 1) = oz (ch1 (coG G) k (setK (coG G) k)).2 := by rw [hch _ (by omega)]; unfold chG chO; rw [if_neg (by omega), show (2 * k + 1) / 2 = k by omega]
    have ek : mkS G (k + 1) = opK G (mkS G k) k (ch1 (coG G) k (setK (coG G) k)).1 (ch1 (coG G) k (setK (coG G) k)).2 := rfl
    have fin : ∀ (g2 : xF) (Y4 Y5 Y6 : Option xV), QF g2 g → Mg g2 (upG (mkS G (k + 1)) 3 (G 3 + 1)) → Rf (SHL L) 125 295 [some (.inr 149), A, some (.inl (G 3)), some (.inl (k : Int)), Y4, Y5, Y6] [] g2 Q := fun g2 Y4 Y5 Y6 a b => by
      refine R_inc fx_125_295 rfl ?_
      refine R_goto fx_125_298 ?_
      exact ih (k + 1) _ _ _ g2 (by omega) ⟨fun c c1 c2 c3 c4 => by rw [a.1 c c1 c2 c3 c4]; exact hF.1 c c1 c2 c3 c4, fun i hi => by rw [a.2.1 i hi]; exact hF.2.1 i hi, a.2.2⟩ b
    refine R_il fx_125_78 rfl ?_
    refine R_push fx_125_79 ?_
    refine R_icge fx_125_80 (by omega) (fun hc => by omega) (fun hc => ?_)
    skip
    cases h1 : (ch1 (coG G) k (setK (coG G) k)).1 with
    | none =>
      rw [h1] at ea ek cb
      cases h2 : (ch1 (coG G) k (setK (coG G) k)).2 with
      | none =>
        rw [h2] at eb ek
        have ez : mkS G (k + 1) = mkS G k := by rw [ek]; unfold opK; cases mbG G k <;> rfl
        exact C_125_NN (by omega) ea eb (fun Y4 Y5 Y6 => fin g Y4 Y5 Y6 ⟨fun _ _ _ _ _ => rfl, fun _ _ => rfl, hF.2.2⟩ (by rw [ez]; exact hM)) _ _ _
      | some q =>
        rw [h2] at eb ek
        have hm : mbG G k = false := by
          cases hm : mbG G k with
          | false => rfl
          | true => rcases cm hm with ⟨_, z⟩ | ⟨r, q, z, _⟩
                    · rw [h2] at z; exact absurd z (by simp)
                    · rw [h1] at z; exact absurd z (by simp)
        have ez : mkS G (k + 1) = opS G (mkS G k) (2 * k + 1) (some q) := by rw [ek]; unfold opK; rw [hm]; rfl
        obtain ⟨q1, q2, q3⟩ := cb q h2
        refine C_125_NS hV (by omega) hI hM hF.2.2 q1 q2 q3 ea eb (fun g2 Y4 Y5 Y6 a b => fin g2 Y4 Y5 Y6 a (by rw [ez]; exact b)) _ _ _
    | some r =>
      obtain ⟨r1, r2, r3⟩ := ca r h1
      rw [h1] at ea ek cb
      cases h2 : (ch1 (coG G) k (setK (coG G) k)).2 with
      | none =>
        rw [h2] at eb ek
        have hm : mbG G k = false := by
          cases hm : mbG G k with
          | false => rfl
          | true => rcases cm hm with ⟨z, _⟩ | ⟨r, q, _, z, _⟩
                    · rw [h1] at z; exact absurd z (by simp)
                    · rw [h2] at z; exact absurd z (by simp)
        have ez : mkS G (k + 1) = opS G (mkS G k) (2 * k) (some r) := by rw [ek]; unfold opK; rw [hm]; rfl
        refine C_125_SN hV (by omega) hI hM hF.2.2 r1 r2 r3 ea eb (fun g2 Y4 Y5 Y6 a b => fin g2 Y4 Y5 Y6 a (by rw [ez]; exact b)) _ _ _
      | some q =>
        obtain ⟨q1, q2, q3⟩ := cb q h2
        have q4 : (setK (coG G) k ||| 2 ^ r).testBit q = false := q2
        rw [bit_or, Bool.or_eq_false_iff] at q4
        have hne : r ≠ q := of_decide_eq_false q4.2
        rw [h2] at eb ek
        cases hm : mbG G k with
        | true =>
          have hcp : cpG G k r q ≠ 268435456 := by
            rcases cm hm with ⟨z, _⟩ | ⟨r', q', z1, z2, _, _, _, _, z3⟩
            · rw [h1] at z; exact absurd z (by simp)
            · rw [h1] at z1; rw [h2] at z2
              have y1 := Option.some.inj z1
              have y2 := Option.some.inj z2
              rw [y1, y2]; exact z3
          have ez : mkS G (k + 1) = opP G (mkS G k) k (some r) (some q) := by rw [ek]; unfold opK; rw [hm]; rfl
          refine C_125_PP hV (by omega) hI hM hF.2.2 r1 r2 q1 q4.1 hne hcp ea eb (fun g2 Y4 Y5 Y6 a b => fin g2 Y4 Y5 Y6 a (by rw [ez]; exact b)) _ _ _
        | false =>
          have w1 := (csG_b (s := 2 * k) hV r1).resolve_left r3
          have w2 := (csG_b (s := 2 * k + 1) hV q1).resolve_left q3
          have hnb : ¬ G (12 + k) ≤ G (16 + k) := fun z => of_decide_eq_false hm ⟨z, w1.2.2.2.2.2, w2.2.2.2.2.2⟩
          have ez : mkS G (k + 1) = opS G (opS G (mkS G k) (2 * k) (some r)) (2 * k + 1) (some q) := by rw [ek]; unfold opK; rw [hm]; rfl
          refine C_125_SS hV (by omega) hI hM hF.2.2 r1 r2 q1 q4.1 hne r3 q3 hnb ea eb (fun g2 Y4 Y5 Y6 a b => fin g2 Y4 Y5 Y6 a (by rw [ez]; exact b)) _ _ _
theorem C_125_w {A X4 X5 X6 : Option xV} (hM : Mg f (upG (mkS G 4) 3 (G 3 + 1))) (K : ∀ g : xF, Mg g (mkF G) → (∀ c, c ≠ 150 → g c = f c) → Q [.inl (G 3)] g) : ∀ (t m : Nat) (g : xF), m + t = 8 → (∀ i, i < 112 → g 150 i = if 4 ≤ i ∧ i < 4 + m then -1 else upG (mkS G 4) 3 (G 3 + 1) i) → (∀ c, c ≠ 150 → g c = f c) → Rf (SHL L) 125 303 [some (.inr 149), A, some (.inl (G 3)), some (.inl (m : Int)), X4, X5, X6] [] g Q := by
  intro t
  induction t with
  | zero =>
    intro m g hm hg hA
    have hmj : m = 8 := by omega
    subst hmj
    refine R_il fx_125_303 rfl ?_
    refine R_push fx_125_304 ?_
    refine R_icge fx_125_306 (by omega) (fun hc => ?_) (fun hc => by omega)
    refine R_il fx_125_324 rfl ?_
    refine R_ret fx_125_325 (Or.inl rfl) (K g ⟨by rw [hA 149 (by omega)]; exact hM.1, fun i hi => ?_⟩ hA)
    rw [hg i hi]
    rfl
  | succ t ih =>
    intro m g hm hg hA
    refine R_il fx_125_303 rfl ?_
    refine R_push fx_125_304 ?_
    refine R_icge fx_125_306 (by omega) (fun hc => by omega) (fun hc => ?_)
    refine R_al fx_125_309 rfl (by omega) ?_
    refine R_gr fx_125_310 kd_149 rfl rr_149_1 ?_
    refine R_push fx_125_313 ?_
    refine R_il fx_125_314 rfl ?_
    refine R_add fx_125_315 ?_
    refine R_push fx_125_316 ?_
    refine R_ias fx_125_317 kd_150 (by omega) (by rw [ln_150]; omega) (by omega) ?_
    refine R_inc fx_125_318 rfl ?_
    refine R_goto fx_125_321 ?_
    rw [show ((4 : Int) + (m : Int)).toNat = 4 + m by omega]
    refine ih (m + 1) _ (by omega) (fun i hi => ?_) (fun c hc => by funext y; rw [xup_a hc]; exact congrFun (hA c hc) y)
    by_cases e : i = 4 + m
    · subst e; rw [xup_s, if_pos (by omega)]
    · rw [xup_i e, hg i hi]
      by_cases z : 4 ≤ i ∧ i < 4 + m
      · rw [if_pos z, if_pos (by omega)]
      · rw [if_neg z, if_neg (by omega)]
theorem C_125 (hV : VG G) (hM0 : Mst f G) (hK0 : Mk f n hi) (hT : MT f) (K1 : mn (lev (coG G) 0 0) ≠ 268435456 → bset (wsG G) 8 ≠ 0 → ∀ g, Dw f g (min (n + 1) 6) (consG G hi) (mkF G) → Q [.inl (G 3)] g) (K0 : ¬ (mn (lev (coG G) 0 0) ≠ 268435456 ∧ bset (wsG G) 8 ≠ 0) → ∀ g, Dw f g n hi G → Q [.inl (-1)] g) : Rf (SHL L) 125 0 (xloc 125 [.inr 149]) [] f Q := by
  have go : ∀ (f1 : xF) (av y : Int), Mg f1 G → Mk f1 n hi → (∀ c, (c < 149 ∨ 151 < c) → f1 c = f c) → MT f1 → ((av = 0 ∧ bset (wsG G) 8 = 0) ∨ (av = 1 ∧ bset (wsG G) 8 ≠ 0)) → Rf (SHL L) 125 43 [some (.inr 149), some (.inl av), some (.inl y), none, none, none, none] [] f1 Q := by
    intro f1 av y hM hK hfr hT1 hav
    refine R_il fx_125_43 rfl ?_
    refine R_ifeq fx_125_44 (by omega) (fun hz => ?_) (fun hz => ?_)
    · refine R_push fx_125_54 ?_
      first | exact R_ret fx_125_55 (Or.inl rfl) (K0 (fun z => z.1 hx) g2 (Dw.tf hM hK hfr hF)) | exact R_ret fx_125_55 (Or.inl rfl) (K0 (by omega) f1 ⟨hM, hK, fun c hc => hfr c (by omega), hT1⟩)
    · refine R_al fx_125_47 rfl (by omega) ?_
      refine R_cv fx_125_48 rfl rfl rfl rfl kd_149 ?_
      refine C_118 hV hM hT1 (fun hx g2 hF x0 xj => ?_) (fun hx g2 hF => ?_)
      · refine R_ifne fx_125_51 (by decide) (fun _ => ?_) (fun h => absurd h (by decide))
        refine R_al fx_125_56 rfl (by omega) ?_
        refine R_cv fx_125_57 rfl rfl rfl rfl kd_149 ?_
        have hM2 : Mg g2 G := hM.kept (hF.2.1 4 (by omega)) (hF.1 150 (by omega))
        have hK2 : Mk g2 n hi := hK.kept (hF.2.1 3 (by omega)) (hF.1 151 (by omega))
        refine C_95 hM2 hK2 (fun g3 a1 a2 a3 => ?_)
        have hM3 : Mg g3 G := ⟨by rw [a2 4 (by omega)]; exact hM2.1, fun i h9 => by rw [a3 150 (by omega)]; exact hM2.2 i h9⟩
        have e3 : g3 150 (3 : Int).toNat = G 3 := hM3.2 3 (by omega)
        refine R_al fx_125_60 rfl (by omega) ?_
        refine R_gr fx_125_61 kd_149 rfl rr_149_1 ?_
        refine R_push fx_125_64 ?_
        refine R_ia fx_125_65 (Or.inl kd_150) (by omega) (by rw [ln_150]; omega) (by omega) ?_
        rw [e3]
        refine R_is fx_125_66 ?_
        refine R_al fx_125_67 rfl (by omega) ?_
        refine R_gr fx_125_68 kd_149 rfl rr_149_1 ?_
        refine R_push fx_125_71 ?_
        refine R_il fx_125_72 rfl ?_
        refine R_push fx_125_73 ?_
        refine R_add fx_125_74 ?_
        refine R_ias fx_125_75 kd_150 (by omega) (by rw [ln_150]; omega) (by omega) ?_
        refine R_push fx_125_76 ?_
        refine R_is fx_125_77 ?_
        refine C_125_k (f := xup g3 150 3 (G 3 + 1)) hV (fun j hj => by rw [xup_a (by omega), a3 161 (by omega)]; exact xj j hj) (fun g5 Y X4 X5 X6 hQ hM5 => ?_) 4 0 _ _ _ _ (by omega) ⟨fun _ _ _ _ _ => rfl, fun _ _ => rfl, fun j hj => by rw [xup_a (by omega), a3 156 (by omega)]; exact hF.2.2.1 j hj, by rw [xup_a (by omega), a2 11 (by omega)]; exact hF.2.2.2⟩ hM3.up
        refine R_push fx_125_301 ?_
        refine R_is fx_125_302 ?_
        refine C_125_w hM5 (fun g6 m6 k6 => K1 hx (by omega) g6 ⟨m6, ?_, fun c hc => ?_, fun j hj => ?_, ?_⟩) 8 0 g5 (by omega) (fun i hi => by rw [if_neg (by omega)]; exact hM5.2 i hi) (fun _ _ => rfl)
        · exact a1.kept (by rw [k6 149 (by omega), hQ.2.1 3 (by omega), xup_a (by omega)]) (by rw [k6 151 (by omega), hQ.1 151 (by omega) (by omega) (by omega) (by omega)]; funext y; rw [xup_a (by omega)])
        · rw [k6 c (by omega), hQ.1 c (by omega) (by omega) (by omega) (by omega), ← hfr c (by omega), ← hF.1 c (by omega), ← a3 c (by omega)]; funext y; rw [xup_a (by omega)]
        · rw [k6 156 (by omega)]; exact hQ.2.2.1 j hj
        · rw [k6 149 (by omega)]; exact hQ.2.2.2
      · refine R_ifne fx_125_51 (by decide) (fun h => absurd h (by decide)) (fun _ => ?_)
        refine R_push fx_125_54 ?_
        first | exact R_ret fx_125_55 (Or.inl rfl) (K0 (fun z => z.1 hx) g2 (Dw.tf hM hK hfr hF)) | exact R_ret fx_125_55 (Or.inl rfl) (K0 (by omega) f1 ⟨hM, hK, fun c hc => hfr c (by omega), hT1⟩)
  have loop : ∀ (f1 : xF), Mg f1 G → Mk f1 n hi → (∀ c, (c < 149 ∨ 151 < c) → f1 c = f c) → MT f1 → ∀ (t m : Nat) (av : Int), m + t = 8 → ((av = 0 ∧ bset (wsG G) m = 0) ∨ (av = 1 ∧ bset (wsG G) m ≠ 0)) → Rf (SHL L) 125 13 [some (.inr 149), some (.inl av), some (.inl (m : Int)), none, none, none, none] [] f1 Q := by
    intro f1 hM hK hfr hT1 t
    induction t with
    | zero =>
      intro m av hm hav
      have hmj : m = 8 := by omega
      subst hmj
      refine R_il fx_125_13 rfl ?_
      refine R_push fx_125_14 ?_
      refine R_icge fx_125_16 (by omega) (fun hc => ?_) (fun hc => by omega)
      exact go f1 av _ hM hK hfr hT1 hav
    | succ t ih =>
      intro m av hm hav
      have hv4 := hV.2.2.2.1 m (by omega)
      have hs : bset (wsG G) (m + 1) = if wsG G m then bset (wsG G) m + 2 ^ m else bset (wsG G) m := rfl
      have hp : 0 < 2 ^ m := Nat.pos_of_ne_zero (by simp)
      refine R_il fx_125_13 rfl ?_
      refine R_push fx_125_14 ?_
      refine R_icge fx_125_16 (by omega) (fun hc => by omega) (fun hc => ?_)
      refine R_il fx_125_19 rfl ?_
      refine R_ifne fx_125_20 (by omega) (fun hz => ?_) (fun hz => ?_)
      · refine R_push fx_125_31 ?_
        refine R_goto fx_125_32 ?_
        refine R_is fx_125_36 ?_
        refine R_inc fx_125_37 rfl ?_
        refine R_goto fx_125_40 ?_
        refine ih (m + 1) 1 (by omega) (Or.inr ⟨rfl, ?_⟩)
        rw [hs]; split <;> omega
      · refine R_al fx_125_23 rfl (by omega) ?_
        refine R_il fx_125_24 rfl ?_
        refine R_cv fx_125_25 rfl rfl rfl rfl kd_149 ?_
        refine C_109 (by omega) hM (by rw [Int.toNat_natCast]; omega) (fun hc => ?_) (fun hc => ?_) <;> rw [Int.toNat_natCast] at hc
        · refine R_ifeq fx_125_28 (by decide) (fun h => absurd h (by decide)) (fun _ => ?_)
          refine R_push fx_125_31 ?_
          refine R_goto fx_125_32 ?_
          refine R_is fx_125_36 ?_
          refine R_inc fx_125_37 rfl ?_
          refine R_goto fx_125_40 ?_
          refine ih (m + 1) 1 (by omega) (Or.inr ⟨rfl, ?_⟩)
          rw [hs, show wsG G m = true from decide_eq_true hc, if_pos rfl]; omega
        · refine R_ifeq fx_125_28 (by decide) (fun _ => ?_) (fun h => absurd h (by decide))
          refine R_push fx_125_35 ?_
          refine R_is fx_125_36 ?_
          refine R_inc fx_125_37 rfl ?_
          refine R_goto fx_125_40 ?_
          refine ih (m + 1) 0 (by omega) (Or.inl ⟨rfl, ?_⟩)
          rw [hs, show wsG G m = false from decide_eq_false hc, if_neg (by decide)]; omega
  refine R_al fx_125_0 rfl (by omega) ?_
  refine R_push fx_125_1 ?_
  refine R_pf fx_125_2 kd_149 rfl (fun h => absurd h (by decide)) ?_
  refine R_al fx_125_5 rfl (by omega) ?_
  refine R_cv fx_125_6 rfl rfl rfl rfl kd_149 ?_
  refine C_93 hM0.told (fun f1 b1 b2 b3 => ?_)
  have hM : Mg f1 G := b1
  have hK : Mk f1 n hi := hK0.kept (by rw [b2 3 (by omega), xup_i (by omega)]) (by rw [b3 151 (by omega)]; funext i; rw [xup_a (by omega)])
  have hfr : ∀ c, (c < 149 ∨ 151 < c) → f1 c = f c := fun c hc => by rw [b3 c (by omega)]; funext i; rw [xup_a (by omega)]
  have hwt : f1 149 11 = f 149 11 := by rw [b2 11 (by omega), xup_i (by omega)]
  have hT1 : MT f1 := ⟨fun j hj => by rw [hfr 156 (by omega)]; exact hT.1 j hj, by rw [hwt]; exact hT.2⟩
  refine R_push fx_125_9 ?_
  refine R_is fx_125_10 ?_
  refine R_push fx_125_11 ?_
  refine R_is fx_125_12 ?_
  exact loop f1 hM hK hfr hT1 8 0 0 (by omega) (Or.inl ⟨rfl, rfl⟩)
end MH
