/-! ===== work, pairWork, the model's look ===== -/
noncomputable def workA (G : Nat → Int) (r s w : Int) : Int := if ((0 ≤ r ∧ r < G 0) ∧ (0 ≤ s ∧ s < 8) ∧ G (4 + s.toNat) ≠ -1) ∧ wk G r.toNat s.toNat ≠ 268435456 then (if w = 0 then wk G r.toNat s.toNat / 32 else if w = 1 then wk G r.toNat s.toNat % 32 else if w = 2 then wk G r.toNat s.toNat / 32 - wk G r.toNat s.toNat % 32 else -1) else -1
noncomputable def pairA (G : Nat → Int) (r q k w : Int) : Int := if ((0 ≤ r ∧ r < G 0) ∧ (0 ≤ q ∧ q < G 0) ∧ r ≠ q ∧ (0 ≤ k ∧ k < 4) ∧ G (4 + (2 * k).toNat) ≠ -1 ∧ G (4 + (2 * k + 1).toNat) ≠ -1) ∧ pk G r.toNat q.toNat k.toNat ≠ 268435456 then (if w = 0 then pk G r.toNat q.toNat k.toNat / 32768 else if w = 1 then pk G r.toNat q.toNat k.toNat / 1024 % 32 else if w = 2 then pk G r.toNat q.toNat k.toNat / 32 % 32 else if w = 3 then pk G r.toNat q.toNat k.toNat % 32 else if w = 4 then pk G r.toNat q.toNat k.toNat / 32768 - pk G r.toNat q.toNat k.toNat / 1024 % 32 - pk G r.toNat q.toNat k.toNat / 32 % 32 - pk G r.toNat q.toNat k.toNat % 32 else -1) else -1
/-- the model behind a call that changes nothing -/
def Dw (f f2 : xF) (n : Nat) (hi : Nat → Nat → Int) (G2 : Nat → Int) : Prop := Mg f2 G2 ∧ Mk f2 n hi ∧ (∀ c, (c < 149 ∨ (151 < c ∧ c < 155)) → f2 c = f c) ∧ MT f2
theorem Dm.w {f f2 : xF} {n : Nat} {hi : Nat → Nat → Int} {G2 : Nat → Int} (h : Dm f f2 n hi G2) (hT : MT f) : Dw f f2 n hi G2 := ⟨h.1, h.2.1, fun c hc => h.2.2.1 c (by omega), fun j hj => by rw [h.2.2.1 156 (by omega)]; exact hT.1 j hj, by rw [h.2.2.2]; exact hT.2⟩
theorem Dw.wf {f f1 g : xF} {n : Nat} {hi : Nat → Nat → Int} {G : Nat → Int} (hM : Mg f1 G) (hK : Mk f1 n hi) (hfr : ∀ c, (c < 149 ∨ 151 < c) → f1 c = f c) (h : WF g f1) : Dw f g n hi G := ⟨hM.kept (h.2.1 4 (by omega)) (h.1 150 (by omega) (by omega) (by omega)), hK.kept (h.2.1 3 (by omega)) (h.1 151 (by omega) (by omega) (by omega)), fun c hc => by rw [h.1 c (by omega) (by omega) (by omega)]; exact hfr c (by omega), h.2.2⟩
section WA
variable {L : Nat} {f : xF} {Q : List xV → xF → Prop} {G : Nat → Int} {hi : Nat → Nat → Int} {n : Nat}
theorem C_35 {r s w : Int} (hV : VG G) (hS : Sg f 4 G) (h1 : xok r) (h2 : xok s) (h3 : xok w) (K : ∀ g v, v = workA G r s w → (∀ c, c ≠ 139 → g c = f c) → Q [.inl v] g) : Rf (SHL L) 35 0 (xloc 35 [.inr 3, .inl r, .inl s, .inl w]) [] f Q := by
  have hm := hV.m hS
  have hp := hV.p hS
  have h0 := hS.1.1
  refine R_al fx_35_0 rfl (by omega) ?_
  refine R_gr fx_35_1 kd_3 rfl rr_3_0 ?_
  refine R_il fx_35_4 rfl ?_
  refine R_cv fx_35_5 rfl rfl rfl rfl kd_4 ?_
  refine C_19 (by omega) (by omega) (fun hc => ?_) (fun hc => ?_)
  · refine R_ifeq fx_35_8 (by decide) (fun h => absurd h (by decide)) (fun _ => ?_)
    refine R_al fx_35_11 rfl (by omega) ?_
    refine R_gr fx_35_12 kd_3 rfl rr_3_0 ?_
    refine R_il fx_35_15 rfl ?_
    refine R_cv fx_35_16 rfl rfl rfl rfl kd_4 ?_
    refine C_33 h2 (hV.w hS) (fun hc2 => ?_) (fun hc2 => ?_)
    · refine R_ifne fx_35_19 (by decide) (fun _ => ?_) (fun h => absurd h (by decide))
      refine R_al fx_35_24 rfl (by omega) ?_
      refine R_gr fx_35_25 kd_3 rfl rr_3_2 ?_
      refine R_al fx_35_28 rfl (by omega) ?_
      refine R_gr fx_35_29 kd_3 rfl rr_3_0 ?_
      refine R_il fx_35_32 rfl ?_
      refine R_il fx_35_33 rfl ?_
      refine R_cv fx_35_34 rfl rfl rfl rfl kd_125 ?_
      have e6 := hS.2.1 s.toNat (by omega)
      have hcond : (0 ≤ r ∧ r < G 0) ∧ (0 ≤ s ∧ s < 8) ∧ G (4 + s.toNat) ≠ -1 := ⟨by omega, by omega, by rw [← e6]; exact hc2.2⟩
      refine C_36 (r := r.toNat) (s := s.toNat) (by omega) (by omega) hV hS (by omega) (by omega) (by omega) (fun g hF => ?_)
      have hb := wk_b (r := r.toNat) (s := s.toNat) hV (by omega) (by omega)
      refine R_is fx_35_37 ?_
      refine R_il fx_35_39 rfl ?_
      refine R_push fx_35_41 ?_
      refine R_icne fx_35_43 (by omega) (fun hc3 => ?_) (fun hc3 => ?_)
      · refine R_il fx_35_48 rfl ?_
        rcases (show w = 0 ∨ w = 1 ∨ w = 2 ∨ (w < 0 ∨ 3 ≤ w) by omega) with rfl | rfl | rfl | hw
        · refine R_sw fx_35_49 (by decide) rfl ?_
          refine R_il fx_35_76 rfl ?_
          refine R_cs fx_35_78 rfl rfl rfl rfl ?_
          refine C_39 (by omega) ?_
          refine R_ret fx_35_81 (Or.inl rfl) (K g _ ?_ hF)
          unfold workA
          rw [if_pos ⟨hcond, hc3⟩]
          rfl
        · refine R_sw fx_35_49 (by decide) rfl ?_
          refine R_il fx_35_82 rfl ?_
          refine R_cs fx_35_84 rfl rfl rfl rfl ?_
          refine C_40 (by omega) ?_
          refine R_ret fx_35_87 (Or.inl rfl) (K g _ ?_ hF)
          unfold workA
          rw [if_pos ⟨hcond, hc3⟩]
          rfl
        · refine R_sw fx_35_49 (by decide) rfl ?_
          refine R_il fx_35_88 rfl ?_
          refine R_cs fx_35_90 rfl rfl rfl rfl ?_
          refine C_41 (by omega) ?_
          refine R_ret fx_35_93 (Or.inl rfl) (K g _ ?_ hF)
          unfold workA
          rw [if_pos ⟨hcond, hc3⟩]
          rfl
        · refine R_sw fx_35_49 h3 (if_pos (show w < 0 ∨ ((3 : Nat) : Int) ≤ w by omega)) ?_
          refine R_push fx_35_94 ?_
          refine R_ret fx_35_95 (Or.inl rfl) (K g _ ?_ hF)
          unfold workA
          rw [if_pos ⟨hcond, hc3⟩, if_neg (by omega), if_neg (by omega), if_neg (by omega)]
      · refine R_push fx_35_46 ?_
        refine R_ret fx_35_47 (Or.inl rfl) (K g _ ?_ hF)
        unfold workA
        rw [if_neg (fun z => z.2 hc3)]
    · refine R_ifne fx_35_19 (by decide) (fun h => absurd h (by decide)) (fun _ => ?_)
      refine R_push fx_35_22 ?_
      refine R_ret fx_35_23 (Or.inl rfl) (K f _ ?_ (fun _ _ => rfl))
      unfold workA
      rw [if_neg (fun z => ?_)]
      first | omega | exact hc2 ⟨by omega, by have e6 := hS.2.1 s.toNat (by omega); rw [show f 6 s.toNat = f (4 + 2) s.toNat from rfl, e6]; exact z.1.2.2⟩
  · refine R_ifeq fx_35_8 (by decide) (fun _ => ?_) (fun h => absurd h (by decide))
    refine R_push fx_35_22 ?_
    refine R_ret fx_35_23 (Or.inl rfl) (K f _ ?_ (fun _ _ => rfl))
    unfold workA
    rw [if_neg (fun z => ?_)]
    first | omega | exact hc2 ⟨by omega, by have e6 := hS.2.1 s.toNat (by omega); rw [show f 6 s.toNat = f (4 + 2) s.toNat from rfl, e6]; exact z.1.2.2⟩
theorem C_42 {r q k w : Int} (hV : VG G) (hS : Sg f 4 G) (h1 : xok r) (h2 : xok q) (h2k : xok k) (h3 : xok w) (K : ∀ g v, v = pairA G r q k w → (∀ c, (c < 125 ∨ 140 < c) → g c = f c) → Q [.inl v] g) : Rf (SHL L) 42 0 (xloc 42 [.inr 3, .inl r, .inl q, .inl k, .inl w]) [] f Q := by
  have hm := hV.m hS
  have hp := hV.p hS
  have h0 := hS.1.1
  refine R_al fx_42_0 rfl (by omega) ?_
  refine R_gr fx_42_1 kd_3 rfl rr_3_0 ?_
  refine R_il fx_42_4 rfl ?_
  refine R_cv fx_42_5 rfl rfl rfl rfl kd_4 ?_
  refine C_19 h1 hm (fun hc1 => ?_) (fun hc1 => ?_)
  · refine R_ifeq fx_42_8 (by decide) (fun h => absurd h (by decide)) (fun _ => ?_)
    refine R_al fx_42_11 rfl (by omega) ?_
    refine R_gr fx_42_12 kd_3 rfl rr_3_0 ?_
    refine R_il fx_42_15 rfl ?_
    refine R_cv fx_42_16 rfl rfl rfl rfl kd_4 ?_
    refine C_19 h2 hm (fun hc2 => ?_) (fun hc2 => ?_)
    · refine R_ifeq fx_42_19 (by decide) (fun h => absurd h (by decide)) (fun _ => ?_)
      refine R_il fx_42_22 rfl ?_
      refine R_il fx_42_23 rfl ?_
      refine R_iceq fx_42_24 (by omega) (fun hc3 => ?_) (fun hc3 => ?_)
      · refine R_push fx_42_38 ?_
        refine R_ret fx_42_39 (Or.inl rfl) (K f _ ?_ (fun _ _ => rfl))
        unfold pairA
        rw [if_neg (fun z => ?_)]
        first | omega | exact hc4 ⟨by omega, by have e6 := hS.2.1 (2 * k).toNat (by omega); rw [show f 6 (2 * k).toNat = f (4 + 2) (2 * k).toNat from rfl, e6]; exact z.1.2.2.2.2.1, by have e6 := hS.2.1 (2 * k + 1).toNat (by omega); rw [show f 6 (2 * k + 1).toNat = f (4 + 2) (2 * k + 1).toNat from rfl, e6]; exact z.1.2.2.2.2.2⟩
      · refine R_al fx_42_27 rfl (by omega) ?_
        refine R_gr fx_42_28 kd_3 rfl rr_3_0 ?_
        refine R_il fx_42_31 rfl ?_
        refine R_cv fx_42_32 rfl rfl rfl rfl kd_4 ?_
        refine C_43 h2k (hV.w hS) (fun hc4 => ?_) (fun hc4 => ?_)
        · refine R_ifne fx_42_35 (by decide) (fun _ => ?_) (fun h => absurd h (by decide))
          refine R_al fx_42_40 rfl (by omega) ?_
          refine R_gr fx_42_41 kd_3 rfl rr_3_2 ?_
          refine R_al fx_42_44 rfl (by omega) ?_
          refine R_gr fx_42_45 kd_3 rfl rr_3_0 ?_
          refine R_il fx_42_48 rfl ?_
          refine R_il fx_42_49 rfl ?_
          refine R_il fx_42_50 rfl ?_
          refine R_cv fx_42_51 rfl rfl rfl rfl kd_125 ?_
          have e6 := hS.2.1 (2 * k).toNat (by omega)
          have e7 := hS.2.1 (2 * k + 1).toNat (by omega)
          have hcond : (0 ≤ r ∧ r < G 0) ∧ (0 ≤ q ∧ q < G 0) ∧ r ≠ q ∧ (0 ≤ k ∧ k < 4) ∧ G (4 + (2 * k).toNat) ≠ -1 ∧ G (4 + (2 * k + 1).toNat) ≠ -1 := ⟨by omega, by omega, hc3, hc4.1, by rw [← e6]; exact hc4.2.1, by rw [← e7]; exact hc4.2.2⟩
          refine C_44 (r := r.toNat) (q := q.toNat) (k := k.toNat) (by omega) (by omega) (by omega) hV hS (by omega) (by omega) (by omega) (by omega) (by omega) (fun g hF => ?_)
          have hb := pk_b (r := r.toNat) (q := q.toNat) (k := k.toNat) hV (by omega) (by omega) (by omega) (by omega)
          refine R_is fx_42_54 ?_
          refine R_il fx_42_56 rfl ?_
          refine R_push fx_42_58 ?_
          refine R_icne fx_42_60 (by omega) (fun hc5 => ?_) (fun hc5 => ?_)
          · obtain ⟨y, hy⟩ := Int.eq_ofNat_of_zero_le (a := pk G r.toNat q.toNat k.toNat) (by omega)
            have hyb : y < 2147483648 := by omega
            rw [hy]
            refine R_il fx_42_65 rfl ?_
            rcases (show w = 0 ∨ w = 1 ∨ w = 2 ∨ w = 3 ∨ w = 4 ∨ (w < 0 ∨ 5 ≤ w) by omega) with rfl | rfl | rfl | rfl | rfl | hw
            · refine R_sw fx_42_67 (by decide) rfl ?_
              refine R_il fx_42_100 rfl ?_
              refine R_cs fx_42_102 rfl rfl rfl rfl ?_
              refine C_51 hyb ?_
              refine R_ret fx_42_105 (Or.inl rfl) (K g _ ?_ hF)
              unfold pairA
              rw [if_pos ⟨hcond, hc5⟩, hy]
              rfl
            · refine R_sw fx_42_67 (by decide) rfl ?_
              refine R_il fx_42_106 rfl ?_
              refine R_cs fx_42_108 rfl rfl rfl rfl ?_
              refine C_52 hyb ?_
              refine R_ret fx_42_111 (Or.inl rfl) (K g _ ?_ hF)
              unfold pairA
              rw [if_pos ⟨hcond, hc5⟩, hy]
              rfl
            · refine R_sw fx_42_67 (by decide) rfl ?_
              refine R_il fx_42_112 rfl ?_
              refine R_cs fx_42_114 rfl rfl rfl rfl ?_
              refine C_53 hyb ?_
              refine R_ret fx_42_117 (Or.inl rfl) (K g _ ?_ hF)
              unfold pairA
              rw [if_pos ⟨hcond, hc5⟩, hy]
              rfl
            · refine R_sw fx_42_67 (by decide) rfl ?_
              refine R_il fx_42_118 rfl ?_
              refine R_cs fx_42_120 rfl rfl rfl rfl ?_
              refine C_54 hyb ?_
              refine R_ret fx_42_123 (Or.inl rfl) (K g _ ?_ hF)
              unfold pairA
              rw [if_pos ⟨hcond, hc5⟩, hy]
              rfl
            · refine R_sw fx_42_67 (by decide) rfl ?_
              refine R_il fx_42_124 rfl ?_
              refine R_cs fx_42_126 rfl rfl rfl rfl ?_
              refine C_55 hyb ?_
              refine R_ret fx_42_129 (Or.inl rfl) (K g _ ?_ hF)
              unfold pairA
              rw [if_pos ⟨hcond, hc5⟩, hy]
              rfl
            · refine R_sw fx_42_67 h3 (if_pos (show w < 0 ∨ ((5 : Nat) : Int) ≤ w by omega)) ?_
              refine R_push fx_42_130 ?_
              refine R_ret fx_42_131 (Or.inl rfl) (K g _ ?_ hF)
              unfold pairA
              rw [if_pos ⟨hcond, hc5⟩, if_neg (by omega), if_neg (by omega), if_neg (by omega), if_neg (by omega), if_neg (by omega)]
          · refine R_push fx_42_63 ?_
            refine R_ret fx_42_64 (Or.inl rfl) (K g _ ?_ hF)
            unfold pairA
            rw [if_neg (fun z => z.2 hc5)]
        · refine R_ifne fx_42_35 (by decide) (fun h => absurd h (by decide)) (fun _ => ?_)
          refine R_push fx_42_38 ?_
          refine R_ret fx_42_39 (Or.inl rfl) (K f _ ?_ (fun _ _ => rfl))
          unfold pairA
          rw [if_neg (fun z => ?_)]
          first | omega | exact hc4 ⟨by omega, by have e6 := hS.2.1 (2 * k).toNat (by omega); rw [show f 6 (2 * k).toNat = f (4 + 2) (2 * k).toNat from rfl, e6]; exact z.1.2.2.2.2.1, by have e6 := hS.2.1 (2 * k + 1).toNat (by omega); rw [show f 6 (2 * k + 1).toNat = f (4 + 2) (2 * k + 1).toNat from rfl, e6]; exact z.1.2.2.2.2.2⟩
    · refine R_ifeq fx_42_19 (by decide) (fun _ => ?_) (fun h => absurd h (by decide))
      refine R_push fx_42_38 ?_
      refine R_ret fx_42_39 (Or.inl rfl) (K f _ ?_ (fun _ _ => rfl))
      unfold pairA
      rw [if_neg (fun z => ?_)]
      first | omega | exact hc4 ⟨by omega, by have e6 := hS.2.1 (2 * k).toNat (by omega); rw [show f 6 (2 * k).toNat = f (4 + 2) (2 * k).toNat from rfl, e6]; exact z.1.2.2.2.2.1, by have e6 := hS.2.1 (2 * k + 1).toNat (by omega); rw [show f 6 (2 * k + 1).toNat = f (4 + 2) (2 * k + 1).toNat from rfl, e6]; exact z.1.2.2.2.2.2⟩
  · refine R_ifeq fx_42_8 (by decide) (fun _ => ?_) (fun h => absurd h (by decide))
    refine R_push fx_42_38 ?_
    refine R_ret fx_42_39 (Or.inl rfl) (K f _ ?_ (fun _ _ => rfl))
    unfold pairA
    rw [if_neg (fun z => ?_)]
    first | omega | exact hc4 ⟨by omega, by have e6 := hS.2.1 (2 * k).toNat (by omega); rw [show f 6 (2 * k).toNat = f (4 + 2) (2 * k).toNat from rfl, e6]; exact z.1.2.2.2.2.1, by have e6 := hS.2.1 (2 * k + 1).toNat (by omega); rw [show f 6 (2 * k + 1).toNat = f (4 + 2) (2 * k + 1).toNat from rfl, e6]; exact z.1.2.2.2.2.2⟩
theorem C_112 {r s w : Int} (hV : VG G) (h1 : xok r) (h2 : xok s) (h3 : xok w) (hM0 : Mst f G) (hK0 : Mk f n hi) (hT : MT f) (K : ∀ g v, v = workA G r s w → Dw f g n hi G → Q [.inl v] g) : Rf (SHL L) 112 0 (xloc 112 [.inr 149, .inl r, .inl s, .inl w]) [] f Q := by
  have h0 := hV.1
  have hw : ∀ s, s < 8 → xok (G (4 + s)) := fun s hs => by have := hV.2.2.2.1 s hs; omega
  refine R_al fx_112_0 rfl (by omega) ?_
  refine R_push fx_112_1 ?_
  refine R_pf fx_112_2 kd_149 rfl (fun h => absurd h (by decide)) ?_
  refine R_al fx_112_5 rfl (by omega) ?_
  refine R_cv fx_112_6 rfl rfl rfl rfl kd_149 ?_
  refine C_93 hM0.told (fun f1 b1 b2 b3 => ?_)
  have hM : Mg f1 G := b1
  have hK : Mk f1 n hi := hK0.kept (by rw [b2 3 (by omega), xup_i (by omega)]) (by rw [b3 151 (by omega)]; funext i; rw [xup_a (by omega)])
  have hfr : ∀ c, (c < 149 ∨ 151 < c) → f1 c = f c := fun c hc => by rw [b3 c (by omega)]; funext i; rw [xup_a (by omega)]
  have hwt : f1 149 11 = f 149 11 := by rw [b2 11 (by omega), xup_i (by omega)]
  have hT1 : MT f1 := ⟨fun j hj => by rw [hfr 156 (by omega)]; exact hT.1 j hj, by rw [hwt]; exact hT.2⟩
  refine R_al fx_112_9 rfl (by omega) ?_
  refine R_il fx_112_10 rfl ?_
  refine R_cv fx_112_11 rfl rfl rfl rfl kd_149 ?_
  refine C_97 h1 hM h0 (fun hc1 => ?_) (fun hc1 => ?_)
  · refine R_ifeq fx_112_14 (by decide) (fun h => absurd h (by decide)) (fun _ => ?_)
    refine R_il fx_112_17 rfl ?_
    refine R_iflt fx_112_18 (by omega) (fun hc => ?_) (fun hc => ?_)
    · refine R_push fx_112_53 ?_
      first | refine R_ret fx_112_54 (Or.inl rfl) (K g _ ?_ (Dw.wf hM hK hfr hF)) | refine R_ret fx_112_54 (Or.inl rfl) (K f1 _ ?_ ⟨hM, hK, fun c hc => hfr c (by omega), hT1⟩)
      unfold workA
      by_cases z : ((0 ≤ r ∧ r < G 0) ∧ (0 ≤ s ∧ s < 8) ∧ G (4 + s.toNat) ≠ -1) ∧ wk G r.toNat s.toNat ≠ 268435456
      · rw [if_pos z]
        first | omega | (rw [if_neg (by omega), if_neg (by omega), if_neg (by omega)])
      · rw [if_neg z]
    · refine R_il fx_112_21 rfl ?_
      refine R_push fx_112_22 ?_
      refine R_icgt fx_112_24 (by omega) (fun hc => ?_) (fun hc => ?_)
      · refine R_push fx_112_53 ?_
        first | refine R_ret fx_112_54 (Or.inl rfl) (K g _ ?_ (Dw.wf hM hK hfr hF)) | refine R_ret fx_112_54 (Or.inl rfl) (K f1 _ ?_ ⟨hM, hK, fun c hc => hfr c (by omega), hT1⟩)
        unfold workA
        by_cases z : ((0 ≤ r ∧ r < G 0) ∧ (0 ≤ s ∧ s < 8) ∧ G (4 + s.toNat) ≠ -1) ∧ wk G r.toNat s.toNat ≠ 268435456
        · rw [if_pos z]
          first | omega | (rw [if_neg (by omega), if_neg (by omega), if_neg (by omega)])
        · rw [if_neg z]
      · refine R_al fx_112_27 rfl (by omega) ?_
        refine R_il fx_112_28 rfl ?_
        refine R_cv fx_112_29 rfl rfl rfl rfl kd_149 ?_
        refine C_109 (by omega) hM (hw _ (by omega)) (fun hc2 => ?_) (fun hc2 => ?_)
        · refine R_ifeq fx_112_32 (by decide) (fun h => absurd h (by decide)) (fun _ => ?_)
          refine R_il fx_112_35 rfl ?_
          refine R_iflt fx_112_36 (by omega) (fun hc => ?_) (fun hc => ?_)
          · refine R_push fx_112_53 ?_
            first | refine R_ret fx_112_54 (Or.inl rfl) (K g _ ?_ (Dw.wf hM hK hfr hF)) | refine R_ret fx_112_54 (Or.inl rfl) (K f1 _ ?_ ⟨hM, hK, fun c hc => hfr c (by omega), hT1⟩)
            unfold workA
            by_cases z : ((0 ≤ r ∧ r < G 0) ∧ (0 ≤ s ∧ s < 8) ∧ G (4 + s.toNat) ≠ -1) ∧ wk G r.toNat s.toNat ≠ 268435456
            · rw [if_pos z]
              first | omega | (rw [if_neg (by omega), if_neg (by omega), if_neg (by omega)])
            · rw [if_neg z]
          · refine R_il fx_112_39 rfl ?_
            refine R_push fx_112_40 ?_
            refine R_icgt fx_112_41 (by omega) (fun hc => ?_) (fun hc => ?_)
            · refine R_push fx_112_53 ?_
              first | refine R_ret fx_112_54 (Or.inl rfl) (K g _ ?_ (Dw.wf hM hK hfr hF)) | refine R_ret fx_112_54 (Or.inl rfl) (K f1 _ ?_ ⟨hM, hK, fun c hc => hfr c (by omega), hT1⟩)
              unfold workA
              by_cases z : ((0 ≤ r ∧ r < G 0) ∧ (0 ≤ s ∧ s < 8) ∧ G (4 + s.toNat) ≠ -1) ∧ wk G r.toNat s.toNat ≠ 268435456
              · rw [if_pos z]
                first | omega | (rw [if_neg (by omega), if_neg (by omega), if_neg (by omega)])
              · rw [if_neg z]
            · refine R_al fx_112_44 rfl (by omega) ?_
              refine R_il fx_112_45 rfl ?_
              refine R_il fx_112_46 rfl ?_
              refine R_cv fx_112_47 rfl rfl rfl rfl kd_149 ?_
              refine C_113 (r := r.toNat) (s := s.toNat) (by omega) (by omega) hV hM hT1 (by omega) (by omega) (by omega) (fun hc3 g hF x1 x2 => ?_) (fun hc3 g hF => ?_)
              · refine R_ifne fx_112_50 (by decide) (fun _ => ?_) (fun h => absurd h (by decide))
                refine R_il fx_112_55 rfl ?_
                refine R_ifne fx_112_56 (by omega) (fun hc => ?_) (fun hc => ?_)
                · refine R_il fx_112_66 rfl ?_
                  refine R_push fx_112_67 ?_
                  refine R_icne fx_112_68 (by omega) (fun hc => ?_) (fun hc => ?_)
                  · refine R_al fx_112_78 rfl (by omega) ?_
                    refine R_gf fx_112_79 kd_149 rfl ?_
                    refine R_al fx_112_82 rfl (by omega) ?_
                    refine R_gf fx_112_83 kd_149 rfl ?_
                    refine R_sub fx_112_86 ?_
                    refine R_ret fx_112_87 (Or.inl rfl) (K g _ ?_ (Dw.wf hM hK hfr hF))
                    unfold workA
                    rw [if_pos ⟨⟨by omega, by omega, hc2⟩, hc3⟩]
                    first | (rw [if_pos (by omega)]; omega) | (rw [if_neg (by omega), if_pos (by omega)]; omega) | (rw [if_neg (by omega), if_neg (by omega), if_pos (by omega)]; omega)
                  · refine R_al fx_112_71 rfl (by omega) ?_
                    refine R_gf fx_112_72 kd_149 rfl ?_
                    refine R_goto fx_112_75 ?_
                    refine R_ret fx_112_87 (Or.inl rfl) (K g _ ?_ (Dw.wf hM hK hfr hF))
                    unfold workA
                    rw [if_pos ⟨⟨by omega, by omega, hc2⟩, hc3⟩]
                    first | (rw [if_pos (by omega)]; omega) | (rw [if_neg (by omega), if_pos (by omega)]; omega) | (rw [if_neg (by omega), if_neg (by omega), if_pos (by omega)]; omega)
                · refine R_al fx_112_59 rfl (by omega) ?_
                  refine R_gf fx_112_60 kd_149 rfl ?_
                  refine R_goto fx_112_63 ?_
                  refine R_ret fx_112_87 (Or.inl rfl) (K g _ ?_ (Dw.wf hM hK hfr hF))
                  unfold workA
                  rw [if_pos ⟨⟨by omega, by omega, hc2⟩, hc3⟩]
                  first | (rw [if_pos (by omega)]; omega) | (rw [if_neg (by omega), if_pos (by omega)]; omega) | (rw [if_neg (by omega), if_neg (by omega), if_pos (by omega)]; omega)
              · refine R_ifne fx_112_50 (by decide) (fun h => absurd h (by decide)) (fun _ => ?_)
                refine R_push fx_112_53 ?_
                first | refine R_ret fx_112_54 (Or.inl rfl) (K g _ ?_ (Dw.wf hM hK hfr hF)) | refine R_ret fx_112_54 (Or.inl rfl) (K f1 _ ?_ ⟨hM, hK, fun c hc => hfr c (by omega), hT1⟩)
                unfold workA
                by_cases z : ((0 ≤ r ∧ r < G 0) ∧ (0 ≤ s ∧ s < 8) ∧ G (4 + s.toNat) ≠ -1) ∧ wk G r.toNat s.toNat ≠ 268435456
                · rw [if_pos z]
                  first | omega | (rw [if_neg (by omega), if_neg (by omega), if_neg (by omega)])
                · rw [if_neg z]
        · refine R_ifeq fx_112_32 (by decide) (fun _ => ?_) (fun h => absurd h (by decide))
          refine R_push fx_112_53 ?_
          first | refine R_ret fx_112_54 (Or.inl rfl) (K g _ ?_ (Dw.wf hM hK hfr hF)) | refine R_ret fx_112_54 (Or.inl rfl) (K f1 _ ?_ ⟨hM, hK, fun c hc => hfr c (by omega), hT1⟩)
          unfold workA
          by_cases z : ((0 ≤ r ∧ r < G 0) ∧ (0 ≤ s ∧ s < 8) ∧ G (4 + s.toNat) ≠ -1) ∧ wk G r.toNat s.toNat ≠ 268435456
          · rw [if_pos z]
            first | omega | (rw [if_neg (by omega), if_neg (by omega), if_neg (by omega)])
          · rw [if_neg z]
  · refine R_ifeq fx_112_14 (by decide) (fun _ => ?_) (fun h => absurd h (by decide))
    refine R_push fx_112_53 ?_
    first | refine R_ret fx_112_54 (Or.inl rfl) (K g _ ?_ (Dw.wf hM hK hfr hF)) | refine R_ret fx_112_54 (Or.inl rfl) (K f1 _ ?_ ⟨hM, hK, fun c hc => hfr c (by omega), hT1⟩)
    unfold workA
    by_cases z : ((0 ≤ r ∧ r < G 0) ∧ (0 ≤ s ∧ s < 8) ∧ G (4 + s.toNat) ≠ -1) ∧ wk G r.toNat s.toNat ≠ 268435456
    · rw [if_pos z]
      first | omega | (rw [if_neg (by omega), if_neg (by omega), if_neg (by omega)])
    · rw [if_neg z]
theorem C_115 {r q k w : Int} (hV : VG G) (h1 : xok r) (h2 : xok q) (h2k : xok k) (h3 : xok w) (hM0 : Mst f G) (hK0 : Mk f n hi) (hT : MT f) (K : ∀ g v, v = pairA G r q k w → Dw f g n hi G → Q [.inl v] g) : Rf (SHL L) 115 0 (xloc 115 [.inr 149, .inl r, .inl q, .inl k, .inl w]) [] f Q := by
  have h0 := hV.1
  have hw : ∀ s, s < 8 → xok (G (4 + s)) := fun s hs => by have := hV.2.2.2.1 s hs; omega
  refine R_al fx_115_0 rfl (by omega) ?_
  refine R_push fx_115_1 ?_
  refine R_pf fx_115_2 kd_149 rfl (fun h => absurd h (by decide)) ?_
  refine R_al fx_115_5 rfl (by omega) ?_
  refine R_cv fx_115_6 rfl rfl rfl rfl kd_149 ?_
  refine C_93 hM0.told (fun f1 b1 b2 b3 => ?_)
  have hM : Mg f1 G := b1
  have hK : Mk f1 n hi := hK0.kept (by rw [b2 3 (by omega), xup_i (by omega)]) (by rw [b3 151 (by omega)]; funext i; rw [xup_a (by omega)])
  have hfr : ∀ c, (c < 149 ∨ 151 < c) → f1 c = f c := fun c hc => by rw [b3 c (by omega)]; funext i; rw [xup_a (by omega)]
  have hwt : f1 149 11 = f 149 11 := by rw [b2 11 (by omega), xup_i (by omega)]
  have hT1 : MT f1 := ⟨fun j hj => by rw [hfr 156 (by omega)]; exact hT.1 j hj, by rw [hwt]; exact hT.2⟩
  refine R_al fx_115_9 rfl (by omega) ?_
  refine R_il fx_115_10 rfl ?_
  refine R_cv fx_115_11 rfl rfl rfl rfl kd_149 ?_
  refine C_97 h1 hM h0 (fun hc1 => ?_) (fun hc1 => ?_)
  · refine R_ifeq fx_115_14 (by decide) (fun h => absurd h (by decide)) (fun _ => ?_)
    refine R_al fx_115_17 rfl (by omega) ?_
    refine R_il fx_115_18 rfl ?_
    refine R_cv fx_115_19 rfl rfl rfl rfl kd_149 ?_
    refine C_97 h2 hM h0 (fun hc2 => ?_) (fun hc2 => ?_)
    · refine R_ifeq fx_115_22 (by decide) (fun h => absurd h (by decide)) (fun _ => ?_)
      refine R_il fx_115_25 rfl ?_
      refine R_il fx_115_26 rfl ?_
      refine R_iceq fx_115_27 (by omega) (fun hc3 => ?_) (fun hc3 => ?_)
      · refine R_push fx_115_82 ?_
        first | refine R_ret fx_115_83 (Or.inl rfl) (K g _ ?_ (Dw.wf hM hK hfr hF)) | refine R_ret fx_115_83 (Or.inl rfl) (K f1 _ ?_ ⟨hM, hK, fun c hc => hfr c (by omega), hT1⟩)
        unfold pairA
        by_cases z : ((0 ≤ r ∧ r < G 0) ∧ (0 ≤ q ∧ q < G 0) ∧ r ≠ q ∧ (0 ≤ k ∧ k < 4) ∧ G (4 + (2 * k).toNat) ≠ -1 ∧ G (4 + (2 * k + 1).toNat) ≠ -1) ∧ pk G r.toNat q.toNat k.toNat ≠ 268435456
        · rw [if_pos z]
          first | omega | (rw [if_neg (by omega), if_neg (by omega), if_neg (by omega), if_neg (by omega), if_neg (by omega)])
        · rw [if_neg z]
      · refine R_il fx_115_30 rfl ?_
        refine R_iflt fx_115_31 (by omega) (fun hc => ?_) (fun hc => ?_)
        · refine R_push fx_115_82 ?_
          first | refine R_ret fx_115_83 (Or.inl rfl) (K g _ ?_ (Dw.wf hM hK hfr hF)) | refine R_ret fx_115_83 (Or.inl rfl) (K f1 _ ?_ ⟨hM, hK, fun c hc => hfr c (by omega), hT1⟩)
          unfold pairA
          by_cases z : ((0 ≤ r ∧ r < G 0) ∧ (0 ≤ q ∧ q < G 0) ∧ r ≠ q ∧ (0 ≤ k ∧ k < 4) ∧ G (4 + (2 * k).toNat) ≠ -1 ∧ G (4 + (2 * k + 1).toNat) ≠ -1) ∧ pk G r.toNat q.toNat k.toNat ≠ 268435456
          · rw [if_pos z]
            first | omega | (rw [if_neg (by omega), if_neg (by omega), if_neg (by omega), if_neg (by omega), if_neg (by omega)])
          · rw [if_neg z]
        · refine R_il fx_115_34 rfl ?_
          refine R_push fx_115_35 ?_
          refine R_icgt fx_115_36 (by omega) (fun hc => ?_) (fun hc => ?_)
          · refine R_push fx_115_82 ?_
            first | refine R_ret fx_115_83 (Or.inl rfl) (K g _ ?_ (Dw.wf hM hK hfr hF)) | refine R_ret fx_115_83 (Or.inl rfl) (K f1 _ ?_ ⟨hM, hK, fun c hc => hfr c (by omega), hT1⟩)
            unfold pairA
            by_cases z : ((0 ≤ r ∧ r < G 0) ∧ (0 ≤ q ∧ q < G 0) ∧ r ≠ q ∧ (0 ≤ k ∧ k < 4) ∧ G (4 + (2 * k).toNat) ≠ -1 ∧ G (4 + (2 * k + 1).toNat) ≠ -1) ∧ pk G r.toNat q.toNat k.toNat ≠ 268435456
            · rw [if_pos z]
              first | omega | (rw [if_neg (by omega), if_neg (by omega), if_neg (by omega), if_neg (by omega), if_neg (by omega)])
            · rw [if_neg z]
          · refine R_al fx_115_39 rfl (by omega) ?_
            refine R_push fx_115_40 ?_
            refine R_il fx_115_41 rfl ?_
            refine R_mul fx_115_42 ?_
            refine R_cv fx_115_43 rfl rfl rfl rfl kd_149 ?_
            refine C_109 (by omega) hM (hw _ (by omega)) (fun hc4 => ?_) (fun hc4 => ?_)
            · refine R_ifeq fx_115_46 (by decide) (fun h => absurd h (by decide)) (fun _ => ?_)
              refine R_al fx_115_49 rfl (by omega) ?_
              refine R_push fx_115_50 ?_
              refine R_il fx_115_51 rfl ?_
              refine R_mul fx_115_52 ?_
              refine R_push fx_115_53 ?_
              refine R_add fx_115_54 ?_
              refine R_cv fx_115_55 rfl rfl rfl rfl kd_149 ?_
              refine C_109 (by omega) hM (hw _ (by omega)) (fun hc5 => ?_) (fun hc5 => ?_)
              · refine R_ifeq fx_115_58 (by decide) (fun h => absurd h (by decide)) (fun _ => ?_)
                refine R_il fx_115_61 rfl ?_
                refine R_iflt fx_115_63 (by omega) (fun hc => ?_) (fun hc => ?_)
                · refine R_push fx_115_82 ?_
                  first | refine R_ret fx_115_83 (Or.inl rfl) (K g _ ?_ (Dw.wf hM hK hfr hF)) | refine R_ret fx_115_83 (Or.inl rfl) (K f1 _ ?_ ⟨hM, hK, fun c hc => hfr c (by omega), hT1⟩)
                  unfold pairA
                  by_cases z : ((0 ≤ r ∧ r < G 0) ∧ (0 ≤ q ∧ q < G 0) ∧ r ≠ q ∧ (0 ≤ k ∧ k < 4) ∧ G (4 + (2 * k).toNat) ≠ -1 ∧ G (4 + (2 * k + 1).toNat) ≠ -1) ∧ pk G r.toNat q.toNat k.toNat ≠ 268435456
                  · rw [if_pos z]
                    first | omega | (rw [if_neg (by omega), if_neg (by omega), if_neg (by omega), if_neg (by omega), if_neg (by omega)])
                  · rw [if_neg z]
                · refine R_il fx_115_66 rfl ?_
                  refine R_push fx_115_68 ?_
                  refine R_icgt fx_115_69 (by omega) (fun hc => ?_) (fun hc => ?_)
                  · refine R_push fx_115_82 ?_
                    first | refine R_ret fx_115_83 (Or.inl rfl) (K g _ ?_ (Dw.wf hM hK hfr hF)) | refine R_ret fx_115_83 (Or.inl rfl) (K f1 _ ?_ ⟨hM, hK, fun c hc => hfr c (by omega), hT1⟩)
                    unfold pairA
                    by_cases z : ((0 ≤ r ∧ r < G 0) ∧ (0 ≤ q ∧ q < G 0) ∧ r ≠ q ∧ (0 ≤ k ∧ k < 4) ∧ G (4 + (2 * k).toNat) ≠ -1 ∧ G (4 + (2 * k + 1).toNat) ≠ -1) ∧ pk G r.toNat q.toNat k.toNat ≠ 268435456
                    · rw [if_pos z]
                      first | omega | (rw [if_neg (by omega), if_neg (by omega), if_neg (by omega), if_neg (by omega), if_neg (by omega)])
                    · rw [if_neg z]
                  · refine R_al fx_115_72 rfl (by omega) ?_
                    refine R_il fx_115_73 rfl ?_
                    refine R_il fx_115_74 rfl ?_
                    refine R_il fx_115_75 rfl ?_
                    refine R_cv fx_115_76 rfl rfl rfl rfl kd_149 ?_
                    refine C_116 (r := r.toNat) (q := q.toNat) (k := k.toNat) hV hM (by omega) (by omega) (by omega) (by omega) (by omega) (by omega) (by omega) (by omega) hT1 (fun hc6 g hF xx => ?_) (fun hc6 g hF => ?_)
                    · refine R_ifne fx_115_79 (by decide) (fun _ => ?_) (fun h => absurd h (by decide))
                      refine R_il fx_115_84 rfl ?_
                      refine R_ifne fx_115_86 (by omega) (fun hc => ?_) (fun hc => ?_)
                      · refine R_il fx_115_94 rfl ?_
                        refine R_push fx_115_96 ?_
                        refine R_icne fx_115_97 (by omega) (fun hc => ?_) (fun hc => ?_)
                        · refine R_il fx_115_105 rfl ?_
                          refine R_push fx_115_107 ?_
                          refine R_icne fx_115_108 (by omega) (fun hc => ?_) (fun hc => ?_)
                          · refine R_il fx_115_116 rfl ?_
                            refine R_push fx_115_118 ?_
                            refine R_icne fx_115_119 (by omega) (fun hc => ?_) (fun hc => ?_)
                            · refine R_al fx_115_129 rfl (by omega) ?_
                              refine R_gf fx_115_130 kd_149 rfl ?_
                              refine R_al fx_115_133 rfl (by omega) ?_
                              refine R_gf fx_115_134 kd_149 rfl ?_
                              refine R_sub fx_115_137 ?_
                              refine R_al fx_115_138 rfl (by omega) ?_
                              refine R_gf fx_115_139 kd_149 rfl ?_
                              refine R_sub fx_115_142 ?_
                              refine R_al fx_115_143 rfl (by omega) ?_
                              refine R_gf fx_115_144 kd_149 rfl ?_
                              refine R_sub fx_115_147 ?_
                              refine R_ret fx_115_148 (Or.inl rfl) (K g _ ?_ (Dw.wf hM hK hfr hF))
                              unfold pairA
                              rw [if_pos ⟨⟨by omega, by omega, hc3, by omega, hc4, hc5⟩, hc6⟩]
                              obtain ⟨x1, x2, x3, x4⟩ := xx
                              rw [if_neg (by omega), if_neg (by omega), if_neg (by omega)]
                              first | (rw [if_pos (by omega)]; omega) | (rw [if_neg (by omega), if_pos (by omega)]; omega)
                            · refine R_al fx_115_122 rfl (by omega) ?_
                              refine R_gf fx_115_123 kd_149 rfl ?_
                              refine R_goto fx_115_126 ?_
                              refine R_ret fx_115_148 (Or.inl rfl) (K g _ ?_ (Dw.wf hM hK hfr hF))
                              unfold pairA
                              rw [if_pos ⟨⟨by omega, by omega, hc3, by omega, hc4, hc5⟩, hc6⟩]
                              obtain ⟨x1, x2, x3, x4⟩ := xx
                              rw [if_neg (by omega), if_neg (by omega), if_neg (by omega)]
                              first | (rw [if_pos (by omega)]; omega) | (rw [if_neg (by omega), if_pos (by omega)]; omega)
                          · refine R_al fx_115_111 rfl (by omega) ?_
                            refine R_gf fx_115_112 kd_149 rfl ?_
                            refine R_ret fx_115_115 (Or.inl rfl) (K g _ ?_ (Dw.wf hM hK hfr hF))
                            unfold pairA
                            rw [if_pos ⟨⟨by omega, by omega, hc3, by omega, hc4, hc5⟩, hc6⟩]
                            obtain ⟨x1, x2, x3, x4⟩ := xx
                            rw [if_neg (by omega), if_neg (by omega), if_pos (by omega)]
                            omega
                        · refine R_al fx_115_100 rfl (by omega) ?_
                          refine R_gf fx_115_101 kd_149 rfl ?_
                          refine R_ret fx_115_104 (Or.inl rfl) (K g _ ?_ (Dw.wf hM hK hfr hF))
                          unfold pairA
                          rw [if_pos ⟨⟨by omega, by omega, hc3, by omega, hc4, hc5⟩, hc6⟩]
                          obtain ⟨x1, x2, x3, x4⟩ := xx
                          rw [if_neg (by omega), if_pos (by omega)]
                          omega
                      · refine R_al fx_115_89 rfl (by omega) ?_
                        refine R_gf fx_115_90 kd_149 rfl ?_
                        refine R_ret fx_115_93 (Or.inl rfl) (K g _ ?_ (Dw.wf hM hK hfr hF))
                        unfold pairA
                        rw [if_pos ⟨⟨by omega, by omega, hc3, by omega, hc4, hc5⟩, hc6⟩]
                        obtain ⟨x1, x2, x3, x4⟩ := xx
                        rw [if_pos (by omega)]
                        omega
                    · refine R_ifne fx_115_79 (by decide) (fun h => absurd h (by decide)) (fun _ => ?_)
                      refine R_push fx_115_82 ?_
                      first | refine R_ret fx_115_83 (Or.inl rfl) (K g _ ?_ (Dw.wf hM hK hfr hF)) | refine R_ret fx_115_83 (Or.inl rfl) (K f1 _ ?_ ⟨hM, hK, fun c hc => hfr c (by omega), hT1⟩)
                      unfold pairA
                      by_cases z : ((0 ≤ r ∧ r < G 0) ∧ (0 ≤ q ∧ q < G 0) ∧ r ≠ q ∧ (0 ≤ k ∧ k < 4) ∧ G (4 + (2 * k).toNat) ≠ -1 ∧ G (4 + (2 * k + 1).toNat) ≠ -1) ∧ pk G r.toNat q.toNat k.toNat ≠ 268435456
                      · rw [if_pos z]
                        first | omega | (rw [if_neg (by omega), if_neg (by omega), if_neg (by omega), if_neg (by omega), if_neg (by omega)])
                      · rw [if_neg z]
              · refine R_ifeq fx_115_58 (by decide) (fun _ => ?_) (fun h => absurd h (by decide))
                refine R_push fx_115_82 ?_
                first | refine R_ret fx_115_83 (Or.inl rfl) (K g _ ?_ (Dw.wf hM hK hfr hF)) | refine R_ret fx_115_83 (Or.inl rfl) (K f1 _ ?_ ⟨hM, hK, fun c hc => hfr c (by omega), hT1⟩)
                unfold pairA
                by_cases z : ((0 ≤ r ∧ r < G 0) ∧ (0 ≤ q ∧ q < G 0) ∧ r ≠ q ∧ (0 ≤ k ∧ k < 4) ∧ G (4 + (2 * k).toNat) ≠ -1 ∧ G (4 + (2 * k + 1).toNat) ≠ -1) ∧ pk G r.toNat q.toNat k.toNat ≠ 268435456
                · rw [if_pos z]
                  first | omega | (rw [if_neg (by omega), if_neg (by omega), if_neg (by omega), if_neg (by omega), if_neg (by omega)])
                · rw [if_neg z]
            · refine R_ifeq fx_115_46 (by decide) (fun _ => ?_) (fun h => absurd h (by decide))
              refine R_push fx_115_82 ?_
              first | refine R_ret fx_115_83 (Or.inl rfl) (K g _ ?_ (Dw.wf hM hK hfr hF)) | refine R_ret fx_115_83 (Or.inl rfl) (K f1 _ ?_ ⟨hM, hK, fun c hc => hfr c (by omega), hT1⟩)
              unfold pairA
              by_cases z : ((0 ≤ r ∧ r < G 0) ∧ (0 ≤ q ∧ q < G 0) ∧ r ≠ q ∧ (0 ≤ k ∧ k < 4) ∧ G (4 + (2 * k).toNat) ≠ -1 ∧ G (4 + (2 * k + 1).toNat) ≠ -1) ∧ pk G r.toNat q.toNat k.toNat ≠ 268435456
              · rw [if_pos z]
                first | omega | (rw [if_neg (by omega), if_neg (by omega), if_neg (by omega), if_neg (by omega), if_neg (by omega)])
              · rw [if_neg z]
    · refine R_ifeq fx_115_22 (by decide) (fun _ => ?_) (fun h => absurd h (by decide))
      refine R_push fx_115_82 ?_
      first | refine R_ret fx_115_83 (Or.inl rfl) (K g _ ?_ (Dw.wf hM hK hfr hF)) | refine R_ret fx_115_83 (Or.inl rfl) (K f1 _ ?_ ⟨hM, hK, fun c hc => hfr c (by omega), hT1⟩)
      unfold pairA
      by_cases z : ((0 ≤ r ∧ r < G 0) ∧ (0 ≤ q ∧ q < G 0) ∧ r ≠ q ∧ (0 ≤ k ∧ k < 4) ∧ G (4 + (2 * k).toNat) ≠ -1 ∧ G (4 + (2 * k + 1).toNat) ≠ -1) ∧ pk G r.toNat q.toNat k.toNat ≠ 268435456
      · rw [if_pos z]
        first | omega | (rw [if_neg (by omega), if_neg (by omega), if_neg (by omega), if_neg (by omega), if_neg (by omega)])
      · rw [if_neg z]
  · refine R_ifeq fx_115_14 (by decide) (fun _ => ?_) (fun h => absurd h (by decide))
    refine R_push fx_115_82 ?_
    first | refine R_ret fx_115_83 (Or.inl rfl) (K g _ ?_ (Dw.wf hM hK hfr hF)) | refine R_ret fx_115_83 (Or.inl rfl) (K f1 _ ?_ ⟨hM, hK, fun c hc => hfr c (by omega), hT1⟩)
    unfold pairA
    by_cases z : ((0 ≤ r ∧ r < G 0) ∧ (0 ≤ q ∧ q < G 0) ∧ r ≠ q ∧ (0 ≤ k ∧ k < 4) ∧ G (4 + (2 * k).toNat) ≠ -1 ∧ G (4 + (2 * k + 1).toNat) ≠ -1) ∧ pk G r.toNat q.toNat k.toNat ≠ 268435456
    · rw [if_pos z]
      first | omega | (rw [if_neg (by omega), if_neg (by omega), if_neg (by omega), if_neg (by omega), if_neg (by omega)])
    · rw [if_neg z]
end WA
