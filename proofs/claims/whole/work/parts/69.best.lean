/-! ===== best, lays ===== -/
noncomputable def bestA (G : Nat → Int) (w : Int) : Int := if w = 0 then (if mn (lev (coG G) 0 0) = 268435456 then -1 else mn (lev (coG G) 0 0)) else if 10 ≤ w ∧ w ≤ 17 then (if mn (lev (coG G) 0 0) = 268435456 then -1 else chG (coG G) (w - 10).toNat) else -1
theorem Dw.tf {f f1 g : xF} {n : Nat} {hi : Nat → Nat → Int} {G : Nat → Int} (hM : Mg f1 G) (hK : Mk f1 n hi) (hfr : ∀ c, (c < 149 ∨ 151 < c) → f1 c = f c) (h : TF g f1) : Dw f g n hi G := ⟨hM.kept (h.2.1 4 (by omega)) (h.1 150 (by omega)), hK.kept (h.2.1 3 (by omega)) (h.1 151 (by omega)), fun c hc => by rw [h.1 c (by omega)]; exact hfr c (by omega), h.2.2⟩
def PF (g f : xF) (G : Nat → Int) : Prop := (∀ c, (c < 125 ∨ 148 < c) → g c = f c) ∧ g 141 8 = 1 ∧ Pl g G
section BE
variable {L : Nat} {f : xF} {Q : List xV → xF → Prop} {G : Nat → Int} {hi : Nat → Nat → Int} {n : Nat}
theorem C_56 {w : Int} (hV : VG G) (hS : Sg f 4 G) (hP : Pk f G) (h1 : xok w) (K : ∀ g v, v = bestA G w → PF g f G → Q [.inl v] g) : Rf (SHL L) 56 0 (xloc 56 [.inr 3, .inl w]) [] f Q := by
  refine R_al fx_56_0 rfl (by omega) ?_
  refine R_gr fx_56_1 kd_3 rfl rr_3_3 ?_
  refine R_al fx_56_4 rfl (by omega) ?_
  refine R_gr fx_56_5 kd_3 rfl rr_3_0 ?_
  refine R_al fx_56_8 rfl (by omega) ?_
  refine R_gr fx_56_9 kd_3 rfl rr_3_2 ?_
  refine R_cv fx_56_12 rfl rfl rfl rfl kd_141 ?_
  refine C_57 hV hS hP (fun g a b c => ?_)
  have hb := mn_b (lev_sml (coG_ok hV) (s := 0) (set := 0) (by omega))
  have c1 := c.1
  refine R_il fx_56_15 rfl ?_
  refine R_ifne fx_56_16 (by omega) (fun hw => ?_) (fun hw => ?_)
  · refine R_il fx_56_41 rfl ?_
    refine R_push fx_56_42 ?_
    refine R_push fx_56_44 ?_
    refine R_cs fx_56_46 rfl rfl rfl rfl ?_
    refine C_9 h1 (by decide) (by decide) (fun hc => ?_) (fun hc => ?_)
    · refine R_ifeq fx_56_49 (by decide) (fun h => absurd h (by decide)) (fun _ => ?_)
      refine R_al fx_56_52 rfl (by omega) ?_
      refine R_gr fx_56_53 kd_3 rfl rr_3_3 ?_
      refine R_gr fx_56_56 kd_141 rfl rr_141_4 ?_
      refine R_il fx_56_59 rfl ?_
      refine R_push fx_56_60 ?_
      refine R_sub fx_56_62 ?_
      refine R_ia fx_56_63 (Or.inl kd_148) (by omega) (by rw [ln_148]; omega) (by omega) ?_
      refine R_ret fx_56_64 (Or.inl rfl) (K g _ ?_ ⟨a, b, c⟩)
      unfold bestA
      rw [if_neg hw, if_pos hc]
      exact c.2.2.1 _ (by omega)
    · refine R_ifeq fx_56_49 (by decide) (fun _ => ?_) (fun h => absurd h (by decide))
      refine R_push fx_56_65 ?_
      refine R_ret fx_56_66 (Or.inl rfl) (K g _ ?_ ⟨a, b, c⟩)
      unfold bestA
      rw [if_neg hw, if_neg hc]
  · refine R_al fx_56_19 rfl (by omega) ?_
    refine R_gr fx_56_20 kd_3 rfl rr_3_3 ?_
    refine R_cv fx_56_23 rfl rfl rfl rfl kd_141 ?_
    refine C_71 (by rw [c1]; omega) (fun hx => ?_) (fun hx => ?_)
    · refine R_ifeq fx_56_26 (by decide) (fun h => absurd h (by decide)) (fun _ => ?_)
      refine R_al fx_56_29 rfl (by omega) ?_
      refine R_gr fx_56_30 kd_3 rfl rr_3_3 ?_
      refine R_gf fx_56_33 kd_141 rfl ?_
      refine R_goto fx_56_36 ?_
      refine R_ret fx_56_40 (Or.inl rfl) (K g _ ?_ ⟨a, b, c⟩)
      unfold bestA
      rw [if_pos hw]
      first | (rw [if_neg (by omega)]; exact c1) | (rw [if_pos (by omega)])
    · refine R_ifeq fx_56_26 (by decide) (fun _ => ?_) (fun h => absurd h (by decide))
      refine R_push fx_56_39 ?_
      refine R_ret fx_56_40 (Or.inl rfl) (K g _ ?_ ⟨a, b, c⟩)
      unfold bestA
      rw [if_pos hw]
      first | (rw [if_neg (by omega)]; exact c1) | (rw [if_pos (by omega)])
theorem C_76 (hV : VG G) (hS : Sg f 4 G) (hP : Pk f G) (K : ∀ g v, v = ct (lev (coG G) 0 0) → PF g f G → Q [.inl v] g) : Rf (SHL L) 76 0 (xloc 76 [.inr 3]) [] f Q := by
  refine R_al fx_76_0 rfl (by omega) ?_
  refine R_gr fx_76_1 kd_3 rfl rr_3_3 ?_
  refine R_al fx_76_4 rfl (by omega) ?_
  refine R_gr fx_76_5 kd_3 rfl rr_3_0 ?_
  refine R_al fx_76_8 rfl (by omega) ?_
  refine R_gr fx_76_9 kd_3 rfl rr_3_2 ?_
  refine R_cv fx_76_12 rfl rfl rfl rfl kd_141 ?_
  refine C_57 hV hS hP (fun g a b c => ?_)
  have hb := mn_b (lev_sml (coG_ok hV) (s := 0) (set := 0) (by omega))
  have c1 := c.1
  refine R_al fx_76_15 rfl (by omega) ?_
  refine R_gr fx_76_16 kd_3 rfl rr_3_3 ?_
  refine R_gf fx_76_19 kd_141 rfl ?_
  exact R_ret fx_76_22 (Or.inl rfl) (K g _ c.2.1 ⟨a, b, c⟩)
theorem C_117 {w : Int} (hV : VG G) (h1 : xok w) (hM0 : Mst f G) (hK0 : Mk f n hi) (hT : MT f) (K : ∀ g v, v = bestA G w → Dw f g n hi G → Q [.inl v] g) : Rf (SHL L) 117 0 (xloc 117 [.inr 149, .inl w]) [] f Q := by
  have hb := mn_b (lev_sml (coG_ok hV) (s := 0) (set := 0) (by omega))
  refine R_al fx_117_0 rfl (by omega) ?_
  refine R_push fx_117_1 ?_
  refine R_pf fx_117_2 kd_149 rfl (fun h => absurd h (by decide)) ?_
  refine R_al fx_117_5 rfl (by omega) ?_
  refine R_cv fx_117_6 rfl rfl rfl rfl kd_149 ?_
  refine C_93 hM0.told (fun f1 b1 b2 b3 => ?_)
  have hM : Mg f1 G := b1
  have hK : Mk f1 n hi := hK0.kept (by rw [b2 3 (by omega), xup_i (by omega)]) (by rw [b3 151 (by omega)]; funext i; rw [xup_a (by omega)])
  have hfr : ∀ c, (c < 149 ∨ 151 < c) → f1 c = f c := fun c hc => by rw [b3 c (by omega)]; funext i; rw [xup_a (by omega)]
  have hwt : f1 149 11 = f 149 11 := by rw [b2 11 (by omega), xup_i (by omega)]
  have hT1 : MT f1 := ⟨fun j hj => by rw [hfr 156 (by omega)]; exact hT.1 j hj, by rw [hwt]; exact hT.2⟩
  refine R_il fx_117_9 rfl ?_
  refine R_ifeq fx_117_10 (by omega) (fun hw => ?_) (fun hw => ?_)
  · refine R_push fx_117_25 ?_
    refine R_goto fx_117_26 ?_
    refine R_is fx_117_30 ?_
    refine R_il fx_117_31 rfl ?_
    refine R_ifeq fx_117_32 (by decide) (fun h => absurd h (by decide)) (fun _ => ?_)
    refine R_al fx_117_35 rfl (by omega) ?_
    refine R_cv fx_117_36 rfl rfl rfl rfl kd_149 ?_
    refine C_118 hV hM hT1 (fun hx g2 hF x0 xj => ?_) (fun hx g2 hF => ?_)
    · refine R_ifne fx_117_39 (by decide) (fun _ => ?_) (fun h => absurd h (by decide))
      refine R_il fx_117_44 rfl ?_
      refine R_ifne fx_117_45 (by omega) (fun hw2 => ?_) (fun hw2 => ?_)
      · refine R_al fx_117_57 rfl (by omega) ?_
        refine R_gr fx_117_58 kd_149 rfl rr_149_22 ?_
        refine R_il fx_117_61 rfl ?_
        refine R_push fx_117_62 ?_
        refine R_sub fx_117_64 ?_
        refine R_ia fx_117_65 (Or.inl kd_161) (by omega) (by rw [ln_161]; omega) (by omega) ?_
        refine R_ret fx_117_66 (Or.inl rfl) (K g2 _ ?_ (Dw.tf hM hK hfr hF))
        unfold bestA
        first | (rw [if_pos hw2, if_neg hx]; exact x0) | (rw [if_neg hw2, if_pos (by omega), if_neg hx]; exact xj _ (by omega))
      · refine R_al fx_117_48 rfl (by omega) ?_
        refine R_gr fx_117_49 kd_149 rfl rr_149_18 ?_
        refine R_push fx_117_52 ?_
        refine R_ia fx_117_53 (Or.inl kd_159) (by omega) (by rw [ln_159]; omega) (by omega) ?_
        refine R_goto fx_117_54 ?_
        refine R_ret fx_117_66 (Or.inl rfl) (K g2 _ ?_ (Dw.tf hM hK hfr hF))
        unfold bestA
        first | (rw [if_pos hw2, if_neg hx]; exact x0) | (rw [if_neg hw2, if_pos (by omega), if_neg hx]; exact xj _ (by omega))
    · refine R_ifne fx_117_39 (by decide) (fun h => absurd h (by decide)) (fun _ => ?_)
      refine R_push fx_117_42 ?_
      first | refine R_ret fx_117_43 (Or.inl rfl) (K g2 _ ?_ (Dw.tf hM hK hfr hF)) | refine R_ret fx_117_43 (Or.inl rfl) (K f1 _ ?_ ⟨hM, hK, fun c hc => hfr c (by omega), hT1⟩)
      unfold bestA
      first | (rw [if_pos hw, if_pos hx]) | (rw [if_neg hw, if_pos (by omega), if_pos hx]) | (rw [if_neg hw, if_neg (by omega)])
  · refine R_il fx_117_13 rfl ?_
    refine R_push fx_117_14 ?_
    refine R_iclt fx_117_16 (by omega) (fun hc1 => ?_) (fun hc1 => ?_)
    · refine R_push fx_117_29 ?_
      refine R_is fx_117_30 ?_
      refine R_il fx_117_31 rfl ?_
      refine R_ifeq fx_117_32 (by decide) (fun _ => ?_) (fun h => absurd h (by decide))
      refine R_push fx_117_42 ?_
      first | refine R_ret fx_117_43 (Or.inl rfl) (K g2 _ ?_ (Dw.tf hM hK hfr hF)) | refine R_ret fx_117_43 (Or.inl rfl) (K f1 _ ?_ ⟨hM, hK, fun c hc => hfr c (by omega), hT1⟩)
      unfold bestA
      first | (rw [if_pos hw, if_pos hx]) | (rw [if_neg hw, if_pos (by omega), if_pos hx]) | (rw [if_neg hw, if_neg (by omega)])
    · refine R_il fx_117_19 rfl ?_
      refine R_push fx_117_20 ?_
      refine R_icge fx_117_22 (by omega) (fun hc2 => ?_) (fun hc2 => ?_)
      · refine R_push fx_117_29 ?_
        refine R_is fx_117_30 ?_
        refine R_il fx_117_31 rfl ?_
        refine R_ifeq fx_117_32 (by decide) (fun _ => ?_) (fun h => absurd h (by decide))
        refine R_push fx_117_42 ?_
        first | refine R_ret fx_117_43 (Or.inl rfl) (K g2 _ ?_ (Dw.tf hM hK hfr hF)) | refine R_ret fx_117_43 (Or.inl rfl) (K f1 _ ?_ ⟨hM, hK, fun c hc => hfr c (by omega), hT1⟩)
        unfold bestA
        first | (rw [if_pos hw, if_pos hx]) | (rw [if_neg hw, if_pos (by omega), if_pos hx]) | (rw [if_neg hw, if_neg (by omega)])
      · refine R_push fx_117_25 ?_
        refine R_goto fx_117_26 ?_
        refine R_is fx_117_30 ?_
        refine R_il fx_117_31 rfl ?_
        refine R_ifeq fx_117_32 (by decide) (fun h => absurd h (by decide)) (fun _ => ?_)
        refine R_al fx_117_35 rfl (by omega) ?_
        refine R_cv fx_117_36 rfl rfl rfl rfl kd_149 ?_
        refine C_118 hV hM hT1 (fun hx g2 hF x0 xj => ?_) (fun hx g2 hF => ?_)
        · refine R_ifne fx_117_39 (by decide) (fun _ => ?_) (fun h => absurd h (by decide))
          refine R_il fx_117_44 rfl ?_
          refine R_ifne fx_117_45 (by omega) (fun hw2 => ?_) (fun hw2 => ?_)
          · refine R_al fx_117_57 rfl (by omega) ?_
            refine R_gr fx_117_58 kd_149 rfl rr_149_22 ?_
            refine R_il fx_117_61 rfl ?_
            refine R_push fx_117_62 ?_
            refine R_sub fx_117_64 ?_
            refine R_ia fx_117_65 (Or.inl kd_161) (by omega) (by rw [ln_161]; omega) (by omega) ?_
            refine R_ret fx_117_66 (Or.inl rfl) (K g2 _ ?_ (Dw.tf hM hK hfr hF))
            unfold bestA
            first | (rw [if_pos hw2, if_neg hx]; exact x0) | (rw [if_neg hw2, if_pos (by omega), if_neg hx]; exact xj _ (by omega))
          · refine R_al fx_117_48 rfl (by omega) ?_
            refine R_gr fx_117_49 kd_149 rfl rr_149_18 ?_
            refine R_push fx_117_52 ?_
            refine R_ia fx_117_53 (Or.inl kd_159) (by omega) (by rw [ln_159]; omega) (by omega) ?_
            refine R_goto fx_117_54 ?_
            refine R_ret fx_117_66 (Or.inl rfl) (K g2 _ ?_ (Dw.tf hM hK hfr hF))
            unfold bestA
            first | (rw [if_pos hw2, if_neg hx]; exact x0) | (rw [if_neg hw2, if_pos (by omega), if_neg hx]; exact xj _ (by omega))
        · refine R_ifne fx_117_39 (by decide) (fun h => absurd h (by decide)) (fun _ => ?_)
          refine R_push fx_117_42 ?_
          first | refine R_ret fx_117_43 (Or.inl rfl) (K g2 _ ?_ (Dw.tf hM hK hfr hF)) | refine R_ret fx_117_43 (Or.inl rfl) (K f1 _ ?_ ⟨hM, hK, fun c hc => hfr c (by omega), hT1⟩)
          unfold bestA
          first | (rw [if_pos hw, if_pos hx]) | (rw [if_neg hw, if_pos (by omega), if_pos hx]) | (rw [if_neg hw, if_neg (by omega)])
theorem C_124 (hV : VG G) (hM0 : Mst f G) (hK0 : Mk f n hi) (hT : MT f) (K : ∀ g v, v = ct (lev (coG G) 0 0) → Dw f g n hi G → Q [.inl v] g) : Rf (SHL L) 124 0 (xloc 124 [.inr 149]) [] f Q := by
  have hsm := lev_sml (coG_ok hV) (s := 0) (set := 0) (by omega)
  have hb := mn_b hsm
  refine R_al fx_124_0 rfl (by omega) ?_
  refine R_push fx_124_1 ?_
  refine R_pf fx_124_2 kd_149 rfl (fun h => absurd h (by decide)) ?_
  refine R_al fx_124_5 rfl (by omega) ?_
  refine R_cv fx_124_6 rfl rfl rfl rfl kd_149 ?_
  refine C_93 hM0.told (fun f1 b1 b2 b3 => ?_)
  have hM : Mg f1 G := b1
  have hK : Mk f1 n hi := hK0.kept (by rw [b2 3 (by omega), xup_i (by omega)]) (by rw [b3 151 (by omega)]; funext i; rw [xup_a (by omega)])
  have hfr : ∀ c, (c < 149 ∨ 151 < c) → f1 c = f c := fun c hc => by rw [b3 c (by omega)]; funext i; rw [xup_a (by omega)]
  have hwt : f1 149 11 = f 149 11 := by rw [b2 11 (by omega), xup_i (by omega)]
  have hT1 : MT f1 := ⟨fun j hj => by rw [hfr 156 (by omega)]; exact hT.1 j hj, by rw [hwt]; exact hT.2⟩
  refine R_al fx_124_9 rfl (by omega) ?_
  refine R_cv fx_124_10 rfl rfl rfl rfl kd_149 ?_
  refine C_119 hV hM hT1 (fun g2 hF hI hB hR => ?_)
  have e0 : g2 159 (0 : Int).toNat = nv (mn (lev (coG G) 0 0)) := (hR 0 (by omega) 0 (by omega)).1
  have e9 : g2 160 (0 : Int).toNat = ct (lev (coG G) 0 0) := (hR 0 (by omega) 0 (by omega)).2
  have nb : (mn (lev (coG G) 0 0) = 268435456 ∧ nv (mn (lev (coG G) 0 0)) = 1000000) ∨ (mn (lev (coG G) 0 0) ≠ 268435456 ∧ nv (mn (lev (coG G) 0 0)) = mn (lev (coG G) 0 0)) := by unfold nv; split <;> omega
  have hT1 : TF g2 f1 := ⟨fun c h => hF.1 c (by omega), hF.2.1, hF.2.2⟩
  refine R_al fx_124_13 rfl (by omega) ?_
  refine R_gr fx_124_14 kd_149 rfl rr_149_18 ?_
  refine R_push fx_124_17 ?_
  refine R_ia fx_124_18 (Or.inl kd_159) (by omega) (by rw [ln_159]; omega) (by omega) ?_
  refine R_push fx_124_19 ?_
  refine R_iclt fx_124_21 (by omega) (fun hc => ?_) (fun hc => ?_)
  · refine R_al fx_124_28 rfl (by omega) ?_
    refine R_gr fx_124_29 kd_149 rfl rr_149_19 ?_
    refine R_push fx_124_32 ?_
    refine R_ia fx_124_33 (Or.inl kd_160) (by omega) (by rw [ln_160]; omega) (by omega) ?_
    refine R_ret fx_124_34 (Or.inl rfl) (K g2 _ ?_ (Dw.tf hM hK hfr hT1))
    first | exact (ct_nil hsm (by omega)).symm | exact e9
  · refine R_push fx_124_24 ?_
    refine R_goto fx_124_25 ?_
    refine R_ret fx_124_34 (Or.inl rfl) (K g2 _ ?_ (Dw.tf hM hK hfr hT1))
    first | exact (ct_nil hsm (by omega)).symm | exact e9
end BE
