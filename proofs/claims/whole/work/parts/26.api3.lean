/-! ===== reed, of, look ===== -/
def popc (x : Nat) : Nat → Nat
  | 0 => 0
  | n + 1 => popc x n + (if x.testBit n then 1 else 0)
def bc1 (x : Int) : Int := x - (xbin 5 ((xbin 10 x 1).getD 0) 1431655765).getD 0
def bc2 (x : Int) : Int := (xbin 5 x 858993459).getD 0 + (xbin 5 ((xbin 10 x 2).getD 0) 858993459).getD 0
def bc3 (x : Int) : Int := (xbin 5 (x + (xbin 10 x 4).getD 0) 252645135).getD 0
def bc4 (x : Int) : Int := x + (xbin 10 x 8).getD 0
def bc5 (x : Int) : Int := x + (xbin 10 x 16).getD 0
def bc6 (x : Int) : Int := (xbin 5 x 63).getD 0
set_option maxRecDepth 100000 in
theorem bc_all : (List.range 4096).all (fun x => decide (bc6 (bc5 (bc4 (bc3 (bc2 (bc1 (x : Int)))))) = ((popc x 12 : Nat) : Int))) = true := by decide +kernel
theorem Sg.add {f f2 : xF} {G R : Nat → Int} {r : Nat} (h : Sg f 4 G) (hr : r < 12) (h0 : G 0 = r) (h1 : ∀ j, j < 7 → f2 (9 + r) j = R j) (h2 : ∀ c, c ≠ 9 + r → f2 c = f c) : Sg (xup f2 4 4 ((r : Int) + 1)) 4 (upG (upR G r R) 0 ((r : Int) + 1)) := by
  have hR := h.reed hr h1 h2
  obtain ⟨⟨e1, e2, e3, e4⟩, h5, h6, h7, h8⟩ := hR
  refine ⟨⟨?_, ?_, ?_, ?_⟩, fun t ht => ?_, fun t ht => ?_, fun t ht => ?_, fun q hq hg j hj => ?_⟩
  · rw [xup_s, upG_s]
  · rw [xup_i (by omega), upG_n (by omega)]; exact e2
  · rw [xup_i (by omega), upG_n (by omega)]; exact e3
  · rw [xup_i (by omega), upG_n (by omega)]; exact e4
  · rw [xup_a (by omega), upG_n (by omega)]; exact h5 t ht
  · rw [xup_a (by omega), upG_n (by omega)]; exact h6 t ht
  · rw [xup_a (by omega), upG_n (by omega)]; exact h7 t ht
  · rw [upG_s] at hg
    rw [xup_a (by omega), upG_n (by omega)]
    by_cases e : q = r
    · subst e; rw [upR_in hj]; exact h1 j hj
    · exact h8 q hq (by rw [upR_out (by omega)]; omega) j hj
def newR (p t q : Int) : Nat → Int := fun j => match j with
  | 0 => p
  | 1 => t
  | 2 => q
  | 3 => 0
  | 4 => -1
  | 5 => -1
  | _ => 0
section AR
variable {L : Nat} {f : xF} {Q : List xV → xF → Prop} {G : Nat → Int} {hi : Nat → Nat → Int} {n x : Nat}
theorem C_31 {x : Nat} (hx : x < 4096) (K : Q [.inl ((popc x 12 : Nat) : Int)] f) : Rf (SHL L) 31 0 (xloc 31 [.inl x]) [] f Q := by
  have hb := of_decide_eq_true (List.all_eq_true.mp bc_all x (List.mem_range.mpr hx))
  refine R_il fx_31_0 rfl ?_
  refine R_il fx_31_1 rfl ?_
  refine R_push fx_31_2 ?_
  refine R_bin fx_31_3 (z := (xbin 10 _ _).getD 0) rfl ?_
  refine R_push fx_31_4 ?_
  refine R_bin fx_31_7 (z := (xbin 5 _ _).getD 0) rfl ?_
  refine R_sub fx_31_8 ?_
  refine R_is fx_31_9 ?_
  refine R_il fx_31_10 rfl ?_
  refine R_push fx_31_11 ?_
  refine R_bin fx_31_14 (z := (xbin 5 _ _).getD 0) rfl ?_
  refine R_il fx_31_15 rfl ?_
  refine R_push fx_31_16 ?_
  refine R_bin fx_31_17 (z := (xbin 10 _ _).getD 0) rfl ?_
  refine R_push fx_31_18 ?_
  refine R_bin fx_31_21 (z := (xbin 5 _ _).getD 0) rfl ?_
  refine R_add fx_31_22 ?_
  refine R_is fx_31_23 ?_
  refine R_il fx_31_24 rfl ?_
  refine R_il fx_31_25 rfl ?_
  refine R_push fx_31_26 ?_
  refine R_bin fx_31_27 (z := (xbin 10 _ _).getD 0) rfl ?_
  refine R_add fx_31_28 ?_
  refine R_push fx_31_29 ?_
  refine R_bin fx_31_32 (z := (xbin 5 _ _).getD 0) rfl ?_
  refine R_is fx_31_33 ?_
  refine R_il fx_31_34 rfl ?_
  refine R_il fx_31_35 rfl ?_
  refine R_push fx_31_36 ?_
  refine R_bin fx_31_38 (z := (xbin 10 _ _).getD 0) rfl ?_
  refine R_add fx_31_39 ?_
  refine R_is fx_31_40 ?_
  refine R_il fx_31_41 rfl ?_
  refine R_il fx_31_42 rfl ?_
  refine R_push fx_31_43 ?_
  refine R_bin fx_31_45 (z := (xbin 10 _ _).getD 0) rfl ?_
  refine R_add fx_31_46 ?_
  refine R_is fx_31_47 ?_
  refine R_il fx_31_48 rfl ?_
  refine R_push fx_31_49 ?_
  refine R_bin fx_31_51 (z := (xbin 5 _ _).getD 0) rfl ?_
  refine R_ret fx_31_52 (Or.inl rfl) ?_
  rw [← hb] at K; exact K
theorem C_28 {p : Int} (hp0 : 0 ≤ p ∧ p < 8) (hb : ∀ j, j < 4 → xok (f 7 j) ∧ xok (f 8 j)) (K : Q [.inl (if f 7 (p / 2).toNat ≤ f 8 (p / 2).toNat then (if p % 2 = 0 then f 7 (p / 2).toNat else f 8 (p / 2).toNat) else -1001)] f) : Rf (SHL L) 28 0 (xloc 28 [.inr 3, .inl p]) [] f Q := by
  refine R_il fx_28_0 rfl ?_
  refine R_push fx_28_1 ?_
  refine R_bin fx_28_2 (xb_div (by omega) (by omega) (by omega) (by omega)) ?_
  refine R_is fx_28_3 ?_
  refine R_al fx_28_4 rfl (by omega) ?_
  refine R_gr fx_28_5 kd_3 rfl rr_3_0 ?_
  refine R_il fx_28_8 rfl ?_
  refine R_cv fx_28_9 rfl rfl rfl rfl kd_4 ?_
  refine C_29 (by omega) hb (fun hc => ?_) (fun hc => ?_)
  · refine R_ifne fx_28_12 (by decide) (fun _ => ?_) (fun h => absurd h (by decide))
    refine R_il fx_28_19 rfl ?_
    refine R_push fx_28_20 ?_
    refine R_bin fx_28_21 (xb_rem (by omega) (by omega) (by omega) (by omega)) ?_
    refine R_ifne fx_28_22 (by omega) (fun hc => ?_) (fun hc => ?_)
    · refine R_al fx_28_37 rfl (by omega) ?_
      refine R_gr fx_28_38 kd_3 rfl rr_3_0 ?_
      refine R_gr fx_28_41 kd_4 rfl rr_4_3 ?_
      refine R_il fx_28_44 rfl ?_
      refine R_ia fx_28_45 (Or.inl kd_8) (by omega) (by rw [ln_8]; omega) (by omega) ?_
      rw [if_pos (by omega)] at K
      refine R_ret fx_28_46 (Or.inl rfl) ?_
      first | (rw [if_pos (by omega)] at K; exact K) | (rw [if_neg (by omega)] at K; exact K)
    · refine R_al fx_28_25 rfl (by omega) ?_
      refine R_gr fx_28_26 kd_3 rfl rr_3_0 ?_
      refine R_gr fx_28_29 kd_4 rfl rr_4_2 ?_
      refine R_il fx_28_32 rfl ?_
      refine R_ia fx_28_33 (Or.inl kd_7) (by omega) (by rw [ln_7]; omega) (by omega) ?_
      refine R_goto fx_28_34 ?_
      rw [if_pos (by omega)] at K
      refine R_ret fx_28_46 (Or.inl rfl) ?_
      first | (rw [if_pos (by omega)] at K; exact K) | (rw [if_neg (by omega)] at K; exact K)
  · refine R_ifne fx_28_12 (by decide) (fun h => absurd h (by decide)) (fun _ => ?_)
    refine R_push fx_28_15 ?_
    rw [if_neg (by omega)] at K
    exact R_ret fx_28_18 (Or.inl rfl) K
theorem C_34 {r w : Int} (hV : VG G) (hS : Sg f 4 G) (hr : xok r) (hw0 : xok w) (K1 : (0 ≤ r ∧ r < G 0) → (0 ≤ w ∧ w < 7) → Q [.inl (G (20 + 7 * r.toNat + w.toNat))] f) (K0 : ¬ ((0 ≤ r ∧ r < G 0) ∧ 0 ≤ w ∧ w < 7) → Q [.inl (-100000)] f) : Rf (SHL L) 34 0 (xloc 34 [.inr 3, .inl r, .inl w]) [] f Q := by
  have hm := hV.m hS
  have hp := hV.p hS
  have h0 := hS.1.1
  refine R_al fx_34_0 rfl (by omega) ?_
  refine R_gr fx_34_1 kd_3 rfl rr_3_0 ?_
  refine R_il fx_34_4 rfl ?_
  refine R_cv fx_34_5 rfl rfl rfl rfl kd_4 ?_
  refine C_19 (by omega) (by omega) (fun hc => ?_) (fun hc => ?_)
  · refine R_ifne fx_34_8 (by decide) (fun _ => ?_) (fun h => absurd h (by decide))
    refine R_al fx_34_14 rfl (by omega) ?_
    refine R_gr fx_34_15 kd_3 rfl rr_3_0 ?_
    refine R_gr fx_34_18 kd_4 rfl rr_4_0 ?_
    refine R_il fx_34_21 rfl ?_
    refine R_aa fx_34_22 (Or.inl kd_5) (by omega) (by rw [ln_5]; omega) (by omega) (rr_reed _ (by omega)) ?_
    refine R_as fx_34_23 (by omega) ?_
    refine R_il fx_34_24 rfl ?_
    rcases (show w = 0 ∨ w = 1 ∨ w = 2 ∨ w = 3 ∨ w = 4 ∨ w = 5 ∨ w = 6 ∨ (w < 0 ∨ 7 ≤ w) by omega) with rfl | rfl | rfl | rfl | rfl | rfl | rfl | hw
    · refine R_sw fx_34_25 (by decide) rfl ?_
      refine R_al fx_34_68 rfl (by omega) ?_
      refine R_gf fx_34_69 (kd_reed _ (by omega)) rfl ?_
      refine R_ret fx_34_72 (Or.inl rfl) ?_
      rw [hS.rd (by omega) (by omega) (by omega)]
      exact K1 (by omega) (by omega)
    · refine R_sw fx_34_25 (by decide) rfl ?_
      refine R_al fx_34_73 rfl (by omega) ?_
      refine R_gf fx_34_74 (kd_reed _ (by omega)) rfl ?_
      refine R_ret fx_34_77 (Or.inl rfl) ?_
      rw [hS.rd (by omega) (by omega) (by omega)]
      exact K1 (by omega) (by omega)
    · refine R_sw fx_34_25 (by decide) rfl ?_
      refine R_al fx_34_78 rfl (by omega) ?_
      refine R_gf fx_34_79 (kd_reed _ (by omega)) rfl ?_
      refine R_ret fx_34_82 (Or.inl rfl) ?_
      rw [hS.rd (by omega) (by omega) (by omega)]
      exact K1 (by omega) (by omega)
    · refine R_sw fx_34_25 (by decide) rfl ?_
      refine R_al fx_34_83 rfl (by omega) ?_
      refine R_gf fx_34_84 (kd_reed _ (by omega)) rfl ?_
      refine R_ret fx_34_87 (Or.inl rfl) ?_
      rw [hS.rd (by omega) (by omega) (by omega)]
      exact K1 (by omega) (by omega)
    · refine R_sw fx_34_25 (by decide) rfl ?_
      refine R_al fx_34_88 rfl (by omega) ?_
      refine R_gf fx_34_89 (kd_reed _ (by omega)) rfl ?_
      refine R_ret fx_34_92 (Or.inl rfl) ?_
      rw [hS.rd (by omega) (by omega) (by omega)]
      exact K1 (by omega) (by omega)
    · refine R_sw fx_34_25 (by decide) rfl ?_
      refine R_al fx_34_93 rfl (by omega) ?_
      refine R_gf fx_34_94 (kd_reed _ (by omega)) rfl ?_
      refine R_ret fx_34_97 (Or.inl rfl) ?_
      rw [hS.rd (by omega) (by omega) (by omega)]
      exact K1 (by omega) (by omega)
    · refine R_sw fx_34_25 (by decide) rfl ?_
      refine R_al fx_34_98 rfl (by omega) ?_
      refine R_gf fx_34_99 (kd_reed _ (by omega)) rfl ?_
      refine R_ret fx_34_102 (Or.inl rfl) ?_
      rw [hS.rd (by omega) (by omega) (by omega)]
      exact K1 (by omega) (by omega)
    · refine R_sw fx_34_25 hw0 (if_pos (show w < 0 ∨ ((7 : Nat) : Int) ≤ w by omega)) ?_
      refine R_push fx_34_103 ?_
      exact R_ret fx_34_105 (Or.inl rfl) (K0 (by omega))
  · refine R_ifne fx_34_8 (by decide) (fun h => absurd h (by decide)) (fun _ => ?_)
    refine R_push fx_34_11 ?_
    exact R_ret fx_34_13 (Or.inl rfl) (K0 (by omega))
theorem C_8 {p t q : Int} (hV : VG G) (hH : Hc f n x hi) (hS : Sg f 4 G) (h1 : xok p) (h2 : xok t) (h3 : xok q) (K1 : ((0 ≤ p ∧ p ≤ 9999) ∧ (1 ≤ t ∧ t ≤ 20) ∧ 0 ≤ q ∧ q ≤ 20) ∧ G 0 < 12 → ∀ f2, Dn f f2 n x hi G (upG (upR G (G 0).toNat (newR p t q)) 0 (G 0 + 1)) → Q [.inl (G 0)] f2) (K0 : ¬ (((0 ≤ p ∧ p ≤ 9999) ∧ (1 ≤ t ∧ t ≤ 20) ∧ 0 ≤ q ∧ q ≤ 20) ∧ G 0 < 12) → Q [.inl (-1)] f) : Rf (SHL L) 8 0 (xloc 8 [.inr 3, .inl p, .inl t, .inl q]) [] f Q := by
  have hm := hV.m hS
  have hp := hV.p hS
  have h0 := hS.1.1
  refine R_il fx_8_0 rfl ?_
  refine R_push fx_8_1 ?_
  refine R_push fx_8_2 ?_
  refine R_cs fx_8_5 rfl rfl rfl rfl ?_
  refine C_9 (by omega) (by omega) (by omega) (fun hc => ?_) (fun hc => ?_)
  · refine R_ifeq fx_8_8 (by decide) (fun h => absurd h (by decide)) (fun _ => ?_)
    refine R_il fx_8_11 rfl ?_
    refine R_push fx_8_12 ?_
    refine R_push fx_8_13 ?_
    refine R_cs fx_8_15 rfl rfl rfl rfl ?_
    refine C_9 (by omega) (by omega) (by omega) (fun hc => ?_) (fun hc => ?_)
    · refine R_ifeq fx_8_18 (by decide) (fun h => absurd h (by decide)) (fun _ => ?_)
      refine R_il fx_8_21 rfl ?_
      refine R_push fx_8_22 ?_
      refine R_push fx_8_23 ?_
      refine R_cs fx_8_25 rfl rfl rfl rfl ?_
      refine C_9 (by omega) (by omega) (by omega) (fun hc => ?_) (fun hc => ?_)
      · refine R_ifeq fx_8_28 (by decide) (fun h => absurd h (by decide)) (fun _ => ?_)
        refine R_push fx_8_31 ?_
        refine R_goto fx_8_32 ?_
        refine R_is fx_8_36 ?_
        refine R_il fx_8_38 rfl ?_
        refine R_ifeq fx_8_40 (by decide) (fun h => absurd h (by decide)) (fun _ => ?_)
        refine R_al fx_8_43 rfl (by omega) ?_
        refine R_gr fx_8_44 kd_3 rfl rr_3_0 ?_
        refine R_gf fx_8_47 kd_4 rfl ?_
        refine R_push fx_8_50 ?_
        refine R_iclt fx_8_52 (by omega) (fun hc => ?_) (fun hc => ?_)
        · refine R_al fx_8_57 rfl (by omega) ?_
          refine R_cv fx_8_58 rfl rfl rfl rfl kd_3 ?_
          refine C_10 hH hS (fun f2 g1 g2 g3 g4 => ?_)
          have ec : f2 4 4 = G 0 := by rw [g4 4 (by omega)]; exact h0
          refine R_al fx_8_61 rfl (by omega) ?_
          refine R_gr fx_8_62 kd_3 rfl rr_3_0 ?_
          refine R_gf fx_8_65 kd_4 rfl ?_
          refine R_is fx_8_68 ?_
          refine R_al fx_8_70 rfl (by omega) ?_
          refine R_gr fx_8_71 kd_3 rfl rr_3_0 ?_
          refine R_gr fx_8_74 kd_4 rfl rr_4_0 ?_
          refine R_il fx_8_77 rfl ?_
          refine R_aa fx_8_79 (Or.inl kd_5) (by omega) (by rw [ln_5]; omega) (by omega) (rr_reed _ (by omega)) ?_
          refine R_il fx_8_80 rfl ?_
          refine R_il fx_8_81 rfl ?_
          refine R_il fx_8_82 rfl ?_
          refine R_cv fx_8_83 rfl rfl rfl rfl (kd_reed _ (by omega)) ?_
          refine C_16 (by omega) (kd_reed _ (by omega)) (fun f3 k1 k2 => ?_)
          refine R_al fx_8_86 rfl (by omega) ?_
          refine R_gr fx_8_87 kd_3 rfl rr_3_0 ?_
          refine R_il fx_8_90 rfl ?_
          refine R_push fx_8_92 ?_
          refine R_add fx_8_93 ?_
          refine R_pf fx_8_94 kd_4 rfl (fun h => absurd h (by decide)) ?_
          refine R_il fx_8_97 rfl ?_
          rw [ec] at k1 k2 ⊢
          obtain ⟨rr, hrr⟩ := Int.eq_ofNat_of_zero_le hV.1.1
          rw [hrr] at k1 k2 ⊢
          refine R_ret fx_8_99 (Or.inl rfl) ?_
          rw [hrr] at K1
          refine K1 (by omega) _ (Dn.of g1 g2 g3 g4 (fun c hc => ?_) ((hS.kept (f2 := f2) (fun c q1 q2 => g4 c (by omega))).add (R := newR p t q) (by omega) hrr (fun j hj => ?_) k2))
          · funext i; rw [xup_a (by omega), k2 c (by simp only [Int.toNat_natCast]; omega)]
          · simp only [Int.toNat_natCast] at k1
            rcases (show j = 0 ∨ j = 1 ∨ j = 2 ∨ j = 3 ∨ j = 4 ∨ j = 5 ∨ j = 6 by omega) with rfl | rfl | rfl | rfl | rfl | rfl | rfl
            · exact k1.1
            · exact k1.2.1
            · exact k1.2.2.1
            · exact k1.2.2.2.1
            · exact k1.2.2.2.2.1
            · exact k1.2.2.2.2.2.1
            · exact k1.2.2.2.2.2.2
        · refine R_push fx_8_55 ?_
          exact R_ret fx_8_56 (Or.inl rfl) (K0 (by omega))
      · refine R_ifeq fx_8_28 (by decide) (fun _ => ?_) (fun h => absurd h (by decide))
        refine R_push fx_8_35 ?_
        refine R_is fx_8_36 ?_
        refine R_il fx_8_38 rfl ?_
        refine R_ifeq fx_8_40 (by decide) (fun _ => ?_) (fun h => absurd h (by decide))
        refine R_push fx_8_55 ?_
        exact R_ret fx_8_56 (Or.inl rfl) (K0 (by omega))
    · refine R_ifeq fx_8_18 (by decide) (fun _ => ?_) (fun h => absurd h (by decide))
      refine R_push fx_8_35 ?_
      refine R_is fx_8_36 ?_
      refine R_il fx_8_38 rfl ?_
      refine R_ifeq fx_8_40 (by decide) (fun _ => ?_) (fun h => absurd h (by decide))
      refine R_push fx_8_55 ?_
      exact R_ret fx_8_56 (Or.inl rfl) (K0 (by omega))
  · refine R_ifeq fx_8_8 (by decide) (fun _ => ?_) (fun h => absurd h (by decide))
    refine R_push fx_8_35 ?_
    refine R_is fx_8_36 ?_
    refine R_il fx_8_38 rfl ?_
    refine R_ifeq fx_8_40 (by decide) (fun _ => ?_) (fun h => absurd h (by decide))
    refine R_push fx_8_55 ?_
    exact R_ret fx_8_56 (Or.inl rfl) (K0 (by omega))
end AR
