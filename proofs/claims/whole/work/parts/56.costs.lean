/-! ===== the costs ===== -/
noncomputable def csG (G : Nat → Int) (s r : Nat) : Int := if G (4 + s) ≠ -1 ∧ frG G r = true ∧ wk G r s ≠ 268435456 then wk G r s / 32 else 268435456
def mbG (G : Nat → Int) (k : Nat) : Bool := decide (G (12 + k) ≤ G (16 + k) ∧ G (4 + 2 * k) ≠ -1 ∧ G (4 + (2 * k + 1)) ≠ -1)
noncomputable def cpG (G : Nat → Int) (k r q : Nat) : Int := if mbG G k = true ∧ r ≠ q ∧ csG G (2 * k) r ≠ 268435456 ∧ csG G (2 * k + 1) q ≠ 268435456 ∧ pk G r q k ≠ 268435456 then pk G r q k / 32768 else 268435456
noncomputable def coG (G : Nat → Int) : CO := (csG G, cpG G, wsG G, mbG G)
section CB
variable {G : Nat → Int} {s r q k : Nat}
theorem frG_lt (h : frG G r = true) : (r : Int) < G 0 := by unfold frG at h; exact (of_decide_eq_true h).1
theorem csG_b (hV : VG G) (hr : r < 12) : csG G s r = 268435456 ∨ (0 ≤ csG G s r ∧ csG G s r ≤ 39 ∧ frG G r = true ∧ wk G r s ≠ 268435456 ∧ csG G s r = wk G r s / 32 ∧ G (4 + s) ≠ -1) := by
  by_cases h : G (4 + s) ≠ -1 ∧ frG G r = true ∧ wk G r s ≠ 268435456
  · have e : csG G s r = wk G r s / 32 := if_pos h
    have hb := (wk_b (s := s) hV hr (frG_lt h.2.1)).resolve_left h.2.2
    exact Or.inr ⟨by omega, by omega, h.2.1, h.2.2, e, h.1⟩
  · exact Or.inl (if_neg h)
theorem cpG_b (hV : VG G) (hr : r < 12) (hq : q < 12) : cpG G k r q = 268435456 ∨ (0 ≤ cpG G k r q ∧ cpG G k r q ≤ 100 ∧ mbG G k = true ∧ r ≠ q ∧ csG G (2 * k) r ≠ 268435456 ∧ csG G (2 * k + 1) q ≠ 268435456 ∧ pk G r q k ≠ 268435456 ∧ cpG G k r q = pk G r q k / 32768) := by
  by_cases h : mbG G k = true ∧ r ≠ q ∧ csG G (2 * k) r ≠ 268435456 ∧ csG G (2 * k + 1) q ≠ 268435456 ∧ pk G r q k ≠ 268435456
  · have e : cpG G k r q = pk G r q k / 32768 := if_pos h
    have a := (csG_b (s := 2 * k) hV hr).resolve_left h.2.2.1
    have b := (csG_b (s := 2 * k + 1) hV hq).resolve_left h.2.2.2.1
    have hb := (pk_b (k := k) hV hr (frG_lt a.2.2.1) hq (frG_lt b.2.2.1)).resolve_left h.2.2.2.2
    exact Or.inr ⟨by omega, by omega, h.1, h.2.1, h.2.2.1, h.2.2.2.1, h.2.2.2.2, e⟩
  · exact Or.inl (if_neg h)
theorem frG_bit (hr : r < 12) : (bset (frG G) 12).testBit r = frG G r := by rw [bset_bit]; simp [hr]
theorem coG_ok (hV : VG G) : COk (coG G) (bset (frG G) 12) := by
  refine ⟨fun s r hs hr => ?_, fun k r q hk hr hq => ?_, fun k hk h => ?_⟩
  · rcases csG_b (s := s) hV hr with h | h
    · exact Or.inl h
    · exact Or.inr ⟨h.1, by show csG G s r ≤ 100; omega, by rw [frG_bit hr]; exact h.2.2.1⟩
  · rcases cpG_b (k := k) hV hr hq with h | h
    · exact Or.inl h
    · have a := (csG_b (s := 2 * k) hV hr).resolve_left h.2.2.2.2.1
      have b := (csG_b (s := 2 * k + 1) hV hq).resolve_left h.2.2.2.2.2.1
      exact Or.inr ⟨h.1, by show cpG G k r q ≤ 200; omega, by rw [frG_bit hr]; exact a.2.2.1, by rw [frG_bit hq]; exact b.2.2.1, h.2.2.2.1, h.2.2.2.2.1, h.2.2.2.2.2.1⟩
  · have := of_decide_eq_true (show decide _ = true from h)
    exact ⟨decide_eq_true this.2.1, decide_eq_true this.2.2⟩
end CB
section CC
variable {L : Nat} {f : xF} {Q : List xV → xF → Prop} {G : Nat → Int}
theorem C_59 {s2 : Int} {s : Nat} (es : s2 = s) (hV : VG G) (hS : Sg f 4 G) (hs : s < 8) (hw : G (4 + s) ≠ -1) (h0 : ∀ r, r < 12 → f 143 (s * 12 + r) = 268435456) (K : ∀ g : xF, (∀ c, c ≠ 139 → c ≠ 143 → g c = f c) → (∀ j, (j < s * 12 ∨ s * 12 + 12 ≤ j) → g 143 j = f 143 j) → (∀ r, r < 12 → g 143 (s * 12 + r) = csG G s r) → Q [] g) : Rf (SHL L) 59 0 (xloc 59 [.inr 142, .inr 4, .inr 125, .inl s2]) [] f Q := by
  subst es
  have loop : ∀ (n m : Nat) (X : Option xV) (g : xF), m + n = 12 → (∀ c, c ≠ 139 → c ≠ 143 → g c = f c) → (∀ j, (j < s * 12 ∨ s * 12 + 12 ≤ j) → g 143 j = f 143 j) → (∀ r, r < m → g 143 (s * 12 + r) = csG G s r) → (∀ r, m ≤ r → r < 12 → g 143 (s * 12 + r) = 268435456) → Rf (SHL L) 59 3 [some (.inr 142), some (.inr 4), some (.inr 125), some (.inl (s : Int)), some (.inl (m : Int)), X] [] g Q := by
    intro n
    induction n with
    | zero =>
      intro m X g hm hF hj hd hr
      refine R_il fx_59_3 rfl ?_
      refine R_push fx_59_5 ?_
      refine R_icge fx_59_7 (by omega) (fun hc => ?_) (fun hc => by omega)
      exact R_retv fx_59_64 rfl (K g hF hj (fun r h => hd r (by omega)))
    | succ n ih =>
      intro m X g hm hF hj hd hr
      have hSg : Sg g 4 G := hS.kept (fun c _ _ => hF c (by omega) (by omega))
      have ez : g 4 4 = G 0 := hSg.1.1
      have no : csG G s m = 268435456 → ∀ g2 : xF, (∀ c, c ≠ 139 → g2 c = g c) → ∀ Y : Option xV, Rf (SHL L) 59 3 [some (.inr 142), some (.inr 4), some (.inr 125), some (.inl (s : Int)), some (.inl ((m : Int) + 1)), Y] [] g2 Q := fun h g2 h2 Y => ih (m + 1) Y g2 (by omega) (fun c a b => by rw [h2 c a]; exact hF c a b) (fun j h9 => by rw [h2 143 (by omega)]; exact hj j h9) (fun r h9 => by
          rw [h2 143 (by omega)]
          by_cases e : r = m
          · subst e; rw [hr r (by omega) (by omega), h]
          · exact hd r (by omega)) (fun r a b => by rw [h2 143 (by omega)]; exact hr r (by omega) b)
      refine R_il fx_59_3 rfl ?_
      refine R_push fx_59_5 ?_
      refine R_icge fx_59_7 (by omega) (fun hc => by omega) (fun hc => ?_)
      refine R_al fx_59_10 rfl (by omega) ?_
      refine R_il fx_59_11 rfl ?_
      refine R_cv fx_59_13 rfl rfl rfl rfl kd_4 ?_
      refine C_18 (by omega) (hV.m hSg) (hV.p hSg) (fun hc => ?_) (fun hc => ?_)
      · refine R_ifeq fx_59_16 (by decide) (fun h => absurd h (by decide)) (fun _ => ?_)
        refine R_al fx_59_19 rfl (by omega) ?_
        refine R_al fx_59_20 rfl (by omega) ?_
        refine R_il fx_59_21 rfl ?_
        refine R_il fx_59_23 rfl ?_
        refine R_cv fx_59_24 rfl rfl rfl rfl kd_125 ?_
        have hfr : frG G m = true := decide_eq_true ⟨by omega, by have := hSg.rd (r := m) (j := 3) (by omega) (by omega) (by omega); rw [Int.toNat_natCast] at hc; omega⟩
        refine C_36 (r := m) (s := s) rfl rfl hV hSg (by omega) (frG_lt hfr) hs (fun g2 hF2 => ?_)
        have hb := wk_b (s := s) hV (show m < 12 by omega) (frG_lt hfr)
        refine R_goto fx_59_27 ?_
        refine R_is fx_59_32 ?_
        refine R_il fx_59_34 rfl ?_
        refine R_push fx_59_36 ?_
        refine R_iceq fx_59_38 (by omega) (fun hc3 => ?_) (fun hc3 => ?_)
        · refine R_inc fx_59_58 rfl ?_
          refine R_goto fx_59_61 ?_
          exact no (if_neg (fun z => z.2.2 hc3)) g2 hF2 _
        · refine R_al fx_59_41 rfl (by omega) ?_
          refine R_gr fx_59_42 kd_142 rfl rr_142_0 ?_
          refine R_il fx_59_45 rfl ?_
          refine R_push fx_59_46 ?_
          refine R_mul fx_59_48 ?_
          refine R_il fx_59_49 rfl ?_
          refine R_add fx_59_51 ?_
          refine R_il fx_59_52 rfl ?_
          refine R_cs fx_59_54 rfl rfl rfl rfl ?_
          refine C_39 (by omega) ?_
          refine R_ias fx_59_57 kd_143 (by omega) (by rw [ln_143]; omega) (by omega) ?_
          refine R_inc fx_59_58 rfl ?_
          refine R_goto fx_59_61 ?_
          rw [show ((s : Int) * 12 + (m : Int)).toNat = s * 12 + m by omega]
          have ec : csG G s m = wk G m s / 32 := if_pos ⟨hw, hfr, hc3⟩
          refine ih (m + 1) _ _ (by omega) (fun c a b => ?_) (fun j h9 => ?_) (fun r h9 => ?_) (fun r a b => ?_)
          · funext y; rw [xup_a b, hF2 c a]; exact congrFun (hF c a b) y
          · rw [xup_i (by omega), hF2 143 (by omega)]; exact hj j h9
          · by_cases e : r = m
            · subst e; rw [xup_s, ec]
            · rw [xup_i (by omega), hF2 143 (by omega)]; exact hd r (by omega)
          · rw [xup_i (by omega), hF2 143 (by omega)]; exact hr r (by omega) b
      · refine R_ifeq fx_59_16 (by decide) (fun _ => ?_) (fun h => absurd h (by decide))
        refine R_push fx_59_30 ?_
        refine R_is fx_59_32 ?_
        refine R_il fx_59_34 rfl ?_
        refine R_push fx_59_36 ?_
        refine R_iceq fx_59_38 (by decide) (fun _ => ?_) (fun h => absurd h (by decide))
        refine R_inc fx_59_58 rfl ?_
        refine R_goto fx_59_61 ?_
        refine no (if_neg (fun z => ?_)) g (fun _ _ => rfl) _
        have z2 := z.2.1
        unfold frG at z2
        have z3 := of_decide_eq_true z2
        have := hSg.rd (r := m) (j := 3) (by omega) (by omega) (by omega)
        rw [Int.toNat_natCast] at hc
        omega
  refine R_push fx_59_0 ?_
  refine R_is fx_59_1 ?_
  exact loop 12 0 _ f (by omega) (fun _ _ _ => rfl) (fun _ _ => rfl) (fun r h => absurd h (by omega)) (fun r _ h => h0 r h)
theorem C_63 {k2 q2 : Int} {k q : Nat} (ek : k2 = k) (eq : q2 = q) (hV : VG G) (hS : Sg f 4 G) (hk : k < 4) (hq : q < 12) (hm : mbG G k = true) (hcq : csG G (2 * k + 1) q ≠ 268435456) (h143 : ∀ s r, s < 8 → r < 12 → f 143 (s * 12 + r) = csG G s r) (hA : ∀ r, r < 12 → csG G (2 * k) r ≠ 268435456 → ∀ x : Nat, (x : Int) ≤ 2 * G 2 → f (127 + r) x = nr G r (2 * k) x) (hB : ∀ x : Nat, (x : Int) ≤ 2 * G 2 → f 140 x = pr G q k x) (h0 : ∀ r, r < 12 → f 144 ((k * 12 + r) * 12 + q) = 268435456) (K : ∀ g : xF, (∀ c, c ≠ 144 → g c = f c) → (∀ j, (∀ r, r < 12 → j ≠ (k * 12 + r) * 12 + q) → g 144 j = f 144 j) → (∀ r, r < 12 → g 144 ((k * 12 + r) * 12 + q) = cpG G k r q) → Q [] g) : Rf (SHL L) 63 0 (xloc 63 [.inr 142, .inr 4, .inr 125, .inl k2, .inl q2]) [] f Q := by
  subst ek eq
  have hgq := frG_lt ((csG_b (s := 2 * k + 1) hV hq).resolve_left hcq).2.2.1
  have loop : ∀ (n m : Nat) (X : Option xV) (g : xF), m + n = 12 → (∀ c, c ≠ 144 → g c = f c) → (∀ j, (∀ r, r < 12 → j ≠ (k * 12 + r) * 12 + q) → g 144 j = f 144 j) → (∀ r, r < m → g 144 ((k * 12 + r) * 12 + q) = cpG G k r q) → (∀ r, m ≤ r → r < 12 → g 144 ((k * 12 + r) * 12 + q) = 268435456) → Rf (SHL L) 63 3 [some (.inr 142), some (.inr 4), some (.inr 125), some (.inl (k : Int)), some (.inl (q : Int)), some (.inl (m : Int)), X] [] g Q := by
    intro n
    induction n with
    | zero =>
      intro m X g hm9 hF hj hd hr
      refine R_il fx_63_3 rfl ?_
      refine R_push fx_63_5 ?_
      refine R_icge fx_63_7 (by omega) (fun hc => ?_) (fun hc => by omega)
      exact R_retv fx_63_81 rfl (K g hF hj (fun r h => hd r (by omega)))
    | succ n ih =>
      intro m X g hm9 hF hj hd hr
      have hSg : Sg g 4 G := hS.kept (fun c _ _ => hF c (by omega))
      have e143 : g 143 (2 * (k : Int) * 12 + (m : Int)).toNat = csG G (2 * k) m := by rw [show (2 * (k : Int) * 12 + (m : Int)).toNat = (2 * k) * 12 + m by omega, hF 143 (by omega)]; exact h143 _ _ (by omega) (by omega)
      have hcb := csG_b (s := 2 * k) hV (show m < 12 by omega)
      have no : cpG G k m q = 268435456 → ∀ Y : Option xV, Rf (SHL L) 63 3 [some (.inr 142), some (.inr 4), some (.inr 125), some (.inl (k : Int)), some (.inl (q : Int)), some (.inl ((m : Int) + 1)), Y] [] g Q := fun h Y => ih (m + 1) Y g (by omega) hF hj (fun r h9 => by
          by_cases e : r = m
          · subst e; rw [hr r (by omega) (by omega), h]
          · exact hd r (by omega)) (fun r a b => hr r (by omega) b)
      refine R_il fx_63_3 rfl ?_
      refine R_push fx_63_5 ?_
      refine R_icge fx_63_7 (by omega) (fun hc => by omega) (fun hc => ?_)
      refine R_il fx_63_10 rfl ?_
      refine R_il fx_63_12 rfl ?_
      refine R_iceq fx_63_14 (by omega) (fun hc1 => ?_) (fun hc1 => ?_)
      · refine R_push fx_63_41 ?_
        refine R_is fx_63_43 ?_
        refine R_il fx_63_45 rfl ?_
        refine R_push fx_63_47 ?_
        refine R_iceq fx_63_49 (by decide) (fun _ => ?_) (fun h => absurd h (by decide))
        refine R_inc fx_63_75 rfl ?_
        refine R_goto fx_63_78 ?_
        first | exact no (if_neg (fun z => z.2.1 (by omega))) _ | exact no (if_neg (fun z => z.2.2.1 hc2)) _
      · refine R_al fx_63_17 rfl (by omega) ?_
        refine R_push fx_63_18 ?_
        refine R_il fx_63_19 rfl ?_
        refine R_mul fx_63_20 ?_
        refine R_il fx_63_21 rfl ?_
        refine R_cv fx_63_23 rfl rfl rfl rfl kd_142 ?_
        refine C_62 (by omega) (by omega) ?_
        rw [e143]
        refine R_push fx_63_26 ?_
        refine R_iceq fx_63_28 (by omega) (fun hc2 => ?_) (fun hc2 => ?_)
        · refine R_push fx_63_41 ?_
          refine R_is fx_63_43 ?_
          refine R_il fx_63_45 rfl ?_
          refine R_push fx_63_47 ?_
          refine R_iceq fx_63_49 (by decide) (fun _ => ?_) (fun h => absurd h (by decide))
          refine R_inc fx_63_75 rfl ?_
          refine R_goto fx_63_78 ?_
          first | exact no (if_neg (fun z => z.2.1 (by omega))) _ | exact no (if_neg (fun z => z.2.2.1 hc2)) _
        · refine R_al fx_63_31 rfl (by omega) ?_
          refine R_al fx_63_32 rfl (by omega) ?_
          refine R_il fx_63_33 rfl ?_
          refine R_cv fx_63_35 rfl rfl rfl rfl kd_125 ?_
          have hg9 := frG_lt (hcb.resolve_left hc2).2.2.1
          refine C_49 (r := m) (q := q) (k := k) rfl hV hSg (by omega) hg9 hq hgq (fun x hx => by rw [hF _ (by omega)]; exact hA m (by omega) hc2 x hx) (fun x hx => by rw [hF _ (by omega)]; exact hB x hx) ?_
          have hb := pk_b (r := m) (q := q) (k := k) hV (by omega) hg9 hq hgq
          refine R_goto fx_63_38 ?_
          refine R_is fx_63_43 ?_
          refine R_il fx_63_45 rfl ?_
          refine R_push fx_63_47 ?_
          refine R_iceq fx_63_49 (by omega) (fun hc3 => ?_) (fun hc3 => ?_)
          · refine R_inc fx_63_75 rfl ?_
            refine R_goto fx_63_78 ?_
            exact no (if_neg (fun z => z.2.2.2.2 hc3)) _
          · refine R_al fx_63_52 rfl (by omega) ?_
            refine R_gr fx_63_53 kd_142 rfl rr_142_1 ?_
            refine R_il fx_63_56 rfl ?_
            refine R_push fx_63_57 ?_
            refine R_mul fx_63_59 ?_
            refine R_il fx_63_60 rfl ?_
            refine R_add fx_63_62 ?_
            refine R_push fx_63_63 ?_
            refine R_mul fx_63_65 ?_
            refine R_il fx_63_66 rfl ?_
            refine R_add fx_63_68 ?_
            refine R_il fx_63_69 rfl ?_
            refine R_cs fx_63_71 rfl rfl rfl rfl ?_
            obtain ⟨y, hy⟩ := Int.eq_ofNat_of_zero_le (a := pk G m q k) (by omega)
            rw [hy]
            refine C_51 (by omega) ?_
            refine R_ias fx_63_74 kd_144 (by omega) (by rw [ln_144]; omega) (by omega) ?_
            refine R_inc fx_63_75 rfl ?_
            refine R_goto fx_63_78 ?_
            rw [show (((k : Int) * 12 + (m : Int)) * 12 + (q : Int)).toNat = (k * 12 + m) * 12 + q by omega]
            have ec : cpG G k m q = ((y / 32768 : Nat) : Int) := by
              have e9 : cpG G k m q = pk G m q k / 32768 := if_pos ⟨hm, by omega, hc2, hcq, hc3⟩
              rw [e9, hy]; rfl
            refine ih (m + 1) _ _ (by omega) (fun c a => ?_) (fun j h9 => ?_) (fun r h9 => ?_) (fun r a b => ?_)
            · funext y; rw [xup_a a]; exact congrFun (hF c a) y
            · rw [xup_i (h9 m (by omega))]; exact hj j h9
            · by_cases e : r = m
              · subst e; rw [xup_s, ec]
              · rw [xup_i (by omega)]; exact hd r (by omega)
            · rw [xup_i (by omega)]; exact hr r (by omega) b
  refine R_push fx_63_0 ?_
  refine R_is fx_63_1 ?_
  exact loop 12 0 _ f (by omega) (fun _ _ => rfl) (fun _ _ => rfl) (fun r h => absurd h (by omega)) (fun r _ h => h0 r h)
end CC
