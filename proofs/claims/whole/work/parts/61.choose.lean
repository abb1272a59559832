/-! ===== the plan: choose ===== -/
theorem and_two {u r q : Nat} : (u &&& (2 ^ r ||| 2 ^ q) = 0) ↔ (u.testBit r || u.testBit q) = false := by
  constructor
  · intro h
    have h1 : (u &&& (2 ^ r ||| 2 ^ q)).testBit r = false := by rw [h]; exact Nat.zero_testBit r
    have h2 : (u &&& (2 ^ r ||| 2 ^ q)).testBit q = false := by rw [h]; exact Nat.zero_testBit q
    rw [Nat.testBit_and, Nat.testBit_or, Nat.testBit_two_pow, Nat.testBit_two_pow] at h1 h2
    simp at h1 h2
    rw [h1, h2]; rfl
  · intro h
    rw [Bool.or_eq_false_iff] at h
    apply Nat.eq_of_testBit_eq
    intro i
    rw [Nat.testBit_and, Nat.testBit_or, Nat.testBit_two_pow, Nat.testBit_two_pow, Nat.zero_testBit]
    by_cases e1 : r = i
    · subst e1; rw [h.1]; rfl
    · by_cases e2 : q = i
      · subst e2; rw [h.2]; rfl
      · simp [e1, e2]
/-- slots below s are filled, with the set u, and the rest can be filled -/
def Pst (G : Nat → Int) (s u : Nat) : Prop := u < 4096 ∧ sub u (bset (frG G) 12) ∧ wc (wsG G) s = popc u 12 ∧ mn (lev (coG G) s u) ≠ 268435456
section PS
variable {G : Nat → Int}
theorem Pst_slot (hV : VG G) {s u : Nat} (hs : s < 8) (hm : mbG G (s / 2) = false) (h : Pst G s u) : Pst G (s + 1) (oset u (pkS (coG G) s u)) := by
  obtain ⟨h1, h2, h3, h4⟩ := h
  have ho := coG_ok hV
  cases hw : wsG G s with
  | false =>
    have e : pkS (coG G) s u = none := by unfold pkS; rw [show (coG G).wa s = false from hw]; rfl
    rw [e]
    refine ⟨h1, h2, ?_, ?_⟩
    · show wc (wsG G) s + _ = _; rw [hw]; exact h3
    · show mn (lev (coG G) (s + 1) u) ≠ _; rw [← lev_skip ho hs hw]; exact h4
  | true =>
    obtain ⟨r', a, b⟩ := slot_ex ho hs hw hm h4
    obtain ⟨r, er⟩ := ff_ex a b
    obtain ⟨hr, c, _⟩ := ff_spec er
    have e : pkS (coG G) s u = some r := by unfold pkS; rw [show (coG G).wa s = true from hw]; exact er
    rw [e]
    have k := okS_iff.mp c
    have hc := (ho.cs s r hs hr).resolve_left k.2.1
    refine ⟨or_lt h1 hr, sub_or h2 hc.2.2, ?_, k.2.2.1⟩
    show wc (wsG G) s + _ = popc (u ||| 2 ^ r) 12
    rw [hw, popc_or k.1, if_pos hr, h3]; rfl
theorem Pst_pair (hV : VG G) {k u : Nat} (hk : k < 4) (hm : mbG G k = true) (h : Pst G (2 * k) u) : ∃ t, t < 144 ∧ ff (okP (coG G) (cpG G k) k u) 144 = some t ∧ Pst G (2 * k + 2) (u ||| 2 ^ (t / 12) ||| 2 ^ (t % 12)) := by
  obtain ⟨h1, h2, h3, h4⟩ := h
  have ho := coG_ok hV
  obtain ⟨t', a, b⟩ := pair_ex ho hk hm h4
  obtain ⟨t, et⟩ := ff_ex a b
  obtain ⟨ht, c, _⟩ := ff_spec et
  have q := okP_iff.mp c
  have hc := (ho.cp k (t / 12) (t % 12) hk (by omega) (by omega)).resolve_left q.2.1
  have hw := ho.mb k hk hm
  have b2 : (u ||| 2 ^ (t / 12)).testBit (t % 12) = false := by rw [bit_or, q.1.2]; simpa using hc.2.2.2.2.1
  refine ⟨t, ht, et, or_lt (or_lt h1 (by omega)) (by omega), sub_or (sub_or h2 hc.2.2.1) hc.2.2.2.1, ?_, q.2.2.1⟩
  show wc (wsG G) (2 * k) + (if (coG G).wa (2 * k) then 1 else 0) + (if (coG G).wa (2 * k + 1) then 1 else 0) = _
  rw [hw.1, hw.2, popc_or b2, popc_or q.1.1, if_pos (show t / 12 < 12 by omega), if_pos (show t % 12 < 12 by omega), h3]; rfl
end PS
section CS
variable {L : Nat} {f : xF} {Q : List xV → xF → Prop} {G : Nat → Int}
theorem C_74o {u2 t2 c : Int} {u t : Nat} {a b : List Int} (eu : u2 = u) (et : t2 = t) (hu : u < 4096) (ht : t < 4096) (hs : c = 268435456 ∨ (0 ≤ c ∧ c ≤ 1000)) (ha : sml a) (hb : sml b) (h1 : f 145 u = mn a) (h2 : c ≠ 268435456 → f 145 t = mn b) (K1 : okC c (mn b) (mn a) = true → Q [.inl 1] f) (K0 : okC c (mn b) (mn a) = false → Q [.inl 0] f) : Rf (SHL L) 74 0 (xloc 74 [.inr 141, .inl u2, .inl t2, .inl c]) [] f Q := by
  subst eu et
  have ba := mn_b ha
  have bb := mn_b hb
  have eu1 : f 145 (u : Int).toNat = mn a := by rw [Int.toNat_natCast]; exact h1
  have et1 : c ≠ 268435456 → f 145 (t : Int).toNat = mn b := fun h => by rw [Int.toNat_natCast]; exact h2 h
  refine R_il fx_74_0 rfl ?_
  refine R_push fx_74_1 ?_
  refine R_iceq fx_74_3 (by omega) (fun hc => ?_) (fun hc => ?_)
  · refine R_push fx_74_38 ?_
    refine R_ret fx_74_39 (by decide) ?_
    first | exact K1 (decide_eq_true (by omega)) | exact K0 (decide_eq_false (by omega))
  · refine R_al fx_74_6 rfl (by omega) ?_
    refine R_gr fx_74_7 kd_141 rfl rr_141_1 ?_
    refine R_il fx_74_10 rfl ?_
    refine R_ia fx_74_11 (Or.inl kd_145) (by omega) (by rw [ln_145]; omega) (by omega) ?_
    refine R_push fx_74_12 ?_
    have et2 := et1 (by omega)
    refine R_iceq fx_74_14 (by omega) (fun hc2 => ?_) (fun hc2 => ?_)
    · refine R_push fx_74_38 ?_
      refine R_ret fx_74_39 (by decide) ?_
      first | exact K1 (decide_eq_true (by omega)) | exact K0 (decide_eq_false (by omega))
    · refine R_il fx_74_17 rfl ?_
      refine R_al fx_74_18 rfl (by omega) ?_
      refine R_gr fx_74_19 kd_141 rfl rr_141_1 ?_
      refine R_il fx_74_22 rfl ?_
      refine R_ia fx_74_23 (Or.inl kd_145) (by omega) (by rw [ln_145]; omega) (by omega) ?_
      refine R_add fx_74_24 ?_
      refine R_al fx_74_25 rfl (by omega) ?_
      refine R_gr fx_74_26 kd_141 rfl rr_141_1 ?_
      refine R_il fx_74_29 rfl ?_
      refine R_ia fx_74_30 (Or.inl kd_145) (by omega) (by rw [ln_145]; omega) (by omega) ?_
      refine R_icne fx_74_31 (by omega) (fun hc3 => ?_) (fun hc3 => ?_)
      · refine R_push fx_74_38 ?_
        refine R_ret fx_74_39 (by decide) ?_
        first | exact K1 (decide_eq_true (by omega)) | exact K0 (decide_eq_false (by omega))
      · refine R_push fx_74_34 ?_
        refine R_goto fx_74_35 ?_
        refine R_ret fx_74_39 (by decide) ?_
        first | exact K1 (decide_eq_true (by omega)) | exact K0 (decide_eq_false (by omega))
theorem C_75 {u2 s2 : Int} {u s : Nat} (eu : u2 = u) (es : s2 = s) (hV : VG G) (h143 : ∀ s r, s < 8 → r < 12 → f 143 (s * 12 + r) = csG G s r) (h144 : ∀ k r q, k < 4 → r < 12 → q < 12 → f 144 ((k * 12 + r) * 12 + q) = cpG G k r q) (hR : Rows f G 0) (hs : s < 8) (hw : wsG G s = true) (hm : mbG G (s / 2) = false) (hP : Pst G s u) (h148 : f 148 s = -1) (K : ∀ g : xF, (∀ c, c ≠ 148 → g c = f c) → (∀ j, j ≠ s → g 148 j = f 148 j) → g 148 s = oz (pkS (coG G) s u) → Q [.inl ((oset u (pkS (coG G) s u) : Nat) : Int)] g) : Rf (SHL L) 75 0 (xloc 75 [.inr 141, .inl u2, .inl s2]) [] f Q := by
  subst eu es
  have ho := coG_ok hV
  obtain ⟨p1, p2, p3, p4⟩ := hP
  have epk : pkS (coG G) s u = ff (okS (coG G) s u) 12 := by unfold pkS; rw [show (coG G).wa s = true from hw]; rfl
  rw [epk] at K
  have hru := hR u (by omega) p2 s (by omega) p3
  have loop : ∀ (n m : Nat), m + n = 12 → (∀ i, i < m → okS (coG G) s u i = false) → Rf (SHL L) 75 2 [some (.inr 141), some (.inl (u : Int)), some (.inl (s : Int)), some (.inl (m : Int))] [] f Q := by
    intro n
    induction n with
    | zero =>
      intro m hm9 hno
      have hmj : m = 12 := by omega
      subst hmj
      rw [ff_none hno] at K
      refine R_il fx_75_2 rfl ?_
      refine R_push fx_75_3 ?_
      refine R_icge fx_75_5 (by omega) (fun hc => ?_) (fun hc => by omega)
      refine R_il fx_75_57 rfl ?_
      exact R_ret fx_75_58 (Or.inl rfl) (K f (fun _ _ => rfl) (fun _ _ => rfl) h148)
    | succ n ih =>
      intro m hm9 hno
      have hle : u / 2 ^ m ≤ u := Nat.div_le_self _ _
      have hb1 : (u / 2 ^ m &&& 1) ≤ 1 := Nat.and_le_right
      have hb := bit_eq (s := u) (r := m)
      have hp2 := p2b m (by omega)
      have hpw := pw12 (show m < 12 by omega)
      have e143 : f 143 ((s : Int) * 12 + (m : Int)).toNat = csG G s m := by rw [show ((s : Int) * 12 + (m : Int)).toNat = s * 12 + m by omega]; exact h143 s m hs (by omega)
      have hcb := ho.cs s m hs (by omega)
      have hcb2 : csG G s m = 268435456 ∨ (0 ≤ csG G s m ∧ csG G s m ≤ 1000) := hcb.imp id (fun z => ⟨z.1, Int.le_trans z.2.1 (by omega)⟩)
      have no : okS (coG G) s u m = false → Rf (SHL L) 75 2 [some (.inr 141), some (.inl (u : Int)), some (.inl (s : Int)), some (.inl ((m : Int) + 1))] [] f Q := fun h => ih (m + 1) (by omega) (fun i hi => by
        by_cases e : i = m
        · subst e; exact h
        · exact hno i (by omega))
      refine R_il fx_75_2 rfl ?_
      refine R_push fx_75_3 ?_
      refine R_icge fx_75_5 (by omega) (fun hc => by omega) (fun hc => ?_)
      refine R_il fx_75_8 rfl ?_
      refine R_il fx_75_9 rfl ?_
      refine R_bin fx_75_10 (xb_shr (by omega) (by omega)) ?_
      refine R_push fx_75_11 ?_
      refine R_bin fx_75_12 (xb_and (y := 1) (by omega) (by omega)) ?_
      refine R_ifne fx_75_13 (by omega) (fun hc => ?_) (fun hc => ?_)
      · refine R_inc fx_75_51 rfl ?_
        refine R_goto fx_75_54 ?_
        refine no ?_
        have hum := hb.mp (by omega)
        unfold okS
        rw [hum]; rfl
      · refine R_al fx_75_16 rfl (by omega) ?_
        refine R_il fx_75_17 rfl ?_
        refine R_il fx_75_18 rfl ?_
        refine R_push fx_75_19 ?_
        refine R_il fx_75_20 rfl ?_
        refine R_bin fx_75_21 (xb_shl (x := 1) (by omega) (by omega)) ?_
        refine R_bin fx_75_22 (xb_or (by omega) (by omega)) ?_
        refine R_al fx_75_23 rfl (by omega) ?_
        refine R_gr fx_75_24 kd_141 rfl rr_141_0 ?_
        refine R_il fx_75_27 rfl ?_
        refine R_il fx_75_28 rfl ?_
        refine R_cv fx_75_29 rfl rfl rfl rfl kd_142 ?_
        refine C_62 (by omega) (by omega) ?_
        rw [e143, Nat.one_mul]
        refine R_cv fx_75_32 rfl rfl rfl rfl kd_141 ?_
        have hum : u.testBit m = false := by
          cases h9 : u.testBit m with
          | false => rfl
          | true => have := hb.mpr h9; omega
        refine C_74o (a := lev (coG G) s u) (b := lev (coG G) (s + 1) (u ||| 2 ^ m)) rfl rfl p1 (or_lt p1 (by omega)) hcb2 (lev_sml ho (by omega)) (lev_sml ho (by omega)) hru.1 (fun h => ?_) (fun hk => ?_) (fun hk => ?_)
        · have hz := hcb.resolve_left h
          refine (hR _ (by omega) (sub_or p2 hz.2.2) (s + 1) (by omega) ?_).1
          show wc (wsG G) s + _ = _; rw [hw, popc_or hum, if_pos (show m < 12 by omega), p3]; rfl
        · refine R_ifeq fx_75_35 (by decide) (fun h => absurd h (by decide)) (fun _ => ?_)
          refine R_al fx_75_38 rfl (by omega) ?_
          refine R_gr fx_75_39 kd_141 rfl rr_141_4 ?_
          refine R_il fx_75_42 rfl ?_
          refine R_il fx_75_43 rfl ?_
          refine R_ias fx_75_44 kd_148 (by omega) (by rw [ln_148]; omega) (by omega) ?_
          refine R_il fx_75_45 rfl ?_
          refine R_push fx_75_46 ?_
          refine R_il fx_75_47 rfl ?_
          refine R_bin fx_75_48 (xb_shl (x := 1) (by omega) (by omega)) ?_
          refine R_bin fx_75_49 (xb_or (by omega) (by omega)) ?_
          have hok : okS (coG G) s u m = true := by unfold okS; rw [hum]; exact hk
          rw [ff_some hok (by omega) hno] at K
          rw [Nat.one_mul]
          refine R_ret fx_75_50 (Or.inl rfl) (K _ (fun c hc9 => ?_) (fun j hj => ?_) ?_)
          · funext y; rw [xup_a hc9]
          · rw [Int.toNat_natCast, xup_i hj]
          · rw [Int.toNat_natCast, xup_s]; rfl
        · refine R_ifeq fx_75_35 (by decide) (fun _ => ?_) (fun h => absurd h (by decide))
          refine R_inc fx_75_51 rfl ?_
          refine R_goto fx_75_54 ?_
          refine no ?_
          unfold okS
          rw [hum]
          exact hk
  refine R_push fx_75_0 ?_
  refine R_is fx_75_1 ?_
  exact loop 12 0 (by omega) (fun i hi => absurd hi (by omega))
theorem C_73_2 {u k t0 : Nat} (hV : VG G) (h143 : ∀ s r, s < 8 → r < 12 → f 143 (s * 12 + r) = csG G s r) (h144 : ∀ k r q, k < 4 → r < 12 → q < 12 → f 144 ((k * 12 + r) * 12 + q) = cpG G k r q) (hR : Rows f G 0) (hk : k < 4) (hm : mbG G k = true) (hP : Pst G (2 * k) u) (ht0 : ff (okP (coG G) (cpG G k) k u) 144 = some t0) (K : ∀ g : xF, (∀ c, c ≠ 148 → g c = f c) → (∀ j, j ≠ 2 * k → j ≠ 2 * k + 1 → g 148 j = f 148 j) → g 148 (2 * k) = ((t0 / 12 : Nat) : Int) → g 148 (2 * k + 1) = ((t0 % 12 : Nat) : Int) → Q [.inl ((u ||| 2 ^ (t0 / 12) ||| 2 ^ (t0 % 12) : Nat) : Int)] g) {r : Nat} (hr : r < 12) (K2 : ∀ (X Y : Option xV), (∀ i, i < 12 * r + 12 → okP (coG G) (cpG G k) k u i = false) → Rf (SHL L) 73 90 [some (.inr 141), some (.inl (u : Int)), some (.inl (k : Int)), some (.inl (r : Int)), X, Y] [] f Q) : ∀ (n q : Nat) (Y : Option xV), q + n = 12 → (∀ i, i < 12 * r + q → okP (coG G) (cpG G k) k u i = false) → Rf (SHL L) 73 11 [some (.inr 141), some (.inl (u : Int)), some (.inl (k : Int)), some (.inl (r : Int)), some (.inl (q : Int)), Y] [] f Q := by
  have ho := coG_ok hV
  obtain ⟨p1, p2, p3, p4⟩ := hP
  have hru := hR u (by omega) p2 (2 * k) (by omega) p3
  have hp2r := p2b r hr
  have hpwr := pw12 hr
  have hw := ho.mb k hk hm
  intro n
  induction n with
  | zero =>
    intro q Y hq hno
    have hqj : q = 12 := by omega
    subst hqj
    refine R_il fx_73_11 rfl ?_
    refine R_push fx_73_13 ?_
    refine R_icge fx_73_15 (by omega) (fun hc => ?_) (fun hc => by omega)
    exact K2 _ _ hno
  | succ n ih =>
    intro q Y hq hno
    have hp2q := p2b q (by omega)
    have hpwq := pw12 (show q < 12 by omega)
    have hbo : 2 ^ r ||| 2 ^ q < 4096 := or_lt hpwr (by omega)
    have d1 : (12 * r + q) / 12 = r := by omega
    have d2 : (12 * r + q) % 12 = q := by omega
    have e144 : f 144 (((k : Int) * 12 + (r : Int)) * 12 + (q : Int)).toNat = cpG G k r q := by rw [show (((k : Int) * 12 + (r : Int)) * 12 + (q : Int)).toNat = (k * 12 + r) * 12 + q by omega]; exact h144 k r q hk hr (by omega)
    have hcb := ho.cp k r q hk hr (by omega)
    have hcb2 : cpG G k r q = 268435456 ∨ (0 ≤ cpG G k r q ∧ cpG G k r q ≤ 1000) := hcb.imp id (fun z => ⟨z.1, Int.le_trans z.2.1 (by omega)⟩)
    have hal : u &&& (2 ^ r ||| 2 ^ q) < 4096 := Nat.lt_of_le_of_lt Nat.and_le_left p1
    have htw := and_two (u := u) (r := r) (q := q)
    have no : okP (coG G) (cpG G k) k u (12 * r + q) = false → ∀ Y2 : Option xV, Rf (SHL L) 73 11 [some (.inr 141), some (.inl (u : Int)), some (.inl (k : Int)), some (.inl (r : Int)), some (.inl ((q : Int) + 1)), Y2] [] f Q := fun h Y2 => ih (q + 1) Y2 (by omega) (fun i hi => by
      by_cases e : i = 12 * r + q
      · subst e; exact h
      · exact hno i (by omega))
    refine R_il fx_73_11 rfl ?_
    refine R_push fx_73_13 ?_
    refine R_icge fx_73_15 (by omega) (fun hc => by omega) (fun hc => ?_)
    refine R_push fx_73_18 ?_
    refine R_il fx_73_19 rfl ?_
    refine R_bin fx_73_20 (xb_shl (x := 1) (by omega) (by omega)) ?_
    refine R_push fx_73_21 ?_
    refine R_il fx_73_22 rfl ?_
    refine R_bin fx_73_24 (xb_shl (x := 1) (by omega) (by omega)) ?_
    refine R_bin fx_73_25 (xb_or (by omega) (by omega)) ?_
    rw [Nat.one_mul, Nat.one_mul]
    refine R_is fx_73_26 ?_
    refine R_il fx_73_28 rfl ?_
    refine R_il fx_73_29 rfl ?_
    refine R_bin fx_73_31 (xb_and (by omega) (by omega)) ?_
    refine R_ifne fx_73_32 (by omega) (fun hc => ?_) (fun hc => ?_)
    · refine R_inc fx_73_84 rfl ?_
      refine R_goto fx_73_87 ?_
      refine no ?_ _
      have hub : (u.testBit r || u.testBit q) = true := by
        cases h9 : (u.testBit r || u.testBit q) with
        | true => rfl
        | false => have := htw.mpr h9; omega
      unfold okP
      rw [d1, d2, hub]; rfl
    · refine R_al fx_73_35 rfl (by omega) ?_
      refine R_il fx_73_36 rfl ?_
      refine R_il fx_73_37 rfl ?_
      refine R_il fx_73_38 rfl ?_
      refine R_bin fx_73_40 (xb_or (by omega) (by omega)) ?_
      refine R_al fx_73_41 rfl (by omega) ?_
      refine R_gr fx_73_42 kd_141 rfl rr_141_0 ?_
      refine R_il fx_73_45 rfl ?_
      refine R_il fx_73_46 rfl ?_
      refine R_il fx_73_47 rfl ?_
      refine R_cv fx_73_49 rfl rfl rfl rfl kd_142 ?_
      refine C_70 (by omega) (by omega) (by omega) ?_
      rw [e144]
      refine R_cv fx_73_52 rfl rfl rfl rfl kd_141 ?_
      have hub := htw.mp (by omega)
      have hub2 := hub
      rw [Bool.or_eq_false_iff] at hub2
      rw [← Nat.or_assoc]
      refine C_74o (a := lev (coG G) (2 * k) u) (b := lev (coG G) (2 * k + 2) (u ||| 2 ^ r ||| 2 ^ q)) rfl rfl p1 (or_lt (or_lt p1 hr) (by omega)) hcb2 (lev_sml ho (by omega)) (lev_sml ho (by omega)) hru.1 (fun h => ?_) (fun hk9 => ?_) (fun hk9 => ?_)
      · have hz := hcb.resolve_left h
        have b2 : (u ||| 2 ^ r).testBit q = false := by rw [bit_or, hub2.2]; simpa using hz.2.2.2.2.1
        refine (hR _ (by omega) (sub_or (sub_or p2 hz.2.2.1) hz.2.2.2.1) (2 * k + 2) (by omega) ?_).1
        show wc (wsG G) (2 * k) + (if (coG G).wa (2 * k) then 1 else 0) + (if (coG G).wa (2 * k + 1) then 1 else 0) = _
        rw [hw.1, hw.2, popc_or b2, popc_or hub2.1, if_pos hr, if_pos (show q < 12 by omega), p3]; rfl
      · refine R_ifeq fx_73_55 (by decide) (fun h => absurd h (by decide)) (fun _ => ?_)
        refine R_al fx_73_58 rfl (by omega) ?_
        refine R_gr fx_73_59 kd_141 rfl rr_141_4 ?_
        refine R_push fx_73_62 ?_
        refine R_il fx_73_63 rfl ?_
        refine R_mul fx_73_64 ?_
        refine R_il fx_73_65 rfl ?_
        refine R_ias fx_73_66 kd_148 (by omega) (by rw [ln_148]; omega) (by omega) ?_
        refine R_al fx_73_67 rfl (by omega) ?_
        refine R_gr fx_73_68 kd_141 rfl rr_141_4 ?_
        refine R_push fx_73_71 ?_
        refine R_il fx_73_72 rfl ?_
        refine R_mul fx_73_73 ?_
        refine R_push fx_73_74 ?_
        refine R_add fx_73_75 ?_
        refine R_il fx_73_76 rfl ?_
        refine R_ias fx_73_78 kd_148 (by omega) (by rw [ln_148]; omega) (by omega) ?_
        refine R_il fx_73_79 rfl ?_
        refine R_il fx_73_80 rfl ?_
        refine R_bin fx_73_82 (xb_or (by omega) (by omega)) ?_
        have hok : okP (coG G) (cpG G k) k u (12 * r + q) = true := by unfold okP; rw [d1, d2, hub]; exact hk9
        have ht1 := ff_some (n := 144) hok (by omega) hno
        rw [ht0] at ht1
        have ht2 : t0 = 12 * r + q := Option.some.inj ht1
        subst ht2
        rw [d1, d2] at K
        rw [← Nat.or_assoc]
        refine R_ret fx_73_83 (Or.inl rfl) (K _ (fun c hc9 => ?_) (fun j hj hj2 => ?_) ?_ ?_)
        · funext y; rw [xup_a hc9, xup_a hc9]
        · rw [show (2 * (k : Int)).toNat = 2 * k by omega, show (2 * (k : Int) + 1).toNat = 2 * k + 1 by omega, xup_i hj2, xup_i hj]
        · rw [show (2 * (k : Int)).toNat = 2 * k by omega, show (2 * (k : Int) + 1).toNat = 2 * k + 1 by omega, xup_i (by omega), xup_s]
        · rw [show (2 * (k : Int) + 1).toNat = 2 * k + 1 by omega, xup_s]
      · refine R_ifeq fx_73_55 (by decide) (fun _ => ?_) (fun h => absurd h (by decide))
        refine R_inc fx_73_84 rfl ?_
        refine R_goto fx_73_87 ?_
        refine no ?_ _
        unfold okP
        rw [d1, d2, hub]
        exact hk9
theorem C_73 {u2 k2 : Int} {u k t0 : Nat} (hV : VG G) (h143 : ∀ s r, s < 8 → r < 12 → f 143 (s * 12 + r) = csG G s r) (h144 : ∀ k r q, k < 4 → r < 12 → q < 12 → f 144 ((k * 12 + r) * 12 + q) = cpG G k r q) (hR : Rows f G 0) (hk : k < 4) (hm : mbG G k = true) (hP : Pst G (2 * k) u) (ht0 : ff (okP (coG G) (cpG G k) k u) 144 = some t0) (eu : u2 = u) (ek : k2 = k) (K : ∀ g : xF, (∀ c, c ≠ 148 → g c = f c) → (∀ j, j ≠ 2 * k → j ≠ 2 * k + 1 → g 148 j = f 148 j) → g 148 (2 * k) = ((t0 / 12 : Nat) : Int) → g 148 (2 * k + 1) = ((t0 % 12 : Nat) : Int) → Q [.inl ((u ||| 2 ^ (t0 / 12) ||| 2 ^ (t0 % 12) : Nat) : Int)] g) : Rf (SHL L) 73 0 (xloc 73 [.inr 141, .inl u2, .inl k2]) [] f Q := by
  subst eu ek
  have loop : ∀ (n r : Nat) (X Y : Option xV), r + n = 12 → (∀ i, i < 12 * r → okP (coG G) (cpG G k) k u i = false) → Rf (SHL L) 73 2 [some (.inr 141), some (.inl (u : Int)), some (.inl (k : Int)), some (.inl (r : Int)), X, Y] [] f Q := by
    intro n
    induction n with
    | zero =>
      intro r X Y hr hno
      have hrj : r = 12 := by omega
      subst hrj
      rw [ff_none hno] at ht0
      exact absurd ht0 (by simp)
    | succ n ih =>
      intro r X Y hr hno
      refine R_il fx_73_2 rfl ?_
      refine R_push fx_73_3 ?_
      refine R_icge fx_73_5 (by omega) (fun hc => by omega) (fun hc => ?_)
      refine R_push fx_73_8 ?_
      refine R_is fx_73_9 ?_
      refine C_73_2 hV h143 h144 hR hk hm hP ht0 K (r := r) (by omega) (fun X2 Y2 hno2 => ?_) 12 0 _ (by omega) hno
      refine R_inc fx_73_90 rfl ?_
      refine R_goto fx_73_93 ?_
      exact ih (r + 1) X2 Y2 (by omega) hno2
  refine R_push fx_73_0 ?_
  refine R_is fx_73_1 ?_
  exact loop 12 0 _ _ (by omega) (fun i hi => absurd hi (by omega))
end CS
