/-! ===== what is left out: withReed, addPair ===== -/
section LR
variable {G : Nat → Int} {P : Nat → Nat → Nat → Prop} {k : Nat}
def sh (P : Nat → Nat → Nat → Prop) (u : Nat) (w : Int) (v : Int) : Prop := ∃ x, WV P u x ∧ v = x + w
def W1 (G : Nat → Int) (P : Nat → Nat → Nat → Prop) (k o r : Nat) (v : Int) : Prop := csG G (2 * k) r ≠ 268435456 ∧ sh P o (256 + ((2 ^ (2 * k + 1) : Nat) : Int)) v
def W2 (G : Nat → Int) (P : Nat → Nat → Nat → Prop) (k o r : Nat) (v : Int) : Prop := csG G (2 * k + 1) r ≠ 268435456 ∧ sh P o (256 + ((2 ^ (2 * k) : Nat) : Int)) v
def W3 (G : Nat → Int) (P : Nat → Nat → Nat → Prop) (k o r m : Nat) (v : Int) : Prop := ∃ q, q < m ∧ o.testBit q = true ∧ cpG G k r q ≠ 268435456 ∧ WV P (o ^^^ 2 ^ q) v
def WR (G : Nat → Int) (P : Nat → Nat → Nat → Prop) (k o r m : Nat) (v : Int) : Prop := (W1 G P k o r v ∨ W2 G P k o r v) ∨ W3 G P k o r m v
def AP (G : Nat → Int) (P : Nat → Nat → Nat → Prop) (k u m : Nat) (v : Int) : Prop := sh P u (256 + ((2 ^ (2 * k) : Nat) : Int) + (256 + ((2 ^ (2 * k + 1) : Nat) : Int))) v ∨ ∃ r, r < m ∧ u.testBit r = true ∧ WR G P k (u ^^^ 2 ^ r) r 12 v
theorem sh_b (hP : BP G P (2 * k)) (hk : k < 4) {u s : Nat} {v w : Int} (hw : 0 ≤ w ∧ w ≤ 2000) (h : sh P u w v) : v < 268435456 := by
  obtain ⟨x, h, rfl⟩ := h
  have := WV_b hP (by omega) h
  omega
theorem pw_k (hk : k < 4) : (0 : Int) ≤ ((2 ^ (2 * k) : Nat) : Int) ∧ ((2 ^ (2 * k) : Nat) : Int) ≤ 256 ∧ (0 : Int) ≤ ((2 ^ (2 * k + 1) : Nat) : Int) ∧ ((2 ^ (2 * k + 1) : Nat) : Int) ≤ 256 := by
  have a := two_s (2 * k) (by omega)
  have b := two_s (2 * k + 1) (by omega)
  exact ⟨Int.natCast_nonneg _, Int.ofNat_le.mpr a, Int.natCast_nonneg _, Int.ofNat_le.mpr b⟩
theorem WR_b (hP : BP G P (2 * k)) (hk : k < 4) {o r m : Nat} {v : Int} (h : WR G P k o r m v) : v < 268435456 := by
  have hp := pw_k hk
  rcases h with (⟨_, h⟩ | ⟨_, h⟩) | ⟨q, _, _, _, h⟩
  · exact sh_b (s := 0) hP hk (by omega) h
  · exact sh_b (s := 0) hP hk (by omega) h
  · have := WV_b hP (by omega) h; omega
theorem AP_b (hP : BP G P (2 * k)) (hk : k < 4) {u m : Nat} {v : Int} (h : AP G P k u m v) : v < 268435456 := by
  have hp := pw_k hk
  rcases h with h | ⟨r, _, _, h⟩
  · exact sh_b (s := 0) hP hk (by omega) h
  · exact WR_b hP hk h
theorem AP_12 (hV : VG G) (hm : mbG G k = true) {u : Nat} (v : Int) : AP G P k u 12 v ↔ WV (cmp P (KSt G k)) u v := by
  have hd := of_decide_eq_true (show decide _ = true from hm)
  have w1 : wsG G (2 * k) = true := decide_eq_true hd.2.1
  have w2 : wsG G (2 * k + 1) = true := decide_eq_true hd.2.2
  have e1 : nw G (2 * k) = 1 := by unfold nw; rw [w1]; rfl
  have e2 : mw G (2 * k) = 2 ^ (2 * k) := by unfold mw; rw [w1]; rfl
  have e3 : nw G (2 * k + 1) = 1 := by unfold nw; rw [w2]; rfl
  have e4 : mw G (2 * k + 1) = 2 ^ (2 * k + 1) := by unfold mw; rw [w2]; rfl
  constructor
  · rintro (⟨x, ⟨n, m, h1, rfl⟩, rfl⟩ | ⟨r, hr, hb, (⟨hc, x, ⟨n, m, h1, rfl⟩, rfl⟩ | ⟨hc, x, ⟨n, m, h1, rfl⟩, rfl⟩) | ⟨q, hq, hb2, hc, n, m, h1, rfl⟩⟩)
    · refine ⟨n + 2, m + (2 ^ (2 * k) + 2 ^ (2 * k + 1)), ⟨u, n, m, 2, _, h1, Or.inl ⟨rfl, by omega, by rw [e2, e4]⟩, rfl, rfl⟩, ?_⟩
      rw [Int.natCast_add, Int.natCast_add, Int.natCast_add]; omega
    · refine ⟨n + 1, m + 2 ^ (2 * k + 1), ⟨u ^^^ 2 ^ r, n, m, 1, _, h1, Or.inr (Or.inl ⟨w1, by omega, e4.symm, r, hr, xor_bit hb, hc, (xor_or hb).symm⟩), rfl, rfl⟩, ?_⟩
      rw [Int.natCast_add, Int.natCast_add]; omega
    · refine ⟨n + 1, m + 2 ^ (2 * k), ⟨u ^^^ 2 ^ r, n, m, 1, _, h1, Or.inr (Or.inr (Or.inl ⟨w2, by omega, e2.symm, r, hr, xor_bit hb, hc, (xor_or hb).symm⟩)), rfl, rfl⟩, ?_⟩
      rw [Int.natCast_add, Int.natCast_add]; omega
    · have hne := ((cpG_b (k := k) hV hr hq).resolve_left hc).2.2.2.1
      have b1 : (u ^^^ 2 ^ r ^^^ 2 ^ q).testBit r = false := by rw [Nat.testBit_xor, xor_bit hb, Nat.testBit_two_pow]; simp; exact fun z => hne z.symm
      refine ⟨n, m, ⟨u ^^^ 2 ^ r ^^^ 2 ^ q, n, m, 0, 0, h1, Or.inr (Or.inr (Or.inr ⟨w1, w2, rfl, rfl, r, q, hr, hq, b1, xor_bit hb2, by rw [cb_mb hm]; exact hc, ?_⟩)), rfl, rfl⟩, rfl⟩
      rw [Nat.or_assoc, Nat.or_comm (2 ^ r), ← Nat.or_assoc, xor_or hb2, xor_or hb]
  · rintro ⟨n, m, ⟨u1, n1, m1, n2, m2, h1, h2, rfl, rfl⟩, rfl⟩
    rcases h2 with ⟨rfl, rfl, rfl⟩ | ⟨_, rfl, rfl, r, hr, hb, hc, rfl⟩ | ⟨_, rfl, rfl, r, hr, hb, hc, rfl⟩ | ⟨_, _, rfl, rfl, r, q, hr, hq, hb, hb2, hc, rfl⟩
    · refine Or.inl ⟨_, ⟨n1, m1, h1, rfl⟩, ?_⟩
      rw [e1, e2, e3, e4, Int.natCast_add, Int.natCast_add, Int.natCast_add]; omega
    · refine Or.inr ⟨r, hr, by rw [bit_or]; simp, Or.inl (Or.inl ⟨hc, _, ⟨n1, m1, by rw [or_xor hb]; exact h1, rfl⟩, ?_⟩)⟩
      rw [e3, e4, Int.natCast_add, Int.natCast_add]; omega
    · refine Or.inr ⟨r, hr, by rw [bit_or]; simp, Or.inl (Or.inr ⟨hc, _, ⟨n1, m1, by rw [or_xor hb]; exact h1, rfl⟩, ?_⟩)⟩
      rw [e1, e2, Int.natCast_add, Int.natCast_add]; omega
    · rw [cb_mb hm] at hc
      have hne := ((cpG_b (k := k) hV hr hq).resolve_left hc).2.2.2.1
      have b1 : (u1 ||| 2 ^ q).testBit r = false := by rw [bit_or, hb]; simp; exact fun z => hne z.symm
      have e9 : (u1 ||| 2 ^ r ||| 2 ^ q) ^^^ 2 ^ r = u1 ||| 2 ^ q := by rw [Nat.or_assoc, Nat.or_comm (2 ^ r), ← Nat.or_assoc, or_xor b1]
      refine Or.inr ⟨r, hr, by rw [bit_or, bit_or]; simp, Or.inr ⟨q, hq, by rw [e9, bit_or]; simp, hc, n1, m1, by rw [e9, or_xor hb2]; exact h1, by omega⟩⟩
theorem W3_no {o r m : Nat} (h : o.testBit m = false ∨ cpG G k r m = 268435456) (v : Int) : WR G P k o r m v ↔ WR G P k o r (m + 1) v := by
  constructor
  · rintro (a | ⟨q, hq, a⟩)
    · exact Or.inl a
    · exact Or.inr ⟨q, by omega, a⟩
  · rintro (a | ⟨q, hq, a, b, c⟩)
    · exact Or.inl a
    · by_cases e : q = m
      · subst e
        rcases h with h | h
        · rw [h] at a; exact absurd a (by decide)
        · exact absurd h b
      · exact Or.inr ⟨q, by omega, a, b, c⟩
theorem W3_yes {o r m : Nat} (h : o.testBit m = true) (hc : cpG G k r m ≠ 268435456) (v : Int) : WR G P k o r (m + 1) v ↔ WR G P k o r m v ∨ WV P (o ^^^ 2 ^ m) v := by
  constructor
  · rintro (a | ⟨q, hq, a, b, c⟩)
    · exact Or.inl (Or.inl a)
    · by_cases e : q = m
      · subst e; exact Or.inr c
      · exact Or.inl (Or.inr ⟨q, by omega, a, b, c⟩)
  · rintro ((a | ⟨q, hq, a⟩) | a)
    · exact Or.inl a
    · exact Or.inr ⟨q, by omega, a⟩
    · exact Or.inr ⟨m, by omega, h, hc, a⟩
theorem AP_no {u m : Nat} (h : u.testBit m = false) (v : Int) : AP G P k u m v ↔ AP G P k u (m + 1) v := by
  constructor
  · rintro (a | ⟨r, hr, a⟩)
    · exact Or.inl a
    · exact Or.inr ⟨r, by omega, a⟩
  · rintro (a | ⟨r, hr, a, b⟩)
    · exact Or.inl a
    · by_cases e : r = m
      · subst e; rw [h] at a; exact absurd a (by decide)
      · exact Or.inr ⟨r, by omega, a, b⟩
theorem AP_yes {u m : Nat} (h : u.testBit m = true) (v : Int) : AP G P k u (m + 1) v ↔ AP G P k u m v ∨ WR G P k (u ^^^ 2 ^ m) m 12 v := by
  constructor
  · rintro (a | ⟨r, hr, a, b⟩)
    · exact Or.inl (Or.inl a)
    · by_cases e : r = m
      · subst e; exact Or.inr b
      · exact Or.inl (Or.inr ⟨r, by omega, a, b⟩)
  · rintro ((a | ⟨r, hr, a⟩) | a)
    · exact Or.inl a
    · exact Or.inr ⟨r, by omega, a⟩
    · exact Or.inr ⟨m, by omega, h, a⟩
end LR
section SD
variable {L : Nat} {f : xF} {Q : List xV → xF → Prop} {G : Nat → Int} {P : Nat → Nat → Nat → Prop}
theorem C_87 {o2 k2 r2 : Int} {o k r : Nat} (eo : o2 = o) (ek : k2 = k) (er : r2 = r) (hV : VG G) (hP : BP G P (2 * k)) (hk : k < 4) (hr : r < 12) (ho : o < 4096) (h143 : ∀ s r, s < 8 → r < 12 → f 143 (s * 12 + r) = csG G s r) (h144 : ∀ k r q, k < 4 → r < 12 → q < 12 → f 144 ((k * 12 + r) * 12 + q) = cpG G k r q) (hL : ∀ v, v ≤ o → Lst (WV P v) 268435456 (f 145 v)) (K : ∀ a : Int, xok a → Lge (WR G P k o r 12) a → Q [.inl a] f) : Rf (SHL L) 87 0 (xloc 87 [.inr 142, .inr 145, .inl o2, .inl k2, .inl r2]) [] f Q := by
  subst eo ek er
  have hp := pw_k hk
  have hb0 : ∀ v, v ≤ o → f 145 v = 268435456 ∨ (0 ≤ f 145 v ∧ f 145 v ≤ 3000) := fun v hv => (hL v hv).far_or.imp id (fun z => WV_b hP (by omega) z)
  have hbo := hb0 o (by omega)
  have eo : f 145 (o : Int).toNat = f 145 o := by rw [Int.toNat_natCast]
  have loop : ∀ (n m : Nat) (a : Int), m + n = 12 → (0 ≤ a ∧ a ≤ 300000000) → Lge (WR G P k o r m) a → Rf (SHL L) 87 73 [some (.inr 142), some (.inr 145), some (.inl (o : Int)), some (.inl (k : Int)), some (.inl (r : Int)), some (.inl a), some (.inl (m : Int))] [] f Q := by
    intro n
    induction n with
    | zero =>
      intro m a hm ha hA
      have hmj : m = 12 := by omega
      subst hmj
      refine R_il fx_87_73 rfl ?_
      refine R_push fx_87_75 ?_
      refine R_icge fx_87_77 (by omega) (fun hc => ?_) (fun hc => by omega)
      refine R_il fx_87_125 rfl ?_
      exact R_ret fx_87_127 (Or.inl rfl) (K a (by omega) hA)
    | succ n ih =>
      intro m a hm ha hA
      have hle : o / 2 ^ m ≤ o := Nat.div_le_self _ _
      have hb1 : (o / 2 ^ m &&& 1) ≤ 1 := Nat.and_le_right
      have hb := bit_eq (s := o) (r := m)
      have hp2 := p2b m (by omega)
      have hpw := pw12 (show m < 12 by omega)
      have e144 : f 144 (((k : Int) * 12 + (r : Int)) * 12 + (m : Int)).toNat = cpG G k r m := by rw [show (((k : Int) * 12 + (r : Int)) * 12 + (m : Int)).toNat = (k * 12 + r) * 12 + m by omega]; exact h144 k r m hk hr (by omega)
      have hcb := cpG_b (k := k) hV hr (show m < 12 by omega)
      have hxl := xor_lt ho (show m < 12 by omega)
      refine R_il fx_87_73 rfl ?_
      refine R_push fx_87_75 ?_
      refine R_icge fx_87_77 (by omega) (fun hc => by omega) (fun hc => ?_)
      refine R_il fx_87_80 rfl ?_
      refine R_il fx_87_81 rfl ?_
      refine R_bin fx_87_83 (xb_shr (by omega) (by omega)) ?_
      refine R_push fx_87_84 ?_
      refine R_bin fx_87_85 (xb_and (y := 1) (by omega) (by omega)) ?_
      refine R_push fx_87_86 ?_
      refine R_icne fx_87_87 (by omega) (fun hc => ?_) (fun hc => ?_)
      · refine R_inc fx_87_119 rfl ?_
        refine R_goto fx_87_122 ?_
        exact ih (m + 1) a (by omega) ha (hA.congr (W3_no (Or.inl (by cases h9 : o.testBit m with
          | false => rfl
          | true => exact absurd (hb.mpr h9) hc))))
      · refine R_al fx_87_90 rfl (by omega) ?_
        refine R_il fx_87_91 rfl ?_
        refine R_il fx_87_92 rfl ?_
        refine R_il fx_87_94 rfl ?_
        refine R_cv fx_87_96 rfl rfl rfl rfl kd_142 ?_
        refine C_70 (by omega) (by omega) (by omega) ?_
        rw [e144]
        refine R_push fx_87_99 ?_
        refine R_iceq fx_87_101 (by omega) (fun hc2 => ?_) (fun hc2 => ?_)
        · refine R_inc fx_87_119 rfl ?_
          refine R_goto fx_87_122 ?_
          exact ih (m + 1) a (by omega) ha (hA.congr (W3_no (Or.inr hc2)))
        · refine R_il fx_87_104 rfl ?_
          refine R_al fx_87_106 rfl (by omega) ?_
          refine R_il fx_87_107 rfl ?_
          refine R_push fx_87_108 ?_
          refine R_il fx_87_109 rfl ?_
          refine R_bin fx_87_111 (xb_shl (x := 1) (by omega) (by omega)) ?_
          refine R_bin fx_87_112 (xb_xor (by omega) (by omega)) ?_
          rw [Nat.one_mul]
          refine R_ia fx_87_113 (Or.inl kd_145) (by omega) (by rw [ln_145]; omega) (by omega) ?_
          have hum := hb.mp hc
          have hlt := xor_ltu hum
          have hLx := hL _ (Nat.le_of_lt hlt)
          have hLb := hb0 _ (Nat.le_of_lt hlt)
          have hLe : f 145 ((o ^^^ 2 ^ m : Nat) : Int).toNat = f 145 (o ^^^ 2 ^ m) := by rw [Int.toNat_natCast]
          refine R_min fx_87_114 (by omega) (by omega) ⟨by decide, by decide, Nat.le_of_ble_eq_true rfl⟩ ?_
          rw [hLe]
          refine R_is fx_87_117 ?_
          refine R_inc fx_87_119 rfl ?_
          refine R_goto fx_87_122 ?_
          refine ih (m + 1) _ (by omega) (by split <;> omega) (hA.join hLx.ge (fun k hk9 => WR_b hP hk hk9) (fun k hk9 => by have := WV_b hP (by omega) hk9; omega) (W3_yes hum hc2))
  have e1 : f 143 (2 * (k : Int) * 12 + (r : Int)).toNat = csG G (2 * k) r := by rw [show (2 * (k : Int) * 12 + (r : Int)).toNat = (2 * k) * 12 + r by omega]; exact h143 _ _ (by omega) hr
  have e2 : f 143 ((2 * (k : Int) + 1) * 12 + (r : Int)).toNat = csG G (2 * k + 1) r := by rw [show ((2 * (k : Int) + 1) * 12 + (r : Int)).toNat = (2 * k + 1) * 12 + r by omega]; exact h143 _ _ (by omega) hr
  have c1 := csG_b (s := 2 * k) hV hr
  have c2 := csG_b (s := 2 * k + 1) hV hr
  have hLo := hL o (by omega)
  have s1 := hLo.shift (w := 256 + ((2 ^ (2 * k + 1) : Nat) : Int)) (by omega)
  have s2 := hLo.shift (w := 256 + ((2 ^ (2 * k) : Nat) : Int)) (by omega)
  have b1 : ∀ v, sh P o (256 + ((2 ^ (2 * k + 1) : Nat) : Int)) v → v < 268435456 := fun v hv => sh_b (s := 0) hP hk (by omega) hv
  have b2 : ∀ v, sh P o (256 + ((2 ^ (2 * k) : Nat) : Int)) v → v < 268435456 := fun v hv => sh_b (s := 0) hP hk (by omega) hv
  have z0 : Lge (fun _ => False) 268435456 := Or.inl ⟨by omega, fun _ h => h⟩
  have h0 : ∀ v, WR G P k o r 0 v ↔ W1 G P k o r v ∨ W2 G P k o r v := fun v => ⟨fun z => z.elim id (fun ⟨q, hq, _⟩ => absurd hq (by omega)), Or.inl⟩
  refine R_push fx_87_0 ?_
  refine R_is fx_87_2 ?_
  refine R_al fx_87_4 rfl (by omega) ?_
  refine R_push fx_87_5 ?_
  refine R_il fx_87_6 rfl ?_
  refine R_mul fx_87_7 ?_
  refine R_il fx_87_8 rfl ?_
  refine R_cv fx_87_10 rfl rfl rfl rfl kd_142 ?_
  refine C_62 (by omega) (by omega) ?_
  rw [e1]
  refine R_push fx_87_13 ?_
  refine R_iceq fx_87_15 (by omega) (fun hc1 => ?_) (fun hc1 => ?_)
  · refine R_al fx_87_37 rfl (by omega) ?_
    refine R_push fx_87_38 ?_
    refine R_il fx_87_39 rfl ?_
    refine R_mul fx_87_40 ?_
    refine R_push fx_87_41 ?_
    refine R_add fx_87_42 ?_
    refine R_il fx_87_43 rfl ?_
    refine R_cv fx_87_45 rfl rfl rfl rfl kd_142 ?_
    refine C_62 (by omega) (by omega) ?_
    rw [e2]
    refine R_push fx_87_48 ?_
    refine R_iceq fx_87_50 (by omega) (fun hc2 => ?_) (fun hc2 => ?_)
    · refine R_push fx_87_70 ?_
      refine R_is fx_87_71 ?_
      refine loop 12 0 _ (by omega) (by omega) (z0.congr (fun v => ⟨fun h => h.elim, fun z => ((h0 v).mp z).elim (fun y => y.1 hc1) (fun y => y.1 hc2)⟩))
    · refine R_il fx_87_53 rfl ?_
      refine R_al fx_87_55 rfl (by omega) ?_
      refine R_il fx_87_56 rfl ?_
      refine R_ia fx_87_57 (Or.inl kd_145) (by omega) (by rw [ln_145]; omega) (by omega) ?_
      refine R_push fx_87_58 ?_
      refine R_il fx_87_59 rfl ?_
      refine R_mul fx_87_60 ?_
      refine R_cs fx_87_61 rfl rfl rfl rfl ?_
      rw [show 2 * (k : Int) = ((2 * k : Nat) : Int) by omega]
      refine C_86 (by omega) ?_
      rw [Nat.one_mul, show ((2 * k : Nat) : Int) = 2 * (k : Int) by omega]
      refine R_add fx_87_64 ?_
      rw [eo]
      refine R_min fx_87_65 (by first | omega | (split <;> omega)) (by omega) ⟨by decide, by decide, Nat.le_of_ble_eq_true rfl⟩ ?_
      refine R_is fx_87_68 ?_
      refine R_push fx_87_70 ?_
      refine R_is fx_87_71 ?_
      refine loop 12 0 _ (by omega) (by split <;> omega) ((z0.join s2 (fun _ h => h.elim) b2 (R := W2 G P k o r) (fun v => ⟨fun z => Or.inr z.2, fun z => ⟨hc2, z.elim (fun h => h.elim) id⟩⟩)).congr (fun v => ⟨fun z => (h0 v).mpr (Or.inr z), fun z => ((h0 v).mp z).elim (fun y => absurd hc1 y.1) id⟩))
  · refine R_il fx_87_18 rfl ?_
    refine R_al fx_87_20 rfl (by omega) ?_
    refine R_il fx_87_21 rfl ?_
    refine R_ia fx_87_22 (Or.inl kd_145) (by omega) (by rw [ln_145]; omega) (by omega) ?_
    refine R_push fx_87_23 ?_
    refine R_il fx_87_24 rfl ?_
    refine R_mul fx_87_25 ?_
    refine R_push fx_87_26 ?_
    refine R_add fx_87_27 ?_
    refine R_cs fx_87_28 rfl rfl rfl rfl ?_
    rw [show 2 * (k : Int) + 1 = ((2 * k + 1 : Nat) : Int) by omega]
    refine C_86 (by omega) ?_
    rw [Nat.one_mul, show ((2 * k + 1 : Nat) : Int) = 2 * (k : Int) + 1 by omega]
    refine R_add fx_87_31 ?_
    rw [eo]
    refine R_min fx_87_32 (by omega) (by omega) ⟨by decide, by decide, Nat.le_of_ble_eq_true rfl⟩ ?_
    refine R_is fx_87_35 ?_
    refine R_al fx_87_37 rfl (by omega) ?_
    refine R_push fx_87_38 ?_
    refine R_il fx_87_39 rfl ?_
    refine R_mul fx_87_40 ?_
    refine R_push fx_87_41 ?_
    refine R_add fx_87_42 ?_
    refine R_il fx_87_43 rfl ?_
    refine R_cv fx_87_45 rfl rfl rfl rfl kd_142 ?_
    refine C_62 (by omega) (by omega) ?_
    rw [e2]
    refine R_push fx_87_48 ?_
    refine R_iceq fx_87_50 (by omega) (fun hc2 => ?_) (fun hc2 => ?_)
    · refine R_push fx_87_70 ?_
      refine R_is fx_87_71 ?_
      refine loop 12 0 _ (by omega) (by split <;> omega) ((z0.join s1 (fun _ h => h.elim) b1 (R := W1 G P k o r) (fun v => ⟨fun z => Or.inr z.2, fun z => ⟨hc1, z.elim (fun h => h.elim) id⟩⟩)).congr (fun v => ⟨fun z => (h0 v).mpr (Or.inl z), fun z => ((h0 v).mp z).elim id (fun y => absurd hc2 y.1)⟩))
    · refine R_il fx_87_53 rfl ?_
      refine R_al fx_87_55 rfl (by omega) ?_
      refine R_il fx_87_56 rfl ?_
      refine R_ia fx_87_57 (Or.inl kd_145) (by omega) (by rw [ln_145]; omega) (by omega) ?_
      refine R_push fx_87_58 ?_
      refine R_il fx_87_59 rfl ?_
      refine R_mul fx_87_60 ?_
      refine R_cs fx_87_61 rfl rfl rfl rfl ?_
      rw [show 2 * (k : Int) = ((2 * k : Nat) : Int) by omega]
      refine C_86 (by omega) ?_
      rw [Nat.one_mul, show ((2 * k : Nat) : Int) = 2 * (k : Int) by omega]
      refine R_add fx_87_64 ?_
      rw [eo]
      refine R_min fx_87_65 (by first | omega | (split <;> omega)) (by omega) ⟨by decide, by decide, Nat.le_of_ble_eq_true rfl⟩ ?_
      refine R_is fx_87_68 ?_
      refine R_push fx_87_70 ?_
      refine R_is fx_87_71 ?_
      refine loop 12 0 _ (by omega) (by repeat (first | omega | split)) (((z0.join s1 (fun _ h => h.elim) b1 (R := W1 G P k o r) (fun v => ⟨fun z => Or.inr z.2, fun z => ⟨hc1, z.elim (fun h => h.elim) id⟩⟩)).join s2 (fun v h => b1 v h.2) b2 (R := fun v => W1 G P k o r v ∨ W2 G P k o r v) (fun v => ⟨fun z => z.imp id (fun y => y.2), fun z => z.imp id (fun y => ⟨hc2, y⟩)⟩)).congr (fun v => (h0 v).symm))
end SD
