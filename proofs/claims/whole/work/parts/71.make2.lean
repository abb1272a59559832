/-! ===== make: setPair, carryOut, make ===== -/
def Hid (p : Prop) : Prop := p
theorem pk_use2 {G : Nat → Int} (hV : VG G) {k r q : Nat} (hr : r < 12) (hq : q < 12) (hc : cpG G k r q ≠ 268435456) : ∃ (P : Nat) (i1 j1 i2 j2 : Int), pk G r q k = P ∧ P < 3000001 ∧ Hid (((P / 1024 % 32 : Nat) : Int) = i1) ∧ Hid (((P / 32 % 32 : Nat) : Int) = j1) ∧ Hid (((P % 32 : Nat) : Int) = i2) ∧ Hid (((P / 32768 : Nat) : Int) - ((P / 1024 % 32 : Nat) : Int) - ((P / 32 % 32 : Nat) : Int) - ((P % 32 : Nat) : Int) = j2) ∧ (0 ≤ i1 ∧ i1 ≤ G (20 + 7 * r + 2)) ∧ (0 ≤ j1 ∧ j1 < G (20 + 7 * r + 1)) ∧ (0 ≤ i2 ∧ i2 ≤ G (20 + 7 * q + 2)) ∧ 0 ≤ j2 ∧ j2 < G (20 + 7 * q + 1) := by
  obtain ⟨y1, y2, y3, y4, y5, y6⟩ := pk_use hV hr hq hc
  obtain ⟨P, hP⟩ := Int.eq_ofNat_of_zero_le y1.1
  rw [hP] at y1 y2 y3 y4 y5 y6
  exact ⟨P, _, _, _, _, hP, by omega, rfl, rfl, rfl, rfl, y2, y3, y4, y5, y6⟩
section MD
variable {L : Nat} {f : xF} {Q : List xV → xF → Prop} {G H : Nat → Int} {set : Nat}
theorem C_79 {k2 : Int} {k : Nat} {a b : Option Nat} (ek : k2 = k) (hk : k < 4) (hV : VG G) (hI : MI G H set) (hS : Sg f 4 H) (hab : ((a = none ∧ b = none) ∨ ∃ r q, a = some r ∧ b = some q ∧ r < 12 ∧ q < 12 ∧ set.testBit r = false ∧ set.testBit q = false ∧ cpG G k r q ≠ 268435456)) (h148 : f 148 (2 * k) = oz a) (h149 : f 148 (2 * k + 1) = oz b) (K : ∀ g : xF, (∀ c, (c < 4 ∨ 20 < c) → (c < 125 ∨ 140 < c) → g c = f c) → Sg g 4 (opP G H k a b) → Q [] g) : Rf (SHL L) 79 0 (xloc 79 [.inr 141, .inr 4, .inr 125, .inl k2]) [] f Q := by
  subst ek
  have e1 : f 148 (2 * (k : Int)).toNat = oz a := h148
  have e2 : f 148 (2 * (k : Int) + 1).toNat = oz b := h149
  rcases hab with ⟨rfl, rfl⟩ | ⟨r, q, rfl, rfl, hr, hq, hbr, hbq, hc0⟩
  · have e3 : f 148 (2 * (k : Int)).toNat = -1 := e1
    refine R_al fx_79_0 rfl (by omega) ?_
    refine R_gr fx_79_1 kd_141 rfl rr_141_4 ?_
    refine R_push fx_79_4 ?_
    refine R_il fx_79_5 rfl ?_
    refine R_mul fx_79_6 ?_
    refine R_ia fx_79_7 (Or.inl kd_148) (by omega) (by rw [ln_148]; omega) (by omega) ?_
    refine R_is fx_79_8 ?_
    refine R_al fx_79_10 rfl (by omega) ?_
    refine R_gr fx_79_11 kd_141 rfl rr_141_4 ?_
    refine R_push fx_79_14 ?_
    refine R_il fx_79_15 rfl ?_
    refine R_mul fx_79_16 ?_
    refine R_push fx_79_17 ?_
    refine R_add fx_79_18 ?_
    refine R_ia fx_79_19 (Or.inl kd_148) (by omega) (by rw [ln_148]; omega) (by omega) ?_
    refine R_is fx_79_20 ?_
    refine R_al fx_79_22 rfl (by omega) ?_
    refine R_il fx_79_23 rfl ?_
    refine R_cv fx_79_25 rfl rfl rfl rfl kd_4 ?_
    rw [e3]
    refine C_18 (by omega) (hI.2.2.m hS) (hI.2.2.p hS) (fun hc => by omega) (fun hc => ?_)
    refine R_ifeq fx_79_28 (by decide) (fun _ => ?_) (fun h => absurd h (by decide))
    exact R_retv fx_79_40 rfl (K f (fun _ _ _ => rfl) hS)
  · have e3 : f 148 (2 * (k : Int)).toNat = (r : Int) := e1
    have e4 : f 148 (2 * (k : Int) + 1).toNat = (q : Int) := e2
    have hcp := (cpG_b (k := k) hV hr hq).resolve_left hc0
    have hne := hcp.2.2.2.1
    obtain ⟨u1, u2, _⟩ := wk_use hV hr hcp.2.2.2.2.1
    obtain ⟨w1, w2, _⟩ := wk_use hV hq hcp.2.2.2.2.2.1
    obtain ⟨P, i1, j1, i2, j2, hP, hPb, z1, z2, z3, z4, y2, y3, y4, y5⟩ := pk_use2 hV hr hq hc0
    have vr := hV.2.2.2.2.2 r hr u1
    have vq := hV.2.2.2.2.2 q hq w1
    have h0 : (r : Int) < H 0 := by rw [hI.1 0 (by omega)]; exact u1
    have h0q : (q : Int) < H 0 := by rw [hI.1 0 (by omega)]; exact w1
    have hp0 : f (9 + r) 3 = 0 := by rw [hS.rd hr h0 (by omega), hI.2.1 r hr hbr 3 (by omega)]; exact u2
    have hp1 : f (9 + q) 3 = 0 := by rw [hS.rd hq h0q (by omega), hI.2.1 q hq hbq 3 (by omega)]; exact w2
    have hm0 := hI.2.2.m hS
    have e44 : f 4 4 = H 0 := hS.1.1
    refine R_al fx_79_0 rfl (by omega) ?_
    refine R_gr fx_79_1 kd_141 rfl rr_141_4 ?_
    refine R_push fx_79_4 ?_
    refine R_il fx_79_5 rfl ?_
    refine R_mul fx_79_6 ?_
    refine R_ia fx_79_7 (Or.inl kd_148) (by omega) (by rw [ln_148]; omega) (by omega) ?_
    refine R_is fx_79_8 ?_
    refine R_al fx_79_10 rfl (by omega) ?_
    refine R_gr fx_79_11 kd_141 rfl rr_141_4 ?_
    refine R_push fx_79_14 ?_
    refine R_il fx_79_15 rfl ?_
    refine R_mul fx_79_16 ?_
    refine R_push fx_79_17 ?_
    refine R_add fx_79_18 ?_
    refine R_ia fx_79_19 (Or.inl kd_148) (by omega) (by rw [ln_148]; omega) (by omega) ?_
    refine R_is fx_79_20 ?_
    refine R_al fx_79_22 rfl (by omega) ?_
    refine R_il fx_79_23 rfl ?_
    refine R_cv fx_79_25 rfl rfl rfl rfl kd_4 ?_
    rw [e3]
    refine C_18 (by omega) (hI.2.2.m hS) (hI.2.2.p hS) (fun hc => ?_) (fun hc => absurd ⟨⟨by omega, by omega⟩, by rw [Int.toNat_natCast]; exact hp0⟩ hc)
    refine R_ifeq fx_79_28 (by decide) (fun h => absurd h (by decide)) (fun _ => ?_)
    refine R_al fx_79_31 rfl (by omega) ?_
    refine R_il fx_79_32 rfl ?_
    refine R_cv fx_79_34 rfl rfl rfl rfl kd_4 ?_
    rw [e4]
    refine C_18 (by omega) (hI.2.2.m hS) (hI.2.2.p hS) (fun hc => ?_) (fun hc => absurd ⟨⟨by omega, by omega⟩, by rw [Int.toNat_natCast]; exact hp1⟩ hc)
    refine R_ifne fx_79_37 (by decide) (fun _ => ?_) (fun h => absurd h (by decide))
    refine R_al fx_79_41 rfl (by omega) ?_
    refine R_al fx_79_42 rfl (by omega) ?_
    refine R_il fx_79_43 rfl ?_
    refine R_il fx_79_45 rfl ?_
    refine R_il fx_79_47 rfl ?_
    refine R_cv fx_79_48 rfl rfl rfl rfl kd_125 ?_
    refine C_44 (r := r) (q := q) (k := k) rfl rfl rfl hI.2.2 hS hr h0 hq h0q hk (fun g1 hF => ?_)
    rw [hI.pk hr hbr hq hbq hk, hP]
    have hS1 : Sg g1 4 H := hS.kept (fun c _ _ => hF c (by omega))
    refine R_is fx_79_51 ?_
    refine R_al fx_79_53 rfl (by omega) ?_
    refine R_gr fx_79_54 kd_4 rfl rr_4_0 ?_
    refine R_il fx_79_57 rfl ?_
    refine R_aa (q := 9 + r) fx_79_59 (Or.inl kd_5) (by omega) (by rw [ln_5]; omega) (by omega) (by rw [Int.toNat_natCast]; exact rr_reed r (by omega)) ?_
    refine R_il fx_79_60 rfl ?_
    refine R_cs fx_79_62 rfl rfl rfl rfl ?_
    refine C_52 (by omega) ?_
    rw [show ((P / 1024 % 32 : Nat) : Int) = i1 from z1]
    refine R_il fx_79_65 rfl ?_
    refine R_cs fx_79_67 rfl rfl rfl rfl ?_
    refine C_53 (by omega) ?_
    rw [show ((P / 32 % 32 : Nat) : Int) = j1 from z2]
    refine R_al fx_79_70 rfl (by omega) ?_
    refine R_gf fx_79_71 kd_4 rfl ?_
    refine R_cv fx_79_74 rfl rfl rfl rfl (kd_reed _ (by omega)) ?_
    refine C_26i (by omega) (kd_reed _ hr) (by omega) (fun g2 k1 k2 => ?_)
    refine R_al fx_79_77 rfl (by omega) ?_
    refine R_gr fx_79_78 kd_4 rfl rr_4_0 ?_
    refine R_il fx_79_81 rfl ?_
    refine R_aa (q := 9 + q) fx_79_83 (Or.inl kd_5) (by omega) (by rw [ln_5]; omega) (by omega) (by rw [Int.toNat_natCast]; exact rr_reed q (by omega)) ?_
    refine R_il fx_79_84 rfl ?_
    refine R_cs fx_79_86 rfl rfl rfl rfl ?_
    refine C_54 (by omega) ?_
    rw [show ((P % 32 : Nat) : Int) = i2 from z3]
    refine R_il fx_79_89 rfl ?_
    refine R_cs fx_79_91 rfl rfl rfl rfl ?_
    refine C_55 (by omega) ?_
    rw [show ((P / 32768 : Nat) : Int) - ((P / 1024 % 32 : Nat) : Int) - ((P / 32 % 32 : Nat) : Int) - ((P % 32 : Nat) : Int) = j2 from z4]
    refine R_al fx_79_94 rfl (by omega) ?_
    refine R_gf fx_79_95 kd_4 rfl ?_
    refine R_cv fx_79_98 rfl rfl rfl rfl (kd_reed _ (by omega)) ?_
    refine C_26i (by omega) (kd_reed _ hq) (by omega) (fun g3 m1 m2 => ?_)
    refine R_al fx_79_101 rfl (by omega) ?_
    refine R_gr fx_79_102 kd_4 rfl rr_4_0 ?_
    refine R_il fx_79_105 rfl ?_
    refine R_aa (q := 9 + r) fx_79_107 (Or.inl kd_5) (by omega) (by rw [ln_5]; omega) (by omega) (by rw [Int.toNat_natCast]; exact rr_reed r (by omega)) ?_
    refine R_al fx_79_108 rfl (by omega) ?_
    refine R_gf fx_79_109 kd_4 rfl ?_
    refine R_push fx_79_112 ?_
    refine R_il fx_79_113 rfl ?_
    refine R_mul fx_79_114 ?_
    refine R_cv fx_79_115 rfl rfl rfl rfl (kd_reed _ (by omega)) ?_
    refine C_80 (by omega) (kd_reed _ hr) ?_
    refine R_al fx_79_118 rfl (by omega) ?_
    refine R_gr fx_79_119 kd_4 rfl rr_4_0 ?_
    refine R_il fx_79_122 rfl ?_
    refine R_aa (q := 9 + q) fx_79_124 (Or.inl kd_5) (by omega) (by rw [ln_5]; omega) (by omega) (by rw [Int.toNat_natCast]; exact rr_reed q (by omega)) ?_
    refine R_al fx_79_125 rfl (by omega) ?_
    refine R_gf fx_79_126 kd_4 rfl ?_
    refine R_push fx_79_129 ?_
    refine R_il fx_79_130 rfl ?_
    refine R_mul fx_79_131 ?_
    refine R_push fx_79_132 ?_
    refine R_add fx_79_133 ?_
    refine R_cv fx_79_134 rfl rfl rfl rfl (kd_reed _ (by omega)) ?_
    refine C_80 (by omega) (kd_reed _ hq) ?_
    have x0 := hS1.rd hr h0 (j := 0) (by omega)
    have x1 := hS1.rd hr h0 (j := 1) (by omega)
    have x2 := hS1.rd hr h0 (j := 2) (by omega)
    have x3 := hS1.rd hr h0 (j := 3) (by omega)
    have x4 := hS1.rd hr h0 (j := 4) (by omega)
    have x5 := hS1.rd hr h0 (j := 5) (by omega)
    have x6 := hS1.rd hr h0 (j := 6) (by omega)
    have v0 := hS1.rd hq h0q (j := 0) (by omega)
    have v1 := hS1.rd hq h0q (j := 1) (by omega)
    have v2 := hS1.rd hq h0q (j := 2) (by omega)
    have v3 := hS1.rd hq h0q (j := 3) (by omega)
    have v4 := hS1.rd hq h0q (j := 4) (by omega)
    have v5 := hS1.rd hq h0q (j := 5) (by omega)
    have v6 := hS1.rd hq h0q (j := 6) (by omega)
    have er : g1 4 5 = H 1 := hS1.1.2.1
    have er2 : g2 4 5 = H 1 := by rw [k2 4 (by omega)]; exact er
    have ep : g3 4 7 = G 3 := by rw [m2 4 (by omega), k2 4 (by omega), ← hI.1 3 (by omega)]; exact hS1.1.2.2.2
    obtain ⟨a0, a1, a2, a3, a4, a5, a6⟩ := k1
    obtain ⟨b0, b1, b2, b3, b4, b5, b6⟩ := m1
    rw [er] at a0
    rw [er2] at b0
    rw [k2 (9 + q) (by omega)] at b0 b1 b2 b6
    have ep3 : (xup (xup (xup g3 (9 + r) 3 1) (9 + r) 4 (g3 4 7)) (9 + r) 5 (2 * (k : Int))) 4 7 = G 3 := by rw [xup_a (by omega), xup_a (by omega), xup_a (by omega)]; exact ep
    rw [ep3, ep]
    obtain ⟨F, hFd⟩ : ∃ F, F = xup (xup (xup (xup (xup (xup g3 (9 + r) 3 1) (9 + r) 4 (G 3)) (9 + r) 5 (2 * (k : Int))) (9 + q) 3 1) (9 + q) 4 (G 3)) (9 + q) 5 (2 * (k : Int) + 1) := ⟨_, rfl⟩
    rw [← hFd]
    have fr : ∀ j, F (9 + r) j = (xup (xup (xup g3 (9 + r) 3 1) (9 + r) 4 (G 3)) (9 + r) 5 (2 * (k : Int))) (9 + r) j := fun j => by rw [hFd, xup_a (by omega), xup_a (by omega), xup_a (by omega)]
    have fo : ∀ c, c ≠ 9 + r → c ≠ 9 + q → F c = g1 c := fun c c1 c2 => by rw [hFd]; funext y; rw [xup_a c2, xup_a c2, xup_a c2, xup_a c1, xup_a c1, xup_a c1, m2 c c2, k2 c c1]
    have fq : ∀ j, F (9 + q) j = (xup (xup (xup g3 (9 + q) 3 1) (9 + q) 4 (G 3)) (9 + q) 5 (2 * (k : Int) + 1)) (9 + q) j := fun j => by rw [hFd]; simp only [xup]; simp only [show ¬ (9 + q = 9 + r) by omega, false_and, if_false]
    have g3r : ∀ j, g3 (9 + r) j = g2 (9 + r) j := fun j => by rw [m2 (9 + r) (by omega)]
    have S1 : Sg (fun c => if c = 9 + r then F c else g1 c) 4 (doneG H r (2 * k) (G 3) i1 j1) := by
      refine hS1.reed hr (fun j hj => ?_) (fun c hc => if_neg hc)
      show (if 9 + r = 9 + r then F (9 + r) else g1 (9 + r)) j = _
      rw [if_pos rfl, fr]
      rcases (show j = 0 ∨ j = 1 ∨ j = 2 ∨ j = 3 ∨ j = 4 ∨ j = 5 ∨ j = 6 by omega) with rfl | rfl | rfl | rfl | rfl | rfl | rfl
      · rw [xup_i (by omega), xup_i (by omega), xup_i (by omega), g3r, a0, x0, x1]; rfl
      · rw [xup_i (by omega), xup_i (by omega), xup_i (by omega), g3r, a1, x1]; rfl
      · rw [xup_i (by omega), xup_i (by omega), xup_i (by omega), g3r, a2, x2]; rfl
      · rw [xup_i (by omega), xup_i (by omega), xup_s]; rfl
      · rw [xup_i (by omega), xup_s]; rfl
      · rw [xup_s]; rfl
      · rw [xup_i (by omega), xup_i (by omega), xup_i (by omega), g3r, a6, x6]; rfl
    refine R_retv fx_79_137 rfl (K F (fun c c1 c2 => ?_) ?_)
    · rw [fo c (by omega) (by omega), hF c c2]
    · show Sg F 4 (doneG (doneG H r (2 * k) (G 3) (pk G r q k / 1024 % 32) (pk G r q k / 32 % 32)) q (2 * k + 1) (G 3) (pk G r q k % 32) (pk G r q k / 32768 - pk G r q k / 1024 % 32 - pk G r q k / 32 % 32 - pk G r q k % 32))
      rw [hP]
      rw [show (P : Int) / 32768 - (P : Int) / 1024 % 32 - (P : Int) / 32 % 32 - (P : Int) % 32 = j2 from z4, show (P : Int) / 1024 % 32 = i1 from z1, show (P : Int) / 32 % 32 = j1 from z2, show (P : Int) % 32 = i2 from z3]
      refine S1.reed hq (fun j hj => ?_) (fun c hc => ?_)
      · rw [fq]
        rcases (show j = 0 ∨ j = 1 ∨ j = 2 ∨ j = 3 ∨ j = 4 ∨ j = 5 ∨ j = 6 by omega) with rfl | rfl | rfl | rfl | rfl | rfl | rfl
        · rw [xup_i (by omega), xup_i (by omega), xup_i (by omega), b0, v0, v1]; exact (filed_ne (H := H) (i := i2) (j := j2) (x := 0) hne (by omega)).symm
        · rw [xup_i (by omega), xup_i (by omega), xup_i (by omega), b1, v1]; exact (filed_ne (H := H) (i := i2) (j := j2) (x := 1) hne (by omega)).symm
        · rw [xup_i (by omega), xup_i (by omega), xup_i (by omega), b2, v2]; exact (filed_ne (H := H) (i := i2) (j := j2) (x := 2) hne (by omega)).symm
        · rw [xup_i (by omega), xup_i (by omega), xup_s]; rfl
        · rw [xup_i (by omega), xup_s]; rfl
        · rw [xup_s]; rfl
        · rw [xup_i (by omega), xup_i (by omega), xup_i (by omega), b6, v6]; exact (filed_ne (H := H) (i := i2) (j := j2) (x := 6) hne (by omega)).symm
      · by_cases e : c = 9 + r
        · subst e; show _ = if 9 + r = 9 + r then F (9 + r) else g1 (9 + r); rw [if_pos rfl]
        · show _ = if c = 9 + r then F c else g1 c; rw [if_neg e]; exact fo c e hc
theorem MI_slot (hV : VG G) (hI : MI G H set) {s : Nat} {a : Option Nat} (ha : ∀ r, a = some r → r < 12 ∧ set.testBit r = false ∧ csG G s r ≠ 268435456) : MI G (opS G H s a) (oset set a) := by
  cases a with
  | none => exact hI
  | some r =>
    obtain ⟨hr, hb, hc⟩ := ha r rfl
    obtain ⟨u1, u2, u3, u4, u5, u6, u7, u8⟩ := wk_use hV hr hc
    exact MI_done hI hr hb u1 u6 ⟨u7, u8⟩
theorem MI_pair (hV : VG G) (hI : MI G H set) {k : Nat} {a b : Option Nat} (hab : ((a = none ∧ b = none) ∨ ∃ r q, a = some r ∧ b = some q ∧ r < 12 ∧ q < 12 ∧ set.testBit r = false ∧ set.testBit q = false ∧ cpG G k r q ≠ 268435456)) : MI G (opP G H k a b) (oset (oset set a) b) := by
  rcases hab with ⟨rfl, rfl⟩ | ⟨r, q, rfl, rfl, hr, hq, hbr, hbq, hc0⟩
  · exact hI
  · have hcp := (cpG_b (k := k) hV hr hq).resolve_left hc0
    obtain ⟨u1, u2, _⟩ := wk_use hV hr hcp.2.2.2.2.1
    obtain ⟨w1, w2, _⟩ := wk_use hV hq hcp.2.2.2.2.2.1
    obtain ⟨y1, y2, y3, y4, y5, y6⟩ := pk_use hV hr hq hc0
    have h1 := MI_done (s := 2 * k) (pl := G 3) hI hr hbr u1 y2 y3
    exact MI_done h1 hq (by rw [bit_or, hbq]; simpa using hcp.2.2.2.1) w1 y4 ⟨y5, y6⟩
/-- what ch1 says, as make wants it -/
theorem ch1_ok (hV : VG G) {k : Nat} (hk : k < 4) : (∀ r, (ch1 (coG G) k set).1 = some r → r < 12 ∧ set.testBit r = false ∧ csG G (2 * k) r ≠ 268435456) ∧ (∀ q, (ch1 (coG G) k set).2 = some q → q < 12 ∧ (oset set (ch1 (coG G) k set).1).testBit q = false ∧ csG G (2 * k + 1) q ≠ 268435456) ∧ (mbG G k = true → (((ch1 (coG G) k set).1 = none ∧ (ch1 (coG G) k set).2 = none) ∨ ∃ r q, (ch1 (coG G) k set).1 = some r ∧ (ch1 (coG G) k set).2 = some q ∧ r < 12 ∧ q < 12 ∧ set.testBit r = false ∧ set.testBit q = false ∧ cpG G k r q ≠ 268435456)) := by
  have ho := coG_ok hV
  refine ⟨fun r h => ?_, fun q h => ?_, fun hm => ?_⟩
  · have := ch1_a ho hk h; exact ⟨this.1, this.2.1, this.2.2.1⟩
  · have := ch1_b ho hk h; exact ⟨this.1, this.2.1, this.2.2.1⟩
  · rcases ch1_mb ho (set := set) hk hm with h | ⟨r, q, h1, h2, h3, h4, h5⟩
    · exact Or.inl h
    · have a := ch1_a ho hk h1
      have b := ch1_b ho hk h2
      rw [h1] at b
      refine Or.inr ⟨r, q, h1, h2, h3, h4, a.2.1, ?_, h5⟩
      have b2 : (set ||| 2 ^ r).testBit q = false := b.2.1
      rw [bit_or, Bool.or_eq_false_iff] at b2
      exact b2.1
theorem MI_step (hV : VG G) {k : Nat} (hk : k < 4) (hI : MI G H set) : MI G (opK G H k (ch1 (coG G) k set).1 (ch1 (coG G) k set).2) (st1 (coG G) k set) := by
  obtain ⟨c1, c2, c3⟩ := ch1_ok (set := set) hV hk
  unfold opK st1
  cases hm : mbG G k with
  | true => exact MI_pair hV hI (c3 hm)
  | false => exact MI_slot hV (MI_slot hV hI c1) c2
theorem MI_mkS (hV : VG G) : ∀ k, k ≤ 4 → MI G (mkS G k) (setK (coG G) k)
  | 0, _ => ⟨fun _ _ => rfl, fun _ _ _ _ _ => rfl, hV⟩
  | k + 1, h => MI_step hV (by omega) (MI_mkS hV k (by omega))
theorem C_78 (hV : VG G) (hS : Sg f 4 G) (h148 : ∀ j, j < 8 → f 148 j = chG (coG G) j) (K : ∀ g : xF, (∀ c, (c < 4 ∨ 20 < c) → (c < 125 ∨ 140 < c) → g c = f c) → Sg g 4 (mkF G) → Q [] g) : Rf (SHL L) 78 0 (xloc 78 [.inr 141, .inr 4, .inr 125]) [] f Q := by
  have loop : ∀ (n k : Nat) (g : xF), k + n = 4 → (∀ c, (c < 4 ∨ 20 < c) → (c < 125 ∨ 140 < c) → g c = f c) → Sg g 4 (mkS G k) → Rf (SHL L) 78 2 [some (.inr 141), some (.inr 4), some (.inr 125), some (.inl (k : Int))] [] g Q := by
    intro n
    induction n with
    | zero =>
      intro k g hk hA hSg
      have hkj : k = 4 := by omega
      subst hkj
      have hI := MI_mkS hV 4 (by omega)
      refine R_il fx_78_2 rfl ?_
      refine R_push fx_78_3 ?_
      refine R_icge fx_78_4 (by omega) (fun hc => ?_) (fun hc => by omega)
      refine R_al fx_78_51 rfl (by omega) ?_
      refine R_gr fx_78_52 kd_4 rfl rr_4_1 ?_
      refine R_push fx_78_55 ?_
      refine R_cs fx_78_56 rfl rfl rfl rfl ?_
      refine C_3 (N := 8) (by omega) kd_6 ln_6 (by omega) (fun g2 a2 b2 => ?_)
      refine R_al fx_78_59 rfl (by omega) ?_
      refine R_dup fx_78_60 ?_
      refine R_gf fx_78_61 kd_4 rfl ?_
      refine R_push fx_78_64 ?_
      refine R_add fx_78_65 ?_
      refine R_pf fx_78_66 kd_4 rfl (fun h => absurd h (by decide)) ?_
      obtain ⟨⟨s1, s2, s3, s4⟩, s5, s6, s7, s8⟩ := hSg
      have e47 : g2 4 7 = G 3 := by rw [b2 4 (by omega), s4]; exact hI.1 3 (by omega)
      rw [e47]
      refine R_retv fx_78_69 rfl (K _ (fun c c1 c2 => ?_) ⟨⟨?_, ?_, ?_, ?_⟩, fun s hs => ?_, fun k hk => ?_, fun k hk => ?_, fun r hr hg j hj => ?_⟩)
      · funext y; rw [xup_a (by omega), b2 c (by omega)]; exact congrFun (hA c c1 c2) y
      · rw [xup_i (by omega), b2 4 (by omega), s1]; rfl
      · rw [xup_i (by omega), b2 4 (by omega), s2]; rfl
      · rw [xup_i (by omega), b2 4 (by omega), s3]; rfl
      · rw [xup_s]; rfl
      · rw [xup_a (by omega)]; show g2 6 s = _; rw [a2 s hs]; exact (if_pos ⟨by omega, by omega⟩).symm
      · rw [xup_a (by omega), b2 (4 + 3) (by omega), s6 k hk]; unfold mkF; rw [if_neg (by omega), if_neg (by omega)]
      · rw [xup_a (by omega), b2 (4 + 4) (by omega), s7 k hk]; unfold mkF; rw [if_neg (by omega), if_neg (by omega)]
      · have hg2 : (r : Int) < mkS G 4 0 := hg
        rw [xup_a (by omega), b2 (4 + 5 + r) (by omega), s8 r hr hg2 j hj]; unfold mkF; rw [if_neg (by omega), if_neg (by omega)]
    | succ n ih =>
      intro k g hk hA hSg
      have hI := MI_mkS hV k (by omega)
      obtain ⟨ch1a, ch1b, ch1m⟩ := ch1_ok (set := setK (coG G) k) hV (show k < 4 by omega)
      have hch : ∀ j, j < 8 → g 148 j = chG (coG G) j := fun j hj => by rw [hA 148 (by omega) (by omega)]; exact h148 j hj
      have ea : g 148 (2 * k) = oz (ch1 (coG G) k (setK (coG G) k)).1 := by rw [hch _ (by omega)]; unfold chG chO; rw [if_pos (by omega), show 2 * k / 2 = k by omega]
      have eb : g 148 (2 * k + 1) = oz (ch1 (coG G) k (setK (coG G) k)).2 := by rw [hch _ (by omega)]; unfold chG chO; rw [if_neg (by omega), show (2 * k + 1) / 2 = k by omega]
      have e7 : g 7 (k : Int).toNat = G (12 + k) := by rw [Int.toNat_natCast, show g 7 k = g (4 + 3) k from rfl, hSg.2.2.1 k (by omega)]; exact hI.1 _ (by omega)
      have e8 : g 8 (k : Int).toNat = G (16 + k) := by rw [Int.toNat_natCast, show g 8 k = g (4 + 4) k from rfl, hSg.2.2.2.1 k (by omega)]; exact hI.1 _ (by omega)
      have e6 : g 6 (2 * (k : Int)).toNat = G (4 + 2 * k) := by rw [show (2 * (k : Int)).toNat = 2 * k by omega, show g 6 (2 * k) = g (4 + 2) (2 * k) from rfl, hSg.2.1 _ (by omega)]; exact hI.1 _ (by omega)
      have e5 : g 6 (2 * (k : Int) + 1).toNat = G (4 + (2 * k + 1)) := by rw [show (2 * (k : Int) + 1).toNat = 2 * k + 1 by omega, show g 6 (2 * k + 1) = g (4 + 2) (2 * k + 1) from rfl, hSg.2.1 _ (by omega)]; exact hI.1 _ (by omega)
      refine R_il fx_78_2 rfl ?_
      refine R_push fx_78_3 ?_
      refine R_icge fx_78_4 (by omega) (fun hc => by omega) (fun hc => ?_)
      refine R_al fx_78_7 rfl (by omega) ?_
      refine R_il fx_78_8 rfl ?_
      refine R_cv fx_78_9 rfl rfl rfl rfl kd_4 ?_
      refine C_60 (by omega) (hI.2.2.w hSg) (hI.2.2.b hSg) (fun hc => ?_) (fun hc => ?_) <;> rw [e5, e6, e7, e8] at hc
      · refine R_ifeq fx_78_12 (by decide) (fun h => absurd h (by decide)) (fun _ => ?_)
        refine R_al fx_78_15 rfl (by omega) ?_
        refine R_al fx_78_16 rfl (by omega) ?_
        refine R_al fx_78_17 rfl (by omega) ?_
        refine R_il fx_78_18 rfl ?_
        refine R_cv fx_78_19 rfl rfl rfl rfl kd_141 ?_
        have hmb : mbG G k = true := decide_eq_true hc.2
        refine C_79 (k := k) rfl (by omega) hV hI hSg (ch1m hmb) ea eb (fun g2 a2 s2 => ?_)
        have hst : mkS G (k + 1) = opP G (mkS G k) k (ch1 (coG G) k (setK (coG G) k)).1 (ch1 (coG G) k (setK (coG G) k)).2 := by show opK _ _ _ _ _ = _; unfold opK; rw [hmb]; rfl
        refine R_goto fx_78_22 ?_
        refine R_inc fx_78_45 rfl ?_
        refine R_goto fx_78_48 ?_
        exact ih (k + 1) g2 (by omega) (fun c c1 c2 => by rw [a2 c c1 c2]; exact hA c c1 c2) (by rw [hst]; exact s2)
      · refine R_ifeq fx_78_12 (by decide) (fun _ => ?_) (fun h => absurd h (by decide))
        refine R_al fx_78_25 rfl (by omega) ?_
        refine R_al fx_78_26 rfl (by omega) ?_
        refine R_al fx_78_27 rfl (by omega) ?_
        refine R_push fx_78_28 ?_
        refine R_il fx_78_29 rfl ?_
        refine R_mul fx_78_30 ?_
        refine R_cv fx_78_31 rfl rfl rfl rfl kd_141 ?_
        have hmb : mbG G k = false := decide_eq_false (fun z => hc ⟨by omega, z⟩)
        refine C_81 (s := 2 * k) (by omega) (by omega) hV hI hSg ch1a ea (fun g1 a1 s1 => ?_)
        have hI2 := MI_slot hV hI ch1a
        refine R_al fx_78_34 rfl (by omega) ?_
        refine R_al fx_78_35 rfl (by omega) ?_
        refine R_al fx_78_36 rfl (by omega) ?_
        refine R_push fx_78_37 ?_
        refine R_il fx_78_38 rfl ?_
        refine R_mul fx_78_39 ?_
        refine R_push fx_78_40 ?_
        refine R_add fx_78_41 ?_
        refine R_cv fx_78_42 rfl rfl rfl rfl kd_141 ?_
        refine C_81 (s := 2 * k + 1) (by omega) (by omega) hV hI2 s1 ch1b (by rw [a1 148 (by omega) (by omega)]; exact eb) (fun g2 a2 s2 => ?_)
        have hst : mkS G (k + 1) = opS G (opS G (mkS G k) (2 * k) (ch1 (coG G) k (setK (coG G) k)).1) (2 * k + 1) (ch1 (coG G) k (setK (coG G) k)).2 := by show opK _ _ _ _ _ = _; unfold opK; rw [hmb]; rfl
        refine R_inc fx_78_45 rfl ?_
        refine R_goto fx_78_48 ?_
        exact ih (k + 1) g2 (by omega) (fun c c1 c2 => by rw [a2 c c1 (by omega), a1 c c1 (by omega)]; exact hA c c1 c2) (by rw [hst]; exact s2)
  refine R_push fx_78_0 ?_
  refine R_is fx_78_1 ?_
  exact loop 4 0 f (by omega) (fun _ _ _ => rfl) hS
end MD
