/-! ===== what is left out: addSlot ===== -/
def Lge (P : Int → Prop) (v : Int) : Prop := (268435456 ≤ v ∧ ∀ k, ¬ P k) ∨ (P v ∧ ∀ k, P k → v ≤ k)
section LG
variable {P Q R : Int → Prop} {v w : Int}
theorem Lge.join (h : Lge P v) (h2 : Lge Q w) (hP : ∀ k, P k → k < 268435456) (hQ : ∀ k, Q k → k < 268435456) (he : ∀ k, R k ↔ P k ∨ Q k) : Lge R (if w < v then w else v) := by
  rcases h with ⟨a, b⟩ | ⟨a, b⟩ <;> rcases h2 with ⟨c, d⟩ | ⟨c, d⟩
  · exact Or.inl ⟨by split <;> omega, fun k hk => ((he k).mp hk).elim (b k) (d k)⟩
  · have := hQ _ c
    rw [if_pos (by omega)]
    exact Or.inr ⟨(he w).mpr (Or.inr c), fun k hk => ((he k).mp hk).elim (fun z => absurd z (b k)) (d k)⟩
  · have := hP _ a
    rw [if_neg (by omega)]
    exact Or.inr ⟨(he v).mpr (Or.inl a), fun k hk => ((he k).mp hk).elim (b k) (fun z => absurd z (d k))⟩
  · split
    · exact Or.inr ⟨(he w).mpr (Or.inr c), fun k hk => ((he k).mp hk).elim (fun z => by have := b k z; omega) (d k)⟩
    · exact Or.inr ⟨(he v).mpr (Or.inl a), fun k hk => ((he k).mp hk).elim (b k) (fun z => by have := d k z; omega)⟩
theorem Lge.fin (h : Lge P v) (hP : ∀ k, P k → k < 268435456) : Lst P 268435456 (if 268435456 < v then 268435456 else v) := by
  rcases h with ⟨a, b⟩ | ⟨a, b⟩
  · refine Or.inl ⟨?_, b⟩
    split <;> omega
  · have := hP _ a
    rw [if_neg (by omega)]
    exact Or.inr ⟨a, b⟩
theorem Lst.ge (h : Lst P 268435456 v) : Lge P v := h.imp (fun z => ⟨by omega, z.2⟩) id
theorem Lge.congr (h : Lge P v) (he : ∀ k, P k ↔ Q k) : Lge Q v := by
  rcases h with ⟨a, b⟩ | ⟨a, b⟩
  · exact Or.inl ⟨a, fun k hk => b k ((he k).mpr hk)⟩
  · exact Or.inr ⟨(he v).mp a, fun k hk => b k ((he k).mpr hk)⟩
theorem Lst.shift (h : Lst P 268435456 v) (hw : 0 ≤ w) : Lge (fun x => ∃ k, P k ∧ x = k + w) (v + w) := by
  rcases h with ⟨a, b⟩ | ⟨a, b⟩
  · exact Or.inl ⟨by omega, fun k ⟨y, hy, _⟩ => b y hy⟩
  · exact Or.inr ⟨⟨v, a, rfl⟩, fun k ⟨y, hy, e⟩ => by have := b y hy; omega⟩
end LG
def WV (P : Nat → Nat → Nat → Prop) (u : Nat) (v : Int) : Prop := ∃ n m : Nat, P u n m ∧ v = 256 * (n : Int) + m
def LT (f : xF) (P : Nat → Nat → Nat → Prop) : Prop := ∀ u, u < 4096 → Lst (WV P u) 268435456 (f 145 u)
section XR
variable {u r : Nat}
theorem xor_lt (hu : u < 4096) (hr : r < 12) : u ^^^ 2 ^ r < 4096 := Nat.xor_lt_two_pow (n := 12) hu (pw12 hr)
theorem xor_bit (h : u.testBit r = true) : (u ^^^ 2 ^ r).testBit r = false := by rw [Nat.testBit_xor, Nat.testBit_two_pow, h]; simp
theorem xor_or (h : u.testBit r = true) : (u ^^^ 2 ^ r) ||| 2 ^ r = u := by
  apply Nat.eq_of_testBit_eq
  intro i
  rw [Nat.testBit_or, Nat.testBit_xor, Nat.testBit_two_pow]
  by_cases e : r = i
  · subst e; rw [h]; simp
  · simp [e]
theorem or_xor (h : u.testBit r = false) : (u ||| 2 ^ r) ^^^ 2 ^ r = u := by
  apply Nat.eq_of_testBit_eq
  intro i
  rw [Nat.testBit_xor, Nat.testBit_or, Nat.testBit_two_pow]
  by_cases e : r = i
  · subst e; rw [h]; simp
  · simp [e]
theorem xor_ltu (h : u.testBit r = true) : u ^^^ 2 ^ r < u := by
  have := or_gt (xor_bit h)
  rw [xor_or h] at this
  exact this
end XR
theorem two_s : ∀ s : Nat, s ≤ 8 → 2 ^ s ≤ 256 := by decide
section LQ
variable {G : Nat → Int} {P : Nat → Nat → Nat → Prop} {s : Nat}
theorem WV_b (hP : BP G P s) (hs : s ≤ 8) {u : Nat} {v : Int} (h : WV P u v) : 0 ≤ v ∧ v ≤ 3000 := by
  obtain ⟨n, m, h1, rfl⟩ := h
  have := hP u n m h1
  have := two_s s hs
  omega
theorem LT_b {f : xF} (hP : BP G P s) (hs : s ≤ 8) (hL : LT f P) {u : Nat} (hu : u < 4096) : f 145 u = 268435456 ∨ (0 ≤ f 145 u ∧ f 145 u ≤ 3000) := (hL u hu).far_or.imp id (fun z => WV_b hP hs z)
theorem WV_no (hP : BP G P s) {u : Nat} {v : Int} (h : ¬ sub u (bset (frG G) 12) ∨ s < popc u 12) : ¬ WV P u v := by
  rintro ⟨n, m, h1, rfl⟩
  have := hP u n m h1
  rcases h with h | h
  · exact h this.2.1
  · omega
theorem Lst_no (h : Lst (WV P s) 268435456 0) : True := True.intro
def AC (G : Nat → Int) (P : Nat → Nat → Nat → Prop) (s u m : Nat) (v : Int) : Prop := (∃ k, WV P u k ∧ v = k + (256 + ((2 ^ s : Nat) : Int))) ∨ ∃ r, r < m ∧ u.testBit r = true ∧ csG G s r ≠ 268435456 ∧ WV P (u ^^^ 2 ^ r) v
theorem AC_b (hP : BP G P s) (hs : s < 8) {u m : Nat} {v : Int} (h : AC G P s u m v) : v < 268435456 := by
  have h2 := two_s s (by omega)
  rcases h with ⟨k, h, rfl⟩ | ⟨r, _, _, _, h⟩
  · have := WV_b hP (by omega) h; omega
  · have := WV_b hP (by omega) h; omega
theorem AC_12 (hw : wsG G s = true) {u : Nat} (v : Int) : AC G P s u 12 v ↔ WV (cmp P (SSt G s)) u v := by
  have e1 : nw G s = 1 := by unfold nw; rw [hw]; rfl
  have e2 : mw G s = 2 ^ s := by unfold mw; rw [hw]; rfl
  constructor
  · rintro (⟨k, ⟨n, m, h1, rfl⟩, rfl⟩ | ⟨r, hr, hb, hc, n, m, h1, rfl⟩)
    · exact ⟨n + 1, m + 2 ^ s, ⟨u, n, m, 1, 2 ^ s, h1, Or.inl ⟨rfl, e1.symm, e2.symm⟩, rfl, rfl⟩, by rw [Int.natCast_add, Int.natCast_add]; omega⟩
    · exact ⟨n, m, ⟨u ^^^ 2 ^ r, n, m, 0, 0, h1, Or.inr ⟨hw, rfl, rfl, r, hr, xor_bit hb, hc, (xor_or hb).symm⟩, rfl, rfl⟩, rfl⟩
  · rintro ⟨n, m, ⟨u1, n1, m1, n2, m2, h1, h2, rfl, rfl⟩, rfl⟩
    rcases h2 with ⟨rfl, rfl, rfl⟩ | ⟨_, rfl, rfl, r, hr, hb, hc, rfl⟩
    · exact Or.inl ⟨_, ⟨n1, m1, h1, rfl⟩, by rw [e1, e2, Int.natCast_add, Int.natCast_add]; omega⟩
    · exact Or.inr ⟨r, hr, by rw [bit_or]; simp, hc, n1, m1, by rw [or_xor hb]; exact h1, by omega⟩
theorem AC_no {u m : Nat} (h : u.testBit m = false ∨ csG G s m = 268435456) (v : Int) : AC G P s u m v ↔ AC G P s u (m + 1) v := by
  constructor
  · rintro (a | ⟨r, hr, a⟩)
    · exact Or.inl a
    · exact Or.inr ⟨r, by omega, a⟩
  · rintro (a | ⟨r, hr, a, b, c⟩)
    · exact Or.inl a
    · by_cases e : r = m
      · subst e
        rcases h with h | h
        · rw [h] at a; exact absurd a (by decide)
        · exact absurd h b
      · exact Or.inr ⟨r, by omega, a, b, c⟩
theorem AC_yes {u m : Nat} (h : u.testBit m = true) (hc : csG G s m ≠ 268435456) (v : Int) : AC G P s u (m + 1) v ↔ AC G P s u m v ∨ WV P (u ^^^ 2 ^ m) v := by
  constructor
  · rintro (a | ⟨r, hr, a, b, c⟩)
    · exact Or.inl (Or.inl a)
    · by_cases e : r = m
      · subst e; exact Or.inr c
      · exact Or.inl (Or.inr ⟨r, by omega, a, b, c⟩)
  · rintro ((a | ⟨r, hr, a⟩) | a)
    · exact Or.inl a
    · exact Or.inr ⟨r, by omega, a⟩
    · exact Or.inr ⟨m, by omega, h, hc, a⟩
end LQ
section SB
variable {L : Nat} {f : xF} {Q : List xV → xF → Prop} {G : Nat → Int} {P : Nat → Nat → Nat → Prop}
theorem C_88_r {u s : Nat} (hV : VG G) (hP : BP G P s) (hs : s < 8) (hu : u < 4096) (h143 : ∀ s r, s < 8 → r < 12 → f 143 (s * 12 + r) = csG G s r) (hL : ∀ v, v < u → Lst (WV P v) 268435456 (f 145 v)) (K : ∀ (a b : Int), xok a → Lge (AC G P s u 12) a → Rf (SHL L) 88 94 [some (.inr 142), some (.inr 145), some (.inl ((bset (frG G) 12 : Nat) : Int)), some (.inl (s : Int)), some (.inl (u : Int)), some (.inl a), some (.inl b)] [] f Q) : ∀ (n m : Nat) (a : Int), m + n = 12 → (0 ≤ a ∧ a ≤ 300000000) → Lge (AC G P s u m) a → Rf (SHL L) 88 42 [some (.inr 142), some (.inr 145), some (.inl ((bset (frG G) 12 : Nat) : Int)), some (.inl (s : Int)), some (.inl (u : Int)), some (.inl a), some (.inl (m : Int))] [] f Q := by
  intro n
  induction n with
  | zero =>
    intro m a hm ha hA
    have hmj : m = 12 := by omega
    subst hmj
    refine R_il fx_88_42 rfl ?_
    refine R_push fx_88_44 ?_
    refine R_icge fx_88_46 (by omega) (fun hc => ?_) (fun hc => by omega)
    exact K _ _ (by omega) hA
  | succ n ih =>
    intro m a hm ha hA
    have hle : u / 2 ^ m ≤ u := Nat.div_le_self _ _
    have hb1 : (u / 2 ^ m &&& 1) ≤ 1 := Nat.and_le_right
    have hb := bit_eq (s := u) (r := m)
    have hp2 := p2b m (by omega)
    have hpw := pw12 (show m < 12 by omega)
    have e143 : f 143 ((s : Int) * 12 + (m : Int)).toNat = csG G s m := by rw [show ((s : Int) * 12 + (m : Int)).toNat = s * 12 + m by omega]; exact h143 s m hs (by omega)
    have hcb := csG_b (s := s) hV (show m < 12 by omega)
    have hxl := xor_lt hu (show m < 12 by omega)
    refine R_il fx_88_42 rfl ?_
    refine R_push fx_88_44 ?_
    refine R_icge fx_88_46 (by omega) (fun hc => by omega) (fun hc => ?_)
    refine R_il fx_88_49 rfl ?_
    refine R_il fx_88_51 rfl ?_
    refine R_bin fx_88_53 (xb_shr (by omega) (by omega)) ?_
    refine R_push fx_88_54 ?_
    refine R_bin fx_88_55 (xb_and (y := 1) (by omega) (by omega)) ?_
    refine R_push fx_88_56 ?_
    refine R_icne fx_88_57 (by omega) (fun hc => ?_) (fun hc => ?_)
    · refine R_inc fx_88_88 rfl ?_
      refine R_goto fx_88_91 ?_
      exact ih (m + 1) a (by omega) ha (hA.congr (AC_no (Or.inl (by cases h9 : u.testBit m with
        | false => rfl
        | true => exact absurd (hb.mpr h9) hc))))
    · refine R_al fx_88_60 rfl (by omega) ?_
      refine R_il fx_88_61 rfl ?_
      refine R_il fx_88_62 rfl ?_
      refine R_cv fx_88_64 rfl rfl rfl rfl kd_142 ?_
      refine C_62 (by omega) (by omega) ?_
      rw [e143]
      refine R_push fx_88_67 ?_
      refine R_iceq fx_88_69 (by omega) (fun hc2 => ?_) (fun hc2 => ?_)
      · refine R_inc fx_88_88 rfl ?_
        refine R_goto fx_88_91 ?_
        exact ih (m + 1) a (by omega) ha (hA.congr (AC_no (Or.inr hc2)))
      · refine R_il fx_88_72 rfl ?_
        refine R_al fx_88_74 rfl (by omega) ?_
        refine R_il fx_88_75 rfl ?_
        refine R_push fx_88_77 ?_
        refine R_il fx_88_78 rfl ?_
        refine R_bin fx_88_80 (xb_shl (x := 1) (by omega) (by omega)) ?_
        refine R_bin fx_88_81 (xb_xor (by omega) (by omega)) ?_
        rw [Nat.one_mul]
        refine R_ia fx_88_82 (Or.inl kd_145) (by omega) (by rw [ln_145]; omega) (by omega) ?_
        have hum := hb.mp hc
        have hLx := hL _ (xor_ltu hum)
        have hLb : f 145 ((u ^^^ 2 ^ m : Nat) : Int).toNat = 268435456 ∨ (0 ≤ f 145 ((u ^^^ 2 ^ m : Nat) : Int).toNat ∧ f 145 ((u ^^^ 2 ^ m : Nat) : Int).toNat ≤ 3000) := hLx.far_or.imp id (fun z => WV_b hP (by omega) z)
        refine R_min fx_88_83 (by omega) (by omega) ⟨by decide, by decide, Nat.le_of_ble_eq_true rfl⟩ ?_
        refine R_is fx_88_86 ?_
        refine R_inc fx_88_88 rfl ?_
        refine R_goto fx_88_91 ?_
        refine ih (m + 1) _ (by omega) (by split <;> omega) (hA.join hLx.ge (fun k hk => AC_b hP hs hk) (fun k hk => by have := WV_b hP (by omega) hk; omega) (AC_yes hum hc2))
theorem C_88 {s2 : Int} {s : Nat} (es : s2 = s) (hV : VG G) (hP : BP G P s) (hs : s < 8) (hw : wsG G s = true) (h143 : ∀ s r, s < 8 → r < 12 → f 143 (s * 12 + r) = csG G s r) (hL : LT f P) (K : ∀ g : xF, (∀ c, c ≠ 145 → g c = f c) → LT g (cmp P (SSt G s)) → Q [] g) : Rf (SHL L) 88 0 (xloc 88 [.inr 142, .inr 145, .inl ((bset (frG G) 12 : Nat) : Int), .inl s2]) [] f Q := by
  subst es
  have hfl : bset (frG G) 12 < 4096 := bset_lt (frG G) 12
  have hP2 := BP_slot hV hP
  have h2s := two_s s (by omega)
  have h2p : (0 : Int) ≤ ((2 ^ s : Nat) : Int) := Int.natCast_nonneg _
  have emp : ∀ u, u < 4096 → (¬ sub u (bset (frG G) 12) ∨ s + 1 < popc u 12) → Lst (WV (cmp P (SSt G s)) u) 268435456 (f 145 u) := fun u hu h => by
    refine Or.inl ⟨?_, fun k => WV_no hP2 h⟩
    exact (hL u hu).far_or.resolve_right (WV_no hP (h.imp id (fun z => by omega)))
  have loop : ∀ (n : Nat) (x : Int) (X Y : Option xV) (g : xF), x = (n : Int) - 1 → n ≤ bset (frG G) 12 + 1 → (∀ c, c ≠ 145 → g c = f c) → (∀ u, u < 4096 → n ≤ u → Lst (WV (cmp P (SSt G s)) u) 268435456 (g 145 u)) → (∀ u, u < n → g 145 u = f 145 u) → Rf (SHL L) 88 3 [some (.inr 142), some (.inr 145), some (.inl ((bset (frG G) 12 : Nat) : Int)), some (.inl (s : Int)), some (.inl x), X, Y] [] g Q := by
    intro n
    induction n with
    | zero =>
      intro x X Y g hx hn hA hN hO
      refine R_il fx_88_3 rfl ?_
      refine R_iflt fx_88_5 (by omega) (fun hc => ?_) (fun hc => by omega)
      exact R_retv fx_88_111 rfl (K g hA (fun u hu => hN u hu (by omega)))
    | succ u ih =>
      intro x X Y g hx hn hA hN hO
      have hx2 : x = (u : Int) := by omega
      subst hx2
      have hpl : popc u 12 ≤ 12 := popc_le 12
      have hzl : u ^^^ (u &&& bset (frG G) 12) < 4096 := andn_lt (by omega)
      have eu : g 145 (u : Int).toNat = f 145 u := by rw [Int.toNat_natCast]; exact hO u (by omega)
      have hub := LT_b hP (by omega) hL (show u < 4096 by omega)
      have done : ∀ (X2 Y2 : Option xV) (g2 : xF), (∀ c, c ≠ 145 → g2 c = f c) → (∀ j, j ≠ u → g2 145 j = g 145 j) → Lst (WV (cmp P (SSt G s)) u) 268435456 (g2 145 u) → Rf (SHL L) 88 3 [some (.inr 142), some (.inr 145), some (.inl ((bset (frG G) 12 : Nat) : Int)), some (.inl (s : Int)), some (.inl ((u : Int) + -1)), X2, Y2] [] g2 Q := fun X2 Y2 g2 a1 a2 a3 => ih _ X2 Y2 g2 (by omega) (by omega) a1 (fun v hv hn9 => by
          by_cases e : v = u
          · subst e; exact a3
          · rw [a2 v e]; exact hN v hv (by omega)) (fun v hv => by rw [a2 v (by omega)]; exact hO v (by omega))
      by_cases hsub : sub u (bset (frG G) 12)
      case neg =>
        have hz : u ^^^ (u &&& bset (frG G) 12) ≠ 0 := fun z => hsub (andn_zero.mp z)
        refine R_il fx_88_3 rfl ?_
        refine R_iflt fx_88_5 (by omega) (fun hc => by omega) (fun hc => ?_)
        refine R_il fx_88_8 rfl ?_
        refine R_il fx_88_10 rfl ?_
        refine R_push fx_88_11 ?_
        refine R_bin fx_88_12 (xb_not _) ?_
        refine R_bin fx_88_13 (xb_andn (by omega) (by omega)) ?_
        refine R_ifne fx_88_14 (by omega) (fun hc => ?_) (fun hc => by omega)
        refine R_inc fx_88_105 rfl ?_
        refine R_goto fx_88_108 ?_
        exact done _ _ g hA (fun _ _ => rfl) (by rw [hO u (by omega)]; exact emp u (by omega) (Or.inl hsub))
      have hz : u ^^^ (u &&& bset (frG G) 12) = 0 := andn_zero.mpr hsub
      by_cases hgt : s + 1 < popc u 12
      case pos =>
        refine R_il fx_88_3 rfl ?_
        refine R_iflt fx_88_5 (by omega) (fun hc => by omega) (fun hc => ?_)
        refine R_il fx_88_8 rfl ?_
        refine R_il fx_88_10 rfl ?_
        refine R_push fx_88_11 ?_
        refine R_bin fx_88_12 (xb_not _) ?_
        refine R_bin fx_88_13 (xb_andn (by omega) (by omega)) ?_
        refine R_ifne fx_88_14 (by omega) (fun hc => by omega) (fun hc => ?_)
        refine R_il fx_88_17 rfl ?_
        refine R_cs fx_88_19 rfl rfl rfl rfl ?_
        refine C_31 (by omega) ?_
        refine R_il fx_88_22 rfl ?_
        refine R_push fx_88_23 ?_
        refine R_add fx_88_24 ?_
        refine R_icgt fx_88_25 (by omega) (fun hc => ?_) (fun hc => by omega)
        refine R_inc fx_88_105 rfl ?_
        refine R_goto fx_88_108 ?_
        exact done _ _ g hA (fun _ _ => rfl) (by rw [hO u (by omega)]; exact emp u (by omega) (Or.inr hgt))
      refine R_il fx_88_3 rfl ?_
      refine R_iflt fx_88_5 (by omega) (fun hc => by omega) (fun hc => ?_)
      refine R_il fx_88_8 rfl ?_
      refine R_il fx_88_10 rfl ?_
      refine R_push fx_88_11 ?_
      refine R_bin fx_88_12 (xb_not _) ?_
      refine R_bin fx_88_13 (xb_andn (by omega) (by omega)) ?_
      refine R_ifne fx_88_14 (by omega) (fun hc => by omega) (fun hc => ?_)
      refine R_il fx_88_17 rfl ?_
      refine R_cs fx_88_19 rfl rfl rfl rfl ?_
      refine C_31 (by omega) ?_
      refine R_il fx_88_22 rfl ?_
      refine R_push fx_88_23 ?_
      refine R_add fx_88_24 ?_
      refine R_icgt fx_88_25 (by omega) (fun hc => by omega) (fun hc => ?_)
      refine R_al fx_88_28 rfl (by omega) ?_
      refine R_il fx_88_29 rfl ?_
      refine R_ia fx_88_31 (Or.inl kd_145) (by omega) (by rw [ln_145]; omega) (by omega) ?_
      refine R_il fx_88_32 rfl ?_
      refine R_cs fx_88_33 rfl rfl rfl rfl ?_
      refine C_86 hs ?_
      rw [Nat.one_mul, eu]
      refine R_add fx_88_36 ?_
      refine R_is fx_88_37 ?_
      refine R_push fx_88_39 ?_
      refine R_is fx_88_40 ?_
      refine C_88_r hV hP hs (by omega) (fun s r a b => by rw [hA 143 (by omega)]; exact h143 s r a b) (fun v hv => by rw [hO v (by omega)]; exact hL v (by omega)) (fun a b hao hac => ?_) 12 0 _ (by omega) (by omega) (((hL u (by omega)).shift (w := 256 + ((2 ^ s : Nat) : Int)) (by omega)).congr (fun v => ⟨fun z => Or.inl z, fun z => z.elim id (fun ⟨r, hr, _⟩ => absurd hr (by omega))⟩))
      refine R_al fx_88_94 rfl (by omega) ?_
      refine R_il fx_88_95 rfl ?_
      refine R_il fx_88_97 rfl ?_
      refine R_push fx_88_99 ?_
      refine R_min fx_88_101 hao (by omega) ⟨by decide, by decide, Nat.le_of_ble_eq_true rfl⟩ ?_
      refine R_ias fx_88_104 kd_145 (by omega) (by rw [ln_145]; omega) (by omega) ?_
      refine R_inc fx_88_105 rfl ?_
      refine R_goto fx_88_108 ?_
      rw [Int.toNat_natCast]
      refine done _ _ _ (fun c hc => by funext y; rw [xup_a hc]; exact congrFun (hA c hc) y) (fun j hj => by rw [xup_i hj]) ?_
      rw [xup_s]
      exact (hac.fin (fun k hk => AC_b hP hs hk)).congr (AC_12 hw)
  refine R_il fx_88_0 rfl ?_
  refine R_is fx_88_1 ?_
  refine loop (bset (frG G) 12 + 1) _ _ _ f (by omega) (by omega) (fun _ _ => rfl) (fun u hu hn => emp u hu (Or.inl (fun z => ?_))) (fun _ _ => rfl)
  have := sub_le z
  omega
end SB
