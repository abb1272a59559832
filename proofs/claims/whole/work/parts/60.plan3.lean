/-! ===== the plan: fillNext, fillRows ===== -/
def sub (v free : Nat) : Prop := ∀ i, v.testBit i = true → free.testBit i = true
theorem andn_bit {x y i : Nat} : (x ^^^ (x &&& y)).testBit i = (x.testBit i && !y.testBit i) := by
  rw [Nat.testBit_xor, Nat.testBit_and]
  cases x.testBit i <;> cases y.testBit i <;> rfl
theorem andn_zero {x y : Nat} : x ^^^ (x &&& y) = 0 ↔ sub x y := by
  constructor
  · intro h i hi
    have h2 := andn_bit (x := x) (y := y) (i := i)
    rw [h, hi] at h2
    cases hy : y.testBit i with
    | true => rfl
    | false => rw [hy] at h2; simp at h2
  · intro h
    apply Nat.eq_of_testBit_eq
    intro i
    rw [andn_bit]
    cases hx : x.testBit i with
    | false => simp
    | true => rw [h i hx]; simp
theorem andn_lt {x y : Nat} (h : x < 4096) : x ^^^ (x &&& y) < 4096 := Nat.xor_lt_two_pow (n := 12) h (Nat.lt_of_le_of_lt Nat.and_le_left h)
theorem sub_le {v free : Nat} (h : sub v free) : v ≤ free := by
  have e : v ||| free = free := by
    apply Nat.eq_of_testBit_eq
    intro i
    rw [Nat.testBit_or]
    cases hv : v.testBit i with
    | false => simp
    | true => rw [h i hv]; rfl
  rw [← e]
  exact Nat.left_le_or
theorem sub_or {u free r : Nat} (h : sub u free) (hr : free.testBit r = true) : sub (u ||| 2 ^ r) free := by
  intro i hi
  rw [bit_or] at hi
  cases hu : u.testBit i with
  | true => exact h i hu
  | false => rw [hu] at hi; simp at hi; rw [← hi]; exact hr
theorem pt_sub {g : Nat → List Int} {m n : Nat} (h : m ≤ n) (hs : sml (pt g n)) : sml (pt g m) := fun x hx => by
  obtain ⟨i, hi, h2⟩ := pt_mem.mp hx
  exact hs x (pt_mem.mpr ⟨i, by omega, h2⟩)
/-- the rows of the plan for all sets above n -/
def Rows (f : xF) (G : Nat → Int) (n : Nat) : Prop := ∀ v, n ≤ v → sub v (bset (frG G) 12) → ∀ s, s ≤ 8 → wc (wsG G) s = popc v 12 → f 145 v = mn (lev (coG G) s v) ∧ f 146 v = ct (lev (coG G) s v)
theorem lev_wc {G : Nat → Int} (hV : VG G) {s v : Nat} : ∀ {b : Nat}, s + b ≤ 8 → wc (wsG G) s = wc (wsG G) (s + b) → lev (coG G) s v = lev (coG G) (s + b) v
  | 0, _, _ => rfl
  | b + 1, h, e => by
    have hm := wc_mono (p := wsG G) (a := s) (b := b)
    have e2 : wc (wsG G) (s + (b + 1)) = wc (wsG G) (s + b) + (if wsG G (s + b) then 1 else 0) := rfl
    have hf := wc_eq e (s + b) (by omega) (by omega)
    rw [hf] at e2
    simp at e2
    rw [lev_wc hV (b := b) (by omega) (by omega)]
    exact lev_skip (coG_ok hV) (by omega) hf
theorem popc_le {x : Nat} : ∀ n, popc x n ≤ n
  | 0 => Nat.le_refl _
  | n + 1 => by
    have := popc_le (x := x) n
    show popc x n + _ ≤ _
    split <;> omega
theorem wc_find {p : Nat → Bool} {t : Nat} : ∀ n, t < wc p n → ∃ s, s < n ∧ p s = true ∧ wc p s = t
  | 0, h => absurd h (by show ¬ t < 0; omega)
  | n + 1, h => by
    have e : wc p (n + 1) = wc p n + (if p n then 1 else 0) := rfl
    by_cases z : t < wc p n
    · obtain ⟨s, h1, h2, h3⟩ := wc_find n z
      exact ⟨s, by omega, h2, h3⟩
    · cases hp : p n with
      | true => rw [hp] at e; simp at e; exact ⟨n, by omega, hp, by omega⟩
      | false => rw [hp] at e; simp at e; omega
section OH
variable {L : Nat} {f : xF} {Q : List xV → xF → Prop} {G : Nat → Int}
theorem C_66 {u2 l2 s2 : Int} {u lf s : Nat} (eu : u2 = u) (el : l2 = lf) (es : s2 = s) (hV : VG G) (hS : Sg f 4 G) (h143 : ∀ s r, s < 8 → r < 12 → f 143 (s * 12 + r) = csG G s r) (h144 : ∀ k r q, k < 4 → r < 12 → q < 12 → f 144 ((k * 12 + r) * 12 + q) = cpG G k r q) (hu : u < 4096) (hlf : lf < 4096) (hs : s < 8) (hsub : sub u (bset (frG G) 12)) (hbit : ∀ r, r < 12 → lf.testBit r = ((bset (frG G) 12).testBit r && !u.testBit r)) (hw : wsG G s = true) (hpc : wc (wsG G) s = popc u 12) (hR : Rows f G (u + 1)) (h1 : f 145 u = 268435456) (h2 : f 146 u = 0) (K : ∀ g : xF, (∀ c, c ≠ 145 → c ≠ 146 → g c = f c) → (∀ j, j ≠ u → g 145 j = f 145 j ∧ g 146 j = f 146 j) → g 145 u = mn (lev (coG G) s u) → g 146 u = ct (lev (coG G) s u) → Q [] g) : Rf (SHL L) 66 0 (xloc 66 [.inr 141, .inr 4, .inl u2, .inl l2, .inl s2]) [] f Q := by
  subst eu el es
  have ho := coG_ok hV
  have e7 : f 7 ((s : Int) / 2).toNat = G (12 + s / 2) := by rw [show ((s : Int) / 2).toNat = s / 2 by omega]; exact hS.2.2.1 _ (by omega)
  have e8 : f 8 ((s : Int) / 2).toNat = G (16 + s / 2) := by rw [show ((s : Int) / 2).toNat = s / 2 by omega]; exact hS.2.2.2.1 _ (by omega)
  have e6 : f 6 (2 * ((s : Int) / 2)).toNat = G (4 + 2 * (s / 2)) := by rw [show (2 * ((s : Int) / 2)).toNat = 2 * (s / 2) by omega]; exact hS.2.1 _ (by omega)
  have e5 : f 6 (2 * ((s : Int) / 2) + 1).toNat = G (4 + (2 * (s / 2) + 1)) := by rw [show (2 * ((s : Int) / 2) + 1).toNat = 2 * (s / 2) + 1 by omega]; exact hS.2.1 _ (by omega)
  have ew1 : wc (wsG G) (s + 1) = wc (wsG G) s + 1 := by show _ + _ = _; rw [hw]; rfl
  have hlr : ∀ r, r < 12 → lf.testBit r = true → (bset (frG G) 12).testBit r = true ∧ u.testBit r = false := fun r hr h => by
    have := hbit r hr
    rw [h] at this
    refine ⟨?_, and_not this⟩
    cases h9 : (bset (frG G) 12).testBit r with
    | true => rfl
    | false => rw [h9] at this; simp at this
  refine R_al fx_66_0 rfl (by omega) ?_
  refine R_il fx_66_1 rfl ?_
  refine R_push fx_66_3 ?_
  refine R_bin fx_66_4 (xb_div (by omega) (by omega) (by omega) (by omega)) ?_
  refine R_cv fx_66_5 rfl rfl rfl rfl kd_4 ?_
  refine C_60 (by omega) (hV.w hS) (hV.b hS) (fun hc => ?_) (fun hc => ?_) <;> rw [e5, e6, e7, e8] at hc
  · refine R_ifne fx_66_8 (by decide) (fun _ => ?_) (fun h => absurd h (by decide))
    refine R_il fx_66_22 rfl ?_
    refine R_push fx_66_24 ?_
    refine R_bin fx_66_25 (xb_rem (by omega) (by omega) (by omega) (by omega)) ?_
    refine R_ifne fx_66_26 (by omega) (fun hc8 => ?_) (fun hc8 => ?_)
    · have hmb : mbG G (s / 2) = true := decide_eq_true hc.2
      have hso : s = 2 * (s / 2) + 1 := by omega
      have hlev : lev (coG G) s u = [] := by rw [hso]; exact lev_odd_mb hmb
      exact R_retv fx_66_39 rfl (K f (fun _ _ _ => rfl) (fun _ _ => ⟨rfl, rfl⟩) (by rw [hlev]; exact h1) (by rw [hlev]; exact h2))
    · refine R_al fx_66_29 rfl (by omega) ?_
      refine R_il fx_66_30 rfl ?_
      refine R_il fx_66_31 rfl ?_
      refine R_il fx_66_32 rfl ?_
      refine R_push fx_66_34 ?_
      refine R_bin fx_66_35 (xb_div (by omega) (by omega) (by omega) (by omega)) ?_
      refine R_cv fx_66_36 rfl rfl rfl rfl kd_141 ?_
      have hmb : mbG G (s / 2) = true := decide_eq_true hc.2
      have hse : s = 2 * (s / 2) := by omega
      have hlev := lev_pair (o := coG G) (set := u) (k := s / 2) (by omega) hmb
      have hw2 : wsG G (s + 1) = true := by rw [show s + 1 = 2 * (s / 2) + 1 by omega]; exact (ho.mb (s / 2) (by omega) hmb).2
      have ew2 : wc (wsG G) (2 * (s / 2) + 2) = wc (wsG G) s + 2 := by rw [show 2 * (s / 2) + 2 = s + 1 + 1 by omega]; show wc (wsG G) (s + 1) + _ = _; rw [hw2, ew1]; rfl
      refine C_69 (k := s / 2) (F := lev (coG G) (2 * (s / 2) + 2)) ho hu hlf (by omega) hbit (fun r q hr hq => h144 _ r q (by omega) hr hq) (fun r q hr hq hl1 hl2 hne => ?_) (fun v => lev_sml ho (by omega)) (fun m hm => pt_sub hm (by rw [← hlev]; exact lev_sml ho (by omega))) rfl rfl (by omega) h1 h2 (fun g a1 a2 a3 a4 => ?_)
      · obtain ⟨q1, q2⟩ := hlr r hr hl1
        obtain ⟨q3, q4⟩ := hlr q hq hl2
        have q5 : (u ||| 2 ^ r).testBit q = false := by rw [bit_or, q4]; simp [hne]
        refine hR _ (Nat.lt_trans (or_gt q2) (or_gt q5)) (sub_or (sub_or hsub q1) q3) _ (by omega) ?_
        rw [popc_or q5, popc_or q2, if_pos hr, if_pos hq, ew2, hpc]
      refine R_retv fx_66_39 rfl (K g a1 a2 ?_ ?_)
      · rw [show lev (coG G) s u = lev (coG G) (2 * (s / 2)) u by rw [← hse], hlev]; exact a3
      · rw [show lev (coG G) s u = lev (coG G) (2 * (s / 2)) u by rw [← hse], hlev]; exact a4
  · refine R_ifne fx_66_8 (by decide) (fun h => absurd h (by decide)) (fun _ => ?_)
    refine R_al fx_66_11 rfl (by omega) ?_
    refine R_il fx_66_12 rfl ?_
    refine R_il fx_66_13 rfl ?_
    refine R_il fx_66_14 rfl ?_
    refine R_cv fx_66_16 rfl rfl rfl rfl kd_141 ?_
    have hmb : mbG G (s / 2) = false := decide_eq_false (fun z => hc ⟨by omega, z⟩)
    have hlev := lev_slot (o := coG G) (set := u) hs hw hmb
    refine C_67 (s := s) (F := lev (coG G) (s + 1)) rfl rfl rfl ho hu hlf hs hbit (fun r hr => h143 s r hs hr) (fun r hr hl => ?_) (fun v => lev_sml ho (by omega)) (fun m hm => pt_sub hm (by rw [← hlev]; exact lev_sml ho (by omega))) h1 h2 (fun g a1 a2 a3 a4 => ?_)
    · obtain ⟨q1, q2⟩ := hlr r hr hl
      refine hR _ (or_gt q2) (sub_or hsub q1) (s + 1) (by omega) ?_
      rw [popc_or q2, if_pos hr, ew1, hpc]
    refine R_goto fx_66_19 ?_
    exact R_retv fx_66_39 rfl (K g a1 a2 (by rw [hlev]; exact a3) (by rw [hlev]; exact a4))
theorem C_65 (hV : VG G) (hS : Sg f 4 G) (h143 : ∀ s r, s < 8 → r < 12 → f 143 (s * 12 + r) = csG G s r) (h144 : ∀ k r q, k < 4 → r < 12 → q < 12 → f 144 ((k * 12 + r) * 12 + q) = cpG G k r q) (h5 : f 141 5 = ((wc (wsG G) 8 : Nat) : Int)) (h147 : ∀ s, s < 8 → wsG G s = true → f 147 (wc (wsG G) s) = s) (K : ∀ g : xF, (∀ c, c ≠ 145 → c ≠ 146 → g c = f c) → Rows g G 0 → Q [] g) : Rf (SHL L) 65 0 (xloc 65 [.inr 141, .inr 4]) [] f Q := by
  have hfl : bset (frG G) 12 < 4096 := bset_lt (frG G) 12
  have hw8 := wc_le (p := wsG G) (a := 8)
  have loop : ∀ (n : Nat) (x : Int) (X : Option xV) (g : xF), x = (n : Int) - 1 → n ≤ bset (frG G) 12 + 1 → (∀ c, c ≠ 145 → c ≠ 146 → g c = f c) → Rows g G n → Rf (SHL L) 65 7 [some (.inr 141), some (.inr 4), some (.inl ((bset (frG G) 12 : Nat) : Int)), some (.inl x), X] [] g Q := by
    intro n
    induction n with
    | zero =>
      intro x X g hx hn hA hR
      refine R_il fx_65_7 rfl ?_
      refine R_iflt fx_65_8 (by omega) (fun hc => ?_) (fun hc => by omega)
      exact R_retv fx_65_108 rfl (K g hA hR)
    | succ u ih =>
      intro x X g hx hn hA hR
      have hx2 : x = (u : Int) := by omega
      subst hx2
      have hSg : Sg g 4 G := hS.kept (fun c _ _ => hA c (by omega) (by omega))
      have g5 : g 141 5 = ((wc (wsG G) 8 : Nat) : Int) := by rw [hA 141 (by omega) (by omega)]; exact h5
      have hpl : popc u 12 ≤ 12 := popc_le 12
      have hzl : u ^^^ (u &&& bset (frG G) 12) < 4096 := andn_lt (by omega)
      have done : ∀ (X2 : Option xV) (g2 : xF), (∀ c, c ≠ 145 → c ≠ 146 → g2 c = f c) → (∀ j, j ≠ u → g2 145 j = g 145 j ∧ g2 146 j = g 146 j) → (sub u (bset (frG G) 12) → ∀ s, s ≤ 8 → wc (wsG G) s = popc u 12 → g2 145 u = mn (lev (coG G) s u) ∧ g2 146 u = ct (lev (coG G) s u)) → Rf (SHL L) 65 7 [some (.inr 141), some (.inr 4), some (.inl ((bset (frG G) 12 : Nat) : Int)), some (.inl ((u : Int) + -1)), X2] [] g2 Q := fun X2 g2 a1 a2 a3 => ih _ X2 g2 (by omega) (by omega) a1 (fun v hv hs s h8 hws => by
          by_cases e : v = u
          · subst e; exact a3 hs s h8 hws
          · have := hR v (by omega) hs s h8 hws
            rw [(a2 v e).1, (a2 v e).2]
            exact this)
      by_cases hsub : sub u (bset (frG G) 12)
      case neg =>
        have hz : u ^^^ (u &&& bset (frG G) 12) ≠ 0 := fun z => hsub (andn_zero.mp z)
        refine R_il fx_65_7 rfl ?_
        refine R_iflt fx_65_8 (by omega) (fun hc => by omega) (fun hc => ?_)
        refine R_il fx_65_11 rfl ?_
        refine R_cs fx_65_12 rfl rfl rfl rfl ?_
        refine C_31 (by omega) ?_
        refine R_is fx_65_15 ?_
        refine R_il fx_65_17 rfl ?_
        refine R_il fx_65_18 rfl ?_
        refine R_push fx_65_19 ?_
        refine R_bin fx_65_20 (xb_not _) ?_
        refine R_bin fx_65_21 (xb_andn (by omega) (by omega)) ?_
        refine R_ifne fx_65_22 (by omega) (fun hc => ?_) (fun hc => by omega)
        refine R_inc fx_65_102 rfl ?_
        refine R_goto fx_65_105 ?_
        exact done _ g hA (fun _ _ => ⟨rfl, rfl⟩) (fun z => absurd z hsub)
      have hz : u ^^^ (u &&& bset (frG G) 12) = 0 := andn_zero.mpr hsub
      by_cases hgt : wc (wsG G) 8 < popc u 12
      case pos =>
        refine R_il fx_65_7 rfl ?_
        refine R_iflt fx_65_8 (by omega) (fun hc => by omega) (fun hc => ?_)
        refine R_il fx_65_11 rfl ?_
        refine R_cs fx_65_12 rfl rfl rfl rfl ?_
        refine C_31 (by omega) ?_
        refine R_is fx_65_15 ?_
        refine R_il fx_65_17 rfl ?_
        refine R_il fx_65_18 rfl ?_
        refine R_push fx_65_19 ?_
        refine R_bin fx_65_20 (xb_not _) ?_
        refine R_bin fx_65_21 (xb_andn (by omega) (by omega)) ?_
        refine R_ifne fx_65_22 (by omega) (fun hc => by omega) (fun hc => ?_)
        refine R_il fx_65_25 rfl ?_
        refine R_al fx_65_27 rfl (by omega) ?_
        refine R_gf fx_65_28 kd_141 rfl ?_
        refine R_icgt fx_65_31 (by omega) (fun hc => ?_) (fun hc => by omega)
        refine R_inc fx_65_102 rfl ?_
        refine R_goto fx_65_105 ?_
        refine done _ g hA (fun _ _ => ⟨rfl, rfl⟩) (fun _ s h8 hws => ?_)
        have h9 := wc_mono (p := wsG G) (a := s) (b := 8 - s)
        rw [show s + (8 - s) = 8 by omega] at h9
        omega
      by_cases heq : popc u 12 = wc (wsG G) 8
      case pos =>
        refine R_il fx_65_7 rfl ?_
        refine R_iflt fx_65_8 (by omega) (fun hc => by omega) (fun hc => ?_)
        refine R_il fx_65_11 rfl ?_
        refine R_cs fx_65_12 rfl rfl rfl rfl ?_
        refine C_31 (by omega) ?_
        refine R_is fx_65_15 ?_
        refine R_il fx_65_17 rfl ?_
        refine R_il fx_65_18 rfl ?_
        refine R_push fx_65_19 ?_
        refine R_bin fx_65_20 (xb_not _) ?_
        refine R_bin fx_65_21 (xb_andn (by omega) (by omega)) ?_
        refine R_ifne fx_65_22 (by omega) (fun hc => by omega) (fun hc => ?_)
        refine R_il fx_65_25 rfl ?_
        refine R_al fx_65_27 rfl (by omega) ?_
        refine R_gf fx_65_28 kd_141 rfl ?_
        refine R_icgt fx_65_31 (by omega) (fun hc => by omega) (fun hc => ?_)
        refine R_al fx_65_34 rfl (by omega) ?_
        refine R_gr fx_65_35 kd_141 rfl rr_141_1 ?_
        refine R_il fx_65_38 rfl ?_
        refine R_il fx_65_39 rfl ?_
        refine R_al fx_65_41 rfl (by omega) ?_
        refine R_gf fx_65_42 kd_141 rfl ?_
        try simp only [xup_a (show (141 : Nat) ≠ 145 by omega), xup_a (show (141 : Nat) ≠ 146 by omega), xup_a (show (147 : Nat) ≠ 145 by omega), xup_a (show (147 : Nat) ≠ 146 by omega)]
        refine R_icne fx_65_45 (by omega) (fun hc => by omega) (fun hc => ?_)
        refine R_push fx_65_48 ?_
        refine R_goto fx_65_49 ?_
        refine R_ias fx_65_54 kd_145 (by omega) (by rw [ln_145]; omega) (by omega) ?_
        refine R_al fx_65_55 rfl (by omega) ?_
        refine R_gr fx_65_56 kd_141 rfl rr_141_2 ?_
        refine R_il fx_65_59 rfl ?_
        refine R_il fx_65_60 rfl ?_
        refine R_al fx_65_62 rfl (by omega) ?_
        refine R_gf fx_65_63 kd_141 rfl ?_
        try simp only [xup_a (show (141 : Nat) ≠ 145 by omega), xup_a (show (141 : Nat) ≠ 146 by omega), xup_a (show (147 : Nat) ≠ 145 by omega), xup_a (show (147 : Nat) ≠ 146 by omega)]
        refine R_icne fx_65_66 (by omega) (fun hc => by omega) (fun hc => ?_)
        refine R_push fx_65_69 ?_
        refine R_goto fx_65_70 ?_
        refine R_ias fx_65_74 kd_146 (by omega) (by rw [ln_146]; omega) (by omega) ?_
        refine R_il fx_65_75 rfl ?_
        refine R_al fx_65_77 rfl (by omega) ?_
        refine R_gf fx_65_78 kd_141 rfl ?_
        try simp only [xup_a (show (141 : Nat) ≠ 145 by omega), xup_a (show (141 : Nat) ≠ 146 by omega), xup_a (show (147 : Nat) ≠ 145 by omega), xup_a (show (147 : Nat) ≠ 146 by omega)]
        refine R_icge fx_65_81 (by omega) (fun hc => ?_) (fun hc => by omega)
        refine R_inc fx_65_102 rfl ?_
        refine R_goto fx_65_105 ?_
        rw [Int.toNat_natCast]
        refine done _ _ (fun c a b => ?_) (fun j h9 => ?_) (fun _ s h8 hws => ?_)
        · funext y; rw [xup_a b, xup_a a]; exact congrFun (hA c a b) y
        · rw [xup_a (by omega), xup_i h9, xup_i h9, xup_a (by omega)]; exact ⟨rfl, rfl⟩
        · have hl := lev_wc hV (s := s) (v := u) (b := 8 - s) (by omega) (by rw [show s + (8 - s) = 8 by omega]; omega)
          rw [show s + (8 - s) = 8 by omega, lev_8] at hl
          rw [xup_a (by omega), xup_s, xup_s, hl]; exact ⟨rfl, rfl⟩
      refine R_il fx_65_7 rfl ?_
      refine R_iflt fx_65_8 (by omega) (fun hc => by omega) (fun hc => ?_)
      refine R_il fx_65_11 rfl ?_
      refine R_cs fx_65_12 rfl rfl rfl rfl ?_
      refine C_31 (by omega) ?_
      refine R_is fx_65_15 ?_
      refine R_il fx_65_17 rfl ?_
      refine R_il fx_65_18 rfl ?_
      refine R_push fx_65_19 ?_
      refine R_bin fx_65_20 (xb_not _) ?_
      refine R_bin fx_65_21 (xb_andn (by omega) (by omega)) ?_
      refine R_ifne fx_65_22 (by omega) (fun hc => by omega) (fun hc => ?_)
      refine R_il fx_65_25 rfl ?_
      refine R_al fx_65_27 rfl (by omega) ?_
      refine R_gf fx_65_28 kd_141 rfl ?_
      refine R_icgt fx_65_31 (by omega) (fun hc => by omega) (fun hc => ?_)
      refine R_al fx_65_34 rfl (by omega) ?_
      refine R_gr fx_65_35 kd_141 rfl rr_141_1 ?_
      refine R_il fx_65_38 rfl ?_
      refine R_il fx_65_39 rfl ?_
      refine R_al fx_65_41 rfl (by omega) ?_
      refine R_gf fx_65_42 kd_141 rfl ?_
      try simp only [xup_a (show (141 : Nat) ≠ 145 by omega), xup_a (show (141 : Nat) ≠ 146 by omega), xup_a (show (147 : Nat) ≠ 145 by omega), xup_a (show (147 : Nat) ≠ 146 by omega)]
      refine R_icne fx_65_45 (by omega) (fun hc => ?_) (fun hc => by omega)
      refine R_push fx_65_52 ?_
      refine R_ias fx_65_54 kd_145 (by omega) (by rw [ln_145]; omega) (by omega) ?_
      refine R_al fx_65_55 rfl (by omega) ?_
      refine R_gr fx_65_56 kd_141 rfl rr_141_2 ?_
      refine R_il fx_65_59 rfl ?_
      refine R_il fx_65_60 rfl ?_
      refine R_al fx_65_62 rfl (by omega) ?_
      refine R_gf fx_65_63 kd_141 rfl ?_
      try simp only [xup_a (show (141 : Nat) ≠ 145 by omega), xup_a (show (141 : Nat) ≠ 146 by omega), xup_a (show (147 : Nat) ≠ 145 by omega), xup_a (show (147 : Nat) ≠ 146 by omega)]
      refine R_icne fx_65_66 (by omega) (fun hc => ?_) (fun hc => by omega)
      refine R_push fx_65_73 ?_
      refine R_ias fx_65_74 kd_146 (by omega) (by rw [ln_146]; omega) (by omega) ?_
      refine R_il fx_65_75 rfl ?_
      refine R_al fx_65_77 rfl (by omega) ?_
      refine R_gf fx_65_78 kd_141 rfl ?_
      try simp only [xup_a (show (141 : Nat) ≠ 145 by omega), xup_a (show (141 : Nat) ≠ 146 by omega), xup_a (show (147 : Nat) ≠ 145 by omega), xup_a (show (147 : Nat) ≠ 146 by omega)]
      refine R_icge fx_65_81 (by omega) (fun hc => by omega) (fun hc => ?_)
      refine R_al fx_65_84 rfl (by omega) ?_
      refine R_al fx_65_85 rfl (by omega) ?_
      refine R_il fx_65_86 rfl ?_
      refine R_il fx_65_87 rfl ?_
      refine R_il fx_65_88 rfl ?_
      refine R_push fx_65_89 ?_
      refine R_bin fx_65_90 (xb_not _) ?_
      refine R_bin fx_65_91 (xb_andn (by omega) (by omega)) ?_
      refine R_al fx_65_92 rfl (by omega) ?_
      refine R_gr fx_65_93 kd_141 rfl rr_141_3 ?_
      refine R_il fx_65_96 rfl ?_
      try simp only [xup_a (show (141 : Nat) ≠ 145 by omega), xup_a (show (141 : Nat) ≠ 146 by omega), xup_a (show (147 : Nat) ≠ 145 by omega), xup_a (show (147 : Nat) ≠ 146 by omega)]
      refine R_ia fx_65_98 (Or.inl kd_147) (by omega) (by rw [ln_147]; omega) (by omega) ?_
      refine R_cv fx_65_99 rfl rfl rfl rfl kd_141 ?_
      obtain ⟨s0, hs0, hws0, hwc0⟩ := wc_find (p := wsG G) (t := popc u 12) 8 (by omega)
      have e147 : g 147 ((popc u 12 : Nat) : Int).toNat = s0 := by rw [Int.toNat_natCast, ← hwc0, hA 147 (by omega) (by omega)]; exact h147 s0 hs0 hws0
      rw [xup_a (show (147 : Nat) ≠ 146 by omega), xup_a (show (147 : Nat) ≠ 145 by omega), e147, Int.toNat_natCast]
      refine C_66 (s := s0) rfl rfl rfl hV (hSg.kept (fun c _ _ => by funext y; rw [xup_a (by omega), xup_a (by omega)])) (fun s r a b => by rw [xup_a (by omega), xup_a (by omega), hA 143 (by omega) (by omega)]; exact h143 s r a b) (fun k r q a b c => by rw [xup_a (by omega), xup_a (by omega), hA 144 (by omega) (by omega)]; exact h144 k r q a b c) (by omega) (andn_lt hfl) hs0 hsub (fun r _ => andn_bit) hws0 hwc0 (fun v hv hs s h8 hws => ?_) (by rw [xup_a (by omega), xup_s]) (by rw [xup_s]) (fun g2 a1 a2 a3 a4 => ?_)
      · rw [xup_a (by omega), xup_i (by omega), xup_i (by omega), xup_a (by omega)]; exact hR v hv hs s h8 hws
      refine R_inc fx_65_102 rfl ?_
      refine R_goto fx_65_105 ?_
      refine done _ g2 (fun c a b => ?_) (fun j h9 => ?_) (fun _ s h8 hws => ?_)
      · rw [a1 c a b]; funext y; rw [xup_a b, xup_a a]; exact congrFun (hA c a b) y
      · rw [(a2 j h9).1, (a2 j h9).2, xup_a (by omega), xup_i h9, xup_i h9, xup_a (by omega)]; exact ⟨rfl, rfl⟩
      · have hle : s ≤ s0 := by
          by_cases z : s ≤ s0
          · exact z
          · exfalso
            have h9 := wc_mono (p := wsG G) (a := s0 + 1) (b := s - (s0 + 1))
            rw [show s0 + 1 + (s - (s0 + 1)) = s by omega] at h9
            have h7 : wc (wsG G) (s0 + 1) = wc (wsG G) s0 + 1 := by show _ + _ = _; rw [hws0]; rfl
            omega
        have hl := lev_wc hV (s := s) (v := u) (b := s0 - s) (by omega) (by rw [show s + (s0 - s) = s0 by omega]; omega)
        rw [show s + (s0 - s) = s0 by omega] at hl
        rw [hl]; exact ⟨a3, a4⟩
  refine R_al fx_65_0 rfl (by omega) ?_
  refine R_cv fx_65_1 rfl rfl rfl rfl kd_4 ?_
  refine C_30 (hV.m hS) (hV.p hS) ?_
  rw [fr_eq hS]
  refine R_is fx_65_4 ?_
  refine R_il fx_65_5 rfl ?_
  refine R_is fx_65_6 ?_
  refine loop (bset (frG G) 12 + 1) _ _ f (by omega) (by omega) (fun _ _ _ => rfl) (fun v hv hs => ?_)
  have := sub_le hs
  omega
end OH
