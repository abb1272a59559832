/-! ===== the plan: fillByPair, fillNext, putInOrder ===== -/
section PG
variable {o : CO} {free lf u k r q : Nat} {F : Nat → List Int}
theorem pairG_no (ho : COk o free) (hk : k < 4) (hr : r < 12) (hq : q < 12) (hbr : lf.testBit r = (free.testBit r && !u.testBit r)) (hbq : lf.testBit q = (free.testBit q && !u.testBit q)) (h : lf.testBit r = false ∨ lf.testBit q = false ∨ o.cp k r q = 268435456) : pairG (o.cp k) F u (12 * r + q) = [] := by
  unfold pairG
  rw [show (12 * r + q) / 12 = r by omega, show (12 * r + q) % 12 = q by omega]
  cases h1 : u.testBit r with
  | true => rfl
  | false =>
    cases h2 : u.testBit q with
    | true => rfl
    | false =>
      have hz : o.cp k r q = 268435456 := by
        rcases ho.cp k r q hk hr hq with z | z
        · exact z
        · rw [h1, z.2.2.1] at hbr
          rw [h2, z.2.2.2.1] at hbq
          rcases h with h | h | h
          · rw [h] at hbr; exact absurd hbr (by decide)
          · rw [h] at hbq; exact absurd hbq (by decide)
          · exact h
      rw [hz]
      rfl
theorem pairG_yes (hbr : true = (free.testBit r && !u.testBit r)) (hbq : true = (free.testBit q && !u.testBit q)) (hq : q < 12) : pairG (o.cp k) F u (12 * r + q) = sumL (o.cp k r q) (F (u ||| 2 ^ r ||| 2 ^ q)) := by
  unfold pairG
  rw [show (12 * r + q) / 12 = r by omega, show (12 * r + q) % 12 = q by omega, and_not hbr, and_not hbq]
  rfl
theorem or2_ne (h : u.testBit r = false) : u ||| 2 ^ r ||| 2 ^ q ≠ u := fun z => by
  have : (u ||| 2 ^ r ||| 2 ^ q).testBit r = true := by rw [bit_or, bit_or]; simp
  rw [z, h] at this
  exact absurd this (by decide)
end PG
def wc (p : Nat → Bool) : Nat → Nat
  | 0 => 0
  | n + 1 => wc p n + (if p n then 1 else 0)
theorem wc_mono {p : Nat → Bool} {a : Nat} : ∀ {b : Nat}, wc p a ≤ wc p (a + b)
  | 0 => Nat.le_refl _
  | b + 1 => by
    have := wc_mono (p := p) (a := a) (b := b)
    show _ ≤ wc p (a + b) + _
    omega
theorem wc_le {p : Nat → Bool} : ∀ {a : Nat}, wc p a ≤ a
  | 0 => Nat.le_refl _
  | a + 1 => by
    have := wc_le (p := p) (a := a)
    show wc p a + _ ≤ _
    split <;> omega
theorem wc_eq {p : Nat → Bool} {a : Nat} : ∀ {b : Nat}, wc p a = wc p (a + b) → ∀ i, a ≤ i → i < a + b → p i = false
  | 0, _, i, h1, h2 => by omega
  | b + 1, h, i, h1, h2 => by
    have hm := wc_mono (p := p) (a := a) (b := b)
    have e : wc p (a + (b + 1)) = wc p (a + b) + (if p (a + b) then 1 else 0) := rfl
    rw [e] at h
    cases hp : p (a + b) with
    | true => rw [hp] at h; simp at h; omega
    | false =>
      rw [hp] at h
      simp at h
      by_cases e2 : i = a + b
      · rw [e2]; exact hp
      · exact wc_eq h i h1 (by omega)
theorem popc_or {u r : Nat} (h : u.testBit r = false) : ∀ n, popc (u ||| 2 ^ r) n = popc u n + (if r < n then 1 else 0)
  | 0 => rfl
  | n + 1 => by
    show popc (u ||| 2 ^ r) n + (if (u ||| 2 ^ r).testBit n then 1 else 0) = popc u n + (if u.testBit n then 1 else 0) + _
    rw [popc_or h n, bit_or]
    by_cases e : r = n
    · subst e; rw [h]; simp
    · have hd : decide (r = n) = false := decide_eq_false e
      rw [hd, Bool.or_false]
      by_cases h2 : r < n
      · rw [if_pos h2, if_pos (show r < n + 1 by omega)]; omega
      · rw [if_neg h2, if_neg (show ¬ r < n + 1 by omega)]; omega
section OG
variable {L : Nat} {f : xF} {Q : List xV → xF → Prop} {G : Nat → Int}
theorem C_69_2 {u lf k free : Nat} {o : CO} {F : Nat → List Int} (ho : COk o free) (hu : u < 4096) (hlf : lf < 4096) (hk : k < 4) (hbit : ∀ r, r < 12 → lf.testBit r = (free.testBit r && !u.testBit r)) (h144 : ∀ r q, r < 12 → q < 12 → f 144 ((k * 12 + r) * 12 + q) = o.cp k r q) (hF : ∀ r q, r < 12 → q < 12 → lf.testBit r = true → lf.testBit q = true → r ≠ q → f 145 (u ||| 2 ^ r ||| 2 ^ q) = mn (F (u ||| 2 ^ r ||| 2 ^ q)) ∧ f 146 (u ||| 2 ^ r ||| 2 ^ q) = ct (F (u ||| 2 ^ r ||| 2 ^ q))) (hsm : ∀ v, sml (F v)) (hsm2 : ∀ m, m ≤ 144 → sml (pt (pairG (o.cp k) F u) m)) {r : Nat} (hr : r < 12) (K : ∀ (g : xF) (X : Option xV), (∀ c, c ≠ 145 → c ≠ 146 → g c = f c) → (∀ j, j ≠ u → g 145 j = f 145 j ∧ g 146 j = f 146 j) → g 145 u = mn (pt (pairG (o.cp k) F u) (12 * r + 12)) → g 146 u = ct (pt (pairG (o.cp k) F u) (12 * r + 12)) → Rf (SHL L) 69 91 [some (.inr 141), some (.inl (u : Int)), some (.inl (lf : Int)), some (.inl (k : Int)), some (.inl (r : Int)), X] [] g Q) : ∀ (n q : Nat) (g : xF), q + n = 12 → (∀ c, c ≠ 145 → c ≠ 146 → g c = f c) → (∀ j, j ≠ u → g 145 j = f 145 j ∧ g 146 j = f 146 j) → g 145 u = mn (pt (pairG (o.cp k) F u) (12 * r + q)) → g 146 u = ct (pt (pairG (o.cp k) F u) (12 * r + q)) → Rf (SHL L) 69 13 [some (.inr 141), some (.inl (u : Int)), some (.inl (lf : Int)), some (.inl (k : Int)), some (.inl (r : Int)), some (.inl (q : Int))] [] g Q := by
  have hler : lf / 2 ^ r ≤ lf := Nat.div_le_self _ _
  have hb1r : (lf / 2 ^ r &&& 1) ≤ 1 := Nat.and_le_right
  have hbr := bit_eq (s := lf) (r := r)
  have hp2r := p2b r hr
  have hpwr := pw12 hr
  have hbitr := hbit r hr
  intro n
  induction n with
  | zero =>
    intro q g hq hA hB e1 e2
    have hqj : q = 12 := by omega
    subst hqj
    refine R_il fx_69_13 rfl ?_
    refine R_push fx_69_15 ?_
    refine R_icge fx_69_17 (by omega) (fun hc => ?_) (fun hc => by omega)
    exact K g _ hA hB e1 e2
  | succ n ih =>
    intro q g hq hA hB e1 e2
    have hleq : lf / 2 ^ q ≤ lf := Nat.div_le_self _ _
    have hb1q : (lf / 2 ^ q &&& 1) ≤ 1 := Nat.and_le_right
    have hbq := bit_eq (s := lf) (r := q)
    have hp2q := p2b q (by omega)
    have hpwq := pw12 (show q < 12 by omega)
    have hbitq := hbit q (by omega)
    have e144 : g 144 (((k : Int) * 12 + (r : Int)) * 12 + (q : Int)).toNat = o.cp k r q := by rw [show (((k : Int) * 12 + (r : Int)) * 12 + (q : Int)).toNat = (k * 12 + r) * 12 + q by omega, hA 144 (by omega) (by omega)]; exact h144 r q hr (by omega)
    have hcb := ho.cp k r q hk hr (by omega)
    have nob : ∀ {i : Nat}, ¬ ((lf / 2 ^ i &&& 1 : Nat) : Int) = 1 → lf.testBit i = false := fun {i} h => by
      cases h9 : lf.testBit i with
      | true => exact absurd (bit_eq.mpr h9) h
      | false => rfl
    have no : pairG (o.cp k) F u (12 * r + q) = [] → Rf (SHL L) 69 13 [some (.inr 141), some (.inl (u : Int)), some (.inl (lf : Int)), some (.inl (k : Int)), some (.inl (r : Int)), some (.inl ((q : Int) + 1))] [] g Q := fun h => ih (q + 1) g (by omega) hA hB (by rw [← Nat.add_assoc, pt_succ, h, List.append_nil]; exact e1) (by rw [← Nat.add_assoc, pt_succ, h, List.append_nil]; exact e2)
    have hor := or_lt hu hr
    refine R_il fx_69_13 rfl ?_
    refine R_push fx_69_15 ?_
    refine R_icge fx_69_17 (by omega) (fun hc => by omega) (fun hc => ?_)
    refine R_il fx_69_20 rfl ?_
    refine R_il fx_69_21 rfl ?_
    refine R_bin fx_69_23 (xb_shr (by omega) (by omega)) ?_
    refine R_push fx_69_24 ?_
    refine R_bin fx_69_25 (xb_and (y := 1) (by omega) (by omega)) ?_
    refine R_push fx_69_26 ?_
    refine R_icne fx_69_27 (by omega) (fun hc1 => ?_) (fun hc1 => ?_)
    · have hlr := nob hc1
      have hsk := pt_skip (g := pairG (o.cp k) F u) (n := 12 * r + q) (m := n + 1) (fun i a b => by
        have hz := pairG_no (F := F) (q := i - 12 * r) ho hk hr (by omega) hbitr (hbit _ (by omega)) (Or.inl hlr)
        rw [show 12 * r + (i - 12 * r) = i by omega] at hz
        exact hz)
      rw [show 12 * r + q + (n + 1) = 12 * r + 12 by omega] at hsk
      exact K g _ hA hB (by rw [hsk]; exact e1) (by rw [hsk]; exact e2)
    · refine R_il fx_69_30 rfl ?_
      refine R_il fx_69_31 rfl ?_
      refine R_bin fx_69_33 (xb_shr (by omega) (by omega)) ?_
      refine R_push fx_69_34 ?_
      refine R_bin fx_69_35 (xb_and (y := 1) (by omega) (by omega)) ?_
      refine R_push fx_69_36 ?_
      refine R_icne fx_69_37 (by omega) (fun hc2 => ?_) (fun hc2 => ?_)
      · refine R_inc fx_69_85 rfl ?_
        refine R_goto fx_69_88 ?_
        exact no (pairG_no ho hk hr (by omega) hbitr hbitq (Or.inr (Or.inl (nob hc2))))
      · refine R_al fx_69_40 rfl (by omega) ?_
        refine R_gr fx_69_41 kd_141 rfl rr_141_0 ?_
        refine R_il fx_69_44 rfl ?_
        refine R_il fx_69_45 rfl ?_
        refine R_il fx_69_47 rfl ?_
        refine R_cv fx_69_49 rfl rfl rfl rfl kd_142 ?_
        refine C_70 (by omega) (by omega) (by omega) ?_
        rw [e144]
        refine R_push fx_69_52 ?_
        refine R_iceq fx_69_54 (by omega) (fun hc3 => ?_) (fun hc3 => ?_)
        · refine R_inc fx_69_85 rfl ?_
          refine R_goto fx_69_88 ?_
          exact no (pairG_no ho hk hr (by omega) hbitr hbitq (Or.inr (Or.inr hc3)))
        · refine R_al fx_69_57 rfl (by omega) ?_
          refine R_il fx_69_58 rfl ?_
          refine R_il fx_69_59 rfl ?_
          refine R_push fx_69_60 ?_
          refine R_il fx_69_61 rfl ?_
          refine R_bin fx_69_63 (xb_shl (x := 1) (by omega) (by omega)) ?_
          refine R_bin fx_69_64 (xb_or (by omega) (by omega)) ?_
          refine R_push fx_69_65 ?_
          refine R_il fx_69_66 rfl ?_
          refine R_bin fx_69_68 (xb_shl (x := 1) (by omega) (by omega)) ?_
          refine R_bin fx_69_69 (xb_or (by rw [Nat.one_mul]; omega) (by omega)) ?_
          refine R_al fx_69_70 rfl (by omega) ?_
          refine R_gr fx_69_71 kd_141 rfl rr_141_0 ?_
          refine R_il fx_69_74 rfl ?_
          refine R_il fx_69_75 rfl ?_
          refine R_il fx_69_77 rfl ?_
          refine R_cv fx_69_79 rfl rfl rfl rfl kd_142 ?_
          refine C_70 (by omega) (by omega) (by omega) ?_
          rw [e144, Nat.one_mul, Nat.one_mul]
          refine R_cv fx_69_82 rfl rfl rfl rfl kd_141 ?_
          have hlr := hbr.mp hc1
          have hlq := hbq.mp hc2
          have hrq : r ≠ q := (hcb.resolve_left hc3).2.2.2.2.1
          obtain ⟨f1, f2⟩ := hF r q hr (by omega) hlr hlq hrq
          have hur : u.testBit r = false := and_not (hlr ▸ hbitr)
          have hne := or2_ne (q := q) hur
          have hsg : pairG (o.cp k) F u (12 * r + q) = sumL (o.cp k r q) (F (u ||| 2 ^ r ||| 2 ^ q)) := pairG_yes (hlr ▸ hbitr) (hlq ▸ hbitq) (by omega)
          refine C_68 (a := pt (pairG (o.cp k) F u) (12 * r + q)) (b := F (u ||| 2 ^ r ||| 2 ^ q)) rfl rfl hu (or_lt hor (by omega)) hne hc3 (by omega) (hsm2 _ (by omega)) (hsm _) e1 e2 (by rw [(hB _ hne).1]; exact f1) (by rw [(hB _ hne).2]; exact f2) (fun g2 k1 k2 k3 k4 => ?_)
          refine R_inc fx_69_85 rfl ?_
          refine R_goto fx_69_88 ?_
          refine ih (q + 1) g2 (by omega) (fun c a b => by rw [k1 c a b]; exact hA c a b) (fun j h9 => by rw [(k2 j h9).1, (k2 j h9).2]; exact hB j h9) ?_ ?_
          · rw [← Nat.add_assoc, pt_succ, hsg]; exact k3
          · rw [← Nat.add_assoc, pt_succ, hsg]; exact k4
theorem C_69 {u2 l2 k2 : Int} {u lf k free : Nat} {o : CO} {F : Nat → List Int} (ho : COk o free) (hu : u < 4096) (hlf : lf < 4096) (hk : k < 4) (hbit : ∀ r, r < 12 → lf.testBit r = (free.testBit r && !u.testBit r)) (h144 : ∀ r q, r < 12 → q < 12 → f 144 ((k * 12 + r) * 12 + q) = o.cp k r q) (hF : ∀ r q, r < 12 → q < 12 → lf.testBit r = true → lf.testBit q = true → r ≠ q → f 145 (u ||| 2 ^ r ||| 2 ^ q) = mn (F (u ||| 2 ^ r ||| 2 ^ q)) ∧ f 146 (u ||| 2 ^ r ||| 2 ^ q) = ct (F (u ||| 2 ^ r ||| 2 ^ q))) (hsm : ∀ v, sml (F v)) (hsm2 : ∀ m, m ≤ 144 → sml (pt (pairG (o.cp k) F u) m)) (eu : u2 = u) (el : l2 = lf) (ek : k2 = k) (h1 : f 145 u = 268435456) (h2 : f 146 u = 0) (K : ∀ g : xF, (∀ c, c ≠ 145 → c ≠ 146 → g c = f c) → (∀ j, j ≠ u → g 145 j = f 145 j ∧ g 146 j = f 146 j) → g 145 u = mn (pt (pairG (o.cp k) F u) (144)) → g 146 u = ct (pt (pairG (o.cp k) F u) (144)) → Q [] g) : Rf (SHL L) 69 0 (xloc 69 [.inr 141, .inl u2, .inl l2, .inl k2]) [] f Q := by
  subst eu el ek
  have loop : ∀ (n r : Nat) (X : Option xV) (g : xF), r + n = 12 → (∀ c, c ≠ 145 → c ≠ 146 → g c = f c) → (∀ j, j ≠ u → g 145 j = f 145 j ∧ g 146 j = f 146 j) → g 145 u = mn (pt (pairG (o.cp k) F u) (12 * r)) → g 146 u = ct (pt (pairG (o.cp k) F u) (12 * r)) → Rf (SHL L) 69 3 [some (.inr 141), some (.inl (u : Int)), some (.inl (lf : Int)), some (.inl (k : Int)), some (.inl (r : Int)), X] [] g Q := by
    intro n
    induction n with
    | zero =>
      intro r X g hr hA hB e1 e2
      have hrj : r = 12 := by omega
      subst hrj
      refine R_il fx_69_3 rfl ?_
      refine R_push fx_69_5 ?_
      refine R_icge fx_69_7 (by omega) (fun hc => ?_) (fun hc => by omega)
      exact R_retv fx_69_97 rfl (K g hA hB e1 e2)
    | succ n ih =>
      intro r X g hr hA hB e1 e2
      refine R_il fx_69_3 rfl ?_
      refine R_push fx_69_5 ?_
      refine R_icge fx_69_7 (by omega) (fun hc => by omega) (fun hc => ?_)
      refine R_push fx_69_10 ?_
      refine R_is fx_69_11 ?_
      refine C_69_2 ho hu hlf hk hbit h144 hF hsm hsm2 (r := r) (by omega) (fun g2 X2 hA2 hB2 e3 e4 => ?_) 12 0 g (by omega) hA hB e1 e2
      refine R_inc fx_69_91 rfl ?_
      refine R_goto fx_69_94 ?_
      exact ih (r + 1) X2 g2 (by omega) hA2 hB2 e3 e4
  refine R_push fx_69_0 ?_
  refine R_is fx_69_1 ?_
  exact loop 12 0 _ f (by omega) (fun _ _ _ => rfl) (fun _ _ => ⟨rfl, rfl⟩) h1 h2
theorem C_64 (hV : VG G) (hS : Sg f 4 G) (K : ∀ g : xF, (∀ c, c ≠ 141 → c ≠ 147 → g c = f c) → (∀ i, i ≠ 5 → g 141 i = f 141 i) → g 141 5 = ((wc (wsG G) 8 : Nat) : Int) → (∀ s, s < 8 → wsG G s = true → g 147 (wc (wsG G) s) = s) → Q [] g) : Rf (SHL L) 64 0 (xloc 64 [.inr 141, .inr 4]) [] f Q := by
  have loop : ∀ (n m : Nat) (g : xF), m + n = 8 → (∀ c, c ≠ 141 → c ≠ 147 → g c = f c) → (∀ i, i ≠ 5 → g 141 i = f 141 i) → g 141 5 = ((wc (wsG G) m : Nat) : Int) → (∀ s, s < m → wsG G s = true → g 147 (wc (wsG G) s) = s) → Rf (SHL L) 64 7 [some (.inr 141), some (.inr 4), some (.inl (m : Int))] [] g Q := by
    intro n
    induction n with
    | zero =>
      intro m g hm hA hB e1 e2
      have hmj : m = 8 := by omega
      subst hmj
      refine R_il fx_64_7 rfl ?_
      refine R_push fx_64_8 ?_
      refine R_icge fx_64_10 (by omega) (fun hc => ?_) (fun hc => by omega)
      exact R_retv fx_64_47 rfl (K g hA hB e1 e2)
    | succ n ih =>
      intro m g hm hA hB e1 e2
      have hSg : Sg g 4 G := hS.kept (fun c _ _ => hA c (by omega) (by omega))
      have e6 : g 6 (m : Int).toNat = G (4 + m) := by rw [Int.toNat_natCast]; exact hSg.2.1 _ (by omega)
      have hwl := wc_le (p := wsG G) (a := m)
      refine R_il fx_64_7 rfl ?_
      refine R_push fx_64_8 ?_
      refine R_icge fx_64_10 (by omega) (fun hc => by omega) (fun hc => ?_)
      refine R_al fx_64_13 rfl (by omega) ?_
      refine R_il fx_64_14 rfl ?_
      refine R_cv fx_64_15 rfl rfl rfl rfl kd_4 ?_
      refine C_33 (by omega) (hV.w hSg) (fun hc => ?_) (fun hc => ?_)
      · refine R_ifeq fx_64_18 (by decide) (fun h => absurd h (by decide)) (fun _ => ?_)
        refine R_al fx_64_21 rfl (by omega) ?_
        refine R_gr fx_64_22 kd_141 rfl rr_141_3 ?_
        refine R_al fx_64_25 rfl (by omega) ?_
        refine R_gf fx_64_26 kd_141 rfl ?_
        refine R_il fx_64_29 rfl ?_
        rw [e1]
        refine R_ias fx_64_30 kd_147 (by omega) (by rw [ln_147]; omega) (by omega) ?_
        refine R_al fx_64_31 rfl (by omega) ?_
        refine R_dup fx_64_32 ?_
        refine R_gf fx_64_33 kd_141 rfl ?_
        refine R_push fx_64_36 ?_
        rw [xup_a (show (141 : Nat) ≠ 147 by omega), e1]
        refine R_add fx_64_37 ?_
        refine R_pf fx_64_38 kd_141 rfl (fun h => absurd h (by decide)) ?_
        refine R_inc fx_64_41 rfl ?_
        refine R_goto fx_64_44 ?_
        rw [e6] at hc
        have hw : wsG G m = true := decide_eq_true hc.2
        have ew : wc (wsG G) (m + 1) = wc (wsG G) m + 1 := by show _ + _ = _; rw [hw]; rfl
        rw [Int.toNat_natCast]
        refine ih (m + 1) _ (by omega) (fun c a b => ?_) (fun i a => ?_) ?_ (fun s a b => ?_)
        · funext y; rw [xup_a a, xup_a b]; exact congrFun (hA c a b) y
        · rw [xup_i a, xup_a (by omega)]; exact hB i a
        · rw [xup_s, ew]; rfl
        · rw [xup_a (by omega)]
          by_cases e : s = m
          · subst e; rw [xup_s]
          · have hlt : wc (wsG G) s < wc (wsG G) m := by
              have h9 := wc_mono (p := wsG G) (a := s + 1) (b := m - (s + 1))
              rw [show s + 1 + (m - (s + 1)) = m by omega] at h9
              have h8 : wc (wsG G) (s + 1) = wc (wsG G) s + 1 := by show _ + _ = _; rw [b]; rfl
              omega
            rw [xup_i (by omega)]; exact e2 s (by omega) b
      · refine R_ifeq fx_64_18 (by decide) (fun _ => ?_) (fun h => absurd h (by decide))
        refine R_inc fx_64_41 rfl ?_
        refine R_goto fx_64_44 ?_
        rw [e6] at hc
        have hw : wsG G m = false := decide_eq_false (fun z => hc ⟨by omega, z⟩)
        have ew : wc (wsG G) (m + 1) = wc (wsG G) m := by show _ + _ = _; rw [hw]; rfl
        refine ih (m + 1) g (by omega) hA hB (by rw [ew]; exact e1) (fun s a b => ?_)
        by_cases e : s = m
        · subst e; rw [hw] at b; exact absurd b (by decide)
        · exact e2 s (by omega) b
  refine R_al fx_64_0 rfl (by omega) ?_
  refine R_push fx_64_1 ?_
  refine R_pf fx_64_2 kd_141 rfl (fun h => absurd h (by decide)) ?_
  refine R_push fx_64_5 ?_
  refine R_is fx_64_6 ?_
  exact loop 8 0 _ (by omega) (fun c a b => by funext y; rw [xup_a a]) (fun i a => by rw [xup_i a]) (by rw [xup_s]; rfl) (fun s a => absurd a (by omega))
end OG
