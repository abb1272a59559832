/-! ===== the costs, all of them ===== -/
section CD
variable {L : Nat} {f : xF} {Q : List xV → xF → Prop} {G : Nat → Int}
theorem C_61_2 {k : Nat} (hV : VG G) (hS : Sg f 4 G) (hk : k < 4) (hm : mbG G k = true) (h143 : ∀ s r, s < 8 → r < 12 → f 143 (s * 12 + r) = csG G s r) (hA : ∀ r, r < 12 → csG G (2 * k) r ≠ 268435456 → ∀ x : Nat, (x : Int) ≤ 2 * G 2 → f (127 + r) x = nr G r (2 * k) x) (K : ∀ g : xF, (∀ c, c ≠ 139 → c ≠ 140 → c ≠ 144 → g c = f c) → (∀ j, (j < k * 144 ∨ k * 144 + 144 ≤ j) → g 144 j = f 144 j) → (∀ r q, r < 12 → q < 12 → g 144 ((k * 12 + r) * 12 + q) = cpG G k r q) → Q [] g) : ∀ (n m : Nat) (g : xF), m + n = 12 → (∀ c, c ≠ 139 → c ≠ 140 → c ≠ 144 → g c = f c) → (∀ j, (j < k * 144 ∨ k * 144 + 144 ≤ j) → g 144 j = f 144 j) → (∀ r q, r < 12 → q < m → g 144 ((k * 12 + r) * 12 + q) = cpG G k r q) → (∀ r q, r < 12 → m ≤ q → q < 12 → g 144 ((k * 12 + r) * 12 + q) = 268435456) → Rf (SHL L) 61 41 [some (.inr 142), some (.inr 4), some (.inr 125), some (.inl (k : Int)), some (.inl (m : Int))] [] g Q := by
  intro n
  induction n with
  | zero =>
    intro m g hm9 hF hj hd hr
    refine R_il fx_61_41 rfl ?_
    refine R_push fx_61_43 ?_
    refine R_icge fx_61_45 (by omega) (fun hc => ?_) (fun hc => by omega)
    exact R_retv fx_61_87 rfl (K g hF hj (fun r q a b => hd r q a (by omega)))
  | succ n ih =>
    intro m g hm9 hF hj hd hr
    have hSg : Sg g 4 G := hS.kept (fun c _ _ => hF c (by omega) (by omega) (by omega))
    have e143 : g 143 ((2 * (k : Int) + 1) * 12 + (m : Int)).toNat = csG G (2 * k + 1) m := by rw [show ((2 * (k : Int) + 1) * 12 + (m : Int)).toNat = (2 * k + 1) * 12 + m by omega, hF 143 (by omega) (by omega) (by omega)]; exact h143 _ _ (by omega) (by omega)
    have hcb := csG_b (s := 2 * k + 1) hV (show m < 12 by omega)
    refine R_il fx_61_41 rfl ?_
    refine R_push fx_61_43 ?_
    refine R_icge fx_61_45 (by omega) (fun hc => by omega) (fun hc => ?_)
    refine R_al fx_61_48 rfl (by omega) ?_
    refine R_push fx_61_49 ?_
    refine R_il fx_61_50 rfl ?_
    refine R_mul fx_61_51 ?_
    refine R_push fx_61_52 ?_
    refine R_add fx_61_53 ?_
    refine R_il fx_61_54 rfl ?_
    refine R_cv fx_61_56 rfl rfl rfl rfl kd_142 ?_
    refine C_62 (by omega) (by omega) ?_
    rw [e143]
    refine R_push fx_61_59 ?_
    refine R_iceq fx_61_61 (by omega) (fun hc => ?_) (fun hc => ?_)
    · refine R_inc fx_61_81 rfl ?_
      refine R_goto fx_61_84 ?_
      refine ih (m + 1) g (by omega) hF hj (fun r q a b => ?_) (fun r q a b c => hr r q a (by omega) c)
      by_cases e : q = m
      · subst e; rw [hr r q a (by omega) (by omega)]; exact (if_neg (fun z => z.2.2.2.1 hc)).symm
      · exact hd r q a (by omega)
    · refine R_al fx_61_64 rfl (by omega) ?_
      refine R_al fx_61_65 rfl (by omega) ?_
      refine R_il fx_61_66 rfl ?_
      refine R_il fx_61_68 rfl ?_
      refine R_cv fx_61_69 rfl rfl rfl rfl kd_125 ?_
      have hg9 := frG_lt (hcb.resolve_left hc).2.2.1
      refine C_46 (q := m) (k := k) rfl rfl hV hSg (by omega) hg9 hk (fun g2 hF2 hB2 => ?_)
      refine R_al fx_61_72 rfl (by omega) ?_
      refine R_al fx_61_73 rfl (by omega) ?_
      refine R_al fx_61_74 rfl (by omega) ?_
      refine R_il fx_61_75 rfl ?_
      refine R_il fx_61_76 rfl ?_
      refine R_cv fx_61_78 rfl rfl rfl rfl kd_142 ?_
      refine C_63 (k := k) (q := m) rfl rfl hV (hSg.kept (fun c _ _ => hF2 c (by omega) (by omega))) hk (by omega) hm hc (fun s r a b => by rw [hF2 143 (by omega) (by omega), hF 143 (by omega) (by omega) (by omega)]; exact h143 s r a b) (fun r a b x hx => by rw [hF2 _ (by omega) (by omega), hF _ (by omega) (by omega) (by omega)]; exact hA r a b x hx) hB2 (fun r a => by rw [hF2 144 (by omega) (by omega)]; exact hr r m a (by omega) (by omega)) (fun g3 hF3 hj3 hd3 => ?_)
      refine R_inc fx_61_81 rfl ?_
      refine R_goto fx_61_84 ?_
      refine ih (m + 1) g3 (by omega) (fun c a b d => by rw [hF3 c d, hF2 c a b]; exact hF c a b d) (fun j h9 => ?_) (fun r q a b => ?_) (fun r q a b c => ?_)
      · rw [hj3 j (fun r h => by omega), hF2 144 (by omega) (by omega)]; exact hj j h9
      · by_cases e : q = m
        · subst e; exact hd3 r a
        · rw [hj3 _ (fun r2 h => by omega), hF2 144 (by omega) (by omega)]; exact hd r q a (by omega)
      · rw [hj3 _ (fun r2 h => by omega), hF2 144 (by omega) (by omega)]; exact hr r q a (by omega) c
theorem C_61 {k2 : Int} {k : Nat} (ek : k2 = k) (hV : VG G) (hS : Sg f 4 G) (hk : k < 4) (hm : mbG G k = true) (h143 : ∀ s r, s < 8 → r < 12 → f 143 (s * 12 + r) = csG G s r) (h0 : ∀ r q, r < 12 → q < 12 → f 144 ((k * 12 + r) * 12 + q) = 268435456) (K : ∀ g : xF, (∀ c, (c < 125 ∨ 140 < c) → c ≠ 144 → g c = f c) → (∀ j, (j < k * 144 ∨ k * 144 + 144 ≤ j) → g 144 j = f 144 j) → (∀ r q, r < 12 → q < 12 → g 144 ((k * 12 + r) * 12 + q) = cpG G k r q) → Q [] g) : Rf (SHL L) 61 0 (xloc 61 [.inr 142, .inr 4, .inr 125, .inl k2]) [] f Q := by
  subst ek
  have loop : ∀ (n m : Nat) (g : xF), m + n = 12 → (∀ c, (c < 127 ∨ 138 < c) → g c = f c) → (∀ r, r < m → csG G (2 * k) r ≠ 268435456 → ∀ x : Nat, (x : Int) ≤ 2 * G 2 → g (127 + r) x = nr G r (2 * k) x) → Rf (SHL L) 61 3 [some (.inr 142), some (.inr 4), some (.inr 125), some (.inl (k : Int)), some (.inl (m : Int))] [] g Q := by
    intro n
    induction n with
    | zero =>
      intro m g hm9 hF hA
      have hSg : Sg g 4 G := hS.kept (fun c _ _ => hF c (by omega))
      refine R_il fx_61_3 rfl ?_
      refine R_push fx_61_5 ?_
      refine R_icge fx_61_7 (by omega) (fun hc => ?_) (fun hc => by omega)
      refine R_push fx_61_38 ?_
      refine R_is fx_61_39 ?_
      refine C_61_2 hV hSg hk hm (fun s r a b => by rw [hF 143 (by omega)]; exact h143 s r a b) (fun r a => hA r (by omega)) (fun g2 hF2 hj2 hd2 => K g2 (fun c a b => by rw [hF2 c (by omega) (by omega) b]; exact hF c (by omega)) (fun j h9 => by rw [hj2 j h9, hF 144 (by omega)]) hd2) 12 0 g (by omega) (fun _ _ _ _ => rfl) (fun _ _ => rfl) (fun r q a b => absurd b (by omega)) (fun r q a _ c => by rw [hF 144 (by omega)]; exact h0 r q a c)
    | succ n ih =>
      intro m g hm9 hF hA
      have hSg : Sg g 4 G := hS.kept (fun c _ _ => hF c (by omega))
      have e143 : g 143 (2 * (k : Int) * 12 + (m : Int)).toNat = csG G (2 * k) m := by rw [show (2 * (k : Int) * 12 + (m : Int)).toNat = (2 * k) * 12 + m by omega, hF 143 (by omega)]; exact h143 _ _ (by omega) (by omega)
      have hcb := csG_b (s := 2 * k) hV (show m < 12 by omega)
      refine R_il fx_61_3 rfl ?_
      refine R_push fx_61_5 ?_
      refine R_icge fx_61_7 (by omega) (fun hc => by omega) (fun hc => ?_)
      refine R_al fx_61_10 rfl (by omega) ?_
      refine R_push fx_61_11 ?_
      refine R_il fx_61_12 rfl ?_
      refine R_mul fx_61_13 ?_
      refine R_il fx_61_14 rfl ?_
      refine R_cv fx_61_16 rfl rfl rfl rfl kd_142 ?_
      refine C_62 (by omega) (by omega) ?_
      rw [e143]
      refine R_push fx_61_19 ?_
      refine R_iceq fx_61_21 (by omega) (fun hc => ?_) (fun hc => ?_)
      · refine R_inc fx_61_32 rfl ?_
        refine R_goto fx_61_35 ?_
        refine ih (m + 1) g (by omega) hF (fun r a b => ?_)
        by_cases e : r = m
        · subst e; exact absurd hc b
        · exact hA r (by omega) b
      · refine R_al fx_61_24 rfl (by omega) ?_
        refine R_al fx_61_25 rfl (by omega) ?_
        refine R_il fx_61_26 rfl ?_
        refine R_il fx_61_28 rfl ?_
        refine R_cv fx_61_29 rfl rfl rfl rfl kd_125 ?_
        have hg9 := frG_lt (hcb.resolve_left hc).2.2.1
        refine C_45 (r := m) (k := k) rfl rfl hV hSg (by omega) hg9 hk (fun g2 hF2 hA2 => ?_)
        refine R_inc fx_61_32 rfl ?_
        refine R_goto fx_61_35 ?_
        refine ih (m + 1) g2 (by omega) (fun c a => by rw [hF2 c (by omega)]; exact hF c a) (fun r a b => ?_)
        by_cases e : r = m
        · subst e; exact hA2
        · rw [hF2 _ (by omega)]; exact hA r (by omega) b
  refine R_push fx_61_0 ?_
  refine R_is fx_61_1 ?_
  exact loop 12 0 f (by omega) (fun _ _ => rfl) (fun r a => absurd a (by omega))
theorem C_58_2 (hV : VG G) (hS : Sg f 4 G) (h143 : ∀ s r, s < 8 → r < 12 → f 143 (s * 12 + r) = csG G s r) (K : ∀ g : xF, (∀ c, (c < 125 ∨ 140 < c) → c ≠ 144 → g c = f c) → (∀ k r q, k < 4 → r < 12 → q < 12 → g 144 ((k * 12 + r) * 12 + q) = cpG G k r q) → Q [] g) : ∀ (n m : Nat) (g : xF), m + n = 4 → (∀ c, (c < 125 ∨ 140 < c) → c ≠ 144 → g c = f c) → (∀ k r q, k < m → r < 12 → q < 12 → g 144 ((k * 12 + r) * 12 + q) = cpG G k r q) → (∀ j, m * 144 ≤ j → j < 576 → g 144 j = 268435456) → Rf (SHL L) 58 49 [some (.inr 142), some (.inr 4), some (.inr 125), some (.inl (m : Int))] [] g Q := by
  intro n
  induction n with
  | zero =>
    intro m g hm9 hF hd hr
    refine R_il fx_58_49 rfl ?_
    refine R_push fx_58_50 ?_
    refine R_icge fx_58_51 (by omega) (fun hc => ?_) (fun hc => by omega)
    exact R_retv fx_58_75 rfl (K g hF (fun k r q a b c => hd k r q (by omega) b c))
  | succ n ih =>
    intro m g hm9 hF hd hr
    have hSg : Sg g 4 G := hS.kept (fun c _ _ => hF c (by omega) (by omega))
    have e7 : g 7 (m : Int).toNat = G (12 + m) := by rw [Int.toNat_natCast]; exact hSg.2.2.1 m (by omega)
    have e8 : g 8 (m : Int).toNat = G (16 + m) := by rw [Int.toNat_natCast]; exact hSg.2.2.2.1 m (by omega)
    have e6 : g 6 (2 * (m : Int)).toNat = G (4 + 2 * m) := by rw [show (2 * (m : Int)).toNat = 2 * m by omega]; exact hSg.2.1 _ (by omega)
    have e5 : g 6 (2 * (m : Int) + 1).toNat = G (4 + (2 * m + 1)) := by rw [show (2 * (m : Int) + 1).toNat = 2 * m + 1 by omega]; exact hSg.2.1 _ (by omega)
    refine R_il fx_58_49 rfl ?_
    refine R_push fx_58_50 ?_
    refine R_icge fx_58_51 (by omega) (fun hc => by omega) (fun hc => ?_)
    refine R_al fx_58_54 rfl (by omega) ?_
    refine R_il fx_58_55 rfl ?_
    refine R_cv fx_58_56 rfl rfl rfl rfl kd_4 ?_
    refine C_60 (by omega) (hV.w hSg) (hV.b hSg) (fun hc => ?_) (fun hc => ?_)
    · refine R_ifeq fx_58_59 (by decide) (fun h => absurd h (by decide)) (fun _ => ?_)
      refine R_al fx_58_62 rfl (by omega) ?_
      refine R_al fx_58_63 rfl (by omega) ?_
      refine R_al fx_58_64 rfl (by omega) ?_
      refine R_il fx_58_65 rfl ?_
      refine R_cv fx_58_66 rfl rfl rfl rfl kd_142 ?_
      rw [e5, e6, e7, e8] at hc
      have hmb : mbG G m = true := decide_eq_true hc.2
      refine C_61 (k := m) rfl hV hSg (by omega) hmb (fun s r a b => by rw [hF 143 (by omega) (by omega)]; exact h143 s r a b) (fun r q a b => hr _ (by omega) (by omega)) (fun g2 hF2 hj2 hd2 => ?_)
      refine R_inc fx_58_69 rfl ?_
      refine R_goto fx_58_72 ?_
      refine ih (m + 1) g2 (by omega) (fun c a b => by rw [hF2 c a b]; exact hF c a b) (fun k r q a b c => ?_) (fun j a b => by rw [hj2 j (by omega)]; exact hr j (by omega) b)
      by_cases e : k = m
      · subst e; exact hd2 r q b c
      · rw [hj2 _ (by omega)]; exact hd k r q (by omega) b c
    · refine R_ifeq fx_58_59 (by decide) (fun _ => ?_) (fun h => absurd h (by decide))
      refine R_inc fx_58_69 rfl ?_
      refine R_goto fx_58_72 ?_
      rw [e5, e6, e7, e8] at hc
      have hmb : ¬ mbG G m = true := fun z => hc ⟨by omega, of_decide_eq_true z⟩
      refine ih (m + 1) g (by omega) hF (fun k r q a b c => ?_) (fun j a b => hr j (by omega) b)
      by_cases e : k = m
      · subst e; rw [hr _ (by omega) (by omega)]; exact (if_neg (fun z => hmb z.1)).symm
      · exact hd k r q (by omega) b c
theorem C_58 (hV : VG G) (hS : Sg f 4 G) (K : ∀ g : xF, (∀ c, (c < 125 ∨ 140 < c) → c ≠ 143 → c ≠ 144 → g c = f c) → (∀ s r, s < 8 → r < 12 → g 143 (s * 12 + r) = csG G s r) → (∀ k r q, k < 4 → r < 12 → q < 12 → g 144 ((k * 12 + r) * 12 + q) = cpG G k r q) → Q [] g) : Rf (SHL L) 58 0 (xloc 58 [.inr 142, .inr 4, .inr 125]) [] f Q := by
  have loop : ∀ (n m : Nat) (g : xF), m + n = 8 → (∀ c, (c < 125 ∨ 140 < c) → c ≠ 143 → c ≠ 144 → g c = f c) → (∀ j, j < 576 → g 144 j = 268435456) → (∀ s r, s < m → r < 12 → g 143 (s * 12 + r) = csG G s r) → (∀ j, m * 12 ≤ j → j < 96 → g 143 j = 268435456) → Rf (SHL L) 58 20 [some (.inr 142), some (.inr 4), some (.inr 125), some (.inl (m : Int))] [] g Q := by
    intro n
    induction n with
    | zero =>
      intro m g hm9 hF h144 hd hr
      have hSg : Sg g 4 G := hS.kept (fun c _ _ => hF c (by omega) (by omega) (by omega))
      refine R_il fx_58_20 rfl ?_
      refine R_push fx_58_21 ?_
      refine R_icge fx_58_23 (by omega) (fun hc => ?_) (fun hc => by omega)
      refine R_push fx_58_47 ?_
      refine R_is fx_58_48 ?_
      exact C_58_2 hV hSg (fun s r a b => hd s r (by omega) b) (fun g2 hF2 hd2 => K g2 (fun c a b d => by rw [hF2 c a d]; exact hF c a b d) (fun s r a b => by rw [hF2 143 (by omega) (by omega)]; exact hd s r (by omega) b) hd2) 4 0 g (by omega) (fun _ _ _ => rfl) (fun k r q a => absurd a (by omega)) (fun j _ b => h144 j b)
    | succ n ih =>
      intro m g hm9 hF h144 hd hr
      have hSg : Sg g 4 G := hS.kept (fun c _ _ => hF c (by omega) (by omega) (by omega))
      have e6 : g 6 (m : Int).toNat = G (4 + m) := by rw [Int.toNat_natCast]; exact hSg.2.1 _ (by omega)
      refine R_il fx_58_20 rfl ?_
      refine R_push fx_58_21 ?_
      refine R_icge fx_58_23 (by omega) (fun hc => by omega) (fun hc => ?_)
      refine R_al fx_58_26 rfl (by omega) ?_
      refine R_il fx_58_27 rfl ?_
      refine R_cv fx_58_28 rfl rfl rfl rfl kd_4 ?_
      refine C_33 (by omega) (hV.w hSg) (fun hc => ?_) (fun hc => ?_)
      · refine R_ifeq fx_58_31 (by decide) (fun h => absurd h (by decide)) (fun _ => ?_)
        refine R_al fx_58_34 rfl (by omega) ?_
        refine R_al fx_58_35 rfl (by omega) ?_
        refine R_al fx_58_36 rfl (by omega) ?_
        refine R_il fx_58_37 rfl ?_
        refine R_cv fx_58_38 rfl rfl rfl rfl kd_142 ?_
        rw [e6] at hc
        refine C_59 (s := m) rfl hV hSg (by omega) hc.2 (fun r a => hr _ (by omega) (by omega)) (fun g2 hF2 hj2 hd2 => ?_)
        refine R_inc fx_58_41 rfl ?_
        refine R_goto fx_58_44 ?_
        refine ih (m + 1) g2 (by omega) (fun c a b d => by rw [hF2 c (by omega) b]; exact hF c a b d) (fun j a => by rw [hF2 144 (by omega) (by omega)]; exact h144 j a) (fun s r a b => ?_) (fun j a b => by rw [hj2 j (by omega)]; exact hr j (by omega) b)
        by_cases e : s = m
        · subst e; exact hd2 r b
        · rw [hj2 _ (by omega)]; exact hd s r (by omega) b
      · refine R_ifeq fx_58_31 (by decide) (fun _ => ?_) (fun h => absurd h (by decide))
        refine R_inc fx_58_41 rfl ?_
        refine R_goto fx_58_44 ?_
        rw [e6] at hc
        refine ih (m + 1) g (by omega) hF h144 (fun s r a b => ?_) (fun j a b => hr j (by omega) b)
        by_cases e : s = m
        · subst e; rw [hr _ (by omega) (by omega)]; exact (if_neg (fun z => hc ⟨by omega, z.1⟩)).symm
        · exact hd s r (by omega) b
  refine R_al fx_58_0 rfl (by omega) ?_
  refine R_gr fx_58_1 kd_142 rfl rr_142_0 ?_
  refine R_push fx_58_4 ?_
  refine R_cs fx_58_6 rfl rfl rfl rfl ?_
  refine C_3 (N := 96) (by omega) kd_143 ln_143 (by omega) (fun g1 a1 b1 => ?_)
  refine R_al fx_58_9 rfl (by omega) ?_
  refine R_gr fx_58_10 kd_142 rfl rr_142_1 ?_
  refine R_push fx_58_13 ?_
  refine R_cs fx_58_15 rfl rfl rfl rfl ?_
  refine C_3 (N := 576) (by omega) kd_144 ln_144 (by omega) (fun g2 a2 b2 => ?_)
  refine R_push fx_58_18 ?_
  refine R_is fx_58_19 ?_
  exact loop 8 0 g2 (by omega) (fun c a b d => by rw [b2 c d, b1 c b]) a2 (fun s r a => absurd a (by omega)) (fun j _ b => by rw [b2 143 (by omega)]; exact a1 j b)
end CD
