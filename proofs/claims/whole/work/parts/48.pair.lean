/-! ===== the class: WORK for two ===== -/
def jk (a b : Int) : Int := (((a / 32 + b / 32) * 32 + a % 32) * 32 + (a / 32 - a % 32)) * 32 + b % 32
theorem jk_mono {a b c : Int} (h : b ≤ c) : jk a b ≤ jk a c := by unfold jk; omega
def inW (G : Nat → Int) (k : Nat) (x y : Int) : Prop := G (12 + k) ≤ G (16 + k) → x + G (12 + k) - (G (4 + (2 * k + 1)) - G (4 + 2 * k)) ≤ y ∧ y ≤ x + G (16 + k) - (G (4 + (2 * k + 1)) - G (4 + 2 * k))
def PR (G : Nat → Int) (q k : Nat) (x v : Int) : Prop := ∃ y : Nat, (y : Int) ≤ 2 * G 2 ∧ inW G k x y ∧ nr G q (2 * k + 1) y ≠ 268435456 ∧ v = nr G q (2 * k + 1) y
noncomputable def pr (G : Nat → Int) (q k : Nat) (x : Int) : Int := lst (PR G q k x) 268435456
def PKx (G : Nat → Int) (r q k : Nat) (x : Nat) (v : Int) : Prop := nr G r (2 * k) x ≠ 268435456 ∧ ∃ y : Nat, (y : Int) ≤ 2 * G 2 ∧ inW G k x y ∧ nr G q (2 * k + 1) y ≠ 268435456 ∧ v = jk (nr G r (2 * k) x) (nr G q (2 * k + 1) y)
def PK (G : Nat → Int) (r q k : Nat) (v : Int) : Prop := ∃ x : Nat, (x : Int) ≤ 2 * G 2 ∧ PKx G r q k x v
noncomputable def pk (G : Nat → Int) (r q k : Nat) : Int := lst (PK G r q k) 268435456
theorem jk_b {a b : Int} (ha : 0 ≤ a ∧ a ≤ 1268 ∧ 0 ≤ a / 32 - a % 32) (hb : 0 ≤ b ∧ b ≤ 1268) : 0 ≤ jk a b ∧ jk a b ≤ 3000000 := by unfold jk; omega
section PB
variable {G : Nat → Int} {r q k : Nat} {x v : Int}
theorem PR_b (hV : VG G) (hr : q < 12) (hg : (q : Int) < G 0) (h : PR G q k x v) : 0 ≤ v ∧ v ≤ 1268 := by
  obtain ⟨y, _, _, h1, rfl⟩ := h
  rcases nr_b (s := 2 * k + 1) (x := y) hV hr hg with z | z
  · exact absurd z h1
  · omega
theorem pr_is (hV : VG G) (hr : q < 12) (hg : (q : Int) < G 0) : Lst (PR G q k x) 268435456 (pr G q k x) := lst_is (fun _ hk => (PR_b hV hr hg hk).1)
theorem pr_b (hV : VG G) (hr : q < 12) (hg : (q : Int) < G 0) : pr G q k x = 268435456 ∨ (0 ≤ pr G q k x ∧ pr G q k x ≤ 1268) := (pr_is hV hr hg).far_or.imp id (PR_b hV hr hg)
theorem PKx_b {x : Nat} (hV : VG G) (hr : r < 12) (hg : (r : Int) < G 0) (hr2 : q < 12) (hg2 : (q : Int) < G 0) (h : PKx G r q k x v) : 0 ≤ v ∧ v ≤ 3000000 := by
  obtain ⟨h0, y, _, _, h1, rfl⟩ := h
  have a := (nr_b (s := 2 * k) (x := x) hV hr hg).resolve_left h0
  have b := (nr_b (s := 2 * k + 1) (x := y) hV hr2 hg2).resolve_left h1
  exact jk_b (by omega) (by omega)
theorem pk_is (hV : VG G) (hr : r < 12) (hg : (r : Int) < G 0) (hr2 : q < 12) (hg2 : (q : Int) < G 0) : Lst (PK G r q k) 268435456 (pk G r q k) := lst_is (fun _ ⟨_, _, hk⟩ => (PKx_b hV hr hg hr2 hg2 hk).1)
theorem pk_b (hV : VG G) (hr : r < 12) (hg : (r : Int) < G 0) (hr2 : q < 12) (hg2 : (q : Int) < G 0) : pk G r q k = 268435456 ∨ (0 ≤ pk G r q k ∧ pk G r q k ≤ 3000000) := (pk_is hV hr hg hr2 hg2).far_or.imp id (fun ⟨_, _, hk⟩ => PKx_b hV hr hg hr2 hg2 hk)
theorem PKx_is {x : Nat} (hV : VG G) (hr : r < 12) (hg : (r : Int) < G 0) (hr2 : q < 12) (hg2 : (q : Int) < G 0) (h1 : nr G r (2 * k) x ≠ 268435456) (h2 : pr G q k x ≠ 268435456) : Lst (PKx G r q k x) 268435456 (jk (nr G r (2 * k) x) (pr G q k x)) := by
  rcases pr_is (k := k) (x := x) hV hr2 hg2 with z | ⟨z1, z2⟩
  · exact absurd z.1 h2
  · obtain ⟨y, y1, y2, y3, y4⟩ := z1
    refine Or.inr ⟨⟨h1, y, y1, y2, y3, by rw [y4]⟩, ?_⟩
    rintro v ⟨_, y', a1, a2, a3, rfl⟩
    exact jk_mono (z2 _ ⟨y', a1, a2, a3, rfl⟩)
theorem PKx_no {x : Nat} (hV : VG G) (hr2 : q < 12) (hg2 : (q : Int) < G 0) (h : nr G r (2 * k) x = 268435456 ∨ pr G q k x = 268435456) : ¬ PKx G r q k x v := by
  rintro ⟨h0, y', a1, a2, a3, rfl⟩
  rcases h with h | h
  · exact h0 h
  · rcases pr_is (k := k) (x := x) hV hr2 hg2 with z | ⟨z1, z2⟩
    · exact z.2 _ ⟨y', a1, a2, a3, rfl⟩
    · have := PR_b hV hr2 hg2 z1; omega
end PB
def PLr (row : Nat → Int) (a b p : Int) : Prop := (p = -1 ∧ b < a) ∨ ((a ≤ p ∧ p ≤ b) ∧ ∀ y : Nat, a ≤ y → (y : Int) ≤ b → row p.toNat ≤ row y)
section WT
variable {L : Nat} {f : xF} {Q : List xV → xF → Prop} {G : Nat → Int}
theorem C_48 {a b p0 : Int} (ha : 0 ≤ a ∧ a ≤ 20000) (hb : -20000 ≤ b ∧ b ≤ 100) (hp : -1 ≤ p0 ∧ p0 ≤ 100) (hx : ∀ j : Nat, j < 101 → (j : Int) ≤ b → xok (f 139 j)) (h0 : a ≤ p0 → p0 ≤ b ∧ ∀ y : Nat, a ≤ y → (y : Int) < b → f 139 p0.toNat ≤ f 139 y) (K : ∀ p, PLr (f 139) a b p → Q [.inl p] f) : Rf (SHL L) 48 0 (xloc 48 [.inr 139, .inl a, .inl b, .inl p0]) [] f Q := by
  have loop : ∀ (n : Nat) (m p : Int) (S : Option xV), (b + 1 - m).toNat = n → a ≤ m → ((p = -1 ∧ m ≤ a) ∨ ((a ≤ p ∧ p ≤ b ∧ m ≤ b + 1) ∧ ∀ y : Nat, a ≤ y → (y : Int) < m → f 139 p.toNat ≤ f 139 y)) → Rf (SHL L) 48 36 [some (.inr 139), some (.inl a), some (.inl b), some (.inl p0), S, some (.inl p), some (.inl m)] [] f Q := by
    intro n
    induction n with
    | zero =>
      intro m p S hn hm hI
      refine R_il fx_48_36 rfl ?_
      refine R_il fx_48_38 rfl ?_
      refine R_icgt fx_48_39 (by omega) (fun hc => ?_) (fun hc => by omega)
      refine R_il fx_48_69 rfl ?_
      refine R_ret fx_48_71 (Or.inl rfl) (K p ?_)
      rcases hI with h | ⟨h1, h2⟩
      · exact Or.inl (by omega)
      · exact Or.inr ⟨by omega, fun y y1 y2 => h2 y y1 (by omega)⟩
    | succ n ih =>
      intro m p S hn hm hI
      have o1 := hx m.toNat (by omega) (by omega)
      refine R_il fx_48_36 rfl ?_
      refine R_il fx_48_38 rfl ?_
      refine R_icgt fx_48_39 (by omega) (fun hc => by omega) (fun hc => ?_)
      refine R_il fx_48_42 rfl ?_
      refine R_push fx_48_44 ?_
      refine R_iceq fx_48_45 (by omega) (fun hc => ?_) (fun hc => ?_)
      · refine R_il fx_48_59 rfl ?_
        refine R_is fx_48_61 ?_
        refine R_inc fx_48_63 rfl ?_
        refine R_goto fx_48_66 ?_
        refine ih _ _ _ (by omega) (by omega) (Or.inr ⟨by omega, fun y y1 y2 => ?_⟩)
        rw [show y = m.toNat by omega]; exact Int.le_refl _
      · refine R_al fx_48_48 rfl (by omega) ?_
        refine R_il fx_48_49 rfl ?_
        refine R_ia fx_48_51 (Or.inl kd_139) (by omega) (by rw [ln_139]; omega) (by omega) ?_
        refine R_al fx_48_52 rfl (by omega) ?_
        refine R_il fx_48_53 rfl ?_
        refine R_ia fx_48_55 (Or.inl kd_139) (by omega) (by rw [ln_139]; omega) (by omega) ?_
        refine R_icgt fx_48_56 ⟨by omega, hx p.toNat (by omega) (by omega)⟩ (fun hc2 => ?_) (fun hc2 => ?_)
        · refine R_inc fx_48_63 rfl ?_
          refine R_goto fx_48_66 ?_
          refine ih _ _ _ (by omega) (by omega) (Or.inr ⟨by omega, fun y y1 y2 => ?_⟩)
          by_cases e : (y : Int) = m
          · rw [show y = m.toNat by omega]; omega
          · exact (hI.resolve_left (fun z => hc z.1)).2 y y1 (by omega)
        · refine R_il fx_48_59 rfl ?_
          refine R_is fx_48_61 ?_
          refine R_inc fx_48_63 rfl ?_
          refine R_goto fx_48_66 ?_
          refine ih _ _ _ (by omega) (by omega) (Or.inr ⟨by omega, fun y y1 y2 => ?_⟩)
          by_cases e : (y : Int) = m
          · rw [show y = m.toNat by omega]; exact Int.le_refl _
          · have := (hI.resolve_left (fun z => hc z.1)).2 y y1 (by omega); omega
  refine R_il fx_48_0 rfl ?_
  refine R_il fx_48_1 rfl ?_
  refine R_iclt fx_48_2 (by omega) (fun hc => ?_) (fun hc => ?_)
  · refine R_push fx_48_9 ?_
    refine R_is fx_48_10 ?_
    refine R_il fx_48_12 rfl ?_
    refine R_ifeq fx_48_14 (by decide) (fun _ => ?_) (fun h => absurd h (by decide))
    refine R_push fx_48_21 ?_
    refine R_is fx_48_22 ?_
    refine R_il fx_48_24 rfl ?_
    refine R_ifeq fx_48_26 (by decide) (fun _ => ?_) (fun h => absurd h (by decide))
    refine R_il fx_48_33 rfl ?_
    refine R_is fx_48_34 ?_
    first
      | exact loop _ _ _ _ rfl (by omega) (Or.inl (by omega))
      | exact loop _ _ _ _ rfl (by have := h0 (by omega); omega) (Or.inr ⟨by have := h0 (by omega); omega, (h0 (by omega)).2⟩)
  · refine R_push fx_48_5 ?_
    refine R_goto fx_48_6 ?_
    refine R_is fx_48_10 ?_
    refine R_il fx_48_12 rfl ?_
    refine R_ifeq fx_48_14 (by decide) (fun h => absurd h (by decide)) (fun _ => ?_)
    refine R_il fx_48_17 rfl ?_
    refine R_goto fx_48_18 ?_
    refine R_is fx_48_22 ?_
    refine R_il fx_48_24 rfl ?_
    refine R_ifeq fx_48_26 (by decide) (fun h => absurd h (by decide)) (fun _ => ?_)
    refine R_il fx_48_29 rfl ?_
    refine R_goto fx_48_30 ?_
    refine R_is fx_48_34 ?_
    first
      | exact loop _ _ _ _ rfl (by omega) (Or.inl (by omega))
      | exact loop _ _ _ _ rfl (by have := h0 (by omega); omega) (Or.inr ⟨by have := h0 (by omega); omega, (h0 (by omega)).2⟩)
theorem C_46_1 {q k : Nat} (hV : VG G) (hS : Sg f 4 G) (hq : q < 12) (hg : (q : Int) < G 0) (hk : k < 4) (hB : G (12 + k) ≤ G (16 + k)) (hN : ∀ x : Nat, (x : Int) ≤ 2 * G 2 → f 139 x = nr G q (2 * k + 1) x) (K : ∀ g : xF, (∀ c, c ≠ 140 → g c = f c) → (∀ x : Nat, (x : Int) ≤ 2 * G 2 → g 140 x = pr G q k x) → Q [] g) : ∀ (n m : Nat) (p : Int) (X Y : Option xV) (g : xF), (m : Int) + n = 2 * G 2 + 1 → (∀ c, c ≠ 140 → g c = f c) → (∀ x : Nat, x < m → g 140 x = pr G q k x) → (-1 ≤ p ∧ p ≤ 100) → (∀ A B : Int, A = (if 0 < (m : Int) + G (12 + k) - (G (4 + (2 * k + 1)) - G (4 + 2 * k)) then (m : Int) + G (12 + k) - (G (4 + (2 * k + 1)) - G (4 + 2 * k)) else 0) → B = (if (m : Int) + G (16 + k) - (G (4 + (2 * k + 1)) - G (4 + 2 * k)) < 2 * G 2 then (m : Int) + G (16 + k) - (G (4 + (2 * k + 1)) - G (4 + 2 * k)) else 2 * G 2) → A ≤ p → p ≤ B ∧ ∀ y : Nat, A ≤ y → (y : Int) < B → nr G q (2 * k + 1) p ≤ nr G q (2 * k + 1) y) → Rf (SHL L) 46 56 [some (.inr 125), some (.inr 4), some (.inl (q : Int)), some (.inl (k : Int)), some (.inl (2 * G 2)), some (.inl (G (4 + (2 * k + 1)) - G (4 + 2 * k))), some (.inl 1), some (.inl p), some (.inl (m : Int)), X, Y] [] g Q := by
  have v2 := hV.2.2.1
  have v3 := hV.2.2.2.1 (2 * k) (by omega)
  have v4 := hV.2.2.2.1 (2 * k + 1) (by omega)
  have v5 := hV.2.2.2.2.1 k hk
  intro n
  induction n with
  | zero =>
    intro m p X Y g hn he hP hp hw
    refine R_il fx_46_56 rfl ?_
    refine R_il fx_46_58 rfl ?_
    refine R_icgt fx_46_60 (by omega) (fun hc => ?_) (fun hc => by omega)
    exact R_retv fx_46_165 rfl (K g he (fun x hx => hP x (by omega)))
  | succ n ih =>
    intro m p X Y g hn he hP hp hw
    have e7 : g 7 k = G (12 + k) := by rw [he 7 (by omega)]; exact hS.2.2.1 k hk
    have e8 : g 8 k = G (16 + k) := by rw [he 8 (by omega)]; exact hS.2.2.2.1 k hk
    have e9 : ∀ x : Nat, (x : Int) ≤ 2 * G 2 → g 139 x = nr G q (2 * k + 1) x := fun x hx => by rw [he 139 (by omega)]; exact hN x hx
    have o9 : ∀ x : Nat, (x : Int) ≤ 2 * G 2 → (0 ≤ g 139 x ∧ g 139 x ≤ 268435456) := fun x hx => by rw [e9 x hx]; have := nr_b (s := 2 * k + 1) (x := x) hV hq hg; omega
    have hw2 := hw _ _ rfl rfl
    refine R_il fx_46_56 rfl ?_
    refine R_il fx_46_58 rfl ?_
    refine R_icgt fx_46_60 (by omega) (fun hc => by omega) (fun hc => ?_)
    refine R_il fx_46_63 rfl ?_
    refine R_ifeq fx_46_65 (by decide) (fun h => absurd h (by decide)) (fun _ => ?_)
    refine R_push fx_46_68 ?_
    refine R_il fx_46_69 rfl ?_
    refine R_al fx_46_71 rfl (by omega) ?_
    refine R_gr fx_46_72 kd_4 rfl rr_4_2 ?_
    refine R_il fx_46_75 rfl ?_
    refine R_ia fx_46_76 (Or.inl kd_7) (by omega) (by rw [ln_7]; omega) (by omega) ?_
    refine R_add fx_46_77 ?_
    refine R_il fx_46_78 rfl ?_
    refine R_sub fx_46_80 ?_
    refine R_max fx_46_81 (by omega) (by rw [Int.toNat_natCast, e7]; omega) ⟨by decide, by decide, Nat.le_of_ble_eq_true rfl⟩ ?_
    refine R_goto fx_46_84 ?_
    refine R_is fx_46_88 ?_
    refine R_il fx_46_90 rfl ?_
    refine R_ifeq fx_46_92 (by decide) (fun h => absurd h (by decide)) (fun _ => ?_)
    refine R_il fx_46_95 rfl ?_
    refine R_il fx_46_97 rfl ?_
    refine R_al fx_46_99 rfl (by omega) ?_
    refine R_gr fx_46_100 kd_4 rfl rr_4_3 ?_
    refine R_il fx_46_103 rfl ?_
    refine R_ia fx_46_104 (Or.inl kd_8) (by omega) (by rw [ln_8]; omega) (by omega) ?_
    refine R_add fx_46_105 ?_
    refine R_il fx_46_106 rfl ?_
    refine R_sub fx_46_108 ?_
    refine R_min fx_46_109 (by omega) (by rw [Int.toNat_natCast, e8]; omega) ⟨by decide, by decide, Nat.le_of_ble_eq_true rfl⟩ ?_
    refine R_goto fx_46_112 ?_
    refine R_is fx_46_117 ?_
    refine R_al fx_46_119 rfl (by omega) ?_
    refine R_gr fx_46_120 kd_125 rfl rr_125_1 ?_
    refine R_il fx_46_123 rfl ?_
    refine R_il fx_46_125 rfl ?_
    refine R_il fx_46_127 rfl ?_
    refine R_cs fx_46_129 rfl rfl rfl rfl ?_
    rw [Int.toNat_natCast, e7, e8]
    refine C_48 (a := (if 0 < (m : Int) + G (12 + k) - (G (4 + (2 * k + 1)) - G (4 + 2 * k)) then (m : Int) + G (12 + k) - (G (4 + (2 * k + 1)) - G (4 + 2 * k)) else 0)) (b := (if (m : Int) + G (16 + k) - (G (4 + (2 * k + 1)) - G (4 + 2 * k)) < 2 * G 2 then (m : Int) + G (16 + k) - (G (4 + (2 * k + 1)) - G (4 + 2 * k)) else 2 * G 2)) (by omega) (by omega) hp (fun j h1 h2 => by have := o9 j (by omega); omega) (fun h => ⟨(hw2 h).1, fun y y1 y2 => by rw [e9 _ (by have := (hw2 h).1; omega), e9 _ (by omega), Int.toNat_of_nonneg (by omega)]; exact (hw2 h).2 y y1 y2⟩) (fun p2 hp2 => ?_)
    unfold PLr at hp2
    refine R_is fx_46_132 ?_
    refine R_al fx_46_134 rfl (by omega) ?_
    refine R_gr fx_46_135 kd_125 rfl rr_125_2 ?_
    refine R_il fx_46_138 rfl ?_
    refine R_il fx_46_140 rfl ?_
    refine R_push fx_46_142 ?_
    refine R_icne fx_46_143 (by rcases hp2 with h | h <;> omega) (fun hc3 => ?_) (fun hc3 => ?_)
    · refine R_al fx_46_151 rfl (by omega) ?_
      refine R_gr fx_46_152 kd_125 rfl rr_125_1 ?_
      refine R_il fx_46_155 rfl ?_
      refine R_ia fx_46_157 (Or.inl kd_139) (by omega) (by rw [ln_139]; omega) (by omega) ?_
      refine R_ias fx_46_158 kd_140 (by omega) (by rw [ln_140]; omega) (by omega) ?_
      refine R_inc fx_46_159 rfl ?_
      refine R_goto fx_46_162 ?_
      refine ih (m + 1) p2 _ _ _ (by omega) (fun c hc9 => by funext y; rw [xup_a hc9]; exact congrFun (he c hc9) y) (fun x hx => ?_) (by rcases hp2 with h | h <;> omega) (fun A B eA eB hAp => ?_)
      · by_cases e : x = m
        · subst e
          rw [Int.toNat_natCast, xup_s]
          have h := (hp2.resolve_left (fun z => hc3 z.1))
          rw [e9 _ (by omega), Int.toNat_of_nonneg (by omega)]
          refine Lst.eq ?_ (fun _ hk => (PR_b hV hq hg hk).1)
          have hall : ∀ y : Nat, (y : Int) ≤ 2 * G 2 → inW G k x y → nr G q (2 * k + 1) p2 ≤ nr G q (2 * k + 1) y := fun y y1 y2 => by
            have h3 := h.2 y (by have := y2 hB; omega) (by have := y2 hB; omega)
            rw [e9 _ (by omega), e9 _ (by omega), Int.toNat_of_nonneg (by omega)] at h3
            exact h3
          rcases nr_b (s := 2 * k + 1) (x := p2) hV hq hg with z | z
          · rw [z]
            refine Or.inl ⟨rfl, ?_⟩
            rintro v ⟨y, y1, y2, y3, _⟩
            have := hall y y1 y2
            have := nr_b (s := 2 * k + 1) (x := y) hV hq hg
            omega
          · refine Or.inr ⟨⟨p2.toNat, by omega, fun z9 => by omega, ?_, ?_⟩, ?_⟩
            · rw [Int.toNat_of_nonneg (by omega)]; omega
            · rw [Int.toNat_of_nonneg (by omega)]
            · rintro v ⟨y, y1, y2, y3, rfl⟩
              exact hall y y1 y2
        · rw [Int.toNat_natCast, xup_i e]; exact hP x (by omega)
      · rcases hp2 with h | ⟨h1, h2⟩
        · omega
        · refine ⟨by omega, fun y y1 y2 => ?_⟩
          have h3 := h2 y (by omega) (by omega)
          rw [e9 _ (by omega), e9 _ (by omega), Int.toNat_of_nonneg (by omega)] at h3
          exact h3
    · refine R_push fx_46_146 ?_
      refine R_goto fx_46_148 ?_
      refine R_ias fx_46_158 kd_140 (by omega) (by rw [ln_140]; omega) (by omega) ?_
      refine R_inc fx_46_159 rfl ?_
      refine R_goto fx_46_162 ?_
      refine ih (m + 1) p2 _ _ _ (by omega) (fun c hc9 => by funext y; rw [xup_a hc9]; exact congrFun (he c hc9) y) (fun x hx => ?_) (by rcases hp2 with h | h <;> omega) (fun A B eA eB hAp => ?_)
      · by_cases e : x = m
        · subst e
          rw [Int.toNat_natCast, xup_s]
          refine Lst.eq (Or.inl ⟨rfl, ?_⟩) (fun _ hk => (PR_b hV hq hg hk).1)
          rintro v ⟨y, y1, y2, y3, _⟩
          rcases hp2 with h | h
          · have := y2 hB; omega
          · omega
        · rw [Int.toNat_natCast, xup_i e]; exact hP x (by omega)
      · rcases hp2 with h | ⟨h1, h2⟩
        · omega
        · refine ⟨by omega, fun y y1 y2 => ?_⟩
          have h3 := h2 y (by omega) (by omega)
          rw [e9 _ (by omega), e9 _ (by omega), Int.toNat_of_nonneg (by omega)] at h3
          exact h3
theorem C_46_0 {q k : Nat} (hV : VG G) (hS : Sg f 4 G) (hq : q < 12) (hg : (q : Int) < G 0) (hk : k < 4) (hB : ¬ G (12 + k) ≤ G (16 + k)) (hN : ∀ x : Nat, (x : Int) ≤ 2 * G 2 → f 139 x = nr G q (2 * k + 1) x) (K : ∀ g : xF, (∀ c, c ≠ 140 → g c = f c) → (∀ x : Nat, (x : Int) ≤ 2 * G 2 → g 140 x = pr G q k x) → Q [] g) : ∀ (n m : Nat) (p : Int) (X Y : Option xV) (g : xF), (m : Int) + n = 2 * G 2 + 1 → (∀ c, c ≠ 140 → g c = f c) → (∀ x : Nat, x < m → g 140 x = pr G q k x) → (-1 ≤ p ∧ p ≤ 100) → (∀ A B : Int, A = 0 → B = (2 * G 2) → A ≤ p → p ≤ B ∧ ∀ y : Nat, A ≤ y → (y : Int) < B → nr G q (2 * k + 1) p ≤ nr G q (2 * k + 1) y) → Rf (SHL L) 46 56 [some (.inr 125), some (.inr 4), some (.inl (q : Int)), some (.inl (k : Int)), some (.inl (2 * G 2)), some (.inl (G (4 + (2 * k + 1)) - G (4 + 2 * k))), some (.inl 0), some (.inl p), some (.inl (m : Int)), X, Y] [] g Q := by
  have v2 := hV.2.2.1
  have v3 := hV.2.2.2.1 (2 * k) (by omega)
  have v4 := hV.2.2.2.1 (2 * k + 1) (by omega)
  have v5 := hV.2.2.2.2.1 k hk
  intro n
  induction n with
  | zero =>
    intro m p X Y g hn he hP hp hw
    refine R_il fx_46_56 rfl ?_
    refine R_il fx_46_58 rfl ?_
    refine R_icgt fx_46_60 (by omega) (fun hc => ?_) (fun hc => by omega)
    exact R_retv fx_46_165 rfl (K g he (fun x hx => hP x (by omega)))
  | succ n ih =>
    intro m p X Y g hn he hP hp hw
    have e7 : g 7 k = G (12 + k) := by rw [he 7 (by omega)]; exact hS.2.2.1 k hk
    have e8 : g 8 k = G (16 + k) := by rw [he 8 (by omega)]; exact hS.2.2.2.1 k hk
    have e9 : ∀ x : Nat, (x : Int) ≤ 2 * G 2 → g 139 x = nr G q (2 * k + 1) x := fun x hx => by rw [he 139 (by omega)]; exact hN x hx
    have o9 : ∀ x : Nat, (x : Int) ≤ 2 * G 2 → (0 ≤ g 139 x ∧ g 139 x ≤ 268435456) := fun x hx => by rw [e9 x hx]; have := nr_b (s := 2 * k + 1) (x := x) hV hq hg; omega
    have hw2 := hw _ _ rfl rfl
    refine R_il fx_46_56 rfl ?_
    refine R_il fx_46_58 rfl ?_
    refine R_icgt fx_46_60 (by omega) (fun hc => by omega) (fun hc => ?_)
    refine R_il fx_46_63 rfl ?_
    refine R_ifeq fx_46_65 (by decide) (fun _ => ?_) (fun h => absurd h (by decide))
    refine R_push fx_46_87 ?_
    refine R_is fx_46_88 ?_
    refine R_il fx_46_90 rfl ?_
    refine R_ifeq fx_46_92 (by decide) (fun _ => ?_) (fun h => absurd h (by decide))
    refine R_il fx_46_115 rfl ?_
    refine R_is fx_46_117 ?_
    refine R_al fx_46_119 rfl (by omega) ?_
    refine R_gr fx_46_120 kd_125 rfl rr_125_1 ?_
    refine R_il fx_46_123 rfl ?_
    refine R_il fx_46_125 rfl ?_
    refine R_il fx_46_127 rfl ?_
    refine R_cs fx_46_129 rfl rfl rfl rfl ?_
    skip
    refine C_48 (a := 0) (b := (2 * G 2)) (by omega) (by omega) hp (fun j h1 h2 => by have := o9 j (by omega); omega) (fun h => ⟨(hw2 h).1, fun y y1 y2 => by rw [e9 _ (by have := (hw2 h).1; omega), e9 _ (by omega), Int.toNat_of_nonneg (by omega)]; exact (hw2 h).2 y y1 y2⟩) (fun p2 hp2 => ?_)
    unfold PLr at hp2
    refine R_is fx_46_132 ?_
    refine R_al fx_46_134 rfl (by omega) ?_
    refine R_gr fx_46_135 kd_125 rfl rr_125_2 ?_
    refine R_il fx_46_138 rfl ?_
    refine R_il fx_46_140 rfl ?_
    refine R_push fx_46_142 ?_
    refine R_icne fx_46_143 (by rcases hp2 with h | h <;> omega) (fun hc3 => ?_) (fun hc3 => ?_)
    · refine R_al fx_46_151 rfl (by omega) ?_
      refine R_gr fx_46_152 kd_125 rfl rr_125_1 ?_
      refine R_il fx_46_155 rfl ?_
      refine R_ia fx_46_157 (Or.inl kd_139) (by omega) (by rw [ln_139]; omega) (by omega) ?_
      refine R_ias fx_46_158 kd_140 (by omega) (by rw [ln_140]; omega) (by omega) ?_
      refine R_inc fx_46_159 rfl ?_
      refine R_goto fx_46_162 ?_
      refine ih (m + 1) p2 _ _ _ (by omega) (fun c hc9 => by funext y; rw [xup_a hc9]; exact congrFun (he c hc9) y) (fun x hx => ?_) (by rcases hp2 with h | h <;> omega) (fun A B eA eB hAp => ?_)
      · by_cases e : x = m
        · subst e
          rw [Int.toNat_natCast, xup_s]
          have h := (hp2.resolve_left (fun z => hc3 z.1))
          rw [e9 _ (by omega), Int.toNat_of_nonneg (by omega)]
          refine Lst.eq ?_ (fun _ hk => (PR_b hV hq hg hk).1)
          have hall : ∀ y : Nat, (y : Int) ≤ 2 * G 2 → inW G k x y → nr G q (2 * k + 1) p2 ≤ nr G q (2 * k + 1) y := fun y y1 y2 => by
            have h3 := h.2 y (by omega) (by omega)
            rw [e9 _ (by omega), e9 _ (by omega), Int.toNat_of_nonneg (by omega)] at h3
            exact h3
          rcases nr_b (s := 2 * k + 1) (x := p2) hV hq hg with z | z
          · rw [z]
            refine Or.inl ⟨rfl, ?_⟩
            rintro v ⟨y, y1, y2, y3, _⟩
            have := hall y y1 y2
            have := nr_b (s := 2 * k + 1) (x := y) hV hq hg
            omega
          · refine Or.inr ⟨⟨p2.toNat, by omega, fun z9 => by omega, ?_, ?_⟩, ?_⟩
            · rw [Int.toNat_of_nonneg (by omega)]; omega
            · rw [Int.toNat_of_nonneg (by omega)]
            · rintro v ⟨y, y1, y2, y3, rfl⟩
              exact hall y y1 y2
        · rw [Int.toNat_natCast, xup_i e]; exact hP x (by omega)
      · rcases hp2 with h | ⟨h1, h2⟩
        · omega
        · refine ⟨by omega, fun y y1 y2 => ?_⟩
          have h3 := h2 y (by omega) (by omega)
          rw [e9 _ (by omega), e9 _ (by omega), Int.toNat_of_nonneg (by omega)] at h3
          exact h3
    · refine R_push fx_46_146 ?_
      refine R_goto fx_46_148 ?_
      refine R_ias fx_46_158 kd_140 (by omega) (by rw [ln_140]; omega) (by omega) ?_
      refine R_inc fx_46_159 rfl ?_
      refine R_goto fx_46_162 ?_
      refine ih (m + 1) p2 _ _ _ (by omega) (fun c hc9 => by funext y; rw [xup_a hc9]; exact congrFun (he c hc9) y) (fun x hx => ?_) (by rcases hp2 with h | h <;> omega) (fun A B eA eB hAp => ?_)
      · by_cases e : x = m
        · subst e
          rw [Int.toNat_natCast, xup_s]
          refine Lst.eq (Or.inl ⟨rfl, ?_⟩) (fun _ hk => (PR_b hV hq hg hk).1)
          rintro v ⟨y, y1, y2, y3, _⟩
          rcases hp2 with h | h
          · omega
          · omega
        · rw [Int.toNat_natCast, xup_i e]; exact hP x (by omega)
      · rcases hp2 with h | ⟨h1, h2⟩
        · omega
        · refine ⟨by omega, fun y y1 y2 => ?_⟩
          have h3 := h2 y (by omega) (by omega)
          rw [e9 _ (by omega), e9 _ (by omega), Int.toNat_of_nonneg (by omega)] at h3
          exact h3
theorem C_46 {q2 k2 : Int} {q k : Nat} (eq : q2 = q) (ek : k2 = k) (hV : VG G) (hS : Sg f 4 G) (hq : q < 12) (hg : (q : Int) < G 0) (hk : k < 4) (K : ∀ g : xF, (∀ c, c ≠ 139 → c ≠ 140 → g c = f c) → (∀ x : Nat, (x : Int) ≤ 2 * G 2 → g 140 x = pr G q k x) → Q [] g) : Rf (SHL L) 46 0 (xloc 46 [.inr 125, .inr 4, .inl q2, .inl k2]) [] f Q := by
  subst eq ek
  have v2 := hV.2.2.1
  have v3 := hV.2.2.2.1 (2 * k) (by omega)
  have v4 := hV.2.2.2.1 (2 * k + 1) (by omega)
  have v5 := hV.2.2.2.2.1 k hk
  refine R_al fx_46_0 rfl (by omega) ?_
  refine R_il fx_46_1 rfl ?_
  refine R_push fx_46_2 ?_
  refine R_il fx_46_3 rfl ?_
  refine R_mul fx_46_4 ?_
  refine R_push fx_46_5 ?_
  refine R_add fx_46_6 ?_
  refine R_al fx_46_7 rfl (by omega) ?_
  refine R_gr fx_46_8 kd_125 rfl rr_125_1 ?_
  refine R_cs fx_46_11 rfl rfl rfl rfl ?_
  refine C_37 (r := q) (s := 2 * k + 1) rfl (by omega) hV hS hq hg (by omega) (by omega) kd_139 ln_139 (fun g he hN => ?_)
  have e1 : g 6 (2 * k + 1) = G (4 + (2 * k + 1)) := by rw [he 6 (by omega)]; exact hS.2.1 _ (by omega)
  have e2 : g 6 (2 * k) = G (4 + 2 * k) := by rw [he 6 (by omega)]; exact hS.2.1 _ (by omega)
  have e3 : g 4 6 = G 2 := by rw [he 4 (by omega)]; exact hS.1.2.2.1
  have e7 : g 7 k = G (12 + k) := by rw [he 7 (by omega)]; exact hS.2.2.1 k hk
  have e8 : g 8 k = G (16 + k) := by rw [he 8 (by omega)]; exact hS.2.2.2.1 k hk
  have hS2 : Sg g 4 G := hS.kept (fun c _ _ => he c (by omega))
  refine R_push fx_46_14 ?_
  refine R_al fx_46_15 rfl (by omega) ?_
  refine R_gf fx_46_16 kd_4 rfl ?_
  refine R_mul fx_46_19 ?_
  refine R_is fx_46_20 ?_
  refine R_al fx_46_22 rfl (by omega) ?_
  refine R_gr fx_46_23 kd_4 rfl rr_4_1 ?_
  refine R_push fx_46_26 ?_
  refine R_il fx_46_27 rfl ?_
  refine R_mul fx_46_28 ?_
  refine R_push fx_46_29 ?_
  refine R_add fx_46_30 ?_
  refine R_ia fx_46_31 (Or.inl kd_6) (by omega) (by rw [ln_6]; omega) (by omega) ?_
  refine R_al fx_46_32 rfl (by omega) ?_
  refine R_gr fx_46_33 kd_4 rfl rr_4_1 ?_
  refine R_push fx_46_36 ?_
  refine R_il fx_46_37 rfl ?_
  refine R_mul fx_46_38 ?_
  refine R_ia fx_46_39 (Or.inl kd_6) (by omega) (by rw [ln_6]; omega) (by omega) ?_
  refine R_sub fx_46_40 ?_
  refine R_is fx_46_41 ?_
  refine R_al fx_46_43 rfl (by omega) ?_
  refine R_il fx_46_44 rfl ?_
  refine R_cv fx_46_45 rfl rfl rfl rfl kd_4 ?_
  refine C_29 (by omega) (hV.b hS2) (fun hc => ?_) (fun hc => ?_)
  · refine R_is fx_46_48 ?_
    refine R_push fx_46_50 ?_
    refine R_is fx_46_51 ?_
    refine R_push fx_46_53 ?_
    refine R_is fx_46_54 ?_
    rw [show (2 * (k : Int) + 1).toNat = 2 * k + 1 by omega, show (2 * (k : Int)).toNat = 2 * k by omega, e1, e2, e3]
    rw [Int.toNat_natCast, e7, e8] at hc
    exact C_46_1 hV hS2 hq hg hk hc.2 hN (fun g2 he2 hP => K g2 (fun c q1 q2 => by rw [he2 c q2, he c q1]) hP) (2 * G 2 + 1).toNat 0 _ _ _ g (by omega) (fun _ _ => rfl) (fun x hx => absurd hx (by omega)) (by omega) (fun A B eA eB h => by omega)
  · refine R_is fx_46_48 ?_
    refine R_push fx_46_50 ?_
    refine R_is fx_46_51 ?_
    refine R_push fx_46_53 ?_
    refine R_is fx_46_54 ?_
    rw [show (2 * (k : Int) + 1).toNat = 2 * k + 1 by omega, show (2 * (k : Int)).toNat = 2 * k by omega, e1, e2, e3]
    rw [Int.toNat_natCast, e7, e8] at hc
    exact C_46_0 hV hS2 hq hg hk (fun h => hc ⟨by omega, h⟩) hN (fun g2 he2 hP => K g2 (fun c q1 q2 => by rw [he2 c q2, he c q1]) hP) (2 * G 2 + 1).toNat 0 _ _ _ g (by omega) (fun _ _ => rfl) (fun x hx => absurd hx (by omega)) (by omega) (fun A B eA eB h => by omega)
theorem C_45 {r2 k2 : Int} {r k : Nat} (er : r2 = r) (ek : k2 = k) (hV : VG G) (hS : Sg f 4 G) (hr : r < 12) (hg : (r : Int) < G 0) (hk : k < 4) (K : ∀ g : xF, (∀ c, c ≠ 127 + r → g c = f c) → (∀ x : Nat, (x : Int) ≤ 2 * G 2 → g (127 + r) x = nr G r (2 * k) x) → Q [] g) : Rf (SHL L) 45 0 (xloc 45 [.inr 125, .inr 4, .inl r2, .inl k2]) [] f Q := by
  subst er ek
  refine R_al fx_45_0 rfl (by omega) ?_
  refine R_il fx_45_1 rfl ?_
  refine R_push fx_45_2 ?_
  refine R_il fx_45_3 rfl ?_
  refine R_mul fx_45_4 ?_
  refine R_al fx_45_5 rfl (by omega) ?_
  refine R_gr fx_45_6 kd_125 rfl rr_125_0 ?_
  refine R_il fx_45_9 rfl ?_
  refine R_aa (q := 127 + r) fx_45_10 (Or.inr (Or.inr kd_126)) (by omega) (by rw [ln_126]; omega) (by omega) (by rw [Int.toNat_natCast]; exact rr_first r hr) ?_
  refine R_cs fx_45_11 rfl rfl rfl rfl ?_
  refine C_37 (r := r) (s := 2 * k) rfl (by omega) hV hS hr hg (by omega) (by omega) (kd_first r hr) (ln_first r hr) (fun g he hN => ?_)
  exact R_retv fx_45_14 rfl (K g he hN)
theorem C_49 {r2 : Int} {r q k : Nat} (er : r2 = r) (hV : VG G) (hS : Sg f 4 G) (hr : r < 12) (hg : (r : Int) < G 0) (hq : q < 12) (hgq : (q : Int) < G 0) (hA : ∀ x : Nat, (x : Int) ≤ 2 * G 2 → f (127 + r) x = nr G r (2 * k) x) (hB : ∀ x : Nat, (x : Int) ≤ 2 * G 2 → f 140 x = pr G q k x) (K : Q [.inl (pk G r q k)] f) : Rf (SHL L) 49 0 (xloc 49 [.inr 125, .inr 4, .inl r2]) [] f Q := by
  subst er
  have v2 := hV.2.2.1
  have e6 : f 4 6 = G 2 := hS.1.2.2.1
  have hO : ∀ (m : Nat) (v : Int), Lst (fun v => ∃ x : Nat, x < m ∧ PKx G r q k x v) 268435456 v → (0 ≤ v ∧ v ≤ 268435456) := fun m v h => by
    rcases h.far_or with z | ⟨x, _, hx⟩
    · omega
    · have := PKx_b hV hr hg hq hgq hx; omega
  have loop : ∀ (n m : Nat) (v : Int), (m : Int) + n = 2 * G 2 + 1 → Lst (fun v => ∃ x : Nat, x < m ∧ PKx G r q k x v) 268435456 v → Rf (SHL L) 49 6 [some (.inr 125), some (.inr 4), some (.inl (r : Int)), some (.inl v), some (.inl (m : Int))] [] f Q := by
    intro n
    induction n with
    | zero =>
      intro m v hm hL
      refine R_il fx_49_6 rfl ?_
      refine R_push fx_49_8 ?_
      refine R_al fx_49_9 rfl (by omega) ?_
      refine R_gf fx_49_10 kd_4 rfl ?_
      refine R_mul fx_49_13 ?_
      refine R_icgt fx_49_14 (by omega) (fun hc => ?_) (fun hc => by omega)
      refine R_il fx_49_73 rfl ?_
      rw [show v = pk G r q k from (hL.congr (fun k => ⟨fun ⟨x, h1, h2⟩ => ⟨x, by omega, h2⟩, fun ⟨x, h1, h2⟩ => ⟨x, by omega, h2⟩⟩)).uniq (pk_is hV hr hg hq hgq)]
      exact R_ret fx_49_74 (Or.inl rfl) K
    | succ n ih =>
      intro m v hm hL
      have hv := hO _ _ hL
      have a1 := hA m (by omega)
      have b1 := hB m (by omega)
      have a2 := nr_b (s := 2 * k) (x := m) hV hr hg
      have b2 := pr_b (k := k) (x := m) hV hq hgq
      have no : (nr G r (2 * k) m = 268435456 ∨ pr G q k m = 268435456) → Lst (fun v => ∃ x : Nat, x < m + 1 ∧ PKx G r q k x v) 268435456 v := fun h => hL.congr (fun v' => ⟨fun ⟨x, h1, h2⟩ => ⟨x, by omega, h2⟩, fun ⟨x, h1, h2⟩ => by
        by_cases e : x = m
        · subst e; exact absurd h2 (PKx_no hV hq hgq h)
        · exact ⟨x, by omega, h2⟩⟩)
      refine R_il fx_49_6 rfl ?_
      refine R_push fx_49_8 ?_
      refine R_al fx_49_9 rfl (by omega) ?_
      refine R_gf fx_49_10 kd_4 rfl ?_
      refine R_mul fx_49_13 ?_
      refine R_icgt fx_49_14 (by omega) (fun hc => by omega) (fun hc => ?_)
      refine R_al fx_49_17 rfl (by omega) ?_
      refine R_gr fx_49_18 kd_125 rfl rr_125_0 ?_
      refine R_il fx_49_21 rfl ?_
      refine R_aa (q := 127 + r) fx_49_22 (Or.inr (Or.inr kd_126)) (by omega) (by rw [ln_126]; omega) (by omega) (by rw [Int.toNat_natCast]; exact rr_first r hr) ?_
      refine R_il fx_49_23 rfl ?_
      refine R_ia fx_49_25 (Or.inl (kd_first r hr)) (by omega) (by rw [ln_first r hr]; omega) (by omega) ?_
      refine R_push fx_49_26 ?_
      refine R_iceq fx_49_28 (by rw [Int.toNat_natCast]; omega) (fun hc => ?_) (fun hc => ?_)
      · refine R_inc fx_49_67 rfl ?_
        refine R_goto fx_49_70 ?_
        exact ih (m + 1) v (by omega) (no (Or.inl (by rw [← a1]; exact hc)))
      · refine R_al fx_49_31 rfl (by omega) ?_
        refine R_gr fx_49_32 kd_125 rfl rr_125_2 ?_
        refine R_il fx_49_35 rfl ?_
        refine R_ia fx_49_37 (Or.inl kd_140) (by omega) (by rw [ln_140]; omega) (by omega) ?_
        refine R_push fx_49_38 ?_
        refine R_iceq fx_49_40 (by rw [Int.toNat_natCast]; omega) (fun hc2 => ?_) (fun hc2 => ?_)
        · refine R_inc fx_49_67 rfl ?_
          refine R_goto fx_49_70 ?_
          exact ih (m + 1) v (by omega) (no (Or.inr (by rw [← b1]; exact hc2)))
        · refine R_il fx_49_43 rfl ?_
          refine R_al fx_49_44 rfl (by omega) ?_
          refine R_gr fx_49_45 kd_125 rfl rr_125_0 ?_
          refine R_il fx_49_48 rfl ?_
          refine R_aa (q := 127 + r) fx_49_49 (Or.inr (Or.inr kd_126)) (by omega) (by rw [ln_126]; omega) (by omega) (by rw [Int.toNat_natCast]; exact rr_first r hr) ?_
          refine R_il fx_49_50 rfl ?_
          refine R_ia fx_49_52 (Or.inl (kd_first r hr)) (by omega) (by rw [ln_first r hr]; omega) (by omega) ?_
          refine R_al fx_49_53 rfl (by omega) ?_
          refine R_gr fx_49_54 kd_125 rfl rr_125_2 ?_
          refine R_il fx_49_57 rfl ?_
          refine R_ia fx_49_59 (Or.inl kd_140) (by omega) (by rw [ln_140]; omega) (by omega) ?_
          refine R_cs fx_49_60 rfl rfl rfl rfl ?_
          rw [Int.toNat_natCast, a1] at hc
          rw [Int.toNat_natCast, b1] at hc2
          rw [Int.toNat_natCast, a1, b1]
          refine C_50 (by omega) (by omega) ?_
          have hj := jk_b (a := nr G r (2 * k) m) (b := pr G q k m) (by omega) (by omega)
          show Rf (SHL L) 49 63 _ (.inl (jk (nr G r (2 * k) m) (pr G q k m)) :: _) f Q
          refine R_min fx_49_63 (by omega) (by omega) ⟨by decide, by decide, Nat.le_of_ble_eq_true rfl⟩ ?_
          refine R_is fx_49_66 ?_
          refine R_inc fx_49_67 rfl ?_
          refine R_goto fx_49_70 ?_
          refine ih (m + 1) _ (by omega) (hL.join (PKx_is hV hr hg hq hgq (by omega) (by omega)) (fun k2 ⟨x, _, hx⟩ => by have := PKx_b hV hr hg hq hgq hx; omega) (fun k2 hx => by have := PKx_b hV hr hg hq hgq hx; omega) (fun k2 => ⟨fun ⟨x, h1, h2⟩ => ?_, fun h => ?_⟩))
          · by_cases e : x = m
            · subst e; exact Or.inr h2
            · exact Or.inl ⟨x, by omega, h2⟩
          · rcases h with ⟨x, h1, h2⟩ | h
            · exact ⟨x, by omega, h2⟩
            · exact ⟨m, by omega, h⟩
  refine R_push fx_49_0 ?_
  refine R_is fx_49_2 ?_
  refine R_push fx_49_3 ?_
  refine R_is fx_49_4 ?_
  exact loop (2 * G 2 + 1).toNat 0 _ (by omega) (Or.inl ⟨rfl, fun v ⟨x, h1, _⟩ => by omega⟩)
theorem C_44 {r2 q2 k2 : Int} {r q k : Nat} (er : r2 = r) (eq : q2 = q) (ek : k2 = k) (hV : VG G) (hS : Sg f 4 G) (hr : r < 12) (hg : (r : Int) < G 0) (hq : q < 12) (hgq : (q : Int) < G 0) (hk : k < 4) (K : ∀ g : xF, (∀ c, (c < 125 ∨ 140 < c) → g c = f c) → Q [.inl (pk G r q k)] g) : Rf (SHL L) 44 0 (xloc 44 [.inr 125, .inr 4, .inl r2, .inl q2, .inl k2]) [] f Q := by
  subst er eq ek
  refine R_al fx_44_0 rfl (by omega) ?_
  refine R_al fx_44_1 rfl (by omega) ?_
  refine R_il fx_44_2 rfl ?_
  refine R_il fx_44_3 rfl ?_
  refine R_cv fx_44_5 rfl rfl rfl rfl kd_125 ?_
  refine C_45 rfl rfl hV hS hr hg hk (fun g1 h1 n1 => ?_)
  refine R_al fx_44_8 rfl (by omega) ?_
  refine R_al fx_44_9 rfl (by omega) ?_
  refine R_il fx_44_10 rfl ?_
  refine R_il fx_44_11 rfl ?_
  refine R_cv fx_44_13 rfl rfl rfl rfl kd_125 ?_
  refine C_46 rfl rfl hV (hS.kept (fun c _ _ => h1 c (by omega))) hq hgq hk (fun g2 h2 n2 => ?_)
  refine R_al fx_44_16 rfl (by omega) ?_
  refine R_al fx_44_17 rfl (by omega) ?_
  refine R_il fx_44_18 rfl ?_
  refine R_cv fx_44_19 rfl rfl rfl rfl kd_125 ?_
  refine C_49 rfl hV (hS.kept (fun c _ _ => by rw [h2 c (by omega) (by omega), h1 c (by omega)])) hr hg hq hgq (fun x hx => by rw [h2 _ (by omega) (by omega)]; exact n1 x hx) n2 ?_
  exact R_ret fx_44_22 (Or.inl rfl) (K g2 (fun c hc => by rw [h2 c (by omega) (by omega), h1 c (by omega)]))
end WT
