/-! ===== the class: fillNear, slotKey ===== -/
section FN
variable {L : Nat} {f : xF} {Q : List xV → xF → Prop} {G : Nat → Int}
theorem C_37_3 {r s row i : Nat} (hV : VG G) (hS : Sg f 4 G) (hr : r < 12) (hg : (r : Int) < G 0) (hs : s < 8) (hrow : 125 ≤ row) (hk : xkd (SHL L) row = 1) (hl : xln (SHL L) row = 101) (hi : (i : Int) ≤ G (20 + 7 * r + 2)) (K : ∀ (g : xF) (X Y : Option xV), (∀ c, c ≠ row → g c = f c) → (∀ x : Nat, (x : Int) ≤ 2 * G 2 → Lst (NKD (G (20 + 7 * r)) (G (20 + 7 * r + 1)) (G (20 + 7 * r + 2)) (G 1) (G (4 + s) - G 2) (fun i' j' => i' < i + 1) x) 268435456 (g row x)) → Rf (SHL L) 37 54 [some (.inr 4), some (.inl (r : Int)), some (.inl (s : Int)), some (.inr row), some (.inr (9 + r)), some (.inl (G (4 + s) - G 2)), some (.inl (2 * G 2)), some (.inl ((i + 1 : Nat) : Int)), X, Y] [] g Q) : ∀ (n j : Nat) (a : Int) (g : xF), (j : Int) + n = G (20 + 7 * r + 1) → a = G (20 + 7 * r) + i * G 1 - (G (4 + s) - G 2) - dr (G (20 + 7 * r + 1)) j → (∀ c, c ≠ row → g c = f c) → (∀ x : Nat, (x : Int) ≤ 2 * G 2 → Lst (NKD (G (20 + 7 * r)) (G (20 + 7 * r + 1)) (G (20 + 7 * r + 2)) (G 1) (G (4 + s) - G 2) (fun i' j' => i' < i ∨ (i' = i ∧ j' < j)) x) 268435456 (g row x)) → Rf (SHL L) 37 85 [some (.inr 4), some (.inl (r : Int)), some (.inl (s : Int)), some (.inr row), some (.inr (9 + r)), some (.inl (G (4 + s) - G 2)), some (.inl (2 * G 2)), some (.inl (i : Int)), some (.inl a), some (.inl (j : Int))] [] g Q := by
  have v1 := hV.2.1
  have v2 := hV.2.2.1
  have v3 := hV.2.2.2.1 s hs
  have v4 := hV.2.2.2.2.2 r hr hg
  have hz : 0 ≤ (i : Int) * G 1 ∧ (i : Int) * G 1 ≤ 20 * 20 := ⟨Int.mul_nonneg (by omega) (by omega), Int.mul_le_mul (by omega) (by omega) (by omega) (by omega)⟩
  have ed : ∀ (g : xF), (∀ c, c ≠ row → g c = f c) → ∀ j, j < 7 → g (9 + r) j = G (20 + 7 * r + j) := fun g hg2 j hj => by rw [hg2 _ (by omega)]; exact hS.rd hr hg hj
  intro n
  induction n with
  | zero =>
    intro j a g hj ha he hL
    have e1 := ed g he 1 (by omega)
    refine R_il fx_37_85 rfl ?_
    refine R_al fx_37_87 rfl (by omega) ?_
    refine R_gf fx_37_89 (kd_reed r hr) rfl ?_
    refine R_icge fx_37_92 (by omega) (fun hc => ?_) (fun hc => by omega)
    refine R_inc fx_37_144 rfl ?_
    refine R_goto fx_37_147 ?_
    refine K g _ _ he (fun x hx => (hL x hx).congr (NKD_congr (fun i2 j2 q1 q2 q3 => ?_)))
    omega
  | succ n ih =>
    intro j a g hj ha he hL
    have e1 := ed g he 1 (by omega)
    have hd := dr_b (t := G (20 + 7 * r + 1)) j (by omega) (by omega)
    refine R_il fx_37_85 rfl ?_
    refine R_al fx_37_87 rfl (by omega) ?_
    refine R_gf fx_37_89 (kd_reed r hr) rfl ?_
    refine R_icge fx_37_92 (by omega) (fun hc => by omega) (fun hc => ?_)
    refine R_il fx_37_95 rfl ?_
    refine R_iflt fx_37_97 (by omega) (fun hc => ?_) (fun hc => ?_)
    · refine R_inc fx_37_144 rfl ?_
      refine R_goto fx_37_147 ?_
      refine K g _ _ he (fun x hx => (hL x hx).congr (NKD_congr (fun i2 j2 q1 q2 q3 => ?_)))
      by_cases e : i2 = i
      · subst e
        by_cases e2 : j2 < j
        · omega
        · have hm := dr_mono (t := G (20 + 7 * r + 1)) (j2 - j) j (by omega)
          rw [show j + (j2 - j) = j2 by omega] at hm
          omega
      · omega
    · refine R_il fx_37_100 rfl ?_
      refine R_il fx_37_102 rfl ?_
      refine R_icgt fx_37_104 (by omega) (fun hc2 => ?_) (fun hc2 => ?_)
      · refine R_il fx_37_125 rfl ?_
        refine R_al fx_37_127 rfl (by omega) ?_
        refine R_gf fx_37_129 (kd_reed r hr) rfl ?_
        refine R_il fx_37_132 rfl ?_
        refine R_sub fx_37_134 ?_
        refine R_sub fx_37_135 ?_
        refine R_is fx_37_136 ?_
        refine R_inc fx_37_138 rfl ?_
        refine R_goto fx_37_141 ?_
        rw [e1]
        refine ih (j + 1) _ _ (by omega) ?_ ?_ ?_
        · rw [show dr (G (20 + 7 * r + 1)) (j + 1) = dr (G (20 + 7 * r + 1)) j + (G (20 + 7 * r + 1) - (j : Nat)) from rfl]; omega
        · exact he
        · intro x hx
          refine (hL x hx).congr (NKD_congr (fun i2 j2 q1 q2 q3 => ?_))
          by_cases e : i2 = i ∧ j2 = j
          · obtain ⟨rfl, rfl⟩ := e; omega
          · omega
      · refine R_al fx_37_107 rfl (by omega) ?_
        refine R_il fx_37_108 rfl ?_
        refine R_al fx_37_110 rfl (by omega) ?_
        refine R_il fx_37_111 rfl ?_
        refine R_ia fx_37_113 (Or.inl hk) (by omega) (by rw [hl]; omega) (by omega) ?_
        refine R_il fx_37_114 rfl ?_
        refine R_il fx_37_116 rfl ?_
        refine R_cs fx_37_118 rfl rfl rfl rfl ?_
        refine C_38 ?_
        refine R_min fx_37_121 (by have := hL a.toNat (by omega); rcases this.far_or with z | z; exact (by rw [z]; omega); exact (by have := NKD_b (by omega) (by omega) z; omega)) (by omega) ⟨by decide, by decide, Nat.le_of_ble_eq_true rfl⟩ ?_
        refine R_ias fx_37_124 hk (by omega) (by rw [hl]; omega) (by omega) ?_
        refine R_il fx_37_125 rfl ?_
        refine R_al fx_37_127 rfl (by omega) ?_
        refine R_gf fx_37_129 (kd_reed r hr) rfl ?_
        refine R_il fx_37_132 rfl ?_
        refine R_sub fx_37_134 ?_
        refine R_sub fx_37_135 ?_
        refine R_is fx_37_136 ?_
        refine R_inc fx_37_138 rfl ?_
        refine R_goto fx_37_141 ?_
        rw [show (xup g row a.toNat _) (9 + r) 1 = g (9 + r) 1 from xup_a (by omega)]
        rw [e1]
        refine ih (j + 1) _ _ (by omega) ?_ ?_ ?_
        · rw [show dr (G (20 + 7 * r + 1)) (j + 1) = dr (G (20 + 7 * r + 1)) j + (G (20 + 7 * r + 1) - (j : Nat)) from rfl]; omega
        · intro c hc; funext y; rw [xup_a hc]; exact congrFun (he c hc) y
        · intro x hx
          by_cases e : x = a.toNat
          · subst e
            rw [xup_s]
            exact (hL _ hx).add (by omega) (NKD_add (by omega) (by omega) (by omega) (fun i2 j2 => by omega))
          · rw [xup_i e]
            refine (hL x hx).congr (NKD_congr (fun i2 j2 q1 q2 q3 => ?_))
            by_cases e2 : i2 = i ∧ j2 = j
            · obtain ⟨rfl, rfl⟩ := e2; omega
            · omega
theorem C_37_2 {r s row : Nat} (hV : VG G) (hS : Sg f 4 G) (hr : r < 12) (hg : (r : Int) < G 0) (hs : s < 8) (hrow : 125 ≤ row) (hk : xkd (SHL L) row = 1) (hl : xln (SHL L) row = 101) (K : ∀ g : xF, (∀ c, c ≠ row → g c = f c) → (∀ x : Nat, (x : Int) ≤ 2 * G 2 → g row x = nr G r s x) → Q [] g) : ∀ (n i : Nat) (X Y : Option xV) (g : xF), (i : Int) + n = G (20 + 7 * r + 2) + 1 → (∀ c, c ≠ row → g c = f c) → (∀ x : Nat, (x : Int) ≤ 2 * G 2 → Lst (NKD (G (20 + 7 * r)) (G (20 + 7 * r + 1)) (G (20 + 7 * r + 2)) (G 1) (G (4 + s) - G 2) (fun i' j' => i' < i) x) 268435456 (g row x)) → Rf (SHL L) 37 54 [some (.inr 4), some (.inl (r : Int)), some (.inl (s : Int)), some (.inr row), some (.inr (9 + r)), some (.inl (G (4 + s) - G 2)), some (.inl (2 * G 2)), some (.inl (i : Int)), X, Y] [] g Q := by
  have v1 := hV.2.1
  have v2 := hV.2.2.1
  have v4 := hV.2.2.2.2.2 r hr hg
  have ed : ∀ (g : xF), (∀ c, c ≠ row → g c = f c) → ∀ j, j < 7 → g (9 + r) j = G (20 + 7 * r + j) := fun g hg2 j hj => by rw [hg2 _ (by omega)]; exact hS.rd hr hg hj
  intro n
  induction n with
  | zero =>
    intro i X Y g hi he hL
    have e2 := ed g he 2 (by omega)
    refine R_il fx_37_54 rfl ?_
    refine R_al fx_37_56 rfl (by omega) ?_
    refine R_gf fx_37_58 (kd_reed r hr) rfl ?_
    refine R_icgt fx_37_61 (by omega) (fun hc => ?_) (fun hc => by omega)
    refine R_retv fx_37_150 rfl (K g he (fun x hx => ((hL x hx).congr (NKD_congr (fun i2 j2 q1 q2 q3 => ?_))).eq (fun k hk => (NK_b hV hr hg hk).1)))
    exact ⟨fun _ => True.intro, fun _ => by omega⟩
  | succ n ih =>
    intro i X Y g hi he hL
    have e2 := ed g he 2 (by omega)
    have e0 : g (9 + r) 0 = G (20 + 7 * r) := ed g he 0 (by omega)
    have e5 : g 4 5 = G 1 := by rw [he 4 (by omega)]; exact hS.1.2.1
    refine R_il fx_37_54 rfl ?_
    refine R_al fx_37_56 rfl (by omega) ?_
    refine R_gf fx_37_58 (kd_reed r hr) rfl ?_
    refine R_icgt fx_37_61 (by omega) (fun hc => by omega) (fun hc => ?_)
    refine R_al fx_37_64 rfl (by omega) ?_
    refine R_gf fx_37_66 (kd_reed r hr) rfl ?_
    refine R_il fx_37_69 rfl ?_
    refine R_al fx_37_71 rfl (by omega) ?_
    refine R_gf fx_37_72 kd_4 rfl ?_
    refine R_mul fx_37_75 ?_
    refine R_add fx_37_76 ?_
    refine R_il fx_37_77 rfl ?_
    refine R_sub fx_37_79 ?_
    refine R_is fx_37_80 ?_
    refine R_push fx_37_82 ?_
    refine R_is fx_37_83 ?_
    rw [e0, e5]
    refine C_37_3 hV hS hr hg hs hrow hk hl (by omega) (fun g2 X2 Y2 he2 hL2 => ih (i + 1) X2 Y2 g2 (by omega) he2 hL2) (G (20 + 7 * r + 1)).toNat 0 _ g (by omega) ?_ he ?_
    · show _ = _ - 0
      omega
    · intro x hx
      refine (hL x hx).congr (NKD_congr (fun i2 j2 q1 q2 q3 => ?_))
      omega
theorem C_37 {r2 s2 : Int} {r s row : Nat} (er : r2 = r) (es : s2 = s) (hV : VG G) (hS : Sg f 4 G) (hr : r < 12) (hg : (r : Int) < G 0) (hs : s < 8) (hrow : 125 ≤ row) (hk : xkd (SHL L) row = 1) (hl : xln (SHL L) row = 101) (K : ∀ g : xF, (∀ c, c ≠ row → g c = f c) → (∀ x : Nat, (x : Int) ≤ 2 * G 2 → g row x = nr G r s x) → Q [] g) : Rf (SHL L) 37 0 (xloc 37 [.inr 4, .inl r2, .inl s2, .inr row]) [] f Q := by
  subst er es
  have v1 := hV.2.1
  have v2 := hV.2.2.1
  have v3 := hV.2.2.2.1 s hs
  have v4 := hV.2.2.2.2.2 r hr hg
  have loop : ∀ (n m : Nat) (g : xF), (m : Int) + n = 2 * G 2 + 1 → (∀ c, c ≠ row → g c = f c) → (∀ x : Nat, x < m → g row x = 268435456) → Rf (SHL L) 37 32 [some (.inr 4), some (.inl (r : Int)), some (.inl (s : Int)), some (.inr row), some (.inr (9 + r)), some (.inl (G (4 + s) - G 2)), some (.inl (2 * G 2)), some (.inl (m : Int)), none, none] [] g Q := by
    intro n
    induction n with
    | zero =>
      intro m g hm he hL
      refine R_il fx_37_32 rfl ?_
      refine R_il fx_37_34 rfl ?_
      refine R_icgt fx_37_36 (by omega) (fun hc => ?_) (fun hc => by omega)
      refine R_push fx_37_51 ?_
      refine R_is fx_37_52 ?_
      refine C_37_2 hV hS hr hg hs hrow hk hl K (G (20 + 7 * r + 2) + 1).toNat 0 none none g (by omega) he (fun x hx => ?_)
      rw [hL x (by omega)]
      exact Or.inl ⟨rfl, fun k ⟨i, j, h1, _⟩ => absurd h1 (Nat.not_lt_zero _)⟩
    | succ n ih =>
      intro m g hm he hL
      refine R_il fx_37_32 rfl ?_
      refine R_il fx_37_34 rfl ?_
      refine R_icgt fx_37_36 (by omega) (fun hc => by omega) (fun hc => ?_)
      refine R_al fx_37_39 rfl (by omega) ?_
      refine R_il fx_37_40 rfl ?_
      refine R_push fx_37_42 ?_
      refine R_ias fx_37_44 hk (by omega) (by rw [hl]; omega) (by omega) ?_
      refine R_inc fx_37_45 rfl ?_
      refine R_goto fx_37_48 ?_
      rw [Int.toNat_natCast]
      refine ih (m + 1) _ (by omega) (fun c hc => ?_) (fun x h9 => ?_)
      · funext i; rw [xup_a hc]; exact congrFun (he c hc) i
      · by_cases e : x = m
        · subst e; rw [xup_s]
        · rw [xup_i e]; exact hL x (by omega)
  have e6 : f 6 s = G (4 + s) := hS.2.1 s hs
  have e46 : f 4 6 = G 2 := hS.1.2.2.1
  refine R_al fx_37_0 rfl (by omega) ?_
  refine R_gr fx_37_1 kd_4 rfl rr_4_0 ?_
  refine R_il fx_37_4 rfl ?_
  refine R_aa (q := 9 + r) fx_37_5 (Or.inl kd_5) (by omega) (by rw [ln_5]; omega) (by omega) (by rw [Int.toNat_natCast]; exact rr_reed r hr) ?_
  refine R_as fx_37_6 (by omega) ?_
  refine R_al fx_37_8 rfl (by omega) ?_
  refine R_gr fx_37_9 kd_4 rfl rr_4_1 ?_
  refine R_il fx_37_12 rfl ?_
  refine R_ia fx_37_13 (Or.inl kd_6) (by omega) (by rw [ln_6]; omega) (by omega) ?_
  refine R_al fx_37_14 rfl (by omega) ?_
  refine R_gf fx_37_15 kd_4 rfl ?_
  refine R_sub fx_37_18 ?_
  refine R_is fx_37_19 ?_
  refine R_push fx_37_21 ?_
  refine R_al fx_37_22 rfl (by omega) ?_
  refine R_gf fx_37_23 kd_4 rfl ?_
  refine R_mul fx_37_26 ?_
  refine R_is fx_37_27 ?_
  refine R_push fx_37_29 ?_
  refine R_is fx_37_30 ?_
  rw [Int.toNat_natCast, e6, e46]
  exact loop (2 * G 2 + 1).toNat 0 f (by omega) (fun _ _ => rfl) (fun x h9 => absurd h9 (by omega))
theorem C_36 {r2 s2 : Int} {r s : Nat} (er : r2 = r) (es : s2 = s) (hV : VG G) (hS : Sg f 4 G) (hr : r < 12) (hg : (r : Int) < G 0) (hs : s < 8) (K : ∀ g : xF, (∀ c, c ≠ 139 → g c = f c) → Q [.inl (wk G r s)] g) : Rf (SHL L) 36 0 (xloc 36 [.inr 125, .inr 4, .inl r2, .inl s2]) [] f Q := by
  subst er es
  have v2 := hV.2.2.1
  have loop : ∀ (g : xF), (∀ c, c ≠ 139 → g c = f c) → (∀ x : Nat, (x : Int) ≤ 2 * G 2 → g 139 x = nr G r s x) → ∀ (n m : Nat) (v : Int), (m : Int) + n = 2 * G 2 + 1 → Lst (fun k => ∃ x : Nat, x < m ∧ NK G r s x k) 268435456 v → Rf (SHL L) 36 17 [some (.inr 125), some (.inr 4), some (.inl (r : Int)), some (.inl (s : Int)), some (.inl v), some (.inl (m : Int))] [] g Q := by
    intro g he hN n
    have e6 : g 4 6 = G 2 := by rw [he 4 (by omega)]; exact hS.1.2.2.1
    have hB : ∀ (m : Nat) (k : Int), (∃ x : Nat, x < m ∧ NK G r s x k) → k < 268435456 := fun m k h => by obtain ⟨x, _, hx⟩ := h; have := NK_b hV hr hg hx; omega
    have hO : ∀ (m : Nat) (v : Int), Lst (fun k => ∃ x : Nat, x < m ∧ NK G r s x k) 268435456 v → xok v := fun m v h => by
      rcases h.far_or with z | ⟨x, _, hx⟩
      · omega
      · have := NK_b hV hr hg hx; omega
    induction n with
    | zero =>
      intro m v hm hL
      refine R_il fx_36_17 rfl ?_
      refine R_push fx_36_19 ?_
      refine R_al fx_36_20 rfl (by omega) ?_
      refine R_gf fx_36_21 kd_4 rfl ?_
      refine R_mul fx_36_24 ?_
      refine R_icgt fx_36_25 (by omega) (fun hc => ?_) (fun hc => by omega)
      refine R_il fx_36_48 rfl ?_
      rw [show v = wk G r s from (hL.congr (fun k => ⟨fun ⟨x, h1, h2⟩ => ⟨x, by omega, h2⟩, fun ⟨x, h1, h2⟩ => ⟨x, by omega, h2⟩⟩)).uniq (wk_is hV hr hg)]
      exact R_ret fx_36_50 (Or.inl rfl) (K g he)
    | succ n ih =>
      intro m v hm hL
      have hv := hO _ _ hL
      have hb := nr_b (s := s) (x := m) hV hr hg
      have hn := hN m (by omega)
      refine R_il fx_36_17 rfl ?_
      refine R_push fx_36_19 ?_
      refine R_al fx_36_20 rfl (by omega) ?_
      refine R_gf fx_36_21 kd_4 rfl ?_
      refine R_mul fx_36_24 ?_
      refine R_icgt fx_36_25 (by omega) (fun hc => by omega) (fun hc => ?_)
      refine R_il fx_36_28 rfl ?_
      refine R_al fx_36_30 rfl (by omega) ?_
      refine R_gr fx_36_31 kd_125 rfl rr_125_1 ?_
      refine R_il fx_36_34 rfl ?_
      refine R_ia fx_36_36 (Or.inl kd_139) (by omega) (by rw [ln_139]; omega) (by omega) ?_
      refine R_min fx_36_37 (by omega) (by rw [Int.toNat_natCast]; omega) ⟨by decide, by decide, Nat.le_of_ble_eq_true rfl⟩ ?_
      refine R_is fx_36_40 ?_
      refine R_inc fx_36_42 rfl ?_
      refine R_goto fx_36_45 ?_
      rw [Int.toNat_natCast, hn]
      refine ih (m + 1) _ (by omega) (hL.join (nr_is hV hr hg) (hB m) (fun k hk => by have := NK_b hV hr hg hk; omega) (fun k => ⟨fun ⟨x, h1, h2⟩ => ?_, fun h => ?_⟩))
      · by_cases e : x = m
        · subst e; exact Or.inr h2
        · exact Or.inl ⟨x, by omega, h2⟩
      · rcases h with ⟨x, h1, h2⟩ | h
        · exact ⟨x, by omega, h2⟩
        · exact ⟨m, by omega, h⟩
  refine R_al fx_36_0 rfl (by omega) ?_
  refine R_il fx_36_1 rfl ?_
  refine R_il fx_36_2 rfl ?_
  refine R_al fx_36_3 rfl (by omega) ?_
  refine R_gr fx_36_4 kd_125 rfl rr_125_1 ?_
  refine R_cs fx_36_7 rfl rfl rfl rfl ?_
  refine C_37 rfl rfl hV hS hr hg hs (by omega) kd_139 ln_139 (fun g he hN => ?_)
  refine R_push fx_36_10 ?_
  refine R_is fx_36_12 ?_
  refine R_push fx_36_14 ?_
  refine R_is fx_36_15 ?_
  exact loop g he hN (2 * G 2 + 1).toNat 0 _ (by omega) (Or.inl ⟨rfl, fun k ⟨x, h1, _⟩ => by omega⟩)
end FN
