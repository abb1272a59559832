/-! ===== the model: works, pairWorks ===== -/
def RV (G : Nat → Int) (r s m : Nat) (v : Int) : Prop := ∃ k : Nat, k < m ∧ rowv G r s k = v ∧ v ≠ 268435456
/-- what works leaves -/
def WF (g f : xF) : Prop := (∀ c, c ≠ 149 → c ≠ 155 → c ≠ 156 → g c = f c) ∧ (∀ i, (i < 10 ∨ 15 < i) → g 149 i = f 149 i) ∧ MT g
section WQ
variable {G : Nat → Int} {r s : Nat} {v : Int}
theorem rowv_b (hV : VG G) (hr : r < 12) (hg : (r : Int) < G 0) (k : Nat) : rowv G r s k = 268435456 ∨ (0 ≤ rowv G r s k ∧ rowv G r s k ≤ 1268 ∧ rowv G r s k % 32 ≤ 20 ∧ 0 ≤ rowv G r s k / 32 - rowv G r s k % 32) := by
  have := hV.2.2.2.2.2 r hr hg
  unfold rowv
  split
  · rcases nr_b (s := s) (x := (k : Int) - 50 + G 2) hV hr hg with h | h
    · exact Or.inl h
    · exact Or.inr ⟨h.1, h.2.1, by omega, h.2.2.2.1⟩
  · exact Or.inl rfl
theorem rowv_nr (hV : VG G) (x : Nat) (hx : (x : Int) ≤ 2 * G 2) : rowv G r s ((x : Int) + 50 - G 2).toNat = nr G r s x ∧ ((x : Int) + 50 - G 2).toNat < 101 ∧ (((((x : Int) + 50 - G 2).toNat : Nat) : Int) = (x : Int) + 50 - G 2) := by
  have v2 := hV.2.2.1
  have e : ((((x : Int) + 50 - G 2).toNat : Nat) : Int) = (x : Int) + 50 - G 2 := by omega
  refine ⟨?_, by omega, e⟩
  unfold rowv
  rw [e, if_pos (by omega), show (x : Int) + 50 - G 2 - 50 + G 2 = x by omega]
theorem rowv_x {k : Nat} (hV : VG G) (h : rowv G r s k ≠ 268435456) : ∃ x : Nat, (x : Int) ≤ 2 * G 2 ∧ (x : Int) = (k : Int) - 50 + G 2 ∧ rowv G r s k = nr G r s x := by
  have v2 := hV.2.2.1
  unfold rowv at h ⊢
  split at h
  · rename_i hk
    refine ⟨((k : Int) - 50 + G 2).toNat, by omega, by omega, ?_⟩
    rw [if_pos hk, Int.toNat_of_nonneg (by omega)]
  · exact absurd rfl h
theorem wk_of (hV : VG G) (hr : r < 12) (hg : (r : Int) < G 0) (h : Lst (RV G r s 101) 268435456 v) : v = wk G r s := by
  refine Lst.uniq (P := WK G r s) ?_ (wk_is hV hr hg)
  rcases h with ⟨h1, h2⟩ | ⟨⟨k, hk, h1, h0⟩, h2⟩
  · refine Or.inl ⟨h1, ?_⟩
    rintro k ⟨x, hx, hn⟩
    obtain ⟨a1, a2, _⟩ := rowv_nr (r := r) (s := s) hV x hx
    rcases nr_is (s := s) (x := x) hV hr hg with ⟨b1, b2⟩ | ⟨b1, b2⟩
    · exact b2 _ hn
    · exact h2 _ ⟨_, a2, a1, by have := NK_b hV hr hg b1; omega⟩
  · obtain ⟨x, x1, x2, x3⟩ := rowv_x (r := r) (s := s) (k := k) hV (by rw [h1]; exact h0)
    refine Or.inr ⟨⟨x, x1, ?_⟩, ?_⟩
    · rcases nr_is (s := s) (x := x) hV hr hg with ⟨b1, b2⟩ | ⟨b1, b2⟩
      · omega
      · rw [← h1, x3]; exact b1
    · rintro k2 ⟨y, hy, hn⟩
      obtain ⟨a1, a2, _⟩ := rowv_nr (r := r) (s := s) hV y hy
      rcases nr_is (s := s) (x := y) hV hr hg with ⟨b1, b2⟩ | ⟨b1, b2⟩
      · exact absurd hn (b2 _)
      · have := h2 _ ⟨_, a2, a1, by have := NK_b hV hr hg b1; omega⟩
        have := b2 _ hn
        omega
theorem RV_step {m : Nat} (hV : VG G) (hr : r < 12) (hg : (r : Int) < G 0) (h : Lst (RV G r s m) 268435456 v) : Lst (RV G r s (m + 1)) 268435456 (if rowv G r s m < v then rowv G r s m else v) := by
  have hb := rowv_b (s := s) hV hr hg
  refine h.join (Q := fun v => rowv G r s m = v ∧ v ≠ 268435456) ?_ (fun k ⟨x, _, h1, h2⟩ => by have := hb x; omega) (fun k ⟨h1, h2⟩ => by have := hb m; omega) (fun k => ⟨fun ⟨x, h1, h2, h3⟩ => ?_, fun h => ?_⟩)
  · by_cases e : rowv G r s m = 268435456
    · exact Or.inl ⟨e, fun k hk => hk.2 (by rw [← hk.1]; exact e)⟩
    · exact Or.inr ⟨⟨rfl, e⟩, fun k hk => by rw [hk.1]; exact Int.le_refl _⟩
  · by_cases e : x = m
    · subst e; exact Or.inr ⟨h2, h3⟩
    · exact Or.inl ⟨x, by omega, h2, h3⟩
  · rcases h with ⟨x, h1, h2, h3⟩ | ⟨h2, h3⟩
    · exact ⟨x, by omega, h2, h3⟩
    · exact ⟨m, by omega, h2, h3⟩
end WQ
section WP
variable {L : Nat} {f : xF} {Q : List xV → xF → Prop} {G : Nat → Int}
theorem C_113 {r2 s2 : Int} {r s : Nat} (er : r2 = r) (es : s2 = s) (hV : VG G) (hM : Mg f G) (hT : MT f) (hr : r < 12) (hg : (r : Int) < G 0) (hs : s < 8) (K1 : wk G r s ≠ 268435456 → ∀ g : xF, WF g f → g 149 10 = wk G r s / 32 → g 149 11 = wk G r s % 32 → Q [.inl 1] g) (K0 : wk G r s = 268435456 → ∀ g : xF, WF g f → Q [.inl 0] g) : Rf (SHL L) 113 0 (xloc 113 [.inr 149, .inl r2, .inl s2]) [] f Q := by
  subst er es
  have hb := rowv_b (s := s) hV hr hg
  have loop : ∀ (n m : Nat) (g : xF) (v : Int), m + n = 101 → WF g f → (∀ k : Nat, k < 101 → MV (g 155 k) (g 156 k) (rowv G r s k)) → MV (g 149 10) (g 149 11) v → Lst (RV G r s m) 268435456 v → Rf (SHL L) 113 15 [some (.inr 149), some (.inl (r : Int)), some (.inl (s : Int)), some (.inl (m : Int))] [] g Q := by
    intro n
    induction n with
    | zero =>
      intro m g v hm hF hR hv hL
      have hm' : m = 101 := by omega
      subst hm'
      have e := wk_of hV hr hg hL
      have hw := wk_b (s := s) hV hr hg
      have hv2 := hv
      unfold MV at hv2
      refine R_il fx_113_15 rfl ?_
      refine R_push fx_113_16 ?_
      refine R_icge fx_113_18 (by omega) (fun hc => ?_) (fun hc => by omega)
      refine R_al fx_113_89 rfl (by omega) ?_
      refine R_gf fx_113_90 kd_149 rfl ?_
      refine R_push fx_113_93 ?_
      refine R_icge fx_113_95 (by rcases hv2 with h | h <;> omega) (fun hc => ?_) (fun hc => ?_)
      · refine R_push fx_113_102 ?_
        refine R_ret fx_113_103 (by decide) ?_
        first | exact K1 (by omega) g hF (by rcases hv2 with h | h <;> omega) (by rcases hv2 with h | h <;> omega) | exact K0 (by rcases hv2 with h | h <;> omega) g hF
      · refine R_push fx_113_98 ?_
        refine R_goto fx_113_99 ?_
        refine R_ret fx_113_103 (by decide) ?_
        first | exact K1 (by omega) g hF (by rcases hv2 with h | h <;> omega) (by rcases hv2 with h | h <;> omega) | exact K0 (by rcases hv2 with h | h <;> omega) g hF
    | succ n ih =>
      intro m g v hm hF hR hv hL
      have h1 := hR m (by omega)
      have hbm := hb m
      have hst := RV_step hV hr hg hL
      have ht := hF.2.2.1 m (by omega)
      have hwt := hF.2.2.2
      have h1' := h1
      have hv' := hv
      unfold MV at h1' hv'
      have hO : (0 ≤ g 155 m ∧ g 155 m ≤ 1000000) ∧ 0 ≤ g 149 10 ∧ g 149 10 ≤ 1000000 := by rcases h1' with h | h <;> rcases hv' with h9 | h9 <;> omega
      have no : (g 149 10 < g 155 m ∨ (g 155 m = g 149 10 ∧ g 149 11 ≤ g 156 m)) → Lst (RV G r s (m + 1)) 268435456 v := fun h => by
        rw [if_neg (by rcases h1' with h2 | h2 <;> rcases hv' with h9 | h9 <;> omega)] at hst
        exact hst
      refine R_il fx_113_15 rfl ?_
      refine R_push fx_113_16 ?_
      refine R_icge fx_113_18 (by omega) (fun hc => by omega) (fun hc => ?_)
      refine R_al fx_113_21 rfl (by omega) ?_
      refine R_gr fx_113_22 kd_149 rfl rr_149_8 ?_
      refine R_il fx_113_25 rfl ?_
      refine R_ia fx_113_26 (Or.inl kd_155) (by omega) (by rw [ln_155]; omega) (by omega) ?_
      refine R_al fx_113_27 rfl (by omega) ?_
      refine R_gf fx_113_28 kd_149 rfl ?_
      refine R_icgt fx_113_31 (by rw [Int.toNat_natCast]; omega) (fun hc1 => ?_) (fun hc1 => ?_)
      · refine R_inc fx_113_83 rfl ?_
        refine R_goto fx_113_86 ?_
        exact ih (m + 1) g v (by omega) hF hR hv (no (by (try rw [Int.toNat_natCast] at hc1); (try rw [Int.toNat_natCast] at hc2); (try rw [Int.toNat_natCast] at hc3); omega))
      · refine R_al fx_113_34 rfl (by omega) ?_
        refine R_gr fx_113_35 kd_149 rfl rr_149_8 ?_
        refine R_il fx_113_38 rfl ?_
        refine R_ia fx_113_39 (Or.inl kd_155) (by omega) (by rw [ln_155]; omega) (by omega) ?_
        refine R_al fx_113_40 rfl (by omega) ?_
        refine R_gf fx_113_41 kd_149 rfl ?_
        refine R_icne fx_113_44 (by rw [Int.toNat_natCast]; omega) (fun hc2 => ?_) (fun hc2 => ?_)
        · refine R_al fx_113_63 rfl (by omega) ?_
          refine R_al fx_113_64 rfl (by omega) ?_
          refine R_gr fx_113_65 kd_149 rfl rr_149_8 ?_
          refine R_il fx_113_68 rfl ?_
          refine R_ia fx_113_69 (Or.inl kd_155) (by omega) (by rw [ln_155]; omega) (by omega) ?_
          refine R_pf fx_113_70 kd_149 rfl (fun h => absurd h (by decide)) ?_
          refine R_al fx_113_73 rfl (by omega) ?_
          refine R_al fx_113_74 rfl (by omega) ?_
          refine R_gr fx_113_75 kd_149 rfl rr_149_9 ?_
          refine R_il fx_113_78 rfl ?_
          refine R_ia fx_113_79 (Or.inl kd_156) (by omega) (by rw [ln_156]; omega) (by omega) ?_
          refine R_pf fx_113_80 kd_149 rfl (fun h => absurd h (by decide)) ?_
          refine R_inc fx_113_83 rfl ?_
          refine R_goto fx_113_86 ?_
          (try rw [Int.toNat_natCast] at hc1)
          (try rw [Int.toNat_natCast] at hc2)
          (try rw [Int.toNat_natCast] at hc3)
          rw [Int.toNat_natCast, show xup g 149 10 (g 155 m) 156 m = g 156 m from xup_a (by omega)]
          have hnew : (if rowv G r s m < v then rowv G r s m else v) = rowv G r s m := by rcases h1' with h2 | h2 <;> rcases hv' with h9 | h9 <;> split <;> omega
          rw [hnew] at hst
          refine ih (m + 1) _ (rowv G r s m) (by omega) ⟨fun c c1 c2 c3 => ?_, fun i hi => ?_, fun j hj => ?_, ?_⟩ (fun k hk => ?_) ?_ hst
          · funext y; rw [xup_a c1, xup_a c1]; exact congrFun (hF.1 c c1 c2 c3) y
          · rw [xup_i (by omega), xup_i (by omega)]; exact hF.2.1 i hi
          · rw [xup_a (by omega), xup_a (by omega)]; exact hF.2.2.1 j hj
          · rw [xup_s]; exact ht
          · rw [xup_a (by omega), xup_a (by omega), xup_a (by omega), xup_a (by omega)]; exact hR k hk
          · rw [xup_i (by omega), xup_s, xup_s]; exact h1
        · refine R_al fx_113_47 rfl (by omega) ?_
          refine R_gr fx_113_48 kd_149 rfl rr_149_9 ?_
          refine R_il fx_113_51 rfl ?_
          refine R_ia fx_113_52 (Or.inl kd_156) (by omega) (by rw [ln_156]; omega) (by omega) ?_
          refine R_al fx_113_53 rfl (by omega) ?_
          refine R_gf fx_113_54 kd_149 rfl ?_
          refine R_iclt fx_113_57 (by rw [Int.toNat_natCast]; omega) (fun hc3 => ?_) (fun hc3 => ?_)
          · refine R_al fx_113_63 rfl (by omega) ?_
            refine R_al fx_113_64 rfl (by omega) ?_
            refine R_gr fx_113_65 kd_149 rfl rr_149_8 ?_
            refine R_il fx_113_68 rfl ?_
            refine R_ia fx_113_69 (Or.inl kd_155) (by omega) (by rw [ln_155]; omega) (by omega) ?_
            refine R_pf fx_113_70 kd_149 rfl (fun h => absurd h (by decide)) ?_
            refine R_al fx_113_73 rfl (by omega) ?_
            refine R_al fx_113_74 rfl (by omega) ?_
            refine R_gr fx_113_75 kd_149 rfl rr_149_9 ?_
            refine R_il fx_113_78 rfl ?_
            refine R_ia fx_113_79 (Or.inl kd_156) (by omega) (by rw [ln_156]; omega) (by omega) ?_
            refine R_pf fx_113_80 kd_149 rfl (fun h => absurd h (by decide)) ?_
            refine R_inc fx_113_83 rfl ?_
            refine R_goto fx_113_86 ?_
            (try rw [Int.toNat_natCast] at hc1)
            (try rw [Int.toNat_natCast] at hc2)
            (try rw [Int.toNat_natCast] at hc3)
            rw [Int.toNat_natCast, show xup g 149 10 (g 155 m) 156 m = g 156 m from xup_a (by omega)]
            have hnew : (if rowv G r s m < v then rowv G r s m else v) = rowv G r s m := by rcases h1' with h2 | h2 <;> rcases hv' with h9 | h9 <;> split <;> omega
            rw [hnew] at hst
            refine ih (m + 1) _ (rowv G r s m) (by omega) ⟨fun c c1 c2 c3 => ?_, fun i hi => ?_, fun j hj => ?_, ?_⟩ (fun k hk => ?_) ?_ hst
            · funext y; rw [xup_a c1, xup_a c1]; exact congrFun (hF.1 c c1 c2 c3) y
            · rw [xup_i (by omega), xup_i (by omega)]; exact hF.2.1 i hi
            · rw [xup_a (by omega), xup_a (by omega)]; exact hF.2.2.1 j hj
            · rw [xup_s]; exact ht
            · rw [xup_a (by omega), xup_a (by omega), xup_a (by omega), xup_a (by omega)]; exact hR k hk
            · rw [xup_i (by omega), xup_s, xup_s]; exact h1
          · refine R_goto fx_113_60 ?_
            refine R_inc fx_113_83 rfl ?_
            refine R_goto fx_113_86 ?_
            exact ih (m + 1) g v (by omega) hF hR hv (no (by (try rw [Int.toNat_natCast] at hc1); (try rw [Int.toNat_natCast] at hc2); (try rw [Int.toNat_natCast] at hc3); omega))
  refine R_al fx_113_0 rfl (by omega) ?_
  refine R_push fx_113_1 ?_
  refine R_il fx_113_2 rfl ?_
  refine R_il fx_113_3 rfl ?_
  refine R_cv fx_113_4 rfl rfl rfl rfl kd_149 ?_
  refine C_114 (p := 0) hV hM hr hg hs (by omega) rfl rfl rfl hT.1 (fun g hF hR => ?_)
  refine R_al fx_113_7 rfl (by omega) ?_
  refine R_push fx_113_8 ?_
  refine R_pf fx_113_10 kd_149 rfl (fun h => absurd h (by decide)) ?_
  refine R_push fx_113_13 ?_
  refine R_is fx_113_14 ?_
  refine loop 101 0 _ 268435456 (by omega) ⟨fun c c1 c2 c3 => ?_, fun i hi => ?_, fun j hj => ?_, ?_⟩ (fun k hk => ?_) (Or.inl ⟨rfl, by rw [xup_s]⟩) (Or.inl ⟨rfl, fun v ⟨k, hk, _⟩ => absurd hk (by omega)⟩)
  · funext y; rw [xup_a c1]; exact congrFun (hF.1 c c2 c3) y
  · rw [xup_i (by omega), hF.1 149 (by omega) (by omega)]
  · rw [xup_a (by omega)]; exact hF.2.1 j hj
  · rw [xup_i (by omega), hF.1 149 (by omega) (by omega)]; exact hT.2
  · have := hR k hk; rw [xup_a (by omega), xup_a (by omega)]; simpa using this
end WP
