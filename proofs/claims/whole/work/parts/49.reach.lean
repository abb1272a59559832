/-! ===== the model: reach, works ===== -/
theorem Mg.kept {f f2 : xF} {G : Nat → Int} (h : Mg f G) (h1 : f2 149 4 = f 149 4) (h2 : f2 150 = f 150) : Mg f2 G := ⟨h1.trans h.1, fun i hi => by rw [h2]; exact h.2 i hi⟩
def MT (f : xF) : Prop := (∀ j, j < 202 → 0 ≤ f 156 j ∧ f 156 j ≤ 20) ∧ 0 ≤ f 149 11 ∧ f 149 11 ≤ 20
def MV (st tp v : Int) : Prop := (v = 268435456 ∧ st = 1000000) ∨ ((0 ≤ v ∧ v ≤ 1268 ∧ v % 32 ≤ 20) ∧ st = v / 32 ∧ tp = v % 32)
noncomputable def rowv (G : Nat → Int) (r s : Nat) (k : Nat) : Int := if 50 - G 2 ≤ k ∧ (k : Int) ≤ 50 + G 2 then nr G r s ((k : Int) - 50 + G 2) else 268435456
/-- the state of a row of the model while it is made -/
def RW (g : xF) (G : Nat → Int) (r s p : Nat) (D : Nat → Nat → Prop) : Prop := ∀ k : Nat, k < 101 → (¬ (50 - G 2 ≤ k ∧ (k : Int) ≤ 50 + G 2) → g 155 (101 * p + k) = 1000000) ∧ (50 - G 2 ≤ k ∧ (k : Int) ≤ 50 + G 2 → ∃ v, Lst (NKD (G (20 + 7 * r)) (G (20 + 7 * r + 1)) (G (20 + 7 * r + 2)) (G 1) (G (4 + s) - G 2) D ((k : Int) - 50 + G 2)) 268435456 v ∧ MV (g 155 (101 * p + k)) (g 156 (101 * p + k)) v)
def FR2 (g f : xF) (p : Nat) : Prop := (∀ c, c ≠ 155 → c ≠ 156 → g c = f c) ∧ (∀ j, j < 202 → 0 ≤ g 156 j ∧ g 156 j ≤ 20) ∧ ∀ j, (j < 101 * p ∨ 101 * p + 101 ≤ j) → g 155 j = f 155 j ∧ g 156 j = f 156 j
section RC
variable {L : Nat} {f : xF} {Q : List xV → xF → Prop} {G : Nat → Int}
theorem C_114_3 {r s p : Nat} (hV : VG G) (hM : Mg f G) (hr : r < 12) (hg : (r : Int) < G 0) (hs : s < 8) (hp : p ≤ 1) {i : Nat} (hi : (i : Int) ≤ G (20 + 7 * r + 2)) (K : ∀ (g : xF) (X Y Z : Option xV), FR2 g f p → RW g G r s p (fun i' j' => i' < i + 1) → Rf (SHL L) 114 33 [some (.inr 149), some (.inl (p : Int)), some (.inl (r : Int)), some (.inl (s : Int)), some (.inl ((i + 1 : Nat) : Int)), X, Y, Z] [] g Q) : ∀ (n j : Nat) (X Y : Option xV) (g : xF), (j : Int) + n = G (20 + 7 * r + 1) → FR2 g f p → RW g G r s p (fun i' j' => i' < i ∨ (i' = i ∧ j' < j)) → Rf (SHL L) 114 47 [some (.inr 149), some (.inl (p : Int)), some (.inl (r : Int)), some (.inl (s : Int)), some (.inl (i : Int)), some (.inl (j : Int)), X, Y] [] g Q := by
  have v1 := hV.2.1
  have v2 := hV.2.2.1
  have v3 := hV.2.2.2.1 s hs
  have v4 := hV.2.2.2.2.2 r hr hg
  have hz : 0 ≤ (i : Int) * G 1 ∧ (i : Int) * G 1 ≤ 20 * 20 := ⟨Int.mul_nonneg (by omega) (by omega), Int.mul_le_mul (by omega) (by omega) (by omega) (by omega)⟩
  intro n
  induction n with
  | zero =>
    intro j X Y g hj hF hW
    have hMg : Mg g G := hM.kept (by rw [hF.1 149 (by omega) (by omega)]) (hF.1 150 (by omega) (by omega))
    refine R_il fx_114_47 rfl ?_
    refine R_al fx_114_49 rfl (by omega) ?_
    refine R_il fx_114_50 rfl ?_
    refine R_push fx_114_51 ?_
    refine R_cv fx_114_52 rfl rfl rfl rfl kd_149 ?_
    refine C_99 (by omega) (by omega) hMg (by omega) ?_
    show Rf (SHL L) 114 55 _ (.inl (G (20 + 7 * r + 1)) :: _) g Q
    refine R_icge fx_114_55 (by omega) (fun hc => ?_) (fun hc => by omega)
    refine R_inc fx_114_188 rfl ?_
    refine R_goto fx_114_191 ?_
    refine K g _ _ _ hF (fun k hk => ⟨(hW k hk).1, fun h => ?_⟩)
    obtain ⟨v, q1, q2⟩ := (hW k hk).2 h
    exact ⟨v, q1.congr (NKD_congr (fun i2 j2 _ _ _ => by omega)), q2⟩
  | succ n ih =>
    intro j X Y g hj hF hW
    have hMg : Mg g G := hM.kept (by rw [hF.1 149 (by omega) (by omega)]) (hF.1 150 (by omega) (by omega))
    have hd := dr_b (t := G (20 + 7 * r + 1)) j (by omega) (by omega)
    have e2 : g 150 2 = G 2 := hMg.2 2 (by omega)
    have es : g 150 (4 + s) = G (4 + s) := hMg.2 (4 + s) (by omega)
    obtain ⟨d, ed⟩ : ∃ d, d = G (20 + 7 * r) + i * G 1 - dr (G (20 + 7 * r + 1)) j - G (4 + s) := ⟨_, rfl⟩
    have skip : ∀ v9 : Unit, (¬ (-(G 2) ≤ d ∧ d ≤ G 2) ∨ ∀ v, Lst (NKD (G (20 + 7 * r)) (G (20 + 7 * r + 1)) (G (20 + 7 * r + 2)) (G 1) (G (4 + s) - G 2) (fun i' j' => i' < i ∨ (i' = i ∧ j' < j)) (d + G 2)) 268435456 v → MV (g 155 (101 * p + (d + 50).toNat)) (g 156 (101 * p + (d + 50).toNat)) v → v ≤ ((i : Int) + j) * 32 + i) → RW g G r s p (fun i' j' => i' < i ∨ (i' = i ∧ j' < j + 1)) := fun _ hsk k hk => ⟨(hW k hk).1, fun h => by
      obtain ⟨v, q1, q2⟩ := (hW k hk).2 h
      by_cases e : (k : Int) - 50 = d
      · have hk2 : k = (d + 50).toNat := by omega
        rcases hsk with hsk | hsk
        · omega
        · have hle := hsk v (by rw [← e]; exact q1) (by rw [← hk2]; exact q2)
          have h9 := q1.add (x := ((i : Int) + j) * 32 + i) (by omega) (NKD_add (D' := fun i' j' => i' < i ∨ (i' = i ∧ j' < j + 1)) hi (by omega) (by omega) (fun i2 j2 => by omega))
          rw [if_neg (by omega)] at h9
          exact ⟨v, h9, q2⟩
      · exact ⟨v, q1.congr (NKD_congr (fun i2 j2 b1 b2 b3 => by
          by_cases e2 : i2 = i ∧ j2 = j
          · obtain ⟨rfl, rfl⟩ := e2; omega
          · omega)), q2⟩⟩
    refine R_il fx_114_47 rfl ?_
    refine R_al fx_114_49 rfl (by omega) ?_
    refine R_il fx_114_50 rfl ?_
    refine R_push fx_114_51 ?_
    refine R_cv fx_114_52 rfl rfl rfl rfl kd_149 ?_
    refine C_99 (by omega) (by omega) hMg (by omega) ?_
    show Rf (SHL L) 114 55 _ (.inl (G (20 + 7 * r + 1)) :: _) g Q
    refine R_icge fx_114_55 (by omega) (fun hc => by omega) (fun hc => ?_)
    refine R_al fx_114_58 rfl (by omega) ?_
    refine R_il fx_114_59 rfl ?_
    refine R_il fx_114_60 rfl ?_
    refine R_il fx_114_62 rfl ?_
    refine R_cv fx_114_64 rfl rfl rfl rfl kd_149 ?_
    refine C_107 (by omega) (by omega) hMg ?_
    show Rf (SHL L) 114 67 _ (.inl (G (20 + 7 * r) + i * G 1 - dr (G (20 + 7 * r + 1)) j) :: _) g Q
    refine R_al fx_114_67 rfl (by omega) ?_
    refine R_gr fx_114_68 kd_149 rfl rr_149_1 ?_
    refine R_push fx_114_71 ?_
    refine R_il fx_114_72 rfl ?_
    refine R_add fx_114_73 ?_
    refine R_ia fx_114_74 (Or.inl kd_150) (by omega) (by rw [ln_150]; omega) (by omega) ?_
    refine R_sub fx_114_75 ?_
    rw [show ((4 : Int) + (s : Int)).toNat = 4 + s by omega, es, ← ed]
    refine R_is fx_114_76 ?_
    refine R_il fx_114_78 rfl ?_
    refine R_al fx_114_80 rfl (by omega) ?_
    refine R_gr fx_114_81 kd_149 rfl rr_149_1 ?_
    refine R_push fx_114_84 ?_
    refine R_ia fx_114_85 (Or.inl kd_150) (by omega) (by rw [ln_150]; omega) (by omega) ?_
    refine R_neg fx_114_86 ?_
    refine R_iclt fx_114_87 (by rw [show (2 : Int).toNat = 2 from rfl, e2]; omega) (fun hc1 => ?_) (fun hc1 => ?_)
    · refine R_inc fx_114_182 rfl ?_
      refine R_goto fx_114_185 ?_
      first | exact ih (j + 1) _ _ g (by omega) hF (skip () (Or.inl (by rw [show (2 : Int).toNat = 2 from rfl, e2] at hc1; omega))) | exact ih (j + 1) _ _ g (by omega) hF (skip () (Or.inl (by rw [show (2 : Int).toNat = 2 from rfl, e2] at hc2; omega))) | exact ih (j + 1) _ _ g (by omega) hF (skip () (Or.inr (fun v2 a1 a2 => by rw [← hL.uniq a1]; rcases hq with h | h <;> omega)))
    · refine R_il fx_114_90 rfl ?_
      refine R_al fx_114_92 rfl (by omega) ?_
      refine R_gr fx_114_93 kd_149 rfl rr_149_1 ?_
      refine R_push fx_114_96 ?_
      refine R_ia fx_114_97 (Or.inl kd_150) (by omega) (by rw [ln_150]; omega) (by omega) ?_
      refine R_icle fx_114_98 (by rw [show (2 : Int).toNat = 2 from rfl, e2]; omega) (fun hc2 => ?_) (fun hc2 => ?_)
      · have hin : -(G 2) ≤ d ∧ d ≤ G 2 := by rw [show (2 : Int).toNat = 2 from rfl, e2] at hc1 hc2; omega
        obtain ⟨v, hL, hq⟩ := (hW (d + 50).toNat (by omega)).2 (by omega)
        rw [show (((d + 50).toNat : Nat) : Int) - 50 + G 2 = d + G 2 by omega] at hL
        unfold MV at hq
        refine R_push fx_114_104 ?_
        refine R_il fx_114_106 rfl ?_
        refine R_mul fx_114_107 ?_
        refine R_il fx_114_108 rfl ?_
        refine R_add fx_114_110 ?_
        refine R_push fx_114_111 ?_
        refine R_add fx_114_113 ?_
        refine R_is fx_114_114 ?_
        refine R_il fx_114_116 rfl ?_
        refine R_il fx_114_118 rfl ?_
        refine R_add fx_114_120 ?_
        refine R_al fx_114_121 rfl (by omega) ?_
        refine R_gr fx_114_122 kd_149 rfl rr_149_8 ?_
        refine R_il fx_114_125 rfl ?_
        refine R_ia fx_114_127 (Or.inl kd_155) (by omega) (by rw [ln_155]; omega) (by omega) ?_
        rw [show (101 * (p : Int) + d + 50).toNat = 101 * p + (d + 50).toNat by omega]
        refine R_icgt fx_114_128 (by rcases hq with h | h <;> omega) (fun hc3 => ?_) (fun hc3 => ?_)
        · refine R_inc fx_114_182 rfl ?_
          refine R_goto fx_114_185 ?_
          first | exact ih (j + 1) _ _ g (by omega) hF (skip () (Or.inl (by rw [show (2 : Int).toNat = 2 from rfl, e2] at hc1; omega))) | exact ih (j + 1) _ _ g (by omega) hF (skip () (Or.inl (by rw [show (2 : Int).toNat = 2 from rfl, e2] at hc2; omega))) | exact ih (j + 1) _ _ g (by omega) hF (skip () (Or.inr (fun v2 a1 a2 => by rw [← hL.uniq a1]; rcases hq with h | h <;> omega)))
        · refine R_il fx_114_131 rfl ?_
          refine R_il fx_114_133 rfl ?_
          refine R_add fx_114_135 ?_
          refine R_al fx_114_136 rfl (by omega) ?_
          refine R_gr fx_114_137 kd_149 rfl rr_149_8 ?_
          refine R_il fx_114_140 rfl ?_
          refine R_ia fx_114_142 (Or.inl kd_155) (by omega) (by rw [ln_155]; omega) (by omega) ?_
          rw [show (101 * (p : Int) + d + 50).toNat = 101 * p + (d + 50).toNat by omega]
          refine R_icne fx_114_143 (by rcases hq with h | h <;> omega) (fun hc4 => ?_) (fun hc4 => ?_)
          · refine R_al fx_114_161 rfl (by omega) ?_
            refine R_gr fx_114_162 kd_149 rfl rr_149_8 ?_
            refine R_il fx_114_165 rfl ?_
            refine R_il fx_114_167 rfl ?_
            refine R_il fx_114_169 rfl ?_
            refine R_add fx_114_171 ?_
            refine R_ias fx_114_172 kd_155 (by omega) (by rw [ln_155]; omega) (by omega) ?_
            refine R_al fx_114_173 rfl (by omega) ?_
            refine R_gr fx_114_174 kd_149 rfl rr_149_9 ?_
            refine R_il fx_114_177 rfl ?_
            refine R_il fx_114_179 rfl ?_
            refine R_ias fx_114_181 kd_156 (by omega) (by rw [ln_156]; omega) (by omega) ?_
            refine R_inc fx_114_182 rfl ?_
            refine R_goto fx_114_185 ?_
            rw [show (101 * (p : Int) + d + 50).toNat = 101 * p + (d + 50).toNat by omega]
            have hlt : ((i : Int) + j) * 32 + i < v := by rcases hq with h | h <;> omega
            have hadd := hL.add (x := ((i : Int) + j) * 32 + i) (by omega) (NKD_add (D' := fun i' j' => i' < i ∨ (i' = i ∧ j' < j + 1)) hi (by omega) (by omega) (fun i2 j2 => by omega))
            rw [if_pos hlt] at hadd
            refine ih (j + 1) _ _ _ (by omega) ⟨fun c c1 c2 => ?_, fun y hy => ?_, fun y hy => ?_⟩ (fun k hk => ?_)
            · funext y; rw [xup_a c2, xup_a c1]; exact congrFun (hF.1 c c1 c2) y
            · by_cases e : y = 101 * p + (d + 50).toNat
              · subst e; rw [xup_s]; omega
              · rw [xup_i e, xup_a (by omega)]; exact hF.2.1 y hy
            · have := hF.2.2 y hy
              rw [xup_a (by omega), xup_i (by omega), xup_i (by omega), xup_a (by omega)]
              exact this
            · by_cases e : (k : Int) - 50 = d
              · have hk2 : k = (d + 50).toNat := by omega
                subst hk2
                refine ⟨fun h => absurd (by omega) h, fun h => ⟨((i : Int) + j) * 32 + i, ?_, ?_⟩⟩
                · rw [show (((d + 50).toNat : Nat) : Int) - 50 + G 2 = d + G 2 by omega]; exact hadd
                · rw [xup_a (by omega), xup_s, xup_s]
                  have e8 : (((i : Int) + j) * 32 + i) / 32 = (i : Int) + j := by rw [Int.add_comm, Int.add_mul_ediv_right _ _ (by omega), Int.ediv_eq_zero_of_lt (by omega) (by omega)]; omega
                  exact Or.inr (by omega)
              · have hne : 101 * p + k ≠ 101 * p + (d + 50).toNat := by omega
                refine ⟨fun h => ?_, fun h => ?_⟩
                · rw [xup_a (by omega), xup_i hne]; exact (hW k hk).1 h
                · obtain ⟨v2, q1, q2⟩ := (hW k hk).2 h
                  rw [xup_a (by omega), xup_i hne, xup_i hne, xup_a (by omega)]
                  exact ⟨v2, q1.congr (NKD_congr (fun i2 j2 b1 b2 b3 => by
                    by_cases e2 : i2 = i ∧ j2 = j
                    · obtain ⟨rfl, rfl⟩ := e2; omega
                    · omega)), q2⟩
          · refine R_il fx_114_146 rfl ?_
            refine R_al fx_114_148 rfl (by omega) ?_
            refine R_gr fx_114_149 kd_149 rfl rr_149_9 ?_
            refine R_il fx_114_152 rfl ?_
            refine R_ia fx_114_154 (Or.inl kd_156) (by omega) (by rw [ln_156]; omega) (by omega) ?_
            rw [show (101 * (p : Int) + d + 50).toNat = 101 * p + (d + 50).toNat by omega]
            refine R_iclt fx_114_155 (by rcases hq with h | h <;> omega) (fun hc5 => ?_) (fun hc5 => ?_)
            · refine R_al fx_114_161 rfl (by omega) ?_
              refine R_gr fx_114_162 kd_149 rfl rr_149_8 ?_
              refine R_il fx_114_165 rfl ?_
              refine R_il fx_114_167 rfl ?_
              refine R_il fx_114_169 rfl ?_
              refine R_add fx_114_171 ?_
              refine R_ias fx_114_172 kd_155 (by omega) (by rw [ln_155]; omega) (by omega) ?_
              refine R_al fx_114_173 rfl (by omega) ?_
              refine R_gr fx_114_174 kd_149 rfl rr_149_9 ?_
              refine R_il fx_114_177 rfl ?_
              refine R_il fx_114_179 rfl ?_
              refine R_ias fx_114_181 kd_156 (by omega) (by rw [ln_156]; omega) (by omega) ?_
              refine R_inc fx_114_182 rfl ?_
              refine R_goto fx_114_185 ?_
              rw [show (101 * (p : Int) + d + 50).toNat = 101 * p + (d + 50).toNat by omega]
              have hlt : ((i : Int) + j) * 32 + i < v := by rcases hq with h | h <;> omega
              have hadd := hL.add (x := ((i : Int) + j) * 32 + i) (by omega) (NKD_add (D' := fun i' j' => i' < i ∨ (i' = i ∧ j' < j + 1)) hi (by omega) (by omega) (fun i2 j2 => by omega))
              rw [if_pos hlt] at hadd
              refine ih (j + 1) _ _ _ (by omega) ⟨fun c c1 c2 => ?_, fun y hy => ?_, fun y hy => ?_⟩ (fun k hk => ?_)
              · funext y; rw [xup_a c2, xup_a c1]; exact congrFun (hF.1 c c1 c2) y
              · by_cases e : y = 101 * p + (d + 50).toNat
                · subst e; rw [xup_s]; omega
                · rw [xup_i e, xup_a (by omega)]; exact hF.2.1 y hy
              · have := hF.2.2 y hy
                rw [xup_a (by omega), xup_i (by omega), xup_i (by omega), xup_a (by omega)]
                exact this
              · by_cases e : (k : Int) - 50 = d
                · have hk2 : k = (d + 50).toNat := by omega
                  subst hk2
                  refine ⟨fun h => absurd (by omega) h, fun h => ⟨((i : Int) + j) * 32 + i, ?_, ?_⟩⟩
                  · rw [show (((d + 50).toNat : Nat) : Int) - 50 + G 2 = d + G 2 by omega]; exact hadd
                  · rw [xup_a (by omega), xup_s, xup_s]
                    have e8 : (((i : Int) + j) * 32 + i) / 32 = (i : Int) + j := by rw [Int.add_comm, Int.add_mul_ediv_right _ _ (by omega), Int.ediv_eq_zero_of_lt (by omega) (by omega)]; omega
                    exact Or.inr (by omega)
                · have hne : 101 * p + k ≠ 101 * p + (d + 50).toNat := by omega
                  refine ⟨fun h => ?_, fun h => ?_⟩
                  · rw [xup_a (by omega), xup_i hne]; exact (hW k hk).1 h
                  · obtain ⟨v2, q1, q2⟩ := (hW k hk).2 h
                    rw [xup_a (by omega), xup_i hne, xup_i hne, xup_a (by omega)]
                    exact ⟨v2, q1.congr (NKD_congr (fun i2 j2 b1 b2 b3 => by
                      by_cases e2 : i2 = i ∧ j2 = j
                      · obtain ⟨rfl, rfl⟩ := e2; omega
                      · omega)), q2⟩
            · refine R_goto fx_114_158 ?_
              refine R_inc fx_114_182 rfl ?_
              refine R_goto fx_114_185 ?_
              first | exact ih (j + 1) _ _ g (by omega) hF (skip () (Or.inl (by rw [show (2 : Int).toNat = 2 from rfl, e2] at hc1; omega))) | exact ih (j + 1) _ _ g (by omega) hF (skip () (Or.inl (by rw [show (2 : Int).toNat = 2 from rfl, e2] at hc2; omega))) | exact ih (j + 1) _ _ g (by omega) hF (skip () (Or.inr (fun v2 a1 a2 => by rw [← hL.uniq a1]; rcases hq with h | h <;> omega)))
      · refine R_goto fx_114_101 ?_
        refine R_inc fx_114_182 rfl ?_
        refine R_goto fx_114_185 ?_
        first | exact ih (j + 1) _ _ g (by omega) hF (skip () (Or.inl (by rw [show (2 : Int).toNat = 2 from rfl, e2] at hc1; omega))) | exact ih (j + 1) _ _ g (by omega) hF (skip () (Or.inl (by rw [show (2 : Int).toNat = 2 from rfl, e2] at hc2; omega))) | exact ih (j + 1) _ _ g (by omega) hF (skip () (Or.inr (fun v2 a1 a2 => by rw [← hL.uniq a1]; rcases hq with h | h <;> omega)))
theorem C_114_2 {r s p : Nat} (hV : VG G) (hM : Mg f G) (hr : r < 12) (hg : (r : Int) < G 0) (hs : s < 8) (hp : p ≤ 1) (K : ∀ g : xF, FR2 g f p → (∀ k : Nat, k < 101 → MV (g 155 (101 * p + k)) (g 156 (101 * p + k)) (rowv G r s k)) → Q [] g) : ∀ (n i : Nat) (X Y Z : Option xV) (g : xF), (i : Int) + n = G (20 + 7 * r + 2) + 1 → FR2 g f p → RW g G r s p (fun i' j' => i' < i) → Rf (SHL L) 114 33 [some (.inr 149), some (.inl (p : Int)), some (.inl (r : Int)), some (.inl (s : Int)), some (.inl (i : Int)), X, Y, Z] [] g Q := by
  have v1 := hV.2.1
  have v2 := hV.2.2.1
  have v3 := hV.2.2.2.1 s hs
  have v4 := hV.2.2.2.2.2 r hr hg
  intro n
  induction n with
  | zero =>
    intro i X Y Z g hi hF hW
    have hMg : Mg g G := hM.kept (by rw [hF.1 149 (by omega) (by omega)]) (hF.1 150 (by omega) (by omega))
    refine R_il fx_114_33 rfl ?_
    refine R_al fx_114_35 rfl (by omega) ?_
    refine R_il fx_114_36 rfl ?_
    refine R_push fx_114_37 ?_
    refine R_cv fx_114_38 rfl rfl rfl rfl kd_149 ?_
    refine C_99 (by omega) (by omega) hMg (by omega) ?_
    show Rf (SHL L) 114 41 _ (.inl (G (20 + 7 * r + 2)) :: _) g Q
    refine R_icgt fx_114_41 (by omega) (fun hc => ?_) (fun hc => by omega)
    refine R_retv fx_114_194 rfl (K g hF (fun k hk => ?_))
    unfold rowv
    split
    · rename_i h
      obtain ⟨v, q1, q2⟩ := (hW k hk).2 h
      have e := (q1.congr (NKD_congr (D' := fun _ _ => True) (fun i2 j2 b1 b2 b3 => ⟨fun _ => True.intro, fun _ => by omega⟩))).uniq (nr_is (s := s) hV hr hg)
      rw [← e]; exact q2
    · rename_i h; exact Or.inl ⟨rfl, (hW k hk).1 h⟩
  | succ n ih =>
    intro i X Y Z g hi hF hW
    have hMg : Mg g G := hM.kept (by rw [hF.1 149 (by omega) (by omega)]) (hF.1 150 (by omega) (by omega))
    refine R_il fx_114_33 rfl ?_
    refine R_al fx_114_35 rfl (by omega) ?_
    refine R_il fx_114_36 rfl ?_
    refine R_push fx_114_37 ?_
    refine R_cv fx_114_38 rfl rfl rfl rfl kd_149 ?_
    refine C_99 (by omega) (by omega) hMg (by omega) ?_
    show Rf (SHL L) 114 41 _ (.inl (G (20 + 7 * r + 2)) :: _) g Q
    refine R_icgt fx_114_41 (by omega) (fun hc => by omega) (fun hc => ?_)
    refine R_push fx_114_44 ?_
    refine R_is fx_114_45 ?_
    refine C_114_3 hV hM hr hg hs hp (by omega) (fun g2 X2 Y2 Z2 hF2 hW2 => ih (i + 1) X2 Y2 Z2 g2 (by omega) hF2 hW2) (G (20 + 7 * r + 1)).toNat 0 _ _ g (by omega) hF (fun k hk => ⟨(hW k hk).1, fun h => ?_⟩)
    obtain ⟨v, q1, q2⟩ := (hW k hk).2 h
    exact ⟨v, q1.congr (NKD_congr (fun i2 j2 _ _ _ => by omega)), q2⟩
theorem C_114 {r2 s2 p2 : Int} {r s p : Nat} (hV : VG G) (hM : Mg f G) (hr : r < 12) (hg : (r : Int) < G 0) (hs : s < 8) (hp : p ≤ 1) (er : r2 = r) (es : s2 = s) (ep : p2 = p) (hT : ∀ j, j < 202 → 0 ≤ f 156 j ∧ f 156 j ≤ 20) (K : ∀ g : xF, FR2 g f p → (∀ k : Nat, k < 101 → MV (g 155 (101 * p + k)) (g 156 (101 * p + k)) (rowv G r s k)) → Q [] g) : Rf (SHL L) 114 0 (xloc 114 [.inr 149, .inl p2, .inl r2, .inl s2]) [] f Q := by
  subst er es ep
  have v1 := hV.2.1
  have v2 := hV.2.2.1
  have v3 := hV.2.2.2.1 s hs
  have v4 := hV.2.2.2.2.2 r hr hg
  have loop : ∀ (n m : Nat) (g : xF), m + n = 101 → FR2 g f p → (∀ k : Nat, k < m → g 155 (101 * p + k) = 1000000) → Rf (SHL L) 114 3 [some (.inr 149), some (.inl (p : Int)), some (.inl (r : Int)), some (.inl (s : Int)), some (.inl (m : Int)), none, none, none] [] g Q := by
    intro n
    induction n with
    | zero =>
      intro m g hm hF hW
      refine R_il fx_114_3 rfl ?_
      refine R_push fx_114_5 ?_
      refine R_icge fx_114_7 (by omega) (fun hc => ?_) (fun hc => by omega)
      refine R_push fx_114_30 ?_
      refine R_is fx_114_31 ?_
      refine C_114_2 hV hM hr hg hs hp K (G (20 + 7 * r + 2) + 1).toNat 0 none none none g (by omega) hF (fun k hk => ⟨fun _ => hW k (by omega), fun _ => ⟨268435456, Or.inl ⟨rfl, fun v ⟨i, j, h1, _⟩ => absurd h1 (Nat.not_lt_zero _)⟩, Or.inl ⟨rfl, hW k (by omega)⟩⟩⟩)
    | succ n ih =>
      intro m g hm hF hW
      refine R_il fx_114_3 rfl ?_
      refine R_push fx_114_5 ?_
      refine R_icge fx_114_7 (by omega) (fun hc => by omega) (fun hc => ?_)
      refine R_al fx_114_10 rfl (by omega) ?_
      refine R_gr fx_114_11 kd_149 rfl rr_149_8 ?_
      refine R_push fx_114_14 ?_
      refine R_il fx_114_16 rfl ?_
      refine R_mul fx_114_17 ?_
      refine R_il fx_114_18 rfl ?_
      refine R_add fx_114_20 ?_
      refine R_push fx_114_21 ?_
      refine R_ias fx_114_23 kd_155 (by omega) (by rw [ln_155]; omega) (by omega) ?_
      refine R_inc fx_114_24 rfl ?_
      refine R_goto fx_114_27 ?_
      rw [show (101 * (p : Int) + (m : Int)).toNat = 101 * p + m by omega]
      refine ih (m + 1) _ (by omega) ⟨fun c c1 c2 => ?_, fun y hy => ?_, fun y hy => ?_⟩ (fun k hk => ?_)
      · funext y; rw [xup_a c1]; exact congrFun (hF.1 c c1 c2) y
      · rw [xup_a (by omega)]; exact hF.2.1 y hy
      · have := hF.2.2 y hy
        rw [xup_i (by omega), xup_a (by omega)]; exact this
      · by_cases e : k = m
        · subst e; rw [xup_s]
        · rw [xup_i (by omega)]; exact hW k (by omega)
  refine R_push fx_114_0 ?_
  refine R_is fx_114_1 ?_
  exact loop 101 0 f (by omega) ⟨fun _ _ _ => rfl, hT, fun _ _ => ⟨rfl, rfl⟩⟩ (fun k hk => absurd hk (by omega))
end RC
