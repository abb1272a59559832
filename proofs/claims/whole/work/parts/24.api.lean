/-! ===== the calls that change the state, but make ===== -/
def upG (G : Nat → Int) (i : Nat) (v : Int) : Nat → Int := fun j => if j = i then v else G j
def upR (G : Nat → Int) (r : Nat) (R : Nat → Int) : Nat → Int := fun i => if 20 + 7 * r ≤ i ∧ i < 27 + 7 * r then R (i - (20 + 7 * r)) else G i
theorem upG_s {G : Nat → Int} {i : Nat} {v : Int} : upG G i v i = v := if_pos rfl
theorem upG_n {G : Nat → Int} {i j : Nat} {v : Int} (h : j ≠ i) : upG G i v j = G j := if_neg h
theorem upR_in {G R : Nat → Int} {r j : Nat} (h : j < 7) : upR G r R (20 + 7 * r + j) = R j := by
  unfold upR; rw [if_pos (by omega)]; congr 1; omega
theorem upR_out {G R : Nat → Int} {r i : Nat} (h : i < 20 + 7 * r ∨ 27 + 7 * r ≤ i) : upR G r R i = G i := if_neg (by omega)
section SG
variable {f f2 : xF} {G : Nat → Int} {v : Int}
theorem Sg.fld (h : Sg f 4 G) (q : Nat) (h0 : 1 ≤ q) (hq : q < 4) : Sg (xup f 4 (4 + q) v) 4 (upG G q v) := by
  obtain ⟨⟨h1, h2, h3, h4⟩, h5, h6, h7, h8⟩ := h
  refine ⟨⟨?_, ?_, ?_, ?_⟩, fun s hs => ?_, fun s hs => ?_, fun s hs => ?_, fun r hr hg j hj => ?_⟩
  · rw [xup_i (by omega), upG_n (by omega)]; exact h1
  · by_cases e : q = 1
    · subst e; rw [xup_s, upG_s]
    · rw [xup_i (by omega), upG_n (by omega)]; exact h2
  · by_cases e : q = 2
    · subst e; rw [xup_s, upG_s]
    · rw [xup_i (by omega), upG_n (by omega)]; exact h3
  · by_cases e : q = 3
    · subst e; rw [xup_s, upG_s]
    · rw [xup_i (by omega), upG_n (by omega)]; exact h4
  · rw [xup_a (by omega), upG_n (by omega)]; exact h5 s hs
  · rw [xup_a (by omega), upG_n (by omega)]; exact h6 s hs
  · rw [xup_a (by omega), upG_n (by omega)]; exact h7 s hs
  · rw [upG_n (by omega)] at hg
    rw [xup_a (by omega), upG_n (by omega)]; exact h8 r hr hg j hj
theorem Sg.want (h : Sg f 4 G) {s : Nat} (hs : s < 8) : Sg (xup f 6 s v) 4 (upG G (4 + s) v) := by
  obtain ⟨⟨h1, h2, h3, h4⟩, h5, h6, h7, h8⟩ := h
  refine ⟨⟨?_, ?_, ?_, ?_⟩, fun t ht => ?_, fun t ht => ?_, fun t ht => ?_, fun r hr hg j hj => ?_⟩
  · rw [xup_a (by omega), upG_n (by omega)]; exact h1
  · rw [xup_a (by omega), upG_n (by omega)]; exact h2
  · rw [xup_a (by omega), upG_n (by omega)]; exact h3
  · rw [xup_a (by omega), upG_n (by omega)]; exact h4
  · by_cases e : t = s
    · subst e; rw [upG_s]; exact xup_s
    · rw [xup_i e, upG_n (by omega)]; exact h5 t ht
  · rw [xup_a (by omega), upG_n (by omega)]; exact h6 t ht
  · rw [xup_a (by omega), upG_n (by omega)]; exact h7 t ht
  · rw [upG_n (by omega)] at hg
    rw [xup_a (by omega), upG_n (by omega)]; exact h8 r hr hg j hj
theorem Sg.low (h : Sg f 4 G) {s : Nat} (hs : s < 4) : Sg (xup f 7 s v) 4 (upG G (12 + s) v) := by
  obtain ⟨⟨h1, h2, h3, h4⟩, h5, h6, h7, h8⟩ := h
  refine ⟨⟨?_, ?_, ?_, ?_⟩, fun t ht => ?_, fun t ht => ?_, fun t ht => ?_, fun r hr hg j hj => ?_⟩
  · rw [xup_a (by omega), upG_n (by omega)]; exact h1
  · rw [xup_a (by omega), upG_n (by omega)]; exact h2
  · rw [xup_a (by omega), upG_n (by omega)]; exact h3
  · rw [xup_a (by omega), upG_n (by omega)]; exact h4
  · rw [xup_a (by omega), upG_n (by omega)]; exact h5 t ht
  · by_cases e : t = s
    · subst e; rw [upG_s]; exact xup_s
    · rw [xup_i e, upG_n (by omega)]; exact h6 t ht
  · rw [xup_a (by omega), upG_n (by omega)]; exact h7 t ht
  · rw [upG_n (by omega)] at hg
    rw [xup_a (by omega), upG_n (by omega)]; exact h8 r hr hg j hj
theorem Sg.high (h : Sg f 4 G) {s : Nat} (hs : s < 4) : Sg (xup f 8 s v) 4 (upG G (16 + s) v) := by
  obtain ⟨⟨h1, h2, h3, h4⟩, h5, h6, h7, h8⟩ := h
  refine ⟨⟨?_, ?_, ?_, ?_⟩, fun t ht => ?_, fun t ht => ?_, fun t ht => ?_, fun r hr hg j hj => ?_⟩
  · rw [xup_a (by omega), upG_n (by omega)]; exact h1
  · rw [xup_a (by omega), upG_n (by omega)]; exact h2
  · rw [xup_a (by omega), upG_n (by omega)]; exact h3
  · rw [xup_a (by omega), upG_n (by omega)]; exact h4
  · rw [xup_a (by omega), upG_n (by omega)]; exact h5 t ht
  · rw [xup_a (by omega), upG_n (by omega)]; exact h6 t ht
  · by_cases e : t = s
    · subst e; rw [upG_s]; exact xup_s
    · rw [xup_i e, upG_n (by omega)]; exact h7 t ht
  · rw [upG_n (by omega)] at hg
    rw [xup_a (by omega), upG_n (by omega)]; exact h8 r hr hg j hj
theorem Sg.reed (h : Sg f 4 G) {r : Nat} (hr : r < 12) {R : Nat → Int} (h1 : ∀ j, j < 7 → f2 (9 + r) j = R j) (h2 : ∀ c, c ≠ 9 + r → f2 c = f c) : Sg f2 4 (upR G r R) := by
  obtain ⟨⟨e1, e2, e3, e4⟩, h5, h6, h7, h8⟩ := h
  refine ⟨⟨?_, ?_, ?_, ?_⟩, fun t ht => ?_, fun t ht => ?_, fun t ht => ?_, fun q hq hg j hj => ?_⟩
  · rw [h2 4 (by omega), upR_out (by omega)]; exact e1
  · rw [h2 4 (by omega), upR_out (by omega)]; exact e2
  · rw [h2 4 (by omega), upR_out (by omega)]; exact e3
  · rw [h2 4 (by omega), upR_out (by omega)]; exact e4
  · rw [h2 _ (by omega), upR_out (by omega)]; exact h5 t ht
  · rw [h2 _ (by omega), upR_out (by omega)]; exact h6 t ht
  · rw [h2 _ (by omega), upR_out (by omega)]; exact h7 t ht
  · rw [upR_out (by omega)] at hg
    by_cases e : q = r
    · subst e; rw [upR_in hj]; exact h1 j hj
    · rw [h2 _ (by omega), upR_out (by omega)]; exact h8 q hq hg j hj
end SG
theorem Hc.kept {f f2 : xF} {n x : Nat} {hi : Nat → Nat → Int} (h : Hc f n x hi) (he : ∀ c, 21 ≤ c → c < 125 → f2 c = f c) : Hc f2 n x hi := by
  obtain ⟨h1, h2, h3, h4, h5⟩ := h
  exact ⟨h1, h2, by rw [he 21 (by omega) (by omega)]; exact h3, by rw [he 21 (by omega) (by omega)]; exact h4, fun i hi9 => (h5 i hi9).kept (fun c q1 q2 => he c (by omega) (by omega))⟩
/-- a call that was done: the state is G2, the one before is kept, the plan is forgotten, the rest stands -/
def Dn (f f2 : xF) (n x : Nat) (hi : Nat → Nat → Int) (G G2 : Nat → Int) : Prop := Sg f2 4 G2 ∧ Hc f2 (min (n + 1) 6) ((x + 1) % 6) (consG G hi) ∧ f2 141 8 = 0 ∧ (∀ i, i ≠ 8 → f2 141 i = f 141 i) ∧ ∀ c, (c < 4 ∨ 125 ≤ c) → c ≠ 141 → f2 c = f c
section AP
variable {L : Nat} {f : xF} {Q : List xV → xF → Prop} {G : Nat → Int} {hi : Nat → Nat → Int} {n x : Nat}
theorem Dn.of {f2 f3 : xF} {G2 : Nat → Int} (g1 : Hc f2 (min (n + 1) 6) ((x + 1) % 6) (consG G hi)) (g2 : f2 141 8 = 0) (g3 : ∀ i, i ≠ 8 → f2 141 i = f 141 i) (g4 : ∀ c, (c < 21 ∨ 125 ≤ c) ∧ c ≠ 141 → f2 c = f c) (h : ∀ c, (c < 4 ∨ 21 ≤ c) → f3 c = f2 c) (hS : Sg f3 4 G2) : Dn f f3 n x hi G G2 :=
  ⟨hS, g1.kept (fun c q1 q2 => h c (by omega)), by rw [h 141 (by omega)]; exact g2, fun i h9 => by rw [h 141 (by omega)]; exact g3 i h9, fun c hc h9 => by rw [h c (by omega)]; exact g4 c (by omega)⟩
theorem C_20 {a b : Int} (hH : Hc f n x hi) (hS : Sg f 4 G) (ha : xok a) (hb : xok b) (K1 : (1 ≤ a ∧ a ≤ 20) ∧ 0 ≤ b ∧ b ≤ 50 → ∀ f2, Dn f f2 n x hi G (upG (upG G 1 a) 2 b) → Q [.inl 1] f2) (K0 : ¬ ((1 ≤ a ∧ a ≤ 20) ∧ 0 ≤ b ∧ b ≤ 50) → Q [.inl 0] f) : Rf (SHL L) 20 0 (xloc 20 [.inr 3, .inl a, .inl b]) [] f Q := by
  refine R_il fx_20_0 rfl ?_
  refine R_push fx_20_1 ?_
  refine R_push fx_20_2 ?_
  refine R_cs fx_20_4 rfl rfl rfl rfl ?_
  refine C_9 (by omega) (by omega) (by omega) (fun hc => ?_) (fun hc => ?_)
  · refine R_ifeq fx_20_7 (by decide) (fun h => absurd h (by decide)) (fun _ => ?_)
    refine R_il fx_20_10 rfl ?_
    refine R_push fx_20_11 ?_
    refine R_push fx_20_12 ?_
    refine R_cs fx_20_14 rfl rfl rfl rfl ?_
    refine C_9 (by omega) (by omega) (by omega) (fun hc => ?_) (fun hc => ?_)
    · refine R_ifne fx_20_17 (by decide) (fun _ => ?_) (fun h => absurd h (by decide))
      refine R_al fx_20_22 rfl (by omega) ?_
      refine R_cv fx_20_23 rfl rfl rfl rfl kd_3 ?_
      refine C_10 hH hS (fun f2 g1 g2 g3 g4 => ?_)
      refine R_al fx_20_26 rfl (by omega) ?_
      refine R_gr fx_20_27 kd_3 rfl rr_3_0 ?_
      refine R_il fx_20_30 rfl ?_
      refine R_pf fx_20_31 kd_4 rfl (fun h => absurd h (by decide)) ?_
      refine R_al fx_20_34 rfl (by omega) ?_
      refine R_gr fx_20_35 kd_3 rfl rr_3_0 ?_
      refine R_il fx_20_38 rfl ?_
      refine R_pf fx_20_39 kd_4 rfl (fun h => absurd h (by decide)) ?_
      refine R_push fx_20_42 ?_
      refine R_ret fx_20_43 (by decide) ?_
      first | exact K0 (by omega) | exact K1 (by omega) _ (Dn.of g1 g2 g3 g4 (fun c hc => by funext i; simp [xup, show c ≠ 4 by omega, show c ≠ 6 by omega, show c ≠ 7 by omega, show c ≠ 8 by omega]) (((hS.kept (f2 := f2) (fun c q1 q2 => g4 c (by omega))).fld 1 (by omega) (by omega)).fld 2 (by omega) (by omega)))
    · refine R_ifne fx_20_17 (by decide) (fun h => absurd h (by decide)) (fun _ => ?_)
      refine R_push fx_20_20 ?_
      refine R_ret fx_20_21 (by decide) ?_
      first | exact K0 (by omega) | exact K1 (by omega) _ (Dn.of g1 g2 g3 g4 (fun c hc => by funext i; simp [xup, show c ≠ 4 by omega, show c ≠ 6 by omega, show c ≠ 7 by omega, show c ≠ 8 by omega]) (((hS.kept (f2 := f2) (fun c q1 q2 => g4 c (by omega))).fld 1 (by omega) (by omega)).fld 2 (by omega) (by omega)))
  · refine R_ifeq fx_20_7 (by decide) (fun _ => ?_) (fun h => absurd h (by decide))
    refine R_push fx_20_20 ?_
    refine R_ret fx_20_21 (by decide) ?_
    first | exact K0 (by omega) | exact K1 (by omega) _ (Dn.of g1 g2 g3 g4 (fun c hc => by funext i; simp [xup, show c ≠ 4 by omega, show c ≠ 6 by omega, show c ≠ 7 by omega, show c ≠ 8 by omega]) (((hS.kept (f2 := f2) (fun c q1 q2 => g4 c (by omega))).fld 1 (by omega) (by omega)).fld 2 (by omega) (by omega)))
theorem C_21 {a b : Int} (hH : Hc f n x hi) (hS : Sg f 4 G) (ha : xok a) (hb : xok b) (K1 : (0 ≤ a ∧ a ≤ 7) ∧ -1 ≤ b ∧ b ≤ 9999 → ∀ f2, Dn f f2 n x hi G (upG G (4 + a.toNat) b) → Q [.inl 1] f2) (K0 : ¬ ((0 ≤ a ∧ a ≤ 7) ∧ -1 ≤ b ∧ b ≤ 9999) → Q [.inl 0] f) : Rf (SHL L) 21 0 (xloc 21 [.inr 3, .inl a, .inl b]) [] f Q := by
  refine R_il fx_21_0 rfl ?_
  refine R_push fx_21_1 ?_
  refine R_push fx_21_2 ?_
  refine R_cs fx_21_4 rfl rfl rfl rfl ?_
  refine C_9 (by omega) (by omega) (by omega) (fun hc => ?_) (fun hc => ?_)
  · refine R_ifeq fx_21_7 (by decide) (fun h => absurd h (by decide)) (fun _ => ?_)
    refine R_il fx_21_10 rfl ?_
    refine R_push fx_21_11 ?_
    refine R_push fx_21_12 ?_
    refine R_cs fx_21_15 rfl rfl rfl rfl ?_
    refine C_9 (by omega) (by omega) (by omega) (fun hc => ?_) (fun hc => ?_)
    · refine R_ifne fx_21_18 (by decide) (fun _ => ?_) (fun h => absurd h (by decide))
      refine R_al fx_21_23 rfl (by omega) ?_
      refine R_cv fx_21_24 rfl rfl rfl rfl kd_3 ?_
      refine C_10 hH hS (fun f2 g1 g2 g3 g4 => ?_)
      refine R_al fx_21_27 rfl (by omega) ?_
      refine R_gr fx_21_28 kd_3 rfl rr_3_0 ?_
      refine R_gr fx_21_31 kd_4 rfl rr_4_1 ?_
      refine R_il fx_21_34 rfl ?_
      refine R_il fx_21_35 rfl ?_
      refine R_ias fx_21_36 kd_6 (by omega) (by rw [ln_6]; omega) (by omega) ?_
      refine R_push fx_21_37 ?_
      refine R_ret fx_21_38 (by decide) ?_
      first | exact K0 (by omega) | exact K1 (by omega) _ (Dn.of g1 g2 g3 g4 (fun c hc => by funext i; simp [xup, show c ≠ 4 by omega, show c ≠ 6 by omega, show c ≠ 7 by omega, show c ≠ 8 by omega]) ((hS.kept (f2 := f2) (fun c q1 q2 => g4 c (by omega))).want (by omega)))
    · refine R_ifne fx_21_18 (by decide) (fun h => absurd h (by decide)) (fun _ => ?_)
      refine R_push fx_21_21 ?_
      refine R_ret fx_21_22 (by decide) ?_
      first | exact K0 (by omega) | exact K1 (by omega) _ (Dn.of g1 g2 g3 g4 (fun c hc => by funext i; simp [xup, show c ≠ 4 by omega, show c ≠ 6 by omega, show c ≠ 7 by omega, show c ≠ 8 by omega]) ((hS.kept (f2 := f2) (fun c q1 q2 => g4 c (by omega))).want (by omega)))
  · refine R_ifeq fx_21_7 (by decide) (fun _ => ?_) (fun h => absurd h (by decide))
    refine R_push fx_21_21 ?_
    refine R_ret fx_21_22 (by decide) ?_
    first | exact K0 (by omega) | exact K1 (by omega) _ (Dn.of g1 g2 g3 g4 (fun c hc => by funext i; simp [xup, show c ≠ 4 by omega, show c ≠ 6 by omega, show c ≠ 7 by omega, show c ≠ 8 by omega]) ((hS.kept (f2 := f2) (fun c q1 q2 => g4 c (by omega))).want (by omega)))
theorem C_23 {k a b : Int} (hH : Hc f n x hi) (hS : Sg f 4 G) (hk : xok k) (ha : xok a) (hb : xok b) (K1 : (0 ≤ k ∧ k ≤ 3) ∧ (-100 ≤ a ∧ a ≤ 100) ∧ -100 ≤ b ∧ b ≤ 100 → ∀ f2, Dn f f2 n x hi G (upG (upG G (12 + k.toNat) a) (16 + k.toNat) b) → Q [.inl 1] f2) (K0 : ¬ ((0 ≤ k ∧ k ≤ 3) ∧ (-100 ≤ a ∧ a ≤ 100) ∧ -100 ≤ b ∧ b ≤ 100) → Q [.inl 0] f) : Rf (SHL L) 23 0 (xloc 23 [.inr 3, .inl k, .inl a, .inl b]) [] f Q := by
  refine R_il fx_23_0 rfl ?_
  refine R_push fx_23_1 ?_
  refine R_push fx_23_2 ?_
  refine R_cs fx_23_3 rfl rfl rfl rfl ?_
  refine C_9 (by omega) (by omega) (by omega) (fun hc => ?_) (fun hc => ?_)
  · refine R_ifeq fx_23_6 (by decide) (fun h => absurd h (by decide)) (fun _ => ?_)
    refine R_il fx_23_9 rfl ?_
    refine R_push fx_23_10 ?_
    refine R_push fx_23_12 ?_
    refine R_cs fx_23_14 rfl rfl rfl rfl ?_
    refine C_9 (by omega) (by omega) (by omega) (fun hc => ?_) (fun hc => ?_)
    · refine R_ifeq fx_23_17 (by decide) (fun h => absurd h (by decide)) (fun _ => ?_)
      refine R_il fx_23_20 rfl ?_
      refine R_push fx_23_21 ?_
      refine R_push fx_23_23 ?_
      refine R_cs fx_23_25 rfl rfl rfl rfl ?_
      refine C_9 (by omega) (by omega) (by omega) (fun hc => ?_) (fun hc => ?_)
      · refine R_ifeq fx_23_28 (by decide) (fun h => absurd h (by decide)) (fun _ => ?_)
        refine R_push fx_23_31 ?_
        refine R_goto fx_23_32 ?_
        refine R_is fx_23_36 ?_
        refine R_il fx_23_38 rfl ?_
        refine R_ifne fx_23_40 (by decide) (fun _ => ?_) (fun h => absurd h (by decide))
        refine R_al fx_23_45 rfl (by omega) ?_
        refine R_cv fx_23_46 rfl rfl rfl rfl kd_3 ?_
        refine C_10 hH hS (fun f2 g1 g2 g3 g4 => ?_)
        refine R_al fx_23_49 rfl (by omega) ?_
        refine R_gr fx_23_50 kd_3 rfl rr_3_0 ?_
        refine R_gr fx_23_53 kd_4 rfl rr_4_2 ?_
        refine R_il fx_23_56 rfl ?_
        refine R_il fx_23_57 rfl ?_
        refine R_ias fx_23_58 kd_7 (by omega) (by rw [ln_7]; omega) (by omega) ?_
        refine R_al fx_23_59 rfl (by omega) ?_
        refine R_gr fx_23_60 kd_3 rfl rr_3_0 ?_
        refine R_gr fx_23_63 kd_4 rfl rr_4_3 ?_
        refine R_il fx_23_66 rfl ?_
        refine R_il fx_23_67 rfl ?_
        refine R_ias fx_23_68 kd_8 (by omega) (by rw [ln_8]; omega) (by omega) ?_
        refine R_push fx_23_69 ?_
        refine R_ret fx_23_70 (by decide) ?_
        first | exact K0 (by omega) | exact K1 (by omega) _ (Dn.of g1 g2 g3 g4 (fun c hc => by funext i; simp [xup, show c ≠ 4 by omega, show c ≠ 6 by omega, show c ≠ 7 by omega, show c ≠ 8 by omega]) (((hS.kept (f2 := f2) (fun c q1 q2 => g4 c (by omega))).low (by omega)).high (by omega)))
      · refine R_ifeq fx_23_28 (by decide) (fun _ => ?_) (fun h => absurd h (by decide))
        refine R_push fx_23_35 ?_
        refine R_is fx_23_36 ?_
        refine R_il fx_23_38 rfl ?_
        refine R_ifne fx_23_40 (by decide) (fun h => absurd h (by decide)) (fun _ => ?_)
        refine R_push fx_23_43 ?_
        refine R_ret fx_23_44 (by decide) ?_
        first | exact K0 (by omega) | exact K1 (by omega) _ (Dn.of g1 g2 g3 g4 (fun c hc => by funext i; simp [xup, show c ≠ 4 by omega, show c ≠ 6 by omega, show c ≠ 7 by omega, show c ≠ 8 by omega]) (((hS.kept (f2 := f2) (fun c q1 q2 => g4 c (by omega))).low (by omega)).high (by omega)))
    · refine R_ifeq fx_23_17 (by decide) (fun _ => ?_) (fun h => absurd h (by decide))
      refine R_push fx_23_35 ?_
      refine R_is fx_23_36 ?_
      refine R_il fx_23_38 rfl ?_
      refine R_ifne fx_23_40 (by decide) (fun h => absurd h (by decide)) (fun _ => ?_)
      refine R_push fx_23_43 ?_
      refine R_ret fx_23_44 (by decide) ?_
      first | exact K0 (by omega) | exact K1 (by omega) _ (Dn.of g1 g2 g3 g4 (fun c hc => by funext i; simp [xup, show c ≠ 4 by omega, show c ≠ 6 by omega, show c ≠ 7 by omega, show c ≠ 8 by omega]) (((hS.kept (f2 := f2) (fun c q1 q2 => g4 c (by omega))).low (by omega)).high (by omega)))
  · refine R_ifeq fx_23_6 (by decide) (fun _ => ?_) (fun h => absurd h (by decide))
    refine R_push fx_23_35 ?_
    refine R_is fx_23_36 ?_
    refine R_il fx_23_38 rfl ?_
    refine R_ifne fx_23_40 (by decide) (fun h => absurd h (by decide)) (fun _ => ?_)
    refine R_push fx_23_43 ?_
    refine R_ret fx_23_44 (by decide) ?_
    first | exact K0 (by omega) | exact K1 (by omega) _ (Dn.of g1 g2 g3 g4 (fun c hc => by funext i; simp [xup, show c ≠ 4 by omega, show c ≠ 6 by omega, show c ≠ 7 by omega, show c ≠ 8 by omega]) (((hS.kept (f2 := f2) (fun c q1 q2 => g4 c (by omega))).low (by omega)).high (by omega)))
theorem C_89 (hH : Hc f n x hi) (K1 : 0 < n → ∀ f2 : xF, Sg f2 4 (hi 0) → Hc f2 (n - 1) ((x + 5) % 6) (fun i => hi (i + 1)) → f2 141 8 = 0 → (∀ i, i ≠ 8 → f2 141 i = f 141 i) → (∀ c, (c < 4 ∨ 125 ≤ c) → c ≠ 141 → f2 c = f c) → Q [.inl 1] f2) (K0 : n = 0 → Q [.inl 0] f) : Rf (SHL L) 89 0 (xloc 89 [.inr 3]) [] f Q := by
  refine R_al fx_89_0 rfl (by omega) ?_
  refine R_gr fx_89_1 kd_3 rfl rr_3_1 ?_
  refine R_al fx_89_4 rfl (by omega) ?_
  refine R_gr fx_89_5 kd_3 rfl rr_3_0 ?_
  refine R_cv fx_89_8 rfl rfl rfl rfl kd_21 ?_
  refine C_90 hH (fun hn0 f2 g1 g2 g3 => ?_) (fun hn0 => ?_)
  · refine R_ifne fx_89_11 (by decide) (fun _ => ?_) (fun h => absurd h (by decide))
    refine R_al fx_89_16 rfl (by omega) ?_
    refine R_gr fx_89_17 kd_3 rfl rr_3_3 ?_
    refine R_cv fx_89_20 rfl rfl rfl rfl kd_141 ?_
    refine C_15 ?_
    refine R_push fx_89_23 ?_
    refine R_ret fx_89_24 (by decide) ?_
    first | exact K0 hn0 | exact K1 hn0 _ (g1.kept (fun c q1 q2 => by funext z; simp [xup, show c ≠ 141 by omega])) (g2.kept (fun c q1 q2 => by funext z; simp [xup, show c ≠ 141 by omega])) (by simp [xup]) (fun i h9 => by simp [xup, h9, g3 141 (by omega)]) (fun c hc h9 => by rw [← g3 c (by omega)]; funext z; simp [xup, h9])
  · refine R_ifne fx_89_11 (by decide) (fun h => absurd h (by decide)) (fun _ => ?_)
    refine R_push fx_89_14 ?_
    refine R_ret fx_89_15 (by decide) ?_
    first | exact K0 hn0 | exact K1 hn0 _ (g1.kept (fun c q1 q2 => by funext z; simp [xup, show c ≠ 141 by omega])) (g2.kept (fun c q1 q2 => by funext z; simp [xup, show c ≠ 141 by omega])) (by simp [xup]) (fun i h9 => by simp [xup, h9, g3 141 (by omega)]) (fun c hc h9 => by rw [← g3 c (by omega)]; funext z; simp [xup, h9])
end AP
