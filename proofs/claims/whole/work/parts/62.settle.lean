/-! ===== the plan: choose, settle; best, lays ===== -/
def uS (o : CO) (s : Nat) : Nat := if s % 2 = 0 then setK o (s / 2) else if o.mb (s / 2) then setK o (s / 2 + 1) else oset (setK o (s / 2)) (pkS o (2 * (s / 2)) (setK o (s / 2)))
def eS (o : CO) (s : Nat) : Nat := if s % 2 = 1 ∧ o.mb (s / 2) = true then s + 1 else s
theorem popc_0 : popc 0 12 = 0 := by decide
section US
variable {o : CO}
theorem uS_even {k : Nat} : uS o (2 * k) = setK o k := by unfold uS; rw [if_pos (by omega), show 2 * k / 2 = k by omega]
theorem eS_even {k : Nat} : eS o (2 * k) = 2 * k := by unfold eS; rw [if_neg (by omega)]
theorem uS_odd {k : Nat} : uS o (2 * k + 1) = if o.mb k then setK o (k + 1) else oset (setK o k) (pkS o (2 * k) (setK o k)) := by unfold uS; rw [if_neg (by omega), show (2 * k + 1) / 2 = k by omega]
theorem eS_odd {k : Nat} : eS o (2 * k + 1) = if o.mb k = true then 2 * k + 2 else 2 * k + 1 := by
  unfold eS
  rw [show (2 * k + 1) / 2 = k by omega]
  cases o.mb k with
  | true => rw [if_pos ⟨by omega, rfl⟩, if_pos rfl]
  | false => rw [if_neg (by simp), if_neg (by simp)]
theorem uS_next {s : Nat} (hm : o.mb (s / 2) = false) : eS o s = s ∧ eS o (s + 1) = s + 1 ∧ uS o (s + 1) = oset (uS o s) (pkS o s (uS o s)) ∧ chO o s = pkS o s (uS o s) := by
  rcases (show s = 2 * (s / 2) ∨ s = 2 * (s / 2) + 1 by omega) with e | e
  · obtain ⟨k, hk⟩ : ∃ k, k = s / 2 := ⟨_, rfl⟩
    rw [← hk] at hm e
    subst e
    refine ⟨eS_even, by rw [eS_odd, hm]; simp, by rw [uS_odd, uS_even, hm]; rfl, ?_⟩
    unfold chO
    rw [if_pos (by omega), show 2 * k / 2 = k by omega, uS_even]
    unfold ch1
    rw [hm]; rfl
  · obtain ⟨k, hk⟩ : ∃ k, k = s / 2 := ⟨_, rfl⟩
    rw [← hk] at hm e
    subst e
    refine ⟨by rw [eS_odd, hm]; simp, by rw [show 2 * k + 1 + 1 = 2 * (k + 1) by omega]; exact eS_even, ?_, ?_⟩
    · rw [show 2 * k + 1 + 1 = 2 * (k + 1) by omega, uS_even, uS_odd, hm]
      show st1 o k (setK o k) = _
      unfold st1 ch1
      rw [hm]; rfl
    · unfold chO
      rw [if_neg (by omega), show (2 * k + 1) / 2 = k by omega, uS_odd]
      unfold ch1
      rw [hm]; rfl
theorem uS_mb {k t : Nat} (hm : o.mb k = true) (h : ff (okP o (o.cp k) k (setK o k)) 144 = some t) : uS o (2 * k + 1) = setK o k ||| 2 ^ (t / 12) ||| 2 ^ (t % 12) ∧ chO o (2 * k) = some (t / 12) ∧ chO o (2 * k + 1) = some (t % 12) := by
  refine ⟨?_, ?_, ?_⟩
  · rw [uS_odd, hm]
    show st1 o k (setK o k) = _
    unfold st1 ch1
    rw [hm, h]; rfl
  · unfold chO ch1
    rw [if_pos (by omega), show 2 * k / 2 = k by omega, hm, h]; rfl
  · unfold chO ch1
    rw [if_neg (by omega), show (2 * k + 1) / 2 = k by omega, hm, h]; rfl
end US
section CU
variable {L : Nat} {f : xF} {Q : List xV → xF → Prop} {G : Nat → Int}
theorem C_72 (hV : VG G) (hS : Sg f 4 G) (h143 : ∀ s r, s < 8 → r < 12 → f 143 (s * 12 + r) = csG G s r) (h144 : ∀ k r q, k < 4 → r < 12 → q < 12 → f 144 ((k * 12 + r) * 12 + q) = cpG G k r q) (hR : Rows f G 0) (hex : mn (lev (coG G) 0 0) ≠ 268435456) (h148 : ∀ j, j < 8 → f 148 j = -1) (K : ∀ g : xF, (∀ c, c ≠ 148 → g c = f c) → (∀ j, j < 8 → g 148 j = chG (coG G) j) → Q [] g) : Rf (SHL L) 72 0 (xloc 72 [.inr 141, .inr 4]) [] f Q := by
  have ho := coG_ok hV
  have loop : ∀ (n s : Nat) (g : xF), s + n = 8 → (∀ c, c ≠ 148 → g c = f c) → Pst G (eS (coG G) s) (uS (coG G) s) → (∀ j, j < 8 → g 148 j = if j < eS (coG G) s then chG (coG G) j else -1) → Rf (SHL L) 72 4 [some (.inr 141), some (.inr 4), some (.inl ((uS (coG G) s : Nat) : Int)), some (.inl ((s : Nat) : Int))] [] g Q := by
    intro n
    induction n with
    | zero =>
      intro s g hs hA hP hj
      have hsj : s = 8 := by omega
      subst hsj
      refine R_il fx_72_4 rfl ?_
      refine R_push fx_72_5 ?_
      refine R_icge fx_72_7 (by omega) (fun hc => ?_) (fun hc => by omega)
      exact R_retv fx_72_63 rfl (K g hA (fun j h9 => by rw [hj j h9, if_pos (show j < eS (coG G) (2 * 4) by rw [eS_even]; omega)]))
    | succ n ih =>
      intro s g hs hA hP hj
      have hSg : Sg g 4 G := hS.kept (fun c _ _ => hA c (by omega))
      have e7 : g 7 ((s : Int) / 2).toNat = G (12 + s / 2) := by rw [show ((s : Int) / 2).toNat = s / 2 by omega]; exact hSg.2.2.1 _ (by omega)
      have e8 : g 8 ((s : Int) / 2).toNat = G (16 + s / 2) := by rw [show ((s : Int) / 2).toNat = s / 2 by omega]; exact hSg.2.2.2.1 _ (by omega)
      have e6 : g 6 (2 * ((s : Int) / 2)).toNat = G (4 + 2 * (s / 2)) := by rw [show (2 * ((s : Int) / 2)).toNat = 2 * (s / 2) by omega]; exact hSg.2.1 _ (by omega)
      have e5 : g 6 (2 * ((s : Int) / 2) + 1).toNat = G (4 + (2 * (s / 2) + 1)) := by rw [show (2 * ((s : Int) / 2) + 1).toNat = 2 * (s / 2) + 1 by omega]; exact hSg.2.1 _ (by omega)
      have es : g 6 (s : Int).toNat = G (4 + s) := by rw [Int.toNat_natCast]; exact hSg.2.1 _ (by omega)
      have g143 : ∀ s r, s < 8 → r < 12 → g 143 (s * 12 + r) = csG G s r := fun s r a b => by rw [hA 143 (by omega)]; exact h143 s r a b
      have g144 : ∀ k r q, k < 4 → r < 12 → q < 12 → g 144 ((k * 12 + r) * 12 + q) = cpG G k r q := fun k r q a b c => by rw [hA 144 (by omega)]; exact h144 k r q a b c
      have gR : Rows g G 0 := fun v a b s c d => by rw [hA 145 (by omega), hA 146 (by omega)]; exact hR v a b s c d
      refine R_il fx_72_4 rfl ?_
      refine R_push fx_72_5 ?_
      refine R_icge fx_72_7 (by omega) (fun hc => by omega) (fun hc => ?_)
      refine R_al fx_72_10 rfl (by omega) ?_
      refine R_il fx_72_11 rfl ?_
      refine R_push fx_72_12 ?_
      refine R_bin fx_72_13 (xb_div (by omega) (by omega) (by omega) (by omega)) ?_
      refine R_cv fx_72_14 rfl rfl rfl rfl kd_4 ?_
      refine C_60 (by omega) (hV.w hSg) (hV.b hSg) (fun hc => ?_) (fun hc => ?_) <;> rw [e5, e6, e7, e8] at hc
      · refine R_ifeq fx_72_17 (by decide) (fun h => absurd h (by decide)) (fun _ => ?_)
        refine R_il fx_72_20 rfl ?_
        refine R_push fx_72_21 ?_
        refine R_bin fx_72_22 (xb_rem (by omega) (by omega) (by omega) (by omega)) ?_
        refine R_ifne fx_72_23 (by omega) (fun hp => ?_) (fun hp => ?_)
        · refine R_il fx_72_37 rfl ?_
          refine R_is fx_72_38 ?_
          refine R_goto fx_72_39 ?_
          refine R_inc fx_72_57 rfl ?_
          refine R_goto fx_72_60 ?_
          have hmb : mbG G (s / 2) = true := decide_eq_true hc.2
          obtain ⟨k, hk⟩ : ∃ k, k = s / 2 := ⟨_, rfl⟩
          rw [← hk] at hmb
          have hse : s = 2 * k + 1 := by omega
          subst hse
          have hm2 : (coG G).mb k = true := hmb
          have y1 : uS (coG G) (2 * k + 1) = uS (coG G) (2 * k + 1 + 1) := by rw [show 2 * k + 1 + 1 = 2 * (k + 1) by omega, uS_even, uS_odd, hm2]; rfl
          have y2 : eS (coG G) (2 * k + 1) = eS (coG G) (2 * k + 1 + 1) := by rw [show 2 * k + 1 + 1 = 2 * (k + 1) by omega, eS_even, eS_odd, hm2]; rfl
          rw [y1, y2] at hP
          rw [y2] at hj
          rw [y1]
          exact ih _ g (by omega) hA hP hj
        · refine R_al fx_72_26 rfl (by omega) ?_
          refine R_il fx_72_27 rfl ?_
          refine R_il fx_72_28 rfl ?_
          refine R_push fx_72_29 ?_
          refine R_bin fx_72_30 (xb_div (by omega) (by omega) (by omega) (by omega)) ?_
          refine R_cv fx_72_31 rfl rfl rfl rfl kd_141 ?_
          have hmb : mbG G (s / 2) = true := decide_eq_true hc.2
          obtain ⟨k, hk⟩ : ∃ k, k = s / 2 := ⟨_, rfl⟩
          rw [← hk] at hmb
          have hse : s = 2 * k := by omega
          subst hse
          rw [eS_even, uS_even] at hP
          obtain ⟨t, t1, t2, t3⟩ := Pst_pair hV (by omega) hmb hP
          obtain ⟨u1, u2, u3⟩ := uS_mb (o := coG G) (k := k) hmb t2
          rw [uS_even]
          refine C_73 (k := k) (t0 := t) hV g143 g144 gR (by omega) hmb hP t2 rfl (by omega) (fun g2 a1 a2 a3 a4 => ?_)
          refine R_goto fx_72_34 ?_
          refine R_is fx_72_38 ?_
          refine R_goto fx_72_39 ?_
          refine R_inc fx_72_57 rfl ?_
          refine R_goto fx_72_60 ?_
          have y2 : eS (coG G) (2 * k + 1) = 2 * k + 2 := by rw [eS_odd, show (coG G).mb k = true from hmb]; rfl
          rw [← u1] at t3
          rw [← u1]
          refine ih _ g2 (by omega) (fun c a => by rw [a1 c a]; exact hA c a) (by rw [y2]; exact t3) (fun j h9 => ?_)
          rw [y2]
          by_cases j1 : j = 2 * k
          · subst j1; rw [a3, if_pos (by omega)]; unfold chG; rw [u2]; rfl
          · by_cases j2 : j = 2 * k + 1
            · subst j2; rw [a4, if_pos (by omega)]; unfold chG; rw [u3]; rfl
            · rw [a2 j j1 j2, hj j h9, eS_even]
              by_cases j3 : j < 2 * k
              · rw [if_pos j3, if_pos (by omega)]
              · rw [if_neg j3, if_neg (by omega)]
      · refine R_ifeq fx_72_17 (by decide) (fun _ => ?_) (fun h => absurd h (by decide))
        refine R_al fx_72_42 rfl (by omega) ?_
        refine R_il fx_72_43 rfl ?_
        refine R_cv fx_72_44 rfl rfl rfl rfl kd_4 ?_
        refine C_33 (by omega) (hV.w hSg) (fun hc2 => ?_) (fun hc2 => ?_) <;> rw [es] at hc2
        · refine R_ifeq fx_72_47 (by decide) (fun h => absurd h (by decide)) (fun _ => ?_)
          refine R_al fx_72_50 rfl (by omega) ?_
          refine R_il fx_72_51 rfl ?_
          refine R_il fx_72_52 rfl ?_
          refine R_cv fx_72_53 rfl rfl rfl rfl kd_141 ?_
          have hmb : mbG G (s / 2) = false := decide_eq_false (fun z => hc ⟨by omega, z⟩)
          obtain ⟨x1, x2, x3, x4⟩ := uS_next (o := coG G) hmb
          rw [x1] at hP
          have hw : wsG G s = true := decide_eq_true hc2.2
          refine C_75 (s := s) rfl rfl hV g143 g144 gR (by omega) hw hmb hP (by rw [hj s (by omega), x1, if_neg (by omega)]) (fun g2 a1 a2 a3 => ?_)
          refine R_is fx_72_56 ?_
          refine R_inc fx_72_57 rfl ?_
          refine R_goto fx_72_60 ?_
          have hp3 := Pst_slot hV (by omega) hmb hP
          rw [← x3] at hp3
          rw [← x3]
          refine ih _ g2 (by omega) (fun c a => by rw [a1 c a]; exact hA c a) (by rw [x2]; exact hp3) (fun j h9 => ?_)
          rw [x2]
          by_cases j1 : j = s
          · subst j1; rw [a3, if_pos (by omega)]; unfold chG; rw [x4]
          · rw [a2 j j1, hj j h9, x1]
            by_cases j3 : j < s
            · rw [if_pos j3, if_pos (by omega)]
            · rw [if_neg j3, if_neg (by omega)]
        · refine R_ifeq fx_72_47 (by decide) (fun _ => ?_) (fun h => absurd h (by decide))
          refine R_inc fx_72_57 rfl ?_
          refine R_goto fx_72_60 ?_
          have hmb : mbG G (s / 2) = false := decide_eq_false (fun z => hc ⟨by omega, z⟩)
          obtain ⟨x1, x2, x3, x4⟩ := uS_next (o := coG G) hmb
          rw [x1] at hP
          have hw : wsG G s = false := decide_eq_false (fun z => hc2 ⟨by omega, z⟩)
          have hpk : pkS (coG G) s (uS (coG G) s) = none := by unfold pkS; rw [show (coG G).wa s = false from hw]; rfl
          have hp3 := Pst_slot hV (by omega) hmb hP
          rw [← x3] at hp3
          rw [show uS (coG G) s = uS (coG G) (s + 1) by rw [x3, hpk]; rfl]
          refine ih _ g (by omega) hA (by rw [x2]; exact hp3) (fun j h9 => ?_)
          rw [x2, hj j h9, x1]
          by_cases j1 : j = s
          · subst j1; rw [if_neg (by omega), if_pos (by omega)]; unfold chG; rw [x4, hpk]; rfl
          · by_cases j3 : j < s
            · rw [if_pos j3, if_pos (by omega)]
            · rw [if_neg j3, if_neg (by omega)]
  refine R_push fx_72_0 ?_
  refine R_is fx_72_1 ?_
  refine R_push fx_72_2 ?_
  refine R_is fx_72_3 ?_
  refine loop 8 0 f (by omega) (fun _ _ => rfl) ⟨by show (0 : Nat) < 4096; omega, fun i hi => ?_, popc_0.symm, hex⟩ (fun j h9 => by rw [h148 j h9, if_neg (show ¬ j < eS (coG G) (2 * 0) by rw [eS_even]; omega)])
  exact absurd (show (0 : Nat).testBit i = true from hi) (by simp)
/-- the plan knows what it says -/
def Pl (f : xF) (G : Nat → Int) : Prop := f 141 6 = mn (lev (coG G) 0 0) ∧ f 141 7 = ct (lev (coG G) 0 0) ∧ (∀ j, j < 8 → f 148 j = if mn (lev (coG G) 0 0) = 268435456 then -1 else chG (coG G) j) ∧ (∀ s r, s < 8 → r < 12 → f 143 (s * 12 + r) = csG G s r) ∧ ∀ k r q, k < 4 → r < 12 → q < 12 → f 144 ((k * 12 + r) * 12 + q) = cpG G k r q
def Pk (f : xF) (G : Nat → Int) : Prop := f 141 8 = 0 ∨ (f 141 8 = 1 ∧ Pl f G)
theorem C_57 (hV : VG G) (hS : Sg f 4 G) (hP : Pk f G) (K : ∀ g : xF, (∀ c, (c < 125 ∨ 148 < c) → g c = f c) → g 141 8 = 1 → Pl g G → Q [] g) : Rf (SHL L) 57 0 (xloc 57 [.inr 141, .inr 4, .inr 125]) [] f Q := by
  have ho := coG_ok hV
  have hb0 := mn_b (lev_sml ho (s := 0) (set := 0) (by omega))
  refine R_al fx_57_0 rfl (by omega) ?_
  refine R_gf fx_57_1 kd_141 rfl ?_
  refine R_ifeq fx_57_4 (by rcases hP with h | h <;> omega) (fun hc => ?_) (fun hc => ?_)
  · refine R_al fx_57_8 rfl (by omega) ?_
    refine R_push fx_57_9 ?_
    refine R_pf fx_57_10 kd_141 rfl (fun _ => by omega) ?_
    refine R_al fx_57_13 rfl (by omega) ?_
    refine R_gr fx_57_14 kd_141 rfl rr_141_0 ?_
    refine R_al fx_57_17 rfl (by omega) ?_
    refine R_al fx_57_18 rfl (by omega) ?_
    refine R_cv fx_57_19 rfl rfl rfl rfl kd_142 ?_
    refine C_58 hV (hS.kept (fun c _ _ => by funext y; rw [xup_a (by omega)])) (fun g1 a1 b1 c1 => ?_)
    have z1 : ∀ c, (c < 125 ∨ 140 < c) → c ≠ 143 → c ≠ 144 → c ≠ 141 → g1 c = f c := fun c q1 q2 q3 q4 => by rw [a1 c q1 q2 q3]; funext y; rw [xup_a q4]
    have k1 : g1 141 8 = 1 := by rw [a1 141 (by omega) (by omega) (by omega), xup_s]
    have s1 : Sg g1 4 G := hS.kept (fun c _ _ => z1 c (by omega) (by omega) (by omega) (by omega))
    refine R_al fx_57_22 rfl (by omega) ?_
    refine R_al fx_57_23 rfl (by omega) ?_
    refine R_cv fx_57_24 rfl rfl rfl rfl kd_141 ?_
    refine C_64 hV s1 (fun g2 a2 b2 c2 d2 => ?_)
    have s2 : Sg g2 4 G := s1.kept (fun c _ _ => a2 c (by omega) (by omega))
    refine R_al fx_57_27 rfl (by omega) ?_
    refine R_al fx_57_28 rfl (by omega) ?_
    refine R_cv fx_57_29 rfl rfl rfl rfl kd_141 ?_
    refine C_65 hV s2 (fun s r q1 q2 => by rw [a2 143 (by omega) (by omega)]; exact b1 s r q1 q2) (fun k r q q1 q2 q3 => by rw [a2 144 (by omega) (by omega)]; exact c1 k r q q1 q2 q3) c2 d2 (fun g3 a3 b3 => ?_)
    have s3 : Sg g3 4 G := s2.kept (fun c _ _ => a3 c (by omega) (by omega))
    have e0 := b3 0 (by omega) (fun i hi => absurd hi (by simp)) 0 (by omega) popc_0.symm
    have k3 : g3 141 8 = 1 := by rw [a3 141 (by omega) (by omega), b2 8 (by omega)]; exact k1
    refine R_al fx_57_32 rfl (by omega) ?_
    refine R_al fx_57_33 rfl (by omega) ?_
    refine R_gr fx_57_34 kd_141 rfl rr_141_1 ?_
    refine R_push fx_57_37 ?_
    refine R_ia fx_57_38 (Or.inl kd_145) (by omega) (by rw [ln_145]; omega) (by omega) ?_
    refine R_pf fx_57_39 kd_141 rfl (fun h => absurd h (by decide)) ?_
    refine R_al fx_57_42 rfl (by omega) ?_
    refine R_al fx_57_43 rfl (by omega) ?_
    refine R_gr fx_57_44 kd_141 rfl rr_141_2 ?_
    refine R_push fx_57_47 ?_
    refine R_ia fx_57_48 (Or.inl kd_146) (by omega) (by rw [ln_146]; omega) (by omega) ?_
    refine R_pf fx_57_49 kd_141 rfl (fun h => absurd h (by decide)) ?_
    refine R_al fx_57_52 rfl (by omega) ?_
    refine R_gr fx_57_53 kd_141 rfl rr_141_4 ?_
    refine R_push fx_57_56 ?_
    refine R_cs fx_57_57 rfl rfl rfl rfl ?_
    refine C_3 (N := 8) (by omega) kd_148 ln_148 (by omega) (fun g5 a5 b5 => ?_)
    have w1 : g5 141 6 = mn (lev (coG G) 0 0) := by rw [b5 141 (by omega), xup_i (by omega), xup_s, show (0 : Int).toNat = 0 from rfl]; exact e0.1
    have w2 : g5 141 7 = ct (lev (coG G) 0 0) := by rw [b5 141 (by omega), xup_s, show (0 : Int).toNat = 0 from rfl, xup_a (by omega)]; exact e0.2
    have w8 : g5 141 8 = 1 := by rw [b5 141 (by omega), xup_i (by omega), xup_i (by omega)]; exact k3
    have wf : ∀ c, c ≠ 141 → c ≠ 148 → g5 c = g3 c := fun c q1 q2 => by rw [b5 c q2]; funext y; rw [xup_a q1, xup_a q1]
    have s5 : Sg g5 4 G := s3.kept (fun c _ _ => wf c (by omega) (by omega))
    have w43 : ∀ s r, s < 8 → r < 12 → g5 143 (s * 12 + r) = csG G s r := fun s r q1 q2 => by rw [wf 143 (by omega) (by omega), a3 143 (by omega) (by omega), a2 143 (by omega) (by omega)]; exact b1 s r q1 q2
    have w44 : ∀ k r q, k < 4 → r < 12 → q < 12 → g5 144 ((k * 12 + r) * 12 + q) = cpG G k r q := fun k r q q1 q2 q3 => by rw [wf 144 (by omega) (by omega), a3 144 (by omega) (by omega), a2 144 (by omega) (by omega)]; exact c1 k r q q1 q2 q3
    have wR : Rows g5 G 0 := fun v q1 q2 s q3 q4 => by rw [wf 145 (by omega) (by omega), wf 146 (by omega) (by omega)]; exact b3 v q1 q2 s q3 q4
    have wfr : ∀ c, (c < 125 ∨ 148 < c) → g5 c = f c := fun c q1 => by rw [wf c (by omega) (by omega), a3 c (by omega) (by omega), a2 c (by omega) (by omega), z1 c (by omega) (by omega) (by omega) (by omega)]
    refine R_al fx_57_60 rfl (by omega) ?_
    refine R_cv fx_57_61 rfl rfl rfl rfl kd_141 ?_
    refine C_71 (by rw [w1]; omega) (fun hx => ?_) (fun hx => ?_) <;> rw [w1] at hx
    · refine R_ifeq fx_57_64 (by decide) (fun h => absurd h (by decide)) (fun _ => ?_)
      refine R_al fx_57_67 rfl (by omega) ?_
      refine R_al fx_57_68 rfl (by omega) ?_
      refine R_cv fx_57_69 rfl rfl rfl rfl kd_141 ?_
      refine C_72 hV s5 w43 w44 wR (by omega) a5 (fun g6 a6 b6 => ?_)
      first | exact R_retv fx_57_72 rfl (K g6 (fun c q1 => by rw [a6 c (by omega)]; exact wfr c q1) (by rw [a6 141 (by omega)]; exact w8) ⟨by rw [a6 141 (by omega)]; exact w1, by rw [a6 141 (by omega)]; exact w2, fun j hj => by rw [if_neg (by omega)]; exact b6 j hj, by rw [a6 143 (by omega)]; exact w43, by rw [a6 144 (by omega)]; exact w44⟩) | exact R_retv fx_57_72 rfl (K g5 wfr w8 ⟨w1, w2, fun j hj => by rw [if_pos (by omega)]; exact a5 j hj, w43, w44⟩)
    · refine R_ifeq fx_57_64 (by decide) (fun _ => ?_) (fun h => absurd h (by decide))
      first | exact R_retv fx_57_72 rfl (K g6 (fun c q1 => by rw [a6 c (by omega)]; exact wfr c q1) (by rw [a6 141 (by omega)]; exact w8) ⟨by rw [a6 141 (by omega)]; exact w1, by rw [a6 141 (by omega)]; exact w2, fun j hj => by rw [if_neg (by omega)]; exact b6 j hj, by rw [a6 143 (by omega)]; exact w43, by rw [a6 144 (by omega)]; exact w44⟩) | exact R_retv fx_57_72 rfl (K g5 wfr w8 ⟨w1, w2, fun j hj => by rw [if_pos (by omega)]; exact a5 j hj, w43, w44⟩)
  · have hP2 := hP.resolve_left hc
    exact R_retv fx_57_7 rfl (K f (fun _ _ => rfl) hP2.1 hP2.2)
end CU
