/-! ===== the plan: offer, fillBySlot, fillByPair ===== -/
theorem or_lt {u r : Nat} (hu : u < 4096) (hr : r < 12) : u ||| 2 ^ r < 4096 := Nat.or_lt_two_pow (n := 12) hu (Nat.pow_lt_pow_right (by omega) hr)
theorem or_ne {u r : Nat} (h : u.testBit r = false) : u ||| 2 ^ r ≠ u := fun z => by
  have : (u ||| 2 ^ r).testBit r = true := by rw [bit_or]; simp
  rw [z, h] at this
  exact absurd this (by decide)
theorem or_gt {u r : Nat} (h : u.testBit r = false) : u < u ||| 2 ^ r := Nat.lt_of_le_of_ne Nat.left_le_or (fun z => or_ne h z.symm)
theorem and_not {a b : Bool} (h : true = (a && !b)) : b = false := by cases a <;> cases b <;> simp_all
theorem p2b : ∀ r : Nat, r < 12 → 1 * 2 ^ r < 2147483648 := by decide
theorem pw12 {r : Nat} (hr : r < 12) : 2 ^ r < 4096 := show 2 ^ r < 2 ^ 12 from Nat.pow_lt_pow_right (by omega) hr
section OF
variable {L : Nat} {f : xF} {Q : List xV → xF → Prop}
theorem C_68 {u2 t2 c : Int} {u t : Nat} {a b : List Int} (eu : u2 = u) (et : t2 = t) (hu : u < 4096) (ht : t < 4096) (hut : t ≠ u) (hc : c ≠ 268435456) (hcb : 0 ≤ c ∧ c ≤ 1000) (ha : sml a) (hb : sml b) (u1 : f 145 u = mn a) (u3 : f 146 u = ct a) (t1 : f 145 t = mn b) (t3 : f 146 t = ct b) (K : ∀ g : xF, (∀ c, c ≠ 145 → c ≠ 146 → g c = f c) → (∀ j, j ≠ u → g 145 j = f 145 j ∧ g 146 j = f 146 j) → g 145 u = mn (a ++ sumL c b) → g 146 u = ct (a ++ sumL c b) → Q [] g) : Rf (SHL L) 68 0 (xloc 68 [.inr 141, .inl u2, .inl t2, .inl c]) [] f Q := by
  subst eu et
  have ba := mn_b ha
  have bb := mn_b hb
  have eu1 : f 145 (u : Int).toNat = mn a := by rw [Int.toNat_natCast]; exact u1
  have et1 : f 145 (t : Int).toNat = mn b := by rw [Int.toNat_natCast]; exact t1
  have fm := fun h => of_mn (a := a) hc hb hcb h
  have fc := fun h => of_ct (a := a) hc hb hcb h
  refine R_al fx_68_0 rfl (by omega) ?_
  refine R_gr fx_68_1 kd_141 rfl rr_141_1 ?_
  refine R_il fx_68_4 rfl ?_
  refine R_ia fx_68_5 (Or.inl kd_145) (by omega) (by rw [ln_145]; omega) (by omega) ?_
  refine R_push fx_68_6 ?_
  refine R_icne fx_68_8 (by omega) (fun hn => ?_) (fun hn => ?_)
  · refine R_il fx_68_12 rfl ?_
    refine R_al fx_68_13 rfl (by omega) ?_
    refine R_gr fx_68_14 kd_141 rfl rr_141_1 ?_
    refine R_il fx_68_17 rfl ?_
    refine R_ia fx_68_18 (Or.inl kd_145) (by omega) (by rw [ln_145]; omega) (by omega) ?_
    refine R_add fx_68_19 ?_
    refine R_is fx_68_20 ?_
    refine R_il fx_68_22 rfl ?_
    refine R_al fx_68_24 rfl (by omega) ?_
    refine R_gr fx_68_25 kd_141 rfl rr_141_1 ?_
    refine R_il fx_68_28 rfl ?_
    refine R_ia fx_68_29 (Or.inl kd_145) (by omega) (by rw [ln_145]; omega) (by omega) ?_
    have hn2 : mn b ≠ 268435456 := by omega
    have fm2 := fm hn2
    have fc2 := fc hn2
    refine R_icge fx_68_30 (by omega) (fun hl => ?_) (fun hl => ?_)
    · refine R_il fx_68_48 rfl ?_
      refine R_al fx_68_50 rfl (by omega) ?_
      refine R_gr fx_68_51 kd_141 rfl rr_141_1 ?_
      refine R_il fx_68_54 rfl ?_
      refine R_ia fx_68_55 (Or.inl kd_145) (by omega) (by rw [ln_145]; omega) (by omega) ?_
      try simp only [xup_a (show (145 : Nat) ≠ 146 by omega), xup_a (show (146 : Nat) ≠ 145 by omega), xup_s]
      refine R_icne fx_68_56 (by omega) (fun he => ?_) (fun he => ?_)
      · refine R_retv fx_68_74 rfl (K f (fun _ _ _ => rfl) (fun _ _ => ⟨rfl, rfl⟩) ?_ ?_)
        · rw [fm2, if_neg (by omega)]; exact u1
        · rw [fc2, if_neg (by omega), if_neg (by omega)]; omega
      · refine R_al fx_68_59 rfl (by omega) ?_
        refine R_gr fx_68_60 kd_141 rfl rr_141_2 ?_
        refine R_il fx_68_63 rfl ?_
        refine R_dup2 fx_68_64 ?_
        refine R_ia fx_68_65 (Or.inl kd_146) (by omega) (by rw [ln_146]; omega) (by omega) ?_
        refine R_al fx_68_66 rfl (by omega) ?_
        refine R_gr fx_68_67 kd_141 rfl rr_141_2 ?_
        refine R_il fx_68_70 rfl ?_
        refine R_ia fx_68_71 (Or.inl kd_146) (by omega) (by rw [ln_146]; omega) (by omega) ?_
        refine R_add fx_68_72 ?_
        refine R_ias fx_68_73 kd_146 (by omega) (by rw [ln_146]; omega) (by omega) ?_
        rw [Int.toNat_natCast, Int.toNat_natCast]
        refine R_retv fx_68_74 rfl (K _ (fun c9 a9 b9 => ?_) (fun j h9 => ?_) ?_ ?_)
        · funext y; rw [xup_a b9]
        · rw [xup_a (by omega), xup_i h9]; exact ⟨rfl, rfl⟩
        · rw [xup_a (by omega), fm2, if_neg (by omega)]; exact u1
        · rw [xup_s, fc2, if_neg (by omega), if_pos (by omega), u3, t3]
    · refine R_al fx_68_33 rfl (by omega) ?_
      refine R_gr fx_68_34 kd_141 rfl rr_141_1 ?_
      refine R_il fx_68_37 rfl ?_
      refine R_il fx_68_38 rfl ?_
      refine R_ias fx_68_40 kd_145 (by omega) (by rw [ln_145]; omega) (by omega) ?_
      refine R_al fx_68_41 rfl (by omega) ?_
      refine R_gr fx_68_42 kd_141 rfl rr_141_2 ?_
      refine R_il fx_68_45 rfl ?_
      refine R_push fx_68_46 ?_
      refine R_ias fx_68_47 kd_146 (by omega) (by rw [ln_146]; omega) (by omega) ?_
      refine R_il fx_68_48 rfl ?_
      refine R_al fx_68_50 rfl (by omega) ?_
      refine R_gr fx_68_51 kd_141 rfl rr_141_1 ?_
      refine R_il fx_68_54 rfl ?_
      refine R_ia fx_68_55 (Or.inl kd_145) (by omega) (by rw [ln_145]; omega) (by omega) ?_
      try simp only [xup_a (show (145 : Nat) ≠ 146 by omega), xup_a (show (146 : Nat) ≠ 145 by omega), xup_s]
      refine R_icne fx_68_56 (by omega) (fun he => ?_) (fun he => ?_)
      · exfalso; omega
      · refine R_al fx_68_59 rfl (by omega) ?_
        refine R_gr fx_68_60 kd_141 rfl rr_141_2 ?_
        refine R_il fx_68_63 rfl ?_
        refine R_dup2 fx_68_64 ?_
        refine R_ia fx_68_65 (Or.inl kd_146) (by omega) (by rw [ln_146]; omega) (by omega) ?_
        refine R_al fx_68_66 rfl (by omega) ?_
        refine R_gr fx_68_67 kd_141 rfl rr_141_2 ?_
        refine R_il fx_68_70 rfl ?_
        refine R_ia fx_68_71 (Or.inl kd_146) (by omega) (by rw [ln_146]; omega) (by omega) ?_
        refine R_add fx_68_72 ?_
        refine R_ias fx_68_73 kd_146 (by omega) (by rw [ln_146]; omega) (by omega) ?_
        simp only [Int.toNat_natCast] at *
        simp only [xup_a (show (145 : Nat) ≠ 146 by omega), xup_a (show (146 : Nat) ≠ 145 by omega), xup_s, xup_i (show t ≠ u by omega)]
        refine R_retv fx_68_74 rfl (K _ (fun c9 a9 b9 => ?_) (fun j h9 => ?_) ?_ ?_)
        · funext y; rw [xup_a b9, xup_a b9, xup_a a9]
        · rw [xup_a (by omega), xup_a (by omega), xup_i h9, xup_i h9, xup_i h9, xup_a (by omega)]; exact ⟨rfl, rfl⟩
        · rw [xup_a (by omega), xup_a (by omega), xup_s, fm2, if_pos (by omega), t1]
        · rw [xup_s, fc2, if_pos (by omega), if_pos (by omega), t3]
  · refine R_retv fx_68_11 rfl (K f (fun _ _ _ => rfl) (fun _ _ => ⟨rfl, rfl⟩) ?_ ?_)
    · rw [of_no hb (by omega)]; exact u1
    · rw [of_no hb (by omega)]; exact u3
theorem C_67 {u2 l2 s2 : Int} {u lf s free : Nat} {o : CO} {F : Nat → List Int} (eu : u2 = u) (el : l2 = lf) (es : s2 = s) (ho : COk o free) (hu : u < 4096) (hlf : lf < 4096) (hs : s < 8) (hbit : ∀ r, r < 12 → lf.testBit r = (free.testBit r && !u.testBit r)) (h143 : ∀ r, r < 12 → f 143 (s * 12 + r) = o.cs s r) (hF : ∀ r, r < 12 → lf.testBit r = true → f 145 (u ||| 2 ^ r) = mn (F (u ||| 2 ^ r)) ∧ f 146 (u ||| 2 ^ r) = ct (F (u ||| 2 ^ r))) (hsm : ∀ v, sml (F v)) (hsm2 : ∀ m, m ≤ 12 → sml (pt (slotG (o.cs s) F u) m)) (h1 : f 145 u = 268435456) (h2 : f 146 u = 0) (K : ∀ g : xF, (∀ c, c ≠ 145 → c ≠ 146 → g c = f c) → (∀ j, j ≠ u → g 145 j = f 145 j ∧ g 146 j = f 146 j) → g 145 u = mn (pt (slotG (o.cs s) F u) 12) → g 146 u = ct (pt (slotG (o.cs s) F u) 12) → Q [] g) : Rf (SHL L) 67 0 (xloc 67 [.inr 141, .inl u2, .inl l2, .inl s2]) [] f Q := by
  subst eu el es
  have loop : ∀ (n m : Nat) (g : xF), m + n = 12 → (∀ c, c ≠ 145 → c ≠ 146 → g c = f c) → (∀ j, j ≠ u → g 145 j = f 145 j ∧ g 146 j = f 146 j) → g 145 u = mn (pt (slotG (o.cs s) F u) m) → g 146 u = ct (pt (slotG (o.cs s) F u) m) → Rf (SHL L) 67 3 [some (.inr 141), some (.inl (u : Int)), some (.inl (lf : Int)), some (.inl (s : Int)), some (.inl (m : Int))] [] g Q := by
    intro n
    induction n with
    | zero =>
      intro m g hm hA hB e1 e2
      have hmj : m = 12 := by omega
      subst hmj
      refine R_il fx_67_3 rfl ?_
      refine R_push fx_67_5 ?_
      refine R_icge fx_67_7 (by omega) (fun hc => ?_) (fun hc => by omega)
      exact R_retv fx_67_62 rfl (K g hA hB e1 e2)
    | succ n ih =>
      intro m g hm hA hB e1 e2
      have hle : lf / 2 ^ m ≤ lf := Nat.div_le_self _ _
      have hb1 : (lf / 2 ^ m &&& 1) ≤ 1 := Nat.and_le_right
      have hb := bit_eq (s := lf) (r := m)
      have hp2 := p2b m (by omega)
      have hpw := pw12 (show m < 12 by omega)
      have hbm := hbit m (by omega)
      have e143 : g 143 ((s : Int) * 12 + (m : Int)).toNat = o.cs s m := by rw [show ((s : Int) * 12 + (m : Int)).toNat = s * 12 + m by omega, hA 143 (by omega) (by omega)]; exact h143 m (by omega)
      have hcb := ho.cs s m hs (by omega)
      have no : slotG (o.cs s) F u m = [] → Rf (SHL L) 67 3 [some (.inr 141), some (.inl (u : Int)), some (.inl (lf : Int)), some (.inl (s : Int)), some (.inl ((m : Int) + 1))] [] g Q := fun h => ih (m + 1) g (by omega) hA hB (by rw [pt_succ, h, List.append_nil]; exact e1) (by rw [pt_succ, h, List.append_nil]; exact e2)
      refine R_il fx_67_3 rfl ?_
      refine R_push fx_67_5 ?_
      refine R_icge fx_67_7 (by omega) (fun hc => by omega) (fun hc => ?_)
      refine R_il fx_67_10 rfl ?_
      refine R_il fx_67_11 rfl ?_
      refine R_bin fx_67_13 (xb_shr (by omega) (by omega)) ?_
      refine R_push fx_67_14 ?_
      refine R_bin fx_67_15 (xb_and (y := 1) (by omega) (by omega)) ?_
      refine R_push fx_67_16 ?_
      refine R_icne fx_67_17 (by omega) (fun hc => ?_) (fun hc => ?_)
      · refine R_inc fx_67_56 rfl ?_
        refine R_goto fx_67_59 ?_
        refine no ?_
        have hlm : lf.testBit m = false := by cases h : lf.testBit m with
          | true => exact absurd (hb.mpr h) hc
          | false => rfl
        unfold slotG
        cases hum : u.testBit m with
        | true => rfl
        | false =>
          rw [hlm, hum] at hbm
          have hfm : free.testBit m = false := by simpa using hbm.symm
          rw [show o.cs s m = 268435456 from hcb.resolve_right (fun z => by rw [hfm] at z; exact absurd z.2.2 (by decide))]
          rfl
      · refine R_al fx_67_20 rfl (by omega) ?_
        refine R_gr fx_67_21 kd_141 rfl rr_141_0 ?_
        refine R_il fx_67_24 rfl ?_
        refine R_il fx_67_25 rfl ?_
        refine R_cv fx_67_27 rfl rfl rfl rfl kd_142 ?_
        refine C_62 (by omega) (by omega) ?_
        rw [e143]
        refine R_push fx_67_30 ?_
        refine R_iceq fx_67_32 (by omega) (fun hc2 => ?_) (fun hc2 => ?_)
        · refine R_inc fx_67_56 rfl ?_
          refine R_goto fx_67_59 ?_
          refine no ?_
          unfold slotG
          rw [hc2]
          unfold sumL
          simp
        · refine R_al fx_67_35 rfl (by omega) ?_
          refine R_il fx_67_36 rfl ?_
          refine R_il fx_67_37 rfl ?_
          refine R_push fx_67_38 ?_
          refine R_il fx_67_39 rfl ?_
          refine R_bin fx_67_41 (xb_shl (x := 1) (by omega) (by omega)) ?_
          refine R_bin fx_67_42 (xb_or (by omega) (by omega)) ?_
          refine R_al fx_67_43 rfl (by omega) ?_
          refine R_gr fx_67_44 kd_141 rfl rr_141_0 ?_
          refine R_il fx_67_47 rfl ?_
          refine R_il fx_67_48 rfl ?_
          refine R_cv fx_67_50 rfl rfl rfl rfl kd_142 ?_
          refine C_62 (by omega) (by omega) ?_
          rw [e143, Nat.one_mul]
          refine R_cv fx_67_53 rfl rfl rfl rfl kd_141 ?_
          have hlm := hb.mp hc
          have hum : u.testBit m = false := and_not (hlm ▸ hbm)
          obtain ⟨f1, f2⟩ := hF m (by omega) hlm
          have hne := or_ne hum
          have hsg : slotG (o.cs s) F u m = sumL (o.cs s m) (F (u ||| 2 ^ m)) := by unfold slotG; rw [hum]; rfl
          refine C_68 (a := pt (slotG (o.cs s) F u) m) (b := F (u ||| 2 ^ m)) rfl rfl hu (or_lt hu (by omega)) hne hc2 (by omega) (hsm2 m (by omega)) (hsm _) e1 e2 (by rw [(hB _ hne).1]; exact f1) (by rw [(hB _ hne).2]; exact f2) (fun g2 k1 k2 k3 k4 => ?_)
          refine R_inc fx_67_56 rfl ?_
          refine R_goto fx_67_59 ?_
          refine ih (m + 1) g2 (by omega) (fun c a b => by rw [k1 c a b]; exact hA c a b) (fun j h9 => by rw [(k2 j h9).1, (k2 j h9).2]; exact hB j h9) ?_ ?_
          · rw [pt_succ, hsg]; exact k3
          · rw [pt_succ, hsg]; exact k4
  refine R_push fx_67_0 ?_
  refine R_is fx_67_1 ?_
  exact loop 12 0 f (by omega) (fun _ _ _ => rfl) (fun _ _ => ⟨rfl, rfl⟩) h1 h2
end OF
