/-! ===== what is left out: addPair, seek, lacks ===== -/
section SE3
variable {L : Nat} {f : xF} {Q : List xV → xF → Prop} {G : Nat → Int} {P : Nat → Nat → Nat → Prop}
theorem C_85_r {u k : Nat} {B : Int} (hV : VG G) (hP : BP G P (2 * k)) (hk : k < 4) (hu : u < 4096) (h143 : ∀ s r, s < 8 → r < 12 → f 143 (s * 12 + r) = csG G s r) (h144 : ∀ k r q, k < 4 → r < 12 → q < 12 → f 144 ((k * 12 + r) * 12 + q) = cpG G k r q) (hL : ∀ v, v < u → Lst (WV P v) 268435456 (f 145 v)) (K : ∀ (a b : Int), xok a → Lge (AP G P k u 12) a → Rf (SHL L) 85 105 [some (.inr 142), some (.inr 145), some (.inl ((bset (frG G) 12 : Nat) : Int)), some (.inl (k : Int)), some (.inl B), some (.inl (u : Int)), some (.inl a), some (.inl b)] [] f Q) : ∀ (n m : Nat) (a : Int), m + n = 12 → xok a → Lge (AP G P k u m) a → Rf (SHL L) 85 59 [some (.inr 142), some (.inr 145), some (.inl ((bset (frG G) 12 : Nat) : Int)), some (.inl (k : Int)), some (.inl B), some (.inl (u : Int)), some (.inl a), some (.inl (m : Int))] [] f Q := by
  intro n
  induction n with
  | zero =>
    intro m a hm ha hA
    have hmj : m = 12 := by omega
    subst hmj
    refine R_il fx_85_59 rfl ?_
    refine R_push fx_85_61 ?_
    refine R_icge fx_85_63 (by omega) (fun hc => ?_) (fun hc => by omega)
    exact K _ _ ha hA
  | succ n ih =>
    intro m a hm ha hA
    have hle : u / 2 ^ m ≤ u := Nat.div_le_self _ _
    have hb1 : (u / 2 ^ m &&& 1) ≤ 1 := Nat.and_le_right
    have hb := bit_eq (s := u) (r := m)
    have hp2 := p2b m (by omega)
    have hpw := pw12 (show m < 12 by omega)
    have hxl := xor_lt hu (show m < 12 by omega)
    refine R_il fx_85_59 rfl ?_
    refine R_push fx_85_61 ?_
    refine R_icge fx_85_63 (by omega) (fun hc => by omega) (fun hc => ?_)
    refine R_il fx_85_66 rfl ?_
    refine R_il fx_85_68 rfl ?_
    refine R_bin fx_85_70 (xb_shr (by omega) (by omega)) ?_
    refine R_push fx_85_71 ?_
    refine R_bin fx_85_72 (xb_and (y := 1) (by omega) (by omega)) ?_
    refine R_push fx_85_73 ?_
    refine R_icne fx_85_74 (by omega) (fun hc => ?_) (fun hc => ?_)
    · refine R_inc fx_85_99 rfl ?_
      refine R_goto fx_85_102 ?_
      exact ih (m + 1) a (by omega) ha (hA.congr (AP_no (by cases h9 : u.testBit m with
        | false => rfl
        | true => exact absurd (hb.mpr h9) hc)))
    · refine R_il fx_85_77 rfl ?_
      refine R_al fx_85_79 rfl (by omega) ?_
      refine R_al fx_85_80 rfl (by omega) ?_
      refine R_il fx_85_81 rfl ?_
      refine R_push fx_85_83 ?_
      refine R_il fx_85_84 rfl ?_
      refine R_bin fx_85_86 (xb_shl (x := 1) (by omega) (by omega)) ?_
      refine R_bin fx_85_87 (xb_xor (by omega) (by omega)) ?_
      rw [Nat.one_mul]
      refine R_il fx_85_88 rfl ?_
      refine R_il fx_85_89 rfl ?_
      refine R_cs fx_85_91 rfl rfl rfl rfl ?_
      have hum := hb.mp hc
      have hlt := xor_ltu hum
      refine C_87 (o := u ^^^ 2 ^ m) (k := k) (r := m) rfl rfl rfl hV hP hk (by omega) hxl h143 h144 (fun v hv => hL v (by omega)) (fun z hz1 hz2 => ?_)
      refine R_min fx_85_94 ha hz1 ⟨by decide, by decide, Nat.le_of_ble_eq_true rfl⟩ ?_
      refine R_is fx_85_97 ?_
      refine R_inc fx_85_99 rfl ?_
      refine R_goto fx_85_102 ?_
      refine ih (m + 1) _ (by omega) (by split <;> assumption) (hA.join hz2 (fun k hk9 => AP_b hP hk hk9) (fun k hk9 => WR_b hP hk hk9) (AP_yes hum))
theorem C_85 {k2 : Int} {k : Nat} (ek : k2 = k) (hV : VG G) (hP : BP G P (2 * k)) (hk : k < 4) (hm : mbG G k = true) (h143 : ∀ s r, s < 8 → r < 12 → f 143 (s * 12 + r) = csG G s r) (h144 : ∀ k r q, k < 4 → r < 12 → q < 12 → f 144 ((k * 12 + r) * 12 + q) = cpG G k r q) (hL : LT f P) (K : ∀ g : xF, (∀ c, c ≠ 145 → g c = f c) → LT g (cmp P (KSt G k)) → Q [] g) : Rf (SHL L) 85 0 (xloc 85 [.inr 142, .inr 145, .inl ((bset (frG G) 12 : Nat) : Int), .inl k2]) [] f Q := by
  subst ek
  have hfl : bset (frG G) 12 < 4096 := bset_lt (frG G) 12
  have hP2 := BP_pair hV hP
  have hp := pw_k hk
  have emp : ∀ u, u < 4096 → (¬ sub u (bset (frG G) 12) ∨ 2 * k + 2 < popc u 12) → Lst (WV (cmp P (KSt G k)) u) 268435456 (f 145 u) := fun u hu h => by
    refine Or.inl ⟨?_, fun k => WV_no hP2 h⟩
    exact (hL u hu).far_or.resolve_right (WV_no hP (h.imp id (fun z => by omega)))
  have loop : ∀ (n : Nat) (x : Int) (X Y : Option xV) (g : xF), x = (n : Int) - 1 → n ≤ bset (frG G) 12 + 1 → (∀ c, c ≠ 145 → g c = f c) → (∀ u, u < 4096 → n ≤ u → Lst (WV (cmp P (KSt G k)) u) 268435456 (g 145 u)) → (∀ u, u < n → g 145 u = f 145 u) → Rf (SHL L) 85 20 [some (.inr 142), some (.inr 145), some (.inl ((bset (frG G) 12 : Nat) : Int)), some (.inl (k : Int)), some (.inl (256 + ((2 ^ (2 * k) : Nat) : Int) + (256 + ((2 ^ (2 * k + 1) : Nat) : Int)))), some (.inl x), X, Y] [] g Q := by
    intro n
    induction n with
    | zero =>
      intro x X Y g hx hn hA hN hO
      refine R_il fx_85_20 rfl ?_
      refine R_iflt fx_85_22 (by omega) (fun hc => ?_) (fun hc => by omega)
      exact R_retv fx_85_122 rfl (K g hA (fun u hu => hN u hu (by omega)))
    | succ u ih =>
      intro x X Y g hx hn hA hN hO
      have hx2 : x = (u : Int) := by omega
      subst hx2
      have hpl : popc u 12 ≤ 12 := popc_le 12
      have hzl : u ^^^ (u &&& bset (frG G) 12) < 4096 := andn_lt (by omega)
      have eu : g 145 (u : Int).toNat = f 145 u := by rw [Int.toNat_natCast]; exact hO u (by omega)
      have hub := LT_b hP (by omega) hL (show u < 4096 by omega)
      have done : ∀ (X2 Y2 : Option xV) (g2 : xF), (∀ c, c ≠ 145 → g2 c = f c) → (∀ j, j ≠ u → g2 145 j = g 145 j) → Lst (WV (cmp P (KSt G k)) u) 268435456 (g2 145 u) → Rf (SHL L) 85 20 [some (.inr 142), some (.inr 145), some (.inl ((bset (frG G) 12 : Nat) : Int)), some (.inl (k : Int)), some (.inl (256 + ((2 ^ (2 * k) : Nat) : Int) + (256 + ((2 ^ (2 * k + 1) : Nat) : Int)))), some (.inl ((u : Int) + -1)), X2, Y2] [] g2 Q := fun X2 Y2 g2 a1 a2 a3 => ih _ X2 Y2 g2 (by omega) (by omega) a1 (fun v hv hn9 => by
          by_cases e : v = u
          · subst e; exact a3
          · rw [a2 v e]; exact hN v hv (by omega)) (fun v hv => by rw [a2 v (by omega)]; exact hO v (by omega))
      by_cases hsub : sub u (bset (frG G) 12)
      case neg =>
        have hz : u ^^^ (u &&& bset (frG G) 12) ≠ 0 := fun z => hsub (andn_zero.mp z)
        refine R_il fx_85_20 rfl ?_
        refine R_iflt fx_85_22 (by omega) (fun hc => by omega) (fun hc => ?_)
        refine R_il fx_85_25 rfl ?_
        refine R_il fx_85_27 rfl ?_
        refine R_push fx_85_28 ?_
        refine R_bin fx_85_29 (xb_not _) ?_
        refine R_bin fx_85_30 (xb_andn (by omega) (by omega)) ?_
        refine R_ifne fx_85_31 (by omega) (fun hc => ?_) (fun hc => by omega)
        refine R_inc fx_85_116 rfl ?_
        refine R_goto fx_85_119 ?_
        exact done _ _ g hA (fun _ _ => rfl) (by rw [hO u (by omega)]; exact emp u (by omega) (Or.inl hsub))
      have hz : u ^^^ (u &&& bset (frG G) 12) = 0 := andn_zero.mpr hsub
      by_cases hgt : 2 * k + 2 < popc u 12
      case pos =>
        refine R_il fx_85_20 rfl ?_
        refine R_iflt fx_85_22 (by omega) (fun hc => by omega) (fun hc => ?_)
        refine R_il fx_85_25 rfl ?_
        refine R_il fx_85_27 rfl ?_
        refine R_push fx_85_28 ?_
        refine R_bin fx_85_29 (xb_not _) ?_
        refine R_bin fx_85_30 (xb_andn (by omega) (by omega)) ?_
        refine R_ifne fx_85_31 (by omega) (fun hc => by omega) (fun hc => ?_)
        refine R_il fx_85_34 rfl ?_
        refine R_cs fx_85_36 rfl rfl rfl rfl ?_
        refine C_31 (by omega) ?_
        refine R_push fx_85_39 ?_
        refine R_il fx_85_40 rfl ?_
        refine R_mul fx_85_41 ?_
        refine R_push fx_85_42 ?_
        refine R_add fx_85_43 ?_
        refine R_icgt fx_85_44 (by omega) (fun hc => ?_) (fun hc => by omega)
        refine R_inc fx_85_116 rfl ?_
        refine R_goto fx_85_119 ?_
        exact done _ _ g hA (fun _ _ => rfl) (by rw [hO u (by omega)]; exact emp u (by omega) (Or.inr hgt))
      refine R_il fx_85_20 rfl ?_
      refine R_iflt fx_85_22 (by omega) (fun hc => by omega) (fun hc => ?_)
      refine R_il fx_85_25 rfl ?_
      refine R_il fx_85_27 rfl ?_
      refine R_push fx_85_28 ?_
      refine R_bin fx_85_29 (xb_not _) ?_
      refine R_bin fx_85_30 (xb_andn (by omega) (by omega)) ?_
      refine R_ifne fx_85_31 (by omega) (fun hc => by omega) (fun hc => ?_)
      refine R_il fx_85_34 rfl ?_
      refine R_cs fx_85_36 rfl rfl rfl rfl ?_
      refine C_31 (by omega) ?_
      refine R_push fx_85_39 ?_
      refine R_il fx_85_40 rfl ?_
      refine R_mul fx_85_41 ?_
      refine R_push fx_85_42 ?_
      refine R_add fx_85_43 ?_
      refine R_icgt fx_85_44 (by omega) (fun hc => by omega) (fun hc => ?_)
      refine R_al fx_85_47 rfl (by omega) ?_
      refine R_il fx_85_48 rfl ?_
      refine R_ia fx_85_50 (Or.inl kd_145) (by omega) (by rw [ln_145]; omega) (by omega) ?_
      refine R_il fx_85_51 rfl ?_
      refine R_add fx_85_53 ?_
      refine R_is fx_85_54 ?_
      refine R_push fx_85_56 ?_
      refine R_is fx_85_57 ?_
      rw [eu]
      refine C_85_r hV hP hk (by omega) (fun s r a b => by rw [hA 143 (by omega)]; exact h143 s r a b) (fun k r q a b c => by rw [hA 144 (by omega)]; exact h144 k r q a b c) (fun v hv => by rw [hO v (by omega)]; exact hL v (by omega)) (fun a b hao hac => ?_) 12 0 _ (by omega) (by omega) (((hL u (by omega)).shift (w := (256 + ((2 ^ (2 * k) : Nat) : Int) + (256 + ((2 ^ (2 * k + 1) : Nat) : Int)))) (by omega)).congr (fun v => ⟨fun z => Or.inl z, fun z => z.elim id (fun ⟨r, hr, _⟩ => absurd hr (by omega))⟩))
      refine R_al fx_85_105 rfl (by omega) ?_
      refine R_il fx_85_106 rfl ?_
      refine R_il fx_85_108 rfl ?_
      refine R_push fx_85_110 ?_
      refine R_min fx_85_112 hao (by omega) ⟨by decide, by decide, Nat.le_of_ble_eq_true rfl⟩ ?_
      refine R_ias fx_85_115 kd_145 (by omega) (by rw [ln_145]; omega) (by omega) ?_
      refine R_inc fx_85_116 rfl ?_
      refine R_goto fx_85_119 ?_
      rw [Int.toNat_natCast]
      refine done _ _ _ (fun c hc => by funext y; rw [xup_a hc]; exact congrFun (hA c hc) y) (fun j hj => by rw [xup_i hj]) ?_
      rw [xup_s]
      exact (hac.fin (fun k hk9 => AP_b hP hk hk9)).congr (AP_12 hV hm)
  refine R_push fx_85_0 ?_
  refine R_il fx_85_1 rfl ?_
  refine R_mul fx_85_2 ?_
  refine R_cs fx_85_3 rfl rfl rfl rfl ?_
  rw [show 2 * (k : Int) = ((2 * k : Nat) : Int) by omega]
  refine C_86 (by omega) ?_
  rw [Nat.one_mul]
  refine R_push fx_85_6 ?_
  refine R_il fx_85_7 rfl ?_
  refine R_mul fx_85_8 ?_
  refine R_push fx_85_9 ?_
  refine R_add fx_85_10 ?_
  refine R_cs fx_85_11 rfl rfl rfl rfl ?_
  rw [show 2 * (k : Int) + 1 = ((2 * k + 1 : Nat) : Int) by omega]
  refine C_86 (by omega) ?_
  rw [Nat.one_mul]
  refine R_add fx_85_14 ?_
  refine R_is fx_85_15 ?_
  refine R_il fx_85_17 rfl ?_
  refine R_is fx_85_18 ?_
  refine loop (bset (frG G) 12 + 1) _ _ _ f (by omega) (by omega) (fun _ _ => rfl) (fun u hu hn => emp u hu (Or.inl (fun z => ?_))) (fun _ _ => rfl)
  have := sub_le z
  omega
def lackA (G : Nat → Int) : Int → Prop := fun v => ∃ w : Int, ((∃ n m : Nat, RBt G 4 0 0 n m ∧ w = 1000 * (n : Int) + m) ∧ ∀ x, (∃ n m : Nat, RBt G 4 0 0 n m ∧ x = 1000 * (n : Int) + m) → w ≤ x) ∧ v = w % 1000
theorem LT_congr {g : xF} {P P2 : Nat → Nat → Nat → Prop} (h : LT g P) (he : ∀ u n m, P u n m ↔ P2 u n m) : LT g P2 := fun u hu => (h u hu).congr (fun v => ⟨fun ⟨n, m, a, b⟩ => ⟨n, m, (he u n m).mp a, b⟩, fun ⟨n, m, a, b⟩ => ⟨n, m, (he u n m).mpr a, b⟩⟩)
theorem C_84_e (hV : VG G) (hL : LT f (FPt G 4)) (K : ∀ v : Int, Lst (fun v => ∃ n m : Nat, RBt G 4 0 0 n m ∧ v = 256 * (n : Int) + m) 268435456 v → Q [.inl (v % 256)] f) : ∀ (t m : Nat) (v : Int), m + t = bset (frG G) 12 + 1 → Lst (fun v => ∃ u, u < m ∧ WV (FPt G 4) u v) 268435456 v → Rf (SHL L) 84 103 [some (.inr 4), some (.inr 142), some (.inr 145), some (.inl ((bset (frG G) 12 : Nat) : Int)), some (.inl v), some (.inl (m : Int))] [] f Q := by
  have hfl : bset (frG G) 12 < 4096 := bset_lt (frG G) 12
  have hP := BP_F hV 4
  have hb : ∀ (m : Nat) (v : Int), Lst (fun v => ∃ u, u < m ∧ WV (FPt G 4) u v) 268435456 v → (0 ≤ v ∧ v ≤ 268435456) := fun m v h => by
    rcases h.far_or with z | ⟨u, _, z⟩
    · omega
    · have := WV_b hP (by omega) z; omega
  intro t
  induction t with
  | zero =>
    intro m v hm hv
    have hvb := hb m v hv
    have hv2 := hv.congr (Q := fun v => ∃ n m : Nat, RBt G 4 0 0 n m ∧ v = 256 * (n : Int) + m) (fun v => ⟨fun ⟨u, _, n, m, a, b⟩ => ⟨n, m, FR.mp ⟨u, a⟩, b⟩, fun ⟨n, m, a, b⟩ => by
      obtain ⟨u, hu⟩ := FR.mpr a
      have h9 := hP u n m hu
      have := sub_le h9.2.1
      exact ⟨u, by omega, n, m, hu, b⟩⟩)
    refine R_il fx_84_103 rfl ?_
    refine R_il fx_84_105 rfl ?_
    refine R_icgt fx_84_106 (by omega) (fun hc => ?_) (fun hc => by omega)
    refine R_il fx_84_126 rfl ?_
    refine R_push fx_84_128 ?_
    refine R_bin fx_84_131 (xb_rem (by omega) (by omega) (by omega) (by omega)) ?_
    exact R_ret fx_84_132 (Or.inl rfl) (K v hv2)
  | succ t ih =>
    intro m v hm hv
    have hvb := hb m v hv
    have hfb := LT_b hP (by omega) hL (show m < 4096 by omega)
    have efm : f 145 (m : Int).toNat = f 145 m := by rw [Int.toNat_natCast]
    refine R_il fx_84_103 rfl ?_
    refine R_il fx_84_105 rfl ?_
    refine R_icgt fx_84_106 (by omega) (fun hc => by omega) (fun hc => ?_)
    refine R_il fx_84_109 rfl ?_
    refine R_al fx_84_111 rfl (by omega) ?_
    refine R_il fx_84_112 rfl ?_
    refine R_ia fx_84_114 (Or.inl kd_145) (by omega) (by rw [ln_145]; omega) (by omega) ?_
    rw [efm]
    refine R_min fx_84_115 (by omega) (by omega) ⟨by decide, by decide, Nat.le_of_ble_eq_true rfl⟩ ?_
    refine R_is fx_84_118 ?_
    refine R_inc fx_84_120 rfl ?_
    refine R_goto fx_84_123 ?_
    refine ih (m + 1) _ (by omega) (hv.join (hL m (by omega)) (fun k ⟨u, _, z⟩ => by have := WV_b hP (by omega) z; omega) (fun k z => by have := WV_b hP (by omega) z; omega) (fun k => ⟨fun ⟨u, hu, z⟩ => ?_, fun z => ?_⟩))
    · by_cases e : u = m
      · subst e; exact Or.inr z
      · exact Or.inl ⟨u, by omega, z⟩
    · rcases z with ⟨u, hu, z⟩ | z
      · exact ⟨u, by omega, z⟩
      · exact ⟨m, by omega, z⟩
theorem C_84 (hV : VG G) (hS : Sg f 4 G) (h143 : ∀ s r, s < 8 → r < 12 → f 143 (s * 12 + r) = csG G s r) (h144 : ∀ k r q, k < 4 → r < 12 → q < 12 → f 144 ((k * 12 + r) * 12 + q) = cpG G k r q) (K : ∀ (g : xF) (v : Int), (∀ c, c ≠ 145 → g c = f c) → Lst (fun v => ∃ n m : Nat, RBt G 4 0 0 n m ∧ v = 256 * (n : Int) + m) 268435456 v → Q [.inl (v % 256)] g) : Rf (SHL L) 84 0 (xloc 84 [.inr 4, .inr 142, .inr 145]) [] f Q := by
  have hfl : bset (frG G) 12 < 4096 := bset_lt (frG G) 12
  have loop : ∀ (n k : Nat) (X : Option xV) (g : xF), k + n = 4 → (∀ c, c ≠ 145 → g c = f c) → LT g (FPt G k) → Rf (SHL L) 84 18 [some (.inr 4), some (.inr 142), some (.inr 145), some (.inl ((bset (frG G) 12 : Nat) : Int)), some (.inl (k : Int)), X] [] g Q := by
    intro n
    induction n with
    | zero =>
      intro k X g hk hA hL
      have hkj : k = 4 := by omega
      subst hkj
      refine R_il fx_84_18 rfl ?_
      refine R_push fx_84_20 ?_
      refine R_icge fx_84_21 (by omega) (fun hc => ?_) (fun hc => by omega)
      refine R_push fx_84_96 ?_
      refine R_is fx_84_98 ?_
      refine R_push fx_84_100 ?_
      refine R_is fx_84_101 ?_
      exact C_84_e hV hL (fun v hv => K g v hA hv) (bset (frG G) 12 + 1) 0 _ (by omega) (Or.inl ⟨rfl, fun v ⟨u, hu, _⟩ => absurd hu (by omega)⟩)
    | succ n ih =>
      intro k X g hk hA hL
      have hSg : Sg g 4 G := hS.kept (fun c _ _ => hA c (by omega))
      have sgk : ∀ g2 : xF, (∀ c, c ≠ 145 → g2 c = g c) → Sg g2 4 G := fun g2 h => hSg.kept (fun c _ _ => h c (by omega))
      have e7 : g 7 (k : Int).toNat = G (12 + k) := by rw [Int.toNat_natCast]; exact hSg.2.2.1 k (by omega)
      have e8 : g 8 (k : Int).toNat = G (16 + k) := by rw [Int.toNat_natCast]; exact hSg.2.2.2.1 k (by omega)
      have e6 : g 6 (2 * (k : Int)).toNat = G (4 + 2 * k) := by rw [show (2 * (k : Int)).toNat = 2 * k by omega]; exact hSg.2.1 _ (by omega)
      have e5 : g 6 (2 * (k : Int) + 1).toNat = G (4 + (2 * k + 1)) := by rw [show (2 * (k : Int) + 1).toNat = 2 * k + 1 by omega]; exact hSg.2.1 _ (by omega)
      have hPk := BP_F hV k
      have h143g : ∀ g2 : xF, (∀ c, c ≠ 145 → g2 c = f c) → ∀ s r, s < 8 → r < 12 → g2 143 (s * 12 + r) = csG G s r := fun g2 h s r a b => by rw [h 143 (by omega)]; exact h143 s r a b
      have h144g : ∀ g2 : xF, (∀ c, c ≠ 145 → g2 c = f c) → ∀ k r q, k < 4 → r < 12 → q < 12 → g2 144 ((k * 12 + r) * 12 + q) = cpG G k r q := fun g2 h k r q a b c => by rw [h 144 (by omega)]; exact h144 k r q a b c
      have q6 : ∀ g2 : xF, (∀ c, c ≠ 145 → g2 c = g c) → g2 6 (2 * (k : Int)).toNat = G (4 + 2 * k) := fun g2 h => by rw [h 6 (by omega)]; exact e6
      have q5 : ∀ g2 : xF, (∀ c, c ≠ 145 → g2 c = g c) → g2 6 (2 * (k : Int) + 1).toNat = G (4 + (2 * k + 1)) := fun g2 h => by rw [h 6 (by omega)]; exact e5
      have q7 : ∀ g2 : xF, (∀ c, c ≠ 145 → g2 c = g c) → g2 7 (k : Int).toNat = G (12 + k) := fun g2 h => by rw [h 7 (by omega)]; exact e7
      have q8 : ∀ g2 : xF, (∀ c, c ≠ 145 → g2 c = g c) → g2 8 (k : Int).toNat = G (16 + k) := fun g2 h => by rw [h 8 (by omega)]; exact e8
      cases hmb : mbG G k with
      | true =>
        have hd := of_decide_eq_true (show decide _ = true from hmb)
        refine R_il fx_84_18 rfl ?_
        refine R_push fx_84_20 ?_
        refine R_icge fx_84_21 (by omega) (fun hc => by omega) (fun hc => ?_)
        refine R_al fx_84_24 rfl (by omega) ?_
        refine R_il fx_84_25 rfl ?_
        refine R_cv fx_84_27 rfl rfl rfl rfl kd_4 ?_
        refine C_60 (by omega) (hV.w hSg) (hV.b hSg) (fun hc => ?_) (fun hc => absurd ⟨⟨by omega, by omega⟩, by rw [e5, e6, e7, e8]; exact hd⟩ hc)
        refine R_ifeq fx_84_30 (by decide) (fun h => absurd h (by decide)) (fun _ => ?_)
        refine R_al fx_84_33 rfl (by omega) ?_
        refine R_al fx_84_34 rfl (by omega) ?_
        refine R_il fx_84_35 rfl ?_
        refine R_il fx_84_36 rfl ?_
        refine R_cs fx_84_38 rfl rfl rfl rfl ?_
        refine C_85 (k := k) rfl hV hPk (by omega) hmb (h143g g hA) (h144g g hA) hL (fun g2 a2 l2 => ?_)
        have hA2 : ∀ c, c ≠ 145 → g2 c = f c := fun c hc => by rw [a2 c hc]; exact hA c hc
        refine R_push fx_84_41 ?_
        refine R_il fx_84_42 rfl ?_
        refine R_mul fx_84_44 ?_
        refine R_is fx_84_45 ?_
        refine R_il fx_84_47 rfl ?_
        refine R_push fx_84_49 ?_
        refine R_il fx_84_50 rfl ?_
        refine R_mul fx_84_52 ?_
        refine R_push fx_84_53 ?_
        refine R_add fx_84_54 ?_
        refine R_icgt fx_84_55 (by omega) (fun hc => by omega) (fun hc => ?_)
        refine R_al fx_84_58 rfl (by omega) ?_
        refine R_il fx_84_59 rfl ?_
        refine R_cv fx_84_61 rfl rfl rfl rfl kd_4 ?_
        refine C_33 (by omega) (hV.w (sgk g2 a2)) (fun hc9 => ?_) (fun hc9 => absurd ⟨⟨by omega, by omega⟩, by rw [q6 g2 a2]; exact hd.2.1⟩ hc9)
        refine R_ifeq fx_84_64 (by decide) (fun h => absurd h (by decide)) (fun _ => ?_)
        refine R_al fx_84_67 rfl (by omega) ?_
        refine R_il fx_84_68 rfl ?_
        refine R_cv fx_84_70 rfl rfl rfl rfl kd_4 ?_
        refine C_60 (by omega) (hV.w (sgk g2 a2)) (hV.b (sgk g2 a2)) (fun hc9 => ?_) (fun hc9 => absurd ⟨⟨by omega, by omega⟩, by rw [q5 g2 a2, q6 g2 a2, q7 g2 a2, q8 g2 a2]; exact hd⟩ hc9)
        refine R_ifne fx_84_73 (by decide) (fun _ => ?_) (fun h => absurd h (by decide))
        refine R_inc fx_84_84 rfl ?_
        refine R_goto fx_84_87 ?_
        refine R_il fx_84_47 rfl ?_
        refine R_push fx_84_49 ?_
        refine R_il fx_84_50 rfl ?_
        refine R_mul fx_84_52 ?_
        refine R_push fx_84_53 ?_
        refine R_add fx_84_54 ?_
        refine R_icgt fx_84_55 (by omega) (fun hc => by omega) (fun hc => ?_)
        refine R_al fx_84_58 rfl (by omega) ?_
        refine R_il fx_84_59 rfl ?_
        refine R_cv fx_84_61 rfl rfl rfl rfl kd_4 ?_
        refine C_33 (by omega) (hV.w (sgk g2 a2)) (fun hc9 => ?_) (fun hc9 => absurd ⟨⟨by omega, by omega⟩, by rw [q5 g2 a2]; exact hd.2.2⟩ hc9)
        refine R_ifeq fx_84_64 (by decide) (fun h => absurd h (by decide)) (fun _ => ?_)
        refine R_al fx_84_67 rfl (by omega) ?_
        refine R_il fx_84_68 rfl ?_
        refine R_cv fx_84_70 rfl rfl rfl rfl kd_4 ?_
        refine C_60 (by omega) (hV.w (sgk g2 a2)) (hV.b (sgk g2 a2)) (fun hc9 => ?_) (fun hc9 => absurd ⟨⟨by omega, by omega⟩, by rw [q5 g2 a2, q6 g2 a2, q7 g2 a2, q8 g2 a2]; exact hd⟩ hc9)
        refine R_ifne fx_84_73 (by decide) (fun _ => ?_) (fun h => absurd h (by decide))
        refine R_inc fx_84_84 rfl ?_
        refine R_goto fx_84_87 ?_
        refine R_il fx_84_47 rfl ?_
        refine R_push fx_84_49 ?_
        refine R_il fx_84_50 rfl ?_
        refine R_mul fx_84_52 ?_
        refine R_push fx_84_53 ?_
        refine R_add fx_84_54 ?_
        refine R_icgt fx_84_55 (by omega) (fun hc => ?_) (fun hc => by omega)
        refine R_inc fx_84_90 rfl ?_
        refine R_goto fx_84_93 ?_
        exact ih (k + 1) _ g2 (by omega) hA2 l2
      | false =>
        have hnd := of_decide_eq_false hmb
        have step : ∀ (P : Nat → Nat → Nat → Prop) (s : Nat) (g2 : xF), s < 8 → wsG G s = false → LT g2 P → LT g2 (cmp P (SSt G s)) := fun P s g2 hs hw h => LT_congr h (fun u n m => by
          have e1 : nw G s = 0 := by unfold nw; rw [hw]; rfl
          have e2 : mw G s = 0 := by unfold mw; rw [hw]; rfl
          constructor
          · intro z; exact ⟨u, n, m, 0, 0, z, Or.inl ⟨rfl, e1.symm, e2.symm⟩, rfl, rfl⟩
          · rintro ⟨u1, n1, m1, n2, m2, z1, z2, rfl, rfl⟩
            rcases z2 with ⟨rfl, rfl, rfl⟩ | ⟨z3, _⟩
            · rw [e1, e2]; exact z1
            · rw [hw] at z3; exact absurd z3 (by decide))
        have fin : ∀ (g2 : xF) (Y : Option xV), (∀ c, c ≠ 145 → g2 c = f c) → LT g2 (cmp (cmp (FPt G k) (SSt G (2 * k))) (SSt G (2 * k + 1))) → Rf (SHL L) 84 90 [some (.inr 4), some (.inr 142), some (.inr 145), some (.inl ((bset (frG G) 12 : Nat) : Int)), some (.inl (k : Int)), Y] [] g2 Q := fun g2 Y a b => by
          refine R_inc fx_84_90 rfl ?_
          refine R_goto fx_84_93 ?_
          refine ih (k + 1) Y g2 (by omega) a (LT_congr b (fun u n m => ⟨?_, ?_⟩))
          · rintro ⟨u2, n3, m3, n4, m4, ⟨u1, n1, m1, n2, m2, z1, z2, rfl, rfl⟩, z4, rfl, rfl⟩
            exact ⟨u1, n1, m1, n2 + n4, m2 + m4, z1, (SS2 hV (by omega) hmb).mp ⟨u2, n2, m2, n4, m4, z2, z4, rfl, rfl⟩, by omega, by omega⟩
          · rintro ⟨u1, n1, m1, n5, m5, z1, z2, rfl, rfl⟩
            obtain ⟨u2, n2, m2, n4, m4, y1, y2, rfl, rfl⟩ := (SS2 hV (by omega) hmb).mpr z2
            exact ⟨u2, n1 + n2, m1 + m2, n4, m4, ⟨u1, n1, m1, n2, m2, z1, y1, rfl, rfl⟩, y2, by omega, by omega⟩
        have t1 : ∀ (g2 : xF), (∀ c, c ≠ 145 → g2 c = f c) → LT g2 (cmp (FPt G k) (SSt G (2 * k))) → Rf (SHL L) 84 47 [some (.inr 4), some (.inr 142), some (.inr 145), some (.inl ((bset (frG G) 12 : Nat) : Int)), some (.inl (k : Int)), some (.inl (2 * (k : Int) + 1))] [] g2 Q := fun g2 hA2 l2 => by
          have a2 : ∀ c, c ≠ 145 → g2 c = g c := fun c hc => by rw [hA2 c hc, hA c hc]
          have hP1 := BP_slot (s := 2 * k) hV hPk
          refine R_il fx_84_47 rfl ?_
          refine R_push fx_84_49 ?_
          refine R_il fx_84_50 rfl ?_
          refine R_mul fx_84_52 ?_
          refine R_push fx_84_53 ?_
          refine R_add fx_84_54 ?_
          refine R_icgt fx_84_55 (by omega) (fun hc => by omega) (fun hc => ?_)
          refine R_al fx_84_58 rfl (by omega) ?_
          refine R_il fx_84_59 rfl ?_
          refine R_cv fx_84_61 rfl rfl rfl rfl kd_4 ?_
          refine C_33 (by omega) (hV.w (sgk g2 a2)) (fun hc9 => ?_) (fun hc9 => ?_) <;> rw [q5 g2 a2] at hc9
          · refine R_ifeq fx_84_64 (by decide) (fun h => absurd h (by decide)) (fun _ => ?_)
            refine R_al fx_84_67 rfl (by omega) ?_
            refine R_il fx_84_68 rfl ?_
            refine R_cv fx_84_70 rfl rfl rfl rfl kd_4 ?_
            refine C_60 (by omega) (hV.w (sgk g2 a2)) (hV.b (sgk g2 a2)) (fun hd9 => absurd hd9.2 (by rw [q5 g2 a2, q6 g2 a2, q7 g2 a2, q8 g2 a2]; exact hnd)) (fun hd9 => ?_)
            refine R_ifne fx_84_73 (by decide) (fun h => absurd h (by decide)) (fun _ => ?_)
            refine R_al fx_84_76 rfl (by omega) ?_
            refine R_al fx_84_77 rfl (by omega) ?_
            refine R_il fx_84_78 rfl ?_
            refine R_il fx_84_79 rfl ?_
            refine R_cs fx_84_81 rfl rfl rfl rfl ?_
            refine C_88 (s := 2 * k + 1) (by omega) hV hP1 (by omega) (decide_eq_true hc9.2) (h143g g2 hA2) l2 (fun g3 a3 l3 => ?_)
            refine R_inc fx_84_84 rfl ?_
            refine R_goto fx_84_87 ?_
            refine R_il fx_84_47 rfl ?_
            refine R_push fx_84_49 ?_
            refine R_il fx_84_50 rfl ?_
            refine R_mul fx_84_52 ?_
            refine R_push fx_84_53 ?_
            refine R_add fx_84_54 ?_
            refine R_icgt fx_84_55 (by omega) (fun hc => ?_) (fun hc => by omega)
            exact fin g3 _ (fun c hc => by rw [a3 c hc]; exact hA2 c hc) l3
          · refine R_ifeq fx_84_64 (by decide) (fun _ => ?_) (fun h => absurd h (by decide))
            refine R_inc fx_84_84 rfl ?_
            refine R_goto fx_84_87 ?_
            refine R_il fx_84_47 rfl ?_
            refine R_push fx_84_49 ?_
            refine R_il fx_84_50 rfl ?_
            refine R_mul fx_84_52 ?_
            refine R_push fx_84_53 ?_
            refine R_add fx_84_54 ?_
            refine R_icgt fx_84_55 (by omega) (fun hc => ?_) (fun hc => by omega)
            exact fin g2 _ hA2 (step _ _ g2 (by omega) (decide_eq_false (fun z => hc9 ⟨by omega, z⟩)) l2)
        refine R_il fx_84_18 rfl ?_
        refine R_push fx_84_20 ?_
        refine R_icge fx_84_21 (by omega) (fun hc => by omega) (fun hc => ?_)
        refine R_al fx_84_24 rfl (by omega) ?_
        refine R_il fx_84_25 rfl ?_
        refine R_cv fx_84_27 rfl rfl rfl rfl kd_4 ?_
        refine C_60 (by omega) (hV.w hSg) (hV.b hSg) (fun hc => absurd hc.2 (by rw [e5, e6, e7, e8]; exact hnd)) (fun hc => ?_)
        refine R_ifeq fx_84_30 (by decide) (fun _ => ?_) (fun h => absurd h (by decide))
        refine R_push fx_84_41 ?_
        refine R_il fx_84_42 rfl ?_
        refine R_mul fx_84_44 ?_
        refine R_is fx_84_45 ?_
        refine R_il fx_84_47 rfl ?_
        refine R_push fx_84_49 ?_
        refine R_il fx_84_50 rfl ?_
        refine R_mul fx_84_52 ?_
        refine R_push fx_84_53 ?_
        refine R_add fx_84_54 ?_
        refine R_icgt fx_84_55 (by omega) (fun hc => by omega) (fun hc => ?_)
        refine R_al fx_84_58 rfl (by omega) ?_
        refine R_il fx_84_59 rfl ?_
        refine R_cv fx_84_61 rfl rfl rfl rfl kd_4 ?_
        refine C_33 (by omega) (hV.w hSg) (fun hc9 => ?_) (fun hc9 => ?_) <;> rw [e6] at hc9
        · refine R_ifeq fx_84_64 (by decide) (fun h => absurd h (by decide)) (fun _ => ?_)
          refine R_al fx_84_67 rfl (by omega) ?_
          refine R_il fx_84_68 rfl ?_
          refine R_cv fx_84_70 rfl rfl rfl rfl kd_4 ?_
          refine C_60 (by omega) (hV.w hSg) (hV.b hSg) (fun hd9 => absurd hd9.2 (by rw [e5, e6, e7, e8]; exact hnd)) (fun hd9 => ?_)
          refine R_ifne fx_84_73 (by decide) (fun h => absurd h (by decide)) (fun _ => ?_)
          refine R_al fx_84_76 rfl (by omega) ?_
          refine R_al fx_84_77 rfl (by omega) ?_
          refine R_il fx_84_78 rfl ?_
          refine R_il fx_84_79 rfl ?_
          refine R_cs fx_84_81 rfl rfl rfl rfl ?_
          refine C_88 (s := 2 * k) (by omega) hV hPk (by omega) (decide_eq_true hc9.2) (h143g g hA) hL (fun g3 a3 l3 => ?_)
          refine R_inc fx_84_84 rfl ?_
          refine R_goto fx_84_87 ?_
          exact t1 g3 (fun c hc => by rw [a3 c hc]; exact hA c hc) l3
        · refine R_ifeq fx_84_64 (by decide) (fun _ => ?_) (fun h => absurd h (by decide))
          refine R_inc fx_84_84 rfl ?_
          refine R_goto fx_84_87 ?_
          exact t1 g hA (step _ _ g (by omega) (decide_eq_false (fun z => hc9 ⟨by omega, z⟩)) hL)
  refine R_al fx_84_0 rfl (by omega) ?_
  refine R_cv fx_84_1 rfl rfl rfl rfl kd_4 ?_
  refine C_30 (hV.m hS) (hV.p hS) ?_
  rw [fr_eq hS]
  refine R_is fx_84_4 ?_
  refine R_al fx_84_5 rfl (by omega) ?_
  refine R_push fx_84_6 ?_
  refine R_cs fx_84_8 rfl rfl rfl rfl ?_
  refine C_3 (N := 4096) (by omega) kd_145 ln_145 (by omega) (fun g2 a2 b2 => ?_)
  refine R_al fx_84_11 rfl (by omega) ?_
  refine R_push fx_84_12 ?_
  refine R_push fx_84_13 ?_
  refine R_ias fx_84_14 kd_145 (by omega) (by rw [ln_145]; omega) (by omega) ?_
  refine R_push fx_84_15 ?_
  refine R_is fx_84_16 ?_
  refine loop 4 0 _ _ (by omega) (fun c hc => by funext y; rw [xup_a hc, b2 c hc]) (fun u hu => ?_)
  rw [show (0 : Int).toNat = 0 from rfl]
  by_cases e : u = 0
  · subst e; rw [xup_s]; exact Or.inr ⟨⟨0, 0, ⟨rfl, rfl, rfl⟩, rfl⟩, fun v ⟨n, m, _, h⟩ => by omega⟩
  · rw [xup_i e, a2 u hu]; exact Or.inl ⟨rfl, fun v ⟨n, m, ⟨z, _⟩, _⟩ => e z⟩
end SE3
