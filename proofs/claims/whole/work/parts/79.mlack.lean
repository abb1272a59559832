/-! ===== lacks; the model: lacks ===== -/
def Mn (P : Int → Prop) (v : Int) : Prop := P v ∧ ∀ x, P x → v ≤ x
def RVk (G : Nat → Int) (k u : Nat) (v : Int) : Prop := ∃ n m : Nat, RBt G (4 - k) k u n m ∧ v = 1000 * (n : Int) + m
def LkA (G : Nat → Int) (v : Int) : Prop := ∃ w, Mn (RVk G 0 0) w ∧ v = w % 1000
section MN
variable {P Q R : Int → Prop} {v w : Int}
theorem Mn.join (h : Mn P v) (h2 : Mn Q w) (he : ∀ k, R k ↔ P k ∨ Q k) : Mn R (if w < v then w else v) := by
  split
  · exact ⟨(he w).mpr (Or.inr h2.1), fun x hx => ((he x).mp hx).elim (fun z => by have := h.2 x z; omega) (h2.2 x)⟩
  · exact ⟨(he v).mpr (Or.inl h.1), fun x hx => ((he x).mp hx).elim (h.2 x) (fun z => by have := h2.2 x z; omega)⟩
theorem Mn.keep (h : Mn P v) (h2 : Mn Q w) (he : ∀ k, R k ↔ P k ∨ Q k) (hl : v ≤ w) : Mn R v := by
  have := h.join h2 he; rw [if_neg (by omega)] at this; exact this
theorem Mn.take (h : Mn P v) (h2 : Mn Q w) (he : ∀ k, R k ↔ P k ∨ Q k) (hl : w < v) : Mn R w := by
  have := h.join h2 he; rw [if_pos hl] at this; exact this
theorem Mn.congr (h : Mn P v) (he : ∀ k, P k ↔ Q k) : Mn Q v := ⟨(he v).mp h.1, fun x hx => h.2 x ((he x).mpr hx)⟩
theorem Mn.uniq (h : Mn P v) (h2 : Mn P w) : v = w := by have := h.2 w h2.1; have := h2.2 v h.1; omega
end MN
section RN
variable {G : Nat → Int}
def w1 (G : Nat → Int) (s : Nat) : Int := 1000 * (nw G s : Int) + (mw G s : Int)
theorem RBt_ex : ∀ (j k u : Nat), ∃ n m, RBt G j k u n m
  | 0, _, _ => ⟨0, 0, rfl, rfl⟩
  | j + 1, k, u => by
    obtain ⟨n, m, h⟩ := RBt_ex j (k + 1) u
    exact ⟨_, _, u, _, _, n, m, Or.inl ⟨rfl, rfl, rfl⟩, h, rfl, rfl⟩
theorem KSt_b {k u u' n m : Nat} (hk : k < 4) (h : KSt G k u u' n m) : n ≤ 2 ∧ m ≤ 512 := by
  have a := nw_b (G := G) (s := 2 * k)
  have b := nw_b (G := G) (s := 2 * k + 1)
  have c := two_s (2 * k) (by omega)
  have d := two_s (2 * k + 1) (by omega)
  rcases h with ⟨_, rfl, rfl⟩ | ⟨_, rfl, rfl, _⟩ | ⟨_, rfl, rfl, _⟩ | ⟨_, _, rfl, rfl, _⟩ <;> omega
theorem RBt_b : ∀ (j k u n m : Nat), j + k ≤ 4 → RBt G j k u n m → n ≤ 2 * j ∧ m ≤ 512 * j
  | 0, _, _, n, m, _, h => by obtain ⟨rfl, rfl⟩ := h; omega
  | j + 1, k, u, n, m, hj, ⟨u1, n1, m1, n2, m2, h1, h2, e1, e2⟩ => by
    have := KSt_b (by omega) h1
    have := RBt_b j (k + 1) u1 n2 m2 (by omega) h2
    omega
theorem RVk_b {k u : Nat} (hk : k ≤ 4) {v : Int} (h : RVk G k u v) : 0 ≤ v ∧ v ≤ 12000 := by
  obtain ⟨n, m, h1, rfl⟩ := h
  have := RBt_b _ _ _ _ _ (by omega) h1
  omega
theorem RVk_ex (k u : Nat) (hk : k ≤ 4) : ∃ w, Mn (RVk G k u) w := by
  obtain ⟨v, hv⟩ := lst_ex (RVk G k u) 0 (fun x hx => (RVk_b hk hx).1)
  rcases hv with ⟨_, hn⟩ | h
  · obtain ⟨n, m, h⟩ := RBt_ex (G := G) (4 - k) k u
    exact absurd ⟨n, m, h, rfl⟩ (hn _)
  · exact ⟨v, h⟩
theorem LkA_uniq {a b : Int} (h1 : LkA G a) (h2 : LkA G b) : a = b := by
  obtain ⟨w, hw, rfl⟩ := h1
  obtain ⟨x, hx, rfl⟩ := h2
  rw [hw.uniq hx]
theorem LkA_lay (hV : VG G) (h : mn (lev (coG G) 0 0) ≠ 268435456) : LkA G 0 := by
  have hl : lev (coG G) (2 * 0) 0 ≠ [] := fun z => h (by rw [show lev (coG G) 0 0 = [] from z]; rfl)
  have hr := lay_way hV 4 0 0 rfl hl
  exact ⟨0, ⟨⟨0, 0, hr, rfl⟩, fun x hx => (RVk_b (by omega) hx).1⟩, rfl⟩
theorem LkA_256 (hV : VG G) {v : Int} (h : Lst (fun v => ∃ n m : Nat, RBt G 4 0 0 n m ∧ v = 256 * (n : Int) + m) 268435456 v) : LkA G (v % 256) := by
  obtain ⟨w, hw⟩ := RVk_ex (G := G) 0 0 (by omega)
  have := lack_eq (Z := RBt G 4 0 0) (fun n m hz => by
    obtain ⟨u, hu⟩ := FR.mpr hz
    have := BP_F hV 4 u n m hu
    exact ⟨this.2.2.2.1, this.2.2.2.2⟩) h hw
  exact ⟨w, hw, this.1⟩
def shM (G : Nat → Int) (k u : Nat) (w v : Int) : Prop := ∃ x, RVk G (k + 1) u x ∧ v = x + w
def A1 (G : Nat → Int) (k u r : Nat) (v : Int) : Prop := wsG G (2 * k) = true ∧ csG G (2 * k) r ≠ 268435456 ∧ shM G k (u ||| 2 ^ r) (w1 G (2 * k + 1)) v
def A2 (G : Nat → Int) (k u r : Nat) (v : Int) : Prop := wsG G (2 * k + 1) = true ∧ csG G (2 * k + 1) r ≠ 268435456 ∧ shM G k (u ||| 2 ^ r) (w1 G (2 * k)) v
def A3 (G : Nat → Int) (k u r q : Nat) (v : Int) : Prop := (wsG G (2 * k) = true ∧ wsG G (2 * k + 1) = true) ∧ ∃ q', q' < q ∧ u.testBit q' = false ∧ cbG G k r q' ≠ 268435456 ∧ RVk G (k + 1) (u ||| 2 ^ r ||| 2 ^ q') v
def MA (G : Nat → Int) (k u m : Nat) (v : Int) : Prop := shM G k u (w1 G (2 * k) + w1 G (2 * k + 1)) v ∨ ∃ r, r < m ∧ u.testBit r = false ∧ ((A1 G k u r v ∨ A2 G k u r v) ∨ A3 G k u r 12 v)
theorem MA_12 {k u : Nat} (hk : k < 4) (v : Int) : MA G k u 12 v ↔ RVk G k u v := by
  have e4 : 4 - k = (4 - (k + 1)) + 1 := by omega
  unfold RVk
  rw [e4]
  constructor
  · rintro (⟨x, ⟨n, m, h, rfl⟩, rfl⟩ | ⟨r, hr, hb, (⟨hw, hc, x, ⟨n, m, h, rfl⟩, rfl⟩ | ⟨hw, hc, x, ⟨n, m, h, rfl⟩, rfl⟩) | ⟨⟨ha, hw⟩, q, hq, hb2, hc, n, m, h, rfl⟩⟩)
    · exact ⟨_, _, ⟨u, _, _, n, m, Or.inl ⟨rfl, rfl, rfl⟩, h, rfl, rfl⟩, by unfold w1; simp only [Int.natCast_add]; omega⟩
    · exact ⟨_, _, ⟨_, _, _, n, m, Or.inr (Or.inl ⟨hw, rfl, rfl, r, hr, hb, hc, rfl⟩), h, rfl, rfl⟩, by unfold w1; simp only [Int.natCast_add]; omega⟩
    · exact ⟨_, _, ⟨_, _, _, n, m, Or.inr (Or.inr (Or.inl ⟨hw, rfl, rfl, r, hr, hb, hc, rfl⟩)), h, rfl, rfl⟩, by unfold w1; simp only [Int.natCast_add]; omega⟩
    · exact ⟨_, _, ⟨_, 0, 0, n, m, Or.inr (Or.inr (Or.inr ⟨ha, hw, rfl, rfl, r, q, hr, hq, hb, hb2, hc, rfl⟩)), h, rfl, rfl⟩, by simp only [Int.natCast_add]; omega⟩
  · rintro ⟨n, m, ⟨u1, n1, m1, n2, m2, h1, h2, rfl, rfl⟩, rfl⟩
    rcases h1 with ⟨rfl, rfl, rfl⟩ | ⟨w1', rfl, rfl, r, hr, hb, hc, rfl⟩ | ⟨w1', rfl, rfl, r, hr, hb, hc, rfl⟩ | ⟨w1', w2', rfl, rfl, r, q, hr, hq, hb, hb2, hc, rfl⟩
    · exact Or.inl ⟨_, ⟨n2, m2, h2, rfl⟩, by unfold w1; simp only [Int.natCast_add]; omega⟩
    · exact Or.inr ⟨r, hr, hb, Or.inl (Or.inl ⟨w1', hc, _, ⟨n2, m2, h2, rfl⟩, by unfold w1; simp only [Int.natCast_add]; omega⟩)⟩
    · exact Or.inr ⟨r, hr, hb, Or.inl (Or.inr ⟨w1', hc, _, ⟨n2, m2, h2, rfl⟩, by unfold w1; simp only [Int.natCast_add]; omega⟩)⟩
    · exact Or.inr ⟨r, hr, hb, Or.inr ⟨⟨w1', w2'⟩, q, hq, hb2, hc, n2, m2, h2, by simp only [Int.natCast_add]; omega⟩⟩
theorem MA_no {k u m : Nat} (h : u.testBit m = true) (v : Int) : MA G k u m v ↔ MA G k u (m + 1) v := by
  constructor
  · rintro (a | ⟨r, hr, a⟩)
    · exact Or.inl a
    · exact Or.inr ⟨r, by omega, a⟩
  · rintro (a | ⟨r, hr, a, b⟩)
    · exact Or.inl a
    · by_cases e : r = m
      · subst e; rw [h] at a; exact absurd a (by decide)
      · exact Or.inr ⟨r, by omega, a, b⟩
theorem MA_yes {k u m : Nat} (h : u.testBit m = false) (v : Int) : MA G k u (m + 1) v ↔ ((MA G k u m v ∨ A1 G k u m v) ∨ A2 G k u m v) ∨ A3 G k u m 12 v := by
  constructor
  · rintro (a | ⟨r, hr, a, b⟩)
    · exact Or.inl (Or.inl (Or.inl (Or.inl a)))
    · by_cases e : r = m
      · subst e
        rcases b with (b | b) | b
        · exact Or.inl (Or.inl (Or.inr b))
        · exact Or.inl (Or.inr b)
        · exact Or.inr b
      · exact Or.inl (Or.inl (Or.inl (Or.inr ⟨r, by omega, a, b⟩)))
  · rintro ((((a | ⟨r, hr, a⟩) | a) | a) | a)
    · exact Or.inl a
    · exact Or.inr ⟨r, by omega, a⟩
    · exact Or.inr ⟨m, by omega, h, Or.inl (Or.inl a)⟩
    · exact Or.inr ⟨m, by omega, h, Or.inl (Or.inr a)⟩
    · exact Or.inr ⟨m, by omega, h, Or.inr a⟩
theorem Mn_sh {k u : Nat} {x w : Int} (h : Mn (RVk G (k + 1) u) x) : Mn (shM G k u w) (x + w) := ⟨⟨x, h.1, rfl⟩, fun y ⟨z, hz, e⟩ => by have := h.2 z hz; omega⟩
def ML (f : xF) (G : Nat → Int) (k : Nat) : Prop := ∀ u, u < 4096 → Mn (RVk G k u) (f 159 (4096 * k + u))
theorem w1_b {s : Nat} (hs : s < 8) : 0 ≤ w1 G s ∧ w1 G s ≤ 1300 := by
  have a := nw_b (G := G) (s := s)
  have b := two_s s (by omega)
  unfold w1
  omega
theorem or_4096 {a b q : Nat} (hb : b < 4096) (hq : q < 12) : (4096 * a + b) ||| 2 ^ q = 4096 * a + (b ||| 2 ^ q) := by
  have h1 := Nat.two_pow_add_eq_or_of_lt (i := 12) hb a
  have h2 := Nat.two_pow_add_eq_or_of_lt (i := 12) (or_lt hb hq) a
  rw [show (4096 : Nat) = 2 ^ 12 from rfl, h1, h2, Nat.or_assoc]
end RN
section SF2
variable {L : Nat} {f : xF} {Q : List xV → xF → Prop} {G : Nat → Int}
theorem C_83 (hV : VG G) (hS : Sg f 4 G) (hP : Pl f G) (K : ∀ (g : xF) (v : Int), (∀ c, c ≠ 145 → g c = f c) → LkA G v → Q [.inl v] g) : Rf (SHL L) 83 0 (xloc 83 [.inr 141, .inr 4]) [] f Q := by
  have hb := mn_b (lev_sml (coG_ok hV) (s := 0) (set := 0) (by omega))
  have c1 := hP.1
  refine R_al fx_83_0 rfl (by omega) ?_
  refine R_cv fx_83_1 rfl rfl rfl rfl kd_141 ?_
  refine C_71 (by rw [c1]; omega) (fun hx => ?_) (fun hx => ?_)
  · refine R_ifeq fx_83_4 (by decide) (fun h => absurd h (by decide)) (fun _ => ?_)
    refine R_push fx_83_7 ?_
    refine R_goto fx_83_8 ?_
    first | exact R_ret fx_83_23 (Or.inl rfl) (K g _ hA (LkA_256 hV hv)) | exact R_ret fx_83_23 (Or.inl rfl) (K f 0 (fun _ _ => rfl) (LkA_lay hV (by omega)))
  · refine R_ifeq fx_83_4 (by decide) (fun _ => ?_) (fun h => absurd h (by decide))
    refine R_al fx_83_11 rfl (by omega) ?_
    refine R_al fx_83_12 rfl (by omega) ?_
    refine R_gr fx_83_13 kd_141 rfl rr_141_0 ?_
    refine R_al fx_83_16 rfl (by omega) ?_
    refine R_gr fx_83_17 kd_141 rfl rr_141_1 ?_
    refine R_cs fx_83_20 rfl rfl rfl rfl ?_
    refine C_84 hV hS hP.2.2.2.1 hP.2.2.2.2 (fun g v hA hv => ?_)
    first | exact R_ret fx_83_23 (Or.inl rfl) (K g _ hA (LkA_256 hV hv)) | exact R_ret fx_83_23 (Or.inl rfl) (K f 0 (fun _ _ => rfl) (LkA_lay hV (by omega)))
theorem C_82 (hV : VG G) (hS : Sg f 4 G) (hP : Pk f G) (K : ∀ (g : xF) (v : Int), LkA G v → PF g f G → Q [.inl v] g) : Rf (SHL L) 82 0 (xloc 82 [.inr 3]) [] f Q := by
  refine R_al fx_82_0 rfl (by omega) ?_
  refine R_gr fx_82_1 kd_3 rfl rr_3_3 ?_
  refine R_al fx_82_4 rfl (by omega) ?_
  refine R_gr fx_82_5 kd_3 rfl rr_3_0 ?_
  refine R_al fx_82_8 rfl (by omega) ?_
  refine R_gr fx_82_9 kd_3 rfl rr_3_2 ?_
  refine R_cv fx_82_12 rfl rfl rfl rfl kd_141 ?_
  refine C_57 hV hS hP (fun g a b c => ?_)
  have hSg : Sg g 4 G := hS.kept (fun c _ _ => a c (by omega))
  refine R_al fx_82_15 rfl (by omega) ?_
  refine R_gr fx_82_16 kd_3 rfl rr_3_3 ?_
  refine R_al fx_82_19 rfl (by omega) ?_
  refine R_gr fx_82_20 kd_3 rfl rr_3_0 ?_
  refine R_cv fx_82_23 rfl rfl rfl rfl kd_141 ?_
  refine C_83 hV hSg c (fun g2 v hA hv => ?_)
  exact R_ret fx_82_26 (Or.inl rfl) (K g2 v hv ⟨fun c9 h9 => by rw [hA c9 (by omega)]; exact a c9 h9, by rw [hA 141 (by omega)]; exact b, by rw [hA 141 (by omega)]; exact c.1, by rw [hA 141 (by omega)]; exact c.2.1, by rw [hA 148 (by omega)]; exact c.2.2.1, by rw [hA 143 (by omega)]; exact c.2.2.2.1, by rw [hA 144 (by omega)]; exact c.2.2.2.2⟩)
theorem C_127_r00 {k u : Nat} (hV : VG G) (hk : k < 4) (h1 : wsG G (2 * k) = false) (h2 : wsG G (2 * k + 1) = false) (hu : u < 4096) (hI : SI f G 96) (hB : BO f G 576) (hN : ML f G (k + 1)) (K : ∀ (a b : Int) (X Y : Option xV), (0 ≤ a ∧ a ≤ 20000) → Mn (RVk G k u) a → Rf (SHL L) 127 400 [some (.inr 149), some (.inl (k : Int)), some (.inl 0), some (.inl 0), some (.inl (w1 G (2 * k))), some (.inl (w1 G (2 * k + 1))), some (.inl (u : Int)), some (.inl (4096 * ((k : Int) + 1))), some (.inl a), some (.inl b), X, Y] [] f Q) : ∀ (n m : Nat) (a : Int) (X Y : Option xV), m + n = 12 → (0 ≤ a ∧ a ≤ 20000) → Mn (MA G k u m) a → Rf (SHL L) 127 161 [some (.inr 149), some (.inl (k : Int)), some (.inl 0), some (.inl 0), some (.inl (w1 G (2 * k))), some (.inl (w1 G (2 * k + 1))), some (.inl (u : Int)), some (.inl (4096 * ((k : Int) + 1))), some (.inl a), some (.inl (m : Int)), X, Y] [] f Q := by
  have hwa := w1_b (G := G) (s := 2 * k) (by omega)
  have hwb := w1_b (G := G) (s := 2 * k + 1) (by omega)
  intro n
  induction n with
  | zero =>
    intro m a X Y hm ha hA
    have hmj : m = 12 := by omega
    subst hmj
    refine R_il fx_127_161 rfl ?_
    refine R_push fx_127_163 ?_
    refine R_icge fx_127_165 (by omega) (fun hc => ?_) (fun hc => by omega)
    exact K a _ _ _ ha (hA.congr (MA_12 hk))
  | succ n ih =>
    intro m a X Y hm ha hA
    have hp2 := p2b m (by omega)
    have hpw := pw12 (show m < 12 by omega)
    have hor := or_lt hu (show m < 12 by omega)
    have es1 : f 157 (8 * (m : Int) + 2 * (k : Int)).toNat = nv (csG G (2 * k) m) := by rw [show (8 * (m : Int) + 2 * (k : Int)).toNat = 8 * m + 2 * k by omega, hI _ (by omega), show (8 * m + 2 * k) % 8 = 2 * k by omega, show (8 * m + 2 * k) / 8 = m by omega]
    have es2 : f 157 (8 * (m : Int) + 2 * (k : Int) + 1).toNat = nv (csG G (2 * k + 1) m) := by rw [show (8 * (m : Int) + 2 * (k : Int) + 1).toNat = 8 * m + 2 * k + 1 by omega, hI _ (by omega), show (8 * m + 2 * k + 1) % 8 = 2 * k + 1 by omega, show (8 * m + 2 * k + 1) / 8 = m by omega]
    have c1 := csG_b (s := 2 * k) hV (show m < 12 by omega)
    have c2 := csG_b (s := 2 * k + 1) hV (show m < 12 by omega)
    have n1 : (csG G (2 * k) m = 268435456 ∧ nv (csG G (2 * k) m) = 1000000) ∨ (csG G (2 * k) m ≠ 268435456 ∧ nv (csG G (2 * k) m) = csG G (2 * k) m) := by unfold nv; split <;> omega
    have n2 : (csG G (2 * k + 1) m = 268435456 ∧ nv (csG G (2 * k + 1) m) = 1000000) ∨ (csG G (2 * k + 1) m ≠ 268435456 ∧ nv (csG G (2 * k + 1) m) = csG G (2 * k + 1) m) := by unfold nv; split <;> omega
    have hle := hN (u ||| 2 ^ m) hor
    have hlb := RVk_b (show k + 1 ≤ 4 by omega) hle.1
    have d1 : f 159 ((4096 * (k + 1) + (u ||| 2 ^ m) : Nat) : Int).toNat = f 159 (4096 * (k + 1) + (u ||| 2 ^ m)) := by rw [Int.toNat_natCast]
    have s1 := Mn_sh (w := w1 G (2 * k + 1)) hle
    have s2 := Mn_sh (w := w1 G (2 * k)) hle
    have t3 : u.testBit m = false → ∀ (a : Int) (Y : Option xV), (0 ≤ a ∧ a ≤ 20000) → Mn (fun v => (MA G k u m v ∨ A1 G k u m v) ∨ A2 G k u m v) a → Rf (SHL L) 127 301 [some (.inr 149), some (.inl (k : Int)), some (.inl 0), some (.inl 0), some (.inl (w1 G (2 * k))), some (.inl (w1 G (2 * k + 1))), some (.inl (u : Int)), some (.inl (4096 * ((k : Int) + 1))), some (.inl a), some (.inl (m : Int)), some (.inl ((4096 * (k + 1) + (u ||| 2 ^ m) : Nat) : Int)), Y] [] f Q := by
      intro hum a Y ha hA
      refine R_push fx_127_301 ?_
      refine R_is fx_127_302 ?_
      refine R_il fx_127_304 rfl ?_
      refine R_push fx_127_306 ?_
      refine R_icge fx_127_308 (by decide) (fun h => absurd h (by decide)) (fun _ => ?_)
      refine R_il fx_127_311 rfl ?_
      refine R_ifeq fx_127_312 (by decide) (fun _ => ?_) (fun h => absurd h (by decide))
      refine R_inc fx_127_394 rfl ?_
      refine R_goto fx_127_397 ?_
      refine ih (m + 1) a _ _ (by omega) ha (hA.congr ?_)
      intro v; rw [MA_yes hum]; exact ⟨Or.inl, fun z => z.elim id (fun y => absurd y.1 (by rw [h1, h2]; decide))⟩
    have t2 : u.testBit m = false → ∀ (a : Int) (Y : Option xV), (0 ≤ a ∧ a ≤ 20000) → Mn (fun v => MA G k u m v ∨ A1 G k u m v) a → Rf (SHL L) 127 249 [some (.inr 149), some (.inl (k : Int)), some (.inl 0), some (.inl 0), some (.inl (w1 G (2 * k))), some (.inl (w1 G (2 * k + 1))), some (.inl (u : Int)), some (.inl (4096 * ((k : Int) + 1))), some (.inl a), some (.inl (m : Int)), some (.inl ((4096 * (k + 1) + (u ||| 2 ^ m) : Nat) : Int)), Y] [] f Q := by
      intro hum a Y ha hA
      refine R_il fx_127_249 rfl ?_
      refine R_ifeq fx_127_250 (by decide) (fun _ => ?_) (fun h => absurd h (by decide))
      exact t3 hum a _ ha (hA.congr (fun v => ⟨Or.inl, fun z => z.elim id (fun y => absurd y.1 (by rw [h2]; decide))⟩))
    refine R_il fx_127_161 rfl ?_
    refine R_push fx_127_163 ?_
    refine R_icge fx_127_165 (by omega) (fun hc => by omega) (fun hc => ?_)
    refine R_il fx_127_168 rfl ?_
    refine R_push fx_127_169 ?_
    refine R_icge fx_127_170 (by omega) (fun hc => by omega) (fun hc => ?_)
    refine R_al fx_127_173 rfl (by omega) ?_
    refine R_il fx_127_174 rfl ?_
    refine R_il fx_127_176 rfl ?_
    refine R_cv fx_127_178 rfl rfl rfl rfl kd_149 ?_
    refine C_122 (by omega) (by omega) (fun hb => ?_) (fun hb => ?_)
    · refine R_ifeq fx_127_181 (by decide) (fun h => absurd h (by decide)) (fun _ => ?_)
      refine R_goto fx_127_184 ?_
      refine R_inc fx_127_394 rfl ?_
      refine R_goto fx_127_397 ?_
      exact ih (m + 1) a _ _ (by omega) ha (hA.congr (MA_no hb))
    · refine R_ifeq fx_127_181 (by decide) (fun _ => ?_) (fun h => absurd h (by decide))
      refine R_il fx_127_187 rfl ?_
      refine R_il fx_127_189 rfl ?_
      refine R_push fx_127_191 ?_
      refine R_il fx_127_192 rfl ?_
      refine R_bin fx_127_194 (xb_shl (x := 1) (by omega) (by omega)) ?_
      refine R_bin fx_127_195 (xb_or (by omega) (by omega)) ?_
      rw [Nat.one_mul]
      refine R_add fx_127_196 ?_
      rw [show 4096 * ((k : Int) + 1) + ((u ||| 2 ^ m : Nat) : Int) = ((4096 * (k + 1) + (u ||| 2 ^ m) : Nat) : Int) by omega]
      refine R_is fx_127_197 ?_
      refine R_il fx_127_199 rfl ?_
      refine R_ifeq fx_127_200 (by decide) (fun _ => ?_) (fun h => absurd h (by decide))
      exact t2 (by simpa using hb) a _ ha (hA.congr (fun v => ⟨Or.inl, fun z => z.elim id (fun y => absurd y.1 (by rw [h1]; decide))⟩))
theorem C_127_r10 {k u : Nat} (hV : VG G) (hk : k < 4) (h1 : wsG G (2 * k) = true) (h2 : wsG G (2 * k + 1) = false) (hu : u < 4096) (hI : SI f G 96) (hB : BO f G 576) (hN : ML f G (k + 1)) (K : ∀ (a b : Int) (X Y : Option xV), (0 ≤ a ∧ a ≤ 20000) → Mn (RVk G k u) a → Rf (SHL L) 127 400 [some (.inr 149), some (.inl (k : Int)), some (.inl 1), some (.inl 0), some (.inl (w1 G (2 * k))), some (.inl (w1 G (2 * k + 1))), some (.inl (u : Int)), some (.inl (4096 * ((k : Int) + 1))), some (.inl a), some (.inl b), X, Y] [] f Q) : ∀ (n m : Nat) (a : Int) (X Y : Option xV), m + n = 12 → (0 ≤ a ∧ a ≤ 20000) → Mn (MA G k u m) a → Rf (SHL L) 127 161 [some (.inr 149), some (.inl (k : Int)), some (.inl 1), some (.inl 0), some (.inl (w1 G (2 * k))), some (.inl (w1 G (2 * k + 1))), some (.inl (u : Int)), some (.inl (4096 * ((k : Int) + 1))), some (.inl a), some (.inl (m : Int)), X, Y] [] f Q := by
  have hwa := w1_b (G := G) (s := 2 * k) (by omega)
  have hwb := w1_b (G := G) (s := 2 * k + 1) (by omega)
  intro n
  induction n with
  | zero =>
    intro m a X Y hm ha hA
    have hmj : m = 12 := by omega
    subst hmj
    refine R_il fx_127_161 rfl ?_
    refine R_push fx_127_163 ?_
    refine R_icge fx_127_165 (by omega) (fun hc => ?_) (fun hc => by omega)
    exact K a _ _ _ ha (hA.congr (MA_12 hk))
  | succ n ih =>
    intro m a X Y hm ha hA
    have hp2 := p2b m (by omega)
    have hpw := pw12 (show m < 12 by omega)
    have hor := or_lt hu (show m < 12 by omega)
    have es1 : f 157 (8 * (m : Int) + 2 * (k : Int)).toNat = nv (csG G (2 * k) m) := by rw [show (8 * (m : Int) + 2 * (k : Int)).toNat = 8 * m + 2 * k by omega, hI _ (by omega), show (8 * m + 2 * k) % 8 = 2 * k by omega, show (8 * m + 2 * k) / 8 = m by omega]
    have es2 : f 157 (8 * (m : Int) + 2 * (k : Int) + 1).toNat = nv (csG G (2 * k + 1) m) := by rw [show (8 * (m : Int) + 2 * (k : Int) + 1).toNat = 8 * m + 2 * k + 1 by omega, hI _ (by omega), show (8 * m + 2 * k + 1) % 8 = 2 * k + 1 by omega, show (8 * m + 2 * k + 1) / 8 = m by omega]
    have c1 := csG_b (s := 2 * k) hV (show m < 12 by omega)
    have c2 := csG_b (s := 2 * k + 1) hV (show m < 12 by omega)
    have n1 : (csG G (2 * k) m = 268435456 ∧ nv (csG G (2 * k) m) = 1000000) ∨ (csG G (2 * k) m ≠ 268435456 ∧ nv (csG G (2 * k) m) = csG G (2 * k) m) := by unfold nv; split <;> omega
    have n2 : (csG G (2 * k + 1) m = 268435456 ∧ nv (csG G (2 * k + 1) m) = 1000000) ∨ (csG G (2 * k + 1) m ≠ 268435456 ∧ nv (csG G (2 * k + 1) m) = csG G (2 * k + 1) m) := by unfold nv; split <;> omega
    have hle := hN (u ||| 2 ^ m) hor
    have hlb := RVk_b (show k + 1 ≤ 4 by omega) hle.1
    have d1 : f 159 ((4096 * (k + 1) + (u ||| 2 ^ m) : Nat) : Int).toNat = f 159 (4096 * (k + 1) + (u ||| 2 ^ m)) := by rw [Int.toNat_natCast]
    have s1 := Mn_sh (w := w1 G (2 * k + 1)) hle
    have s2 := Mn_sh (w := w1 G (2 * k)) hle
    have t3 : u.testBit m = false → ∀ (a : Int) (Y : Option xV), (0 ≤ a ∧ a ≤ 20000) → Mn (fun v => (MA G k u m v ∨ A1 G k u m v) ∨ A2 G k u m v) a → Rf (SHL L) 127 301 [some (.inr 149), some (.inl (k : Int)), some (.inl 1), some (.inl 0), some (.inl (w1 G (2 * k))), some (.inl (w1 G (2 * k + 1))), some (.inl (u : Int)), some (.inl (4096 * ((k : Int) + 1))), some (.inl a), some (.inl (m : Int)), some (.inl ((4096 * (k + 1) + (u ||| 2 ^ m) : Nat) : Int)), Y] [] f Q := by
      intro hum a Y ha hA
      refine R_push fx_127_301 ?_
      refine R_is fx_127_302 ?_
      refine R_il fx_127_304 rfl ?_
      refine R_push fx_127_306 ?_
      refine R_icge fx_127_308 (by decide) (fun h => absurd h (by decide)) (fun _ => ?_)
      refine R_il fx_127_311 rfl ?_
      refine R_ifeq fx_127_312 (by decide) (fun h => absurd h (by decide)) (fun _ => ?_)
      refine R_il fx_127_315 rfl ?_
      refine R_ifeq fx_127_316 (by decide) (fun _ => ?_) (fun h => absurd h (by decide))
      refine R_inc fx_127_394 rfl ?_
      refine R_goto fx_127_397 ?_
      refine ih (m + 1) a _ _ (by omega) ha (hA.congr ?_)
      intro v; rw [MA_yes hum]; exact ⟨Or.inl, fun z => z.elim id (fun y => absurd y.1 (by rw [h1, h2]; decide))⟩
    have t2 : u.testBit m = false → ∀ (a : Int) (Y : Option xV), (0 ≤ a ∧ a ≤ 20000) → Mn (fun v => MA G k u m v ∨ A1 G k u m v) a → Rf (SHL L) 127 249 [some (.inr 149), some (.inl (k : Int)), some (.inl 1), some (.inl 0), some (.inl (w1 G (2 * k))), some (.inl (w1 G (2 * k + 1))), some (.inl (u : Int)), some (.inl (4096 * ((k : Int) + 1))), some (.inl a), some (.inl (m : Int)), some (.inl ((4096 * (k + 1) + (u ||| 2 ^ m) : Nat) : Int)), Y] [] f Q := by
      intro hum a Y ha hA
      refine R_il fx_127_249 rfl ?_
      refine R_ifeq fx_127_250 (by decide) (fun _ => ?_) (fun h => absurd h (by decide))
      exact t3 hum a _ ha (hA.congr (fun v => ⟨Or.inl, fun z => z.elim id (fun y => absurd y.1 (by rw [h2]; decide))⟩))
    refine R_il fx_127_161 rfl ?_
    refine R_push fx_127_163 ?_
    refine R_icge fx_127_165 (by omega) (fun hc => by omega) (fun hc => ?_)
    refine R_il fx_127_168 rfl ?_
    refine R_push fx_127_169 ?_
    refine R_icge fx_127_170 (by omega) (fun hc => by omega) (fun hc => ?_)
    refine R_al fx_127_173 rfl (by omega) ?_
    refine R_il fx_127_174 rfl ?_
    refine R_il fx_127_176 rfl ?_
    refine R_cv fx_127_178 rfl rfl rfl rfl kd_149 ?_
    refine C_122 (by omega) (by omega) (fun hb => ?_) (fun hb => ?_)
    · refine R_ifeq fx_127_181 (by decide) (fun h => absurd h (by decide)) (fun _ => ?_)
      refine R_goto fx_127_184 ?_
      refine R_inc fx_127_394 rfl ?_
      refine R_goto fx_127_397 ?_
      exact ih (m + 1) a _ _ (by omega) ha (hA.congr (MA_no hb))
    · refine R_ifeq fx_127_181 (by decide) (fun _ => ?_) (fun h => absurd h (by decide))
      refine R_il fx_127_187 rfl ?_
      refine R_il fx_127_189 rfl ?_
      refine R_push fx_127_191 ?_
      refine R_il fx_127_192 rfl ?_
      refine R_bin fx_127_194 (xb_shl (x := 1) (by omega) (by omega)) ?_
      refine R_bin fx_127_195 (xb_or (by omega) (by omega)) ?_
      rw [Nat.one_mul]
      refine R_add fx_127_196 ?_
      rw [show 4096 * ((k : Int) + 1) + ((u ||| 2 ^ m : Nat) : Int) = ((4096 * (k + 1) + (u ||| 2 ^ m) : Nat) : Int) by omega]
      refine R_is fx_127_197 ?_
      refine R_il fx_127_199 rfl ?_
      refine R_ifeq fx_127_200 (by decide) (fun h => absurd h (by decide)) (fun _ => ?_)
      refine R_al fx_127_203 rfl (by omega) ?_
      refine R_gr fx_127_204 kd_149 rfl rr_149_16 ?_
      refine R_push fx_127_207 ?_
      refine R_il fx_127_209 rfl ?_
      refine R_mul fx_127_211 ?_
      refine R_push fx_127_212 ?_
      refine R_il fx_127_213 rfl ?_
      refine R_mul fx_127_214 ?_
      refine R_add fx_127_215 ?_
      refine R_ia fx_127_216 (Or.inl kd_157) (by omega) (by rw [ln_157]; omega) (by omega) ?_
      refine R_push fx_127_217 ?_
      rw [es1]
      refine R_icge fx_127_219 (by omega) (fun hc => ?_) (fun hc => ?_)
      · exact t2 (by simpa using hb) a _ ha (hA.congr (fun v => ⟨Or.inl, fun z => z.elim id (fun y => absurd (by omega) y.2.1)⟩))
      · refine R_il fx_127_222 rfl ?_
        refine R_al fx_127_224 rfl (by omega) ?_
        refine R_gr fx_127_225 kd_149 rfl rr_149_18 ?_
        refine R_il fx_127_228 rfl ?_
        refine R_ia fx_127_230 (Or.inl kd_159) (by omega) (by rw [ln_159]; omega) (by omega) ?_
        refine R_add fx_127_231 ?_
        refine R_il fx_127_232 rfl ?_
        rw [d1]
        refine R_icge fx_127_234 (by omega) (fun hc2 => ?_) (fun hc2 => ?_)
        · exact t2 (by simpa using hb) a _ ha (hA.keep s1 (fun v => ⟨fun z => z.imp id (fun y => y.2.2), fun z => z.imp id (fun y => ⟨h1, by omega, y⟩)⟩) (by omega))
        · refine R_il fx_127_237 rfl ?_
          refine R_al fx_127_239 rfl (by omega) ?_
          refine R_gr fx_127_240 kd_149 rfl rr_149_18 ?_
          refine R_il fx_127_243 rfl ?_
          refine R_ia fx_127_245 (Or.inl kd_159) (by omega) (by rw [ln_159]; omega) (by omega) ?_
          refine R_add fx_127_246 ?_
          refine R_is fx_127_247 ?_
          rw [d1, Int.add_comm (w1 G (2 * k + 1))]
          exact t2 (by simpa using hb) _ _ (by omega) (hA.take s1 (fun v => ⟨fun z => z.imp id (fun y => y.2.2), fun z => z.imp id (fun y => ⟨h1, by omega, y⟩)⟩) (by omega))
theorem C_127_r01 {k u : Nat} (hV : VG G) (hk : k < 4) (h1 : wsG G (2 * k) = false) (h2 : wsG G (2 * k + 1) = true) (hu : u < 4096) (hI : SI f G 96) (hB : BO f G 576) (hN : ML f G (k + 1)) (K : ∀ (a b : Int) (X Y : Option xV), (0 ≤ a ∧ a ≤ 20000) → Mn (RVk G k u) a → Rf (SHL L) 127 400 [some (.inr 149), some (.inl (k : Int)), some (.inl 0), some (.inl 1), some (.inl (w1 G (2 * k))), some (.inl (w1 G (2 * k + 1))), some (.inl (u : Int)), some (.inl (4096 * ((k : Int) + 1))), some (.inl a), some (.inl b), X, Y] [] f Q) : ∀ (n m : Nat) (a : Int) (X Y : Option xV), m + n = 12 → (0 ≤ a ∧ a ≤ 20000) → Mn (MA G k u m) a → Rf (SHL L) 127 161 [some (.inr 149), some (.inl (k : Int)), some (.inl 0), some (.inl 1), some (.inl (w1 G (2 * k))), some (.inl (w1 G (2 * k + 1))), some (.inl (u : Int)), some (.inl (4096 * ((k : Int) + 1))), some (.inl a), some (.inl (m : Int)), X, Y] [] f Q := by
  have hwa := w1_b (G := G) (s := 2 * k) (by omega)
  have hwb := w1_b (G := G) (s := 2 * k + 1) (by omega)
  intro n
  induction n with
  | zero =>
    intro m a X Y hm ha hA
    have hmj : m = 12 := by omega
    subst hmj
    refine R_il fx_127_161 rfl ?_
    refine R_push fx_127_163 ?_
    refine R_icge fx_127_165 (by omega) (fun hc => ?_) (fun hc => by omega)
    exact K a _ _ _ ha (hA.congr (MA_12 hk))
  | succ n ih =>
    intro m a X Y hm ha hA
    have hp2 := p2b m (by omega)
    have hpw := pw12 (show m < 12 by omega)
    have hor := or_lt hu (show m < 12 by omega)
    have es1 : f 157 (8 * (m : Int) + 2 * (k : Int)).toNat = nv (csG G (2 * k) m) := by rw [show (8 * (m : Int) + 2 * (k : Int)).toNat = 8 * m + 2 * k by omega, hI _ (by omega), show (8 * m + 2 * k) % 8 = 2 * k by omega, show (8 * m + 2 * k) / 8 = m by omega]
    have es2 : f 157 (8 * (m : Int) + 2 * (k : Int) + 1).toNat = nv (csG G (2 * k + 1) m) := by rw [show (8 * (m : Int) + 2 * (k : Int) + 1).toNat = 8 * m + 2 * k + 1 by omega, hI _ (by omega), show (8 * m + 2 * k + 1) % 8 = 2 * k + 1 by omega, show (8 * m + 2 * k + 1) / 8 = m by omega]
    have c1 := csG_b (s := 2 * k) hV (show m < 12 by omega)
    have c2 := csG_b (s := 2 * k + 1) hV (show m < 12 by omega)
    have n1 : (csG G (2 * k) m = 268435456 ∧ nv (csG G (2 * k) m) = 1000000) ∨ (csG G (2 * k) m ≠ 268435456 ∧ nv (csG G (2 * k) m) = csG G (2 * k) m) := by unfold nv; split <;> omega
    have n2 : (csG G (2 * k + 1) m = 268435456 ∧ nv (csG G (2 * k + 1) m) = 1000000) ∨ (csG G (2 * k + 1) m ≠ 268435456 ∧ nv (csG G (2 * k + 1) m) = csG G (2 * k + 1) m) := by unfold nv; split <;> omega
    have hle := hN (u ||| 2 ^ m) hor
    have hlb := RVk_b (show k + 1 ≤ 4 by omega) hle.1
    have d1 : f 159 ((4096 * (k + 1) + (u ||| 2 ^ m) : Nat) : Int).toNat = f 159 (4096 * (k + 1) + (u ||| 2 ^ m)) := by rw [Int.toNat_natCast]
    have s1 := Mn_sh (w := w1 G (2 * k + 1)) hle
    have s2 := Mn_sh (w := w1 G (2 * k)) hle
    have t3 : u.testBit m = false → ∀ (a : Int) (Y : Option xV), (0 ≤ a ∧ a ≤ 20000) → Mn (fun v => (MA G k u m v ∨ A1 G k u m v) ∨ A2 G k u m v) a → Rf (SHL L) 127 301 [some (.inr 149), some (.inl (k : Int)), some (.inl 0), some (.inl 1), some (.inl (w1 G (2 * k))), some (.inl (w1 G (2 * k + 1))), some (.inl (u : Int)), some (.inl (4096 * ((k : Int) + 1))), some (.inl a), some (.inl (m : Int)), some (.inl ((4096 * (k + 1) + (u ||| 2 ^ m) : Nat) : Int)), Y] [] f Q := by
      intro hum a Y ha hA
      refine R_push fx_127_301 ?_
      refine R_is fx_127_302 ?_
      refine R_il fx_127_304 rfl ?_
      refine R_push fx_127_306 ?_
      refine R_icge fx_127_308 (by decide) (fun h => absurd h (by decide)) (fun _ => ?_)
      refine R_il fx_127_311 rfl ?_
      refine R_ifeq fx_127_312 (by decide) (fun _ => ?_) (fun h => absurd h (by decide))
      refine R_inc fx_127_394 rfl ?_
      refine R_goto fx_127_397 ?_
      refine ih (m + 1) a _ _ (by omega) ha (hA.congr ?_)
      intro v; rw [MA_yes hum]; exact ⟨Or.inl, fun z => z.elim id (fun y => absurd y.1 (by rw [h1, h2]; decide))⟩
    have t2 : u.testBit m = false → ∀ (a : Int) (Y : Option xV), (0 ≤ a ∧ a ≤ 20000) → Mn (fun v => MA G k u m v ∨ A1 G k u m v) a → Rf (SHL L) 127 249 [some (.inr 149), some (.inl (k : Int)), some (.inl 0), some (.inl 1), some (.inl (w1 G (2 * k))), some (.inl (w1 G (2 * k + 1))), some (.inl (u : Int)), some (.inl (4096 * ((k : Int) + 1))), some (.inl a), some (.inl (m : Int)), some (.inl ((4096 * (k + 1) + (u ||| 2 ^ m) : Nat) : Int)), Y] [] f Q := by
      intro hum a Y ha hA
      refine R_il fx_127_249 rfl ?_
      refine R_ifeq fx_127_250 (by decide) (fun h => absurd h (by decide)) (fun _ => ?_)
      refine R_al fx_127_253 rfl (by omega) ?_
      refine R_gr fx_127_254 kd_149 rfl rr_149_16 ?_
      refine R_push fx_127_257 ?_
      refine R_il fx_127_259 rfl ?_
      refine R_mul fx_127_261 ?_
      refine R_push fx_127_262 ?_
      refine R_il fx_127_263 rfl ?_
      refine R_mul fx_127_264 ?_
      refine R_add fx_127_265 ?_
      refine R_push fx_127_266 ?_
      refine R_add fx_127_267 ?_
      refine R_ia fx_127_268 (Or.inl kd_157) (by omega) (by rw [ln_157]; omega) (by omega) ?_
      refine R_push fx_127_269 ?_
      rw [es2]
      refine R_icge fx_127_271 (by omega) (fun hc => ?_) (fun hc => ?_)
      · exact t3 hum a _ ha (hA.congr (fun v => ⟨Or.inl, fun z => z.elim id (fun y => absurd (by omega) y.2.1)⟩))
      · refine R_il fx_127_274 rfl ?_
        refine R_al fx_127_276 rfl (by omega) ?_
        refine R_gr fx_127_277 kd_149 rfl rr_149_18 ?_
        refine R_il fx_127_280 rfl ?_
        refine R_ia fx_127_282 (Or.inl kd_159) (by omega) (by rw [ln_159]; omega) (by omega) ?_
        refine R_add fx_127_283 ?_
        refine R_il fx_127_284 rfl ?_
        rw [d1]
        refine R_icge fx_127_286 (by omega) (fun hc2 => ?_) (fun hc2 => ?_)
        · exact t3 hum a _ ha (hA.keep s2 (fun v => ⟨fun z => z.imp id (fun y => y.2.2), fun z => z.imp id (fun y => ⟨h2, by omega, y⟩)⟩) (by omega))
        · refine R_il fx_127_289 rfl ?_
          refine R_al fx_127_291 rfl (by omega) ?_
          refine R_gr fx_127_292 kd_149 rfl rr_149_18 ?_
          refine R_il fx_127_295 rfl ?_
          refine R_ia fx_127_297 (Or.inl kd_159) (by omega) (by rw [ln_159]; omega) (by omega) ?_
          refine R_add fx_127_298 ?_
          refine R_is fx_127_299 ?_
          rw [d1, Int.add_comm (w1 G (2 * k))]
          exact t3 hum _ _ (by omega) (hA.take s2 (fun v => ⟨fun z => z.imp id (fun y => y.2.2), fun z => z.imp id (fun y => ⟨h2, by omega, y⟩)⟩) (by omega))
    refine R_il fx_127_161 rfl ?_
    refine R_push fx_127_163 ?_
    refine R_icge fx_127_165 (by omega) (fun hc => by omega) (fun hc => ?_)
    refine R_il fx_127_168 rfl ?_
    refine R_push fx_127_169 ?_
    refine R_icge fx_127_170 (by omega) (fun hc => by omega) (fun hc => ?_)
    refine R_al fx_127_173 rfl (by omega) ?_
    refine R_il fx_127_174 rfl ?_
    refine R_il fx_127_176 rfl ?_
    refine R_cv fx_127_178 rfl rfl rfl rfl kd_149 ?_
    refine C_122 (by omega) (by omega) (fun hb => ?_) (fun hb => ?_)
    · refine R_ifeq fx_127_181 (by decide) (fun h => absurd h (by decide)) (fun _ => ?_)
      refine R_goto fx_127_184 ?_
      refine R_inc fx_127_394 rfl ?_
      refine R_goto fx_127_397 ?_
      exact ih (m + 1) a _ _ (by omega) ha (hA.congr (MA_no hb))
    · refine R_ifeq fx_127_181 (by decide) (fun _ => ?_) (fun h => absurd h (by decide))
      refine R_il fx_127_187 rfl ?_
      refine R_il fx_127_189 rfl ?_
      refine R_push fx_127_191 ?_
      refine R_il fx_127_192 rfl ?_
      refine R_bin fx_127_194 (xb_shl (x := 1) (by omega) (by omega)) ?_
      refine R_bin fx_127_195 (xb_or (by omega) (by omega)) ?_
      rw [Nat.one_mul]
      refine R_add fx_127_196 ?_
      rw [show 4096 * ((k : Int) + 1) + ((u ||| 2 ^ m : Nat) : Int) = ((4096 * (k + 1) + (u ||| 2 ^ m) : Nat) : Int) by omega]
      refine R_is fx_127_197 ?_
      refine R_il fx_127_199 rfl ?_
      refine R_ifeq fx_127_200 (by decide) (fun _ => ?_) (fun h => absurd h (by decide))
      exact t2 (by simpa using hb) a _ ha (hA.congr (fun v => ⟨Or.inl, fun z => z.elim id (fun y => absurd y.1 (by rw [h1]; decide))⟩))
theorem C_127_q {k u : Nat} (hV : VG G) (hk : k < 4) (h1 : wsG G (2 * k) = true) (h2 : wsG G (2 * k + 1) = true) (hu : u < 4096) (hI : SI f G 96) (hB : BO f G 576) (hN : ML f G (k + 1)) {r : Nat} (hr : r < 12) (hb : u.testBit r = false) (B : Int → Prop) (K : ∀ (a : Int) (X : Option xV), (0 ≤ a ∧ a ≤ 20000) → Mn (fun v => B v ∨ A3 G k u r 12 v) a → Rf (SHL L) 127 394 [some (.inr 149), some (.inl (k : Int)), some (.inl 1), some (.inl 1), some (.inl (w1 G (2 * k))), some (.inl (w1 G (2 * k + 1))), some (.inl (u : Int)), some (.inl (4096 * ((k : Int) + 1))), some (.inl a), some (.inl (r : Int)), some (.inl ((4096 * (k + 1) + (u ||| 2 ^ r) : Nat) : Int)), X] [] f Q) : ∀ (n q : Nat) (a : Int), q + n = 12 → (0 ≤ a ∧ a ≤ 20000) → Mn (fun v => B v ∨ A3 G k u r q v) a → Rf (SHL L) 127 304 [some (.inr 149), some (.inl (k : Int)), some (.inl 1), some (.inl 1), some (.inl (w1 G (2 * k))), some (.inl (w1 G (2 * k + 1))), some (.inl (u : Int)), some (.inl (4096 * ((k : Int) + 1))), some (.inl a), some (.inl (r : Int)), some (.inl ((4096 * (k + 1) + (u ||| 2 ^ r) : Nat) : Int)), some (.inl (q : Int))] [] f Q := by
  have hor := or_lt hu hr
  intro n
  induction n with
  | zero =>
    intro q a hq ha hA
    have hqj : q = 12 := by omega
    subst hqj
    refine R_il fx_127_304 rfl ?_
    refine R_push fx_127_306 ?_
    refine R_icge fx_127_308 (by omega) (fun hc => ?_) (fun hc => by omega)
    exact K a _ ha hA
  | succ n ih =>
    intro q a hq ha hA
    have hp2q := p2b q (by omega)
    have hpwq := pw12 (show q < 12 by omega)
    have hor2 := or_lt hor (show q < 12 by omega)
    have hb9 := cbG_b (k := k) hV hr (show q < 12 by omega)
    have es : f 158 (144 * (k : Int) + 12 * (r : Int) + (q : Int)).toNat = nv (cbG G k r q) := by rw [show (144 * (k : Int) + 12 * (r : Int) + (q : Int)).toNat = 144 * k + 12 * r + q by omega, hB _ (by omega), show (144 * k + 12 * r + q) / 144 = k by omega, show (144 * k + 12 * r + q) / 12 % 12 = r by omega, show (144 * k + 12 * r + q) % 12 = q by omega]
    have nc : (cbG G k r q = 268435456 ∧ nv (cbG G k r q) = 1000000) ∨ (cbG G k r q ≠ 268435456 ∧ nv (cbG G k r q) = cbG G k r q) := by unfold nv; split <;> omega
    have hle := hN (u ||| 2 ^ r ||| 2 ^ q) hor2
    have hlb := RVk_b (show k + 1 ≤ 4 by omega) hle.1
    have eor : (4096 * (k + 1) + (u ||| 2 ^ r)) ||| 2 ^ q = 4096 * (k + 1) + (u ||| 2 ^ r ||| 2 ^ q) := or_4096 hor (by omega)
    have hno : (u.testBit q = true ∨ cbG G k r q = 268435456) → ∀ v, (B v ∨ A3 G k u r q v) ↔ (B v ∨ A3 G k u r (q + 1) v) := fun h v => by
      constructor
      · rintro (z | ⟨z0, q', z1, z2⟩)
        · exact Or.inl z
        · exact Or.inr ⟨z0, q', by omega, z2⟩
      · rintro (z | ⟨z0, q', z1, z2, z3, z4⟩)
        · exact Or.inl z
        · by_cases e : q' = q
          · subst e
            rcases h with h | h
            · rw [h] at z2; exact absurd z2 (by decide)
            · exact absurd h z3
          · exact Or.inr ⟨z0, q', by omega, z2, z3, z4⟩
    have hyes : u.testBit q = false → cbG G k r q ≠ 268435456 → ∀ v, (B v ∨ A3 G k u r (q + 1) v) ↔ (B v ∨ A3 G k u r q v) ∨ RVk G (k + 1) (u ||| 2 ^ r ||| 2 ^ q) v := fun y1 y2 v => by
      constructor
      · rintro (z | ⟨z0, q', z1, z2, z3, z4⟩)
        · exact Or.inl (Or.inl z)
        · by_cases e : q' = q
          · subst e; exact Or.inr z4
          · exact Or.inl (Or.inr ⟨z0, q', by omega, z2, z3, z4⟩)
      · rintro ((z | ⟨z0, q', z1, z2⟩) | z)
        · exact Or.inl z
        · exact Or.inr ⟨z0, q', by omega, z2⟩
        · exact Or.inr ⟨⟨h1, h2⟩, q, by omega, y1, y2, z⟩
    refine R_il fx_127_304 rfl ?_
    refine R_push fx_127_306 ?_
    refine R_icge fx_127_308 (by omega) (fun hc => by omega) (fun hc => ?_)
    refine R_il fx_127_311 rfl ?_
    refine R_ifeq fx_127_312 (by decide) (fun h => absurd h (by decide)) (fun _ => ?_)
    refine R_il fx_127_315 rfl ?_
    refine R_ifeq fx_127_316 (by decide) (fun h => absurd h (by decide)) (fun _ => ?_)
    refine R_al fx_127_319 rfl (by omega) ?_
    refine R_il fx_127_320 rfl ?_
    refine R_il fx_127_322 rfl ?_
    refine R_cv fx_127_324 rfl rfl rfl rfl kd_149 ?_
    refine C_122 (by omega) (by omega) (fun hb2 => ?_) (fun hb2 => ?_)
    · refine R_ifne fx_127_327 (by decide) (fun _ => ?_) (fun h => absurd h (by decide))
      refine R_inc fx_127_388 rfl ?_
      refine R_goto fx_127_391 ?_
      exact ih (q + 1) a (by omega) ha (hA.congr (hno (Or.inl hb2)))
    · refine R_ifne fx_127_327 (by decide) (fun h => absurd h (by decide)) (fun _ => ?_)
      refine R_al fx_127_330 rfl (by omega) ?_
      refine R_gr fx_127_331 kd_149 rfl rr_149_17 ?_
      refine R_push fx_127_334 ?_
      refine R_il fx_127_337 rfl ?_
      refine R_mul fx_127_338 ?_
      refine R_push fx_127_339 ?_
      refine R_il fx_127_341 rfl ?_
      refine R_mul fx_127_343 ?_
      refine R_add fx_127_344 ?_
      refine R_il fx_127_345 rfl ?_
      refine R_add fx_127_347 ?_
      refine R_ia fx_127_348 (Or.inl kd_158) (by omega) (by rw [ln_158]; omega) (by omega) ?_
      refine R_push fx_127_349 ?_
      rw [es]
      refine R_iclt fx_127_351 (by omega) (fun hc => ?_) (fun hc => ?_)
      · refine R_al fx_127_357 rfl (by omega) ?_
        refine R_gr fx_127_358 kd_149 rfl rr_149_18 ?_
        refine R_il fx_127_361 rfl ?_
        refine R_push fx_127_363 ?_
        refine R_il fx_127_364 rfl ?_
        refine R_bin fx_127_366 (xb_shl (x := 1) (by omega) (by omega)) ?_
        refine R_bin fx_127_367 (xb_or (by omega) (by omega)) ?_
        rw [Nat.one_mul, eor]
        refine R_ia fx_127_368 (Or.inl kd_159) (by omega) (by rw [ln_159]; omega) (by omega) ?_
        refine R_il fx_127_369 rfl ?_
        rw [Int.toNat_natCast]
        refine R_icge fx_127_371 (by omega) (fun hc2 => ?_) (fun hc2 => ?_)
        · refine R_inc fx_127_388 rfl ?_
          refine R_goto fx_127_391 ?_
          exact ih (q + 1) a (by omega) ha (hA.keep hle (hyes (by simpa using hb2) (by omega)) hc2)
        · refine R_al fx_127_374 rfl (by omega) ?_
          refine R_gr fx_127_375 kd_149 rfl rr_149_18 ?_
          refine R_il fx_127_378 rfl ?_
          refine R_push fx_127_380 ?_
          refine R_il fx_127_381 rfl ?_
          refine R_bin fx_127_383 (xb_shl (x := 1) (by omega) (by omega)) ?_
          refine R_bin fx_127_384 (xb_or (by omega) (by omega)) ?_
          rw [Nat.one_mul, eor]
          refine R_ia fx_127_385 (Or.inl kd_159) (by omega) (by rw [ln_159]; omega) (by omega) ?_
          refine R_is fx_127_386 ?_
          refine R_inc fx_127_388 rfl ?_
          refine R_goto fx_127_391 ?_
          rw [Int.toNat_natCast]
          exact ih (q + 1) _ (by omega) (by omega) (hA.take hle (hyes (by simpa using hb2) (by omega)) (by omega))
      · refine R_goto fx_127_354 ?_
        refine R_inc fx_127_388 rfl ?_
        refine R_goto fx_127_391 ?_
        exact ih (q + 1) a (by omega) ha (hA.congr (hno (Or.inr (by omega))))
theorem C_127_r11 {k u : Nat} (hV : VG G) (hk : k < 4) (h1 : wsG G (2 * k) = true) (h2 : wsG G (2 * k + 1) = true) (hu : u < 4096) (hI : SI f G 96) (hB : BO f G 576) (hN : ML f G (k + 1)) (K : ∀ (a b : Int) (X Y : Option xV), (0 ≤ a ∧ a ≤ 20000) → Mn (RVk G k u) a → Rf (SHL L) 127 400 [some (.inr 149), some (.inl (k : Int)), some (.inl 1), some (.inl 1), some (.inl (w1 G (2 * k))), some (.inl (w1 G (2 * k + 1))), some (.inl (u : Int)), some (.inl (4096 * ((k : Int) + 1))), some (.inl a), some (.inl b), X, Y] [] f Q) : ∀ (n m : Nat) (a : Int) (X Y : Option xV), m + n = 12 → (0 ≤ a ∧ a ≤ 20000) → Mn (MA G k u m) a → Rf (SHL L) 127 161 [some (.inr 149), some (.inl (k : Int)), some (.inl 1), some (.inl 1), some (.inl (w1 G (2 * k))), some (.inl (w1 G (2 * k + 1))), some (.inl (u : Int)), some (.inl (4096 * ((k : Int) + 1))), some (.inl a), some (.inl (m : Int)), X, Y] [] f Q := by
  have hwa := w1_b (G := G) (s := 2 * k) (by omega)
  have hwb := w1_b (G := G) (s := 2 * k + 1) (by omega)
  intro n
  induction n with
  | zero =>
    intro m a X Y hm ha hA
    have hmj : m = 12 := by omega
    subst hmj
    refine R_il fx_127_161 rfl ?_
    refine R_push fx_127_163 ?_
    refine R_icge fx_127_165 (by omega) (fun hc => ?_) (fun hc => by omega)
    exact K a _ _ _ ha (hA.congr (MA_12 hk))
  | succ n ih =>
    intro m a X Y hm ha hA
    have hp2 := p2b m (by omega)
    have hpw := pw12 (show m < 12 by omega)
    have hor := or_lt hu (show m < 12 by omega)
    have es1 : f 157 (8 * (m : Int) + 2 * (k : Int)).toNat = nv (csG G (2 * k) m) := by rw [show (8 * (m : Int) + 2 * (k : Int)).toNat = 8 * m + 2 * k by omega, hI _ (by omega), show (8 * m + 2 * k) % 8 = 2 * k by omega, show (8 * m + 2 * k) / 8 = m by omega]
    have es2 : f 157 (8 * (m : Int) + 2 * (k : Int) + 1).toNat = nv (csG G (2 * k + 1) m) := by rw [show (8 * (m : Int) + 2 * (k : Int) + 1).toNat = 8 * m + 2 * k + 1 by omega, hI _ (by omega), show (8 * m + 2 * k + 1) % 8 = 2 * k + 1 by omega, show (8 * m + 2 * k + 1) / 8 = m by omega]
    have c1 := csG_b (s := 2 * k) hV (show m < 12 by omega)
    have c2 := csG_b (s := 2 * k + 1) hV (show m < 12 by omega)
    have n1 : (csG G (2 * k) m = 268435456 ∧ nv (csG G (2 * k) m) = 1000000) ∨ (csG G (2 * k) m ≠ 268435456 ∧ nv (csG G (2 * k) m) = csG G (2 * k) m) := by unfold nv; split <;> omega
    have n2 : (csG G (2 * k + 1) m = 268435456 ∧ nv (csG G (2 * k + 1) m) = 1000000) ∨ (csG G (2 * k + 1) m ≠ 268435456 ∧ nv (csG G (2 * k + 1) m) = csG G (2 * k + 1) m) := by unfold nv; split <;> omega
    have hle := hN (u ||| 2 ^ m) hor
    have hlb := RVk_b (show k + 1 ≤ 4 by omega) hle.1
    have d1 : f 159 ((4096 * (k + 1) + (u ||| 2 ^ m) : Nat) : Int).toNat = f 159 (4096 * (k + 1) + (u ||| 2 ^ m)) := by rw [Int.toNat_natCast]
    have s1 := Mn_sh (w := w1 G (2 * k + 1)) hle
    have s2 := Mn_sh (w := w1 G (2 * k)) hle
    have t3 : u.testBit m = false → ∀ (a : Int) (Y : Option xV), (0 ≤ a ∧ a ≤ 20000) → Mn (fun v => (MA G k u m v ∨ A1 G k u m v) ∨ A2 G k u m v) a → Rf (SHL L) 127 301 [some (.inr 149), some (.inl (k : Int)), some (.inl 1), some (.inl 1), some (.inl (w1 G (2 * k))), some (.inl (w1 G (2 * k + 1))), some (.inl (u : Int)), some (.inl (4096 * ((k : Int) + 1))), some (.inl a), some (.inl (m : Int)), some (.inl ((4096 * (k + 1) + (u ||| 2 ^ m) : Nat) : Int)), Y] [] f Q := by
      intro hum a Y ha hA
      refine R_push fx_127_301 ?_
      refine R_is fx_127_302 ?_
      refine C_127_q hV hk h1 h2 hu hI hB hN (r := m) (by omega) hum _ (fun a2 X2 ha2 hA2 => ?_) 12 0 a (by omega) ha (hA.congr (fun v => ⟨Or.inl, fun z => z.elim id (fun ⟨_, q, hq, _⟩ => absurd hq (by omega))⟩))
      refine R_inc fx_127_394 rfl ?_
      refine R_goto fx_127_397 ?_
      exact ih (m + 1) a2 _ _ (by omega) ha2 (hA2.congr (fun v => (MA_yes hum v).symm))
    have t2 : u.testBit m = false → ∀ (a : Int) (Y : Option xV), (0 ≤ a ∧ a ≤ 20000) → Mn (fun v => MA G k u m v ∨ A1 G k u m v) a → Rf (SHL L) 127 249 [some (.inr 149), some (.inl (k : Int)), some (.inl 1), some (.inl 1), some (.inl (w1 G (2 * k))), some (.inl (w1 G (2 * k + 1))), some (.inl (u : Int)), some (.inl (4096 * ((k : Int) + 1))), some (.inl a), some (.inl (m : Int)), some (.inl ((4096 * (k + 1) + (u ||| 2 ^ m) : Nat) : Int)), Y] [] f Q := by
      intro hum a Y ha hA
      refine R_il fx_127_249 rfl ?_
      refine R_ifeq fx_127_250 (by decide) (fun h => absurd h (by decide)) (fun _ => ?_)
      refine R_al fx_127_253 rfl (by omega) ?_
      refine R_gr fx_127_254 kd_149 rfl rr_149_16 ?_
      refine R_push fx_127_257 ?_
      refine R_il fx_127_259 rfl ?_
      refine R_mul fx_127_261 ?_
      refine R_push fx_127_262 ?_
      refine R_il fx_127_263 rfl ?_
      refine R_mul fx_127_264 ?_
      refine R_add fx_127_265 ?_
      refine R_push fx_127_266 ?_
      refine R_add fx_127_267 ?_
      refine R_ia fx_127_268 (Or.inl kd_157) (by omega) (by rw [ln_157]; omega) (by omega) ?_
      refine R_push fx_127_269 ?_
      rw [es2]
      refine R_icge fx_127_271 (by omega) (fun hc => ?_) (fun hc => ?_)
      · exact t3 hum a _ ha (hA.congr (fun v => ⟨Or.inl, fun z => z.elim id (fun y => absurd (by omega) y.2.1)⟩))
      · refine R_il fx_127_274 rfl ?_
        refine R_al fx_127_276 rfl (by omega) ?_
        refine R_gr fx_127_277 kd_149 rfl rr_149_18 ?_
        refine R_il fx_127_280 rfl ?_
        refine R_ia fx_127_282 (Or.inl kd_159) (by omega) (by rw [ln_159]; omega) (by omega) ?_
        refine R_add fx_127_283 ?_
        refine R_il fx_127_284 rfl ?_
        rw [d1]
        refine R_icge fx_127_286 (by omega) (fun hc2 => ?_) (fun hc2 => ?_)
        · exact t3 hum a _ ha (hA.keep s2 (fun v => ⟨fun z => z.imp id (fun y => y.2.2), fun z => z.imp id (fun y => ⟨h2, by omega, y⟩)⟩) (by omega))
        · refine R_il fx_127_289 rfl ?_
          refine R_al fx_127_291 rfl (by omega) ?_
          refine R_gr fx_127_292 kd_149 rfl rr_149_18 ?_
          refine R_il fx_127_295 rfl ?_
          refine R_ia fx_127_297 (Or.inl kd_159) (by omega) (by rw [ln_159]; omega) (by omega) ?_
          refine R_add fx_127_298 ?_
          refine R_is fx_127_299 ?_
          rw [d1, Int.add_comm (w1 G (2 * k))]
          exact t3 hum _ _ (by omega) (hA.take s2 (fun v => ⟨fun z => z.imp id (fun y => y.2.2), fun z => z.imp id (fun y => ⟨h2, by omega, y⟩)⟩) (by omega))
    refine R_il fx_127_161 rfl ?_
    refine R_push fx_127_163 ?_
    refine R_icge fx_127_165 (by omega) (fun hc => by omega) (fun hc => ?_)
    refine R_il fx_127_168 rfl ?_
    refine R_push fx_127_169 ?_
    refine R_icge fx_127_170 (by omega) (fun hc => by omega) (fun hc => ?_)
    refine R_al fx_127_173 rfl (by omega) ?_
    refine R_il fx_127_174 rfl ?_
    refine R_il fx_127_176 rfl ?_
    refine R_cv fx_127_178 rfl rfl rfl rfl kd_149 ?_
    refine C_122 (by omega) (by omega) (fun hb => ?_) (fun hb => ?_)
    · refine R_ifeq fx_127_181 (by decide) (fun h => absurd h (by decide)) (fun _ => ?_)
      refine R_goto fx_127_184 ?_
      refine R_inc fx_127_394 rfl ?_
      refine R_goto fx_127_397 ?_
      exact ih (m + 1) a _ _ (by omega) ha (hA.congr (MA_no hb))
    · refine R_ifeq fx_127_181 (by decide) (fun _ => ?_) (fun h => absurd h (by decide))
      refine R_il fx_127_187 rfl ?_
      refine R_il fx_127_189 rfl ?_
      refine R_push fx_127_191 ?_
      refine R_il fx_127_192 rfl ?_
      refine R_bin fx_127_194 (xb_shl (x := 1) (by omega) (by omega)) ?_
      refine R_bin fx_127_195 (xb_or (by omega) (by omega)) ?_
      rw [Nat.one_mul]
      refine R_add fx_127_196 ?_
      rw [show 4096 * ((k : Int) + 1) + ((u ||| 2 ^ m : Nat) : Int) = ((4096 * (k + 1) + (u ||| 2 ^ m) : Nat) : Int) by omega]
      refine R_is fx_127_197 ?_
      refine R_il fx_127_199 rfl ?_
      refine R_ifeq fx_127_200 (by decide) (fun h => absurd h (by decide)) (fun _ => ?_)
      refine R_al fx_127_203 rfl (by omega) ?_
      refine R_gr fx_127_204 kd_149 rfl rr_149_16 ?_
      refine R_push fx_127_207 ?_
      refine R_il fx_127_209 rfl ?_
      refine R_mul fx_127_211 ?_
      refine R_push fx_127_212 ?_
      refine R_il fx_127_213 rfl ?_
      refine R_mul fx_127_214 ?_
      refine R_add fx_127_215 ?_
      refine R_ia fx_127_216 (Or.inl kd_157) (by omega) (by rw [ln_157]; omega) (by omega) ?_
      refine R_push fx_127_217 ?_
      rw [es1]
      refine R_icge fx_127_219 (by omega) (fun hc => ?_) (fun hc => ?_)
      · exact t2 (by simpa using hb) a _ ha (hA.congr (fun v => ⟨Or.inl, fun z => z.elim id (fun y => absurd (by omega) y.2.1)⟩))
      · refine R_il fx_127_222 rfl ?_
        refine R_al fx_127_224 rfl (by omega) ?_
        refine R_gr fx_127_225 kd_149 rfl rr_149_18 ?_
        refine R_il fx_127_228 rfl ?_
        refine R_ia fx_127_230 (Or.inl kd_159) (by omega) (by rw [ln_159]; omega) (by omega) ?_
        refine R_add fx_127_231 ?_
        refine R_il fx_127_232 rfl ?_
        rw [d1]
        refine R_icge fx_127_234 (by omega) (fun hc2 => ?_) (fun hc2 => ?_)
        · exact t2 (by simpa using hb) a _ ha (hA.keep s1 (fun v => ⟨fun z => z.imp id (fun y => y.2.2), fun z => z.imp id (fun y => ⟨h1, by omega, y⟩)⟩) (by omega))
        · refine R_il fx_127_237 rfl ?_
          refine R_al fx_127_239 rfl (by omega) ?_
          refine R_gr fx_127_240 kd_149 rfl rr_149_18 ?_
          refine R_il fx_127_243 rfl ?_
          refine R_ia fx_127_245 (Or.inl kd_159) (by omega) (by rw [ln_159]; omega) (by omega) ?_
          refine R_add fx_127_246 ?_
          refine R_is fx_127_247 ?_
          rw [d1, Int.add_comm (w1 G (2 * k + 1))]
          exact t2 (by simpa using hb) _ _ (by omega) (hA.take s1 (fun v => ⟨fun z => z.imp id (fun y => y.2.2), fun z => z.imp id (fun y => ⟨h1, by omega, y⟩)⟩) (by omega))
end SF2
