/-! ===== make: what it does to the state ===== -/
def dnR (H : Nat → Int) (r s : Nat) (pl i j : Int) : Nat → Int := fun x => if x = 3 then 1 else if x = 4 then pl else if x = 5 then (s : Int) else filed H r i j x
def doneG (H : Nat → Int) (r s : Nat) (pl i j : Int) : Nat → Int := upR H r (dnR H r s pl i j)
noncomputable def opS (G H : Nat → Int) (s : Nat) (a : Option Nat) : Nat → Int := match a with
  | none => H
  | some r => doneG H r s (G 3) (wk G r s % 32) (wk G r s / 32 - wk G r s % 32)
noncomputable def opP (G H : Nat → Int) (k : Nat) (a b : Option Nat) : Nat → Int := match a, b with
  | some r, some q => doneG (doneG H r (2 * k) (G 3) (pk G r q k / 1024 % 32) (pk G r q k / 32 % 32)) q (2 * k + 1) (G 3) (pk G r q k % 32) (pk G r q k / 32768 - pk G r q k / 1024 % 32 - pk G r q k / 32 % 32 - pk G r q k % 32)
  | _, _ => H
noncomputable def opK (G H : Nat → Int) (k : Nat) (a b : Option Nat) : Nat → Int := if mbG G k then opP G H k a b else opS G (opS G H (2 * k) a) (2 * k + 1) b
noncomputable def mkS (G : Nat → Int) : Nat → Nat → Int
  | 0 => G
  | k + 1 => opK G (mkS G k) k (ch1 (coG G) k (setK (coG G) k)).1 (ch1 (coG G) k (setK (coG G) k)).2
noncomputable def mkF (G : Nat → Int) : Nat → Int := fun i => if 4 ≤ i ∧ i < 12 then -1 else if i = 3 then G 3 + 1 else mkS G 4 i
/-- between the steps of make: what has not been used stands as it stood -/
def MI (G H : Nat → Int) (set : Nat) : Prop := (∀ i, i < 20 → H i = G i) ∧ (∀ r, r < 12 → set.testBit r = false → ∀ j, j < 7 → H (20 + 7 * r + j) = G (20 + 7 * r + j)) ∧ VG H
theorem pk_congr {G2 G : Nat → Int} {r q k : Nat} (hi : ∀ i, i < 20 → i ≠ 3 → G2 i = G i) (hr : ∀ j, j < 7 → G2 (20 + 7 * r + j) = G (20 + 7 * r + j)) (hq : ∀ j, j < 7 → G2 (20 + 7 * q + j) = G (20 + 7 * q + j)) (hk : k < 4) : pk G2 r q k = pk G r q k := by
  have e1 : ∀ x, nr G2 r (2 * k) x = nr G r (2 * k) x := fun x => nr_congr (hr 0 (by omega)) (hr 1 (by omega)) (hr 2 (by omega)) (hi 1 (by omega) (by omega)) (hi _ (by omega) (by omega)) (hi 2 (by omega) (by omega))
  have e2 : ∀ x, nr G2 q (2 * k + 1) x = nr G q (2 * k + 1) x := fun x => nr_congr (hq 0 (by omega)) (hq 1 (by omega)) (hq 2 (by omega)) (hi 1 (by omega) (by omega)) (hi _ (by omega) (by omega)) (hi 2 (by omega) (by omega))
  unfold pk PK PKx inW
  simp only [e1, e2, hi 2 (by omega) (by omega), hi (12 + k) (by omega) (by omega), hi (16 + k) (by omega) (by omega), hi (4 + (2 * k + 1)) (by omega) (by omega), hi (4 + 2 * k) (by omega) (by omega)]
section MM
variable {G H : Nat → Int} {set : Nat}
theorem MI.wk (h : MI G H set) {r s : Nat} (hr : r < 12) (hb : set.testBit r = false) (hs : s < 8) : wk H r s = wk G r s := wk_congr (h.2.1 r hr hb 0 (by omega)) (h.2.1 r hr hb 1 (by omega)) (h.2.1 r hr hb 2 (by omega)) (h.1 1 (by omega)) (h.1 _ (by omega)) (h.1 2 (by omega))
theorem MI.pk (h : MI G H set) {r q k : Nat} (hr : r < 12) (hb : set.testBit r = false) (hq : q < 12) (hb2 : set.testBit q = false) (hk : k < 4) : pk H r q k = pk G r q k := pk_congr (fun i hi _ => h.1 i hi) (h.2.1 r hr hb) (h.2.1 q hq hb2) hk
theorem filed_ne {r q : Nat} {R : Nat → Int} {i j : Int} {x : Nat} (h : r ≠ q) (hx : x < 7) : filed (upR H r R) q i j x = filed H q i j x := by
  have e : ∀ d, d < 7 → upR H r R (20 + 7 * q + d) = H (20 + 7 * q + d) := fun d hd => upR_out (by omega)
  have e0 : upR H r R (20 + 7 * q) = H (20 + 7 * q) := e 0 (by omega)
  have e1 : upR H r R 1 = H 1 := upR_out (by omega)
  rcases (show x = 0 ∨ x = 1 ∨ x = 2 ∨ x = 3 ∨ x = 4 ∨ x = 5 ∨ x = 6 by omega) with rfl | rfl | rfl | rfl | rfl | rfl | rfl
  · show upR H r R (20 + 7 * q) + i * upR H r R 1 - dr (upR H r R (20 + 7 * q + 1)) j.toNat = _; rw [e0, e1, e 1 (by omega)]; rfl
  · show upR H r R (20 + 7 * q + 1) - j = _; rw [e 1 (by omega)]; rfl
  · show upR H r R (20 + 7 * q + 2) - i = _; rw [e 2 (by omega)]; rfl
  · show upR H r R (20 + 7 * q + 3) = _; rw [e 3 (by omega)]; rfl
  · show upR H r R (20 + 7 * q + 4) = _; rw [e 4 (by omega)]; rfl
  · show upR H r R (20 + 7 * q + 5) = _; rw [e 5 (by omega)]; rfl
  · show upR H r R (20 + 7 * q + 6) + (i + j) = _; rw [e 6 (by omega)]; rfl
theorem MI_done (h : MI G H set) {r s : Nat} {pl i j : Int} (hr : r < 12) (hb : set.testBit r = false) (hg : (r : Int) < G 0) (hi : 0 ≤ i ∧ i ≤ G (20 + 7 * r + 2)) (hj : 0 ≤ j ∧ j < G (20 + 7 * r + 1)) : MI G (doneG H r s pl i j) (set ||| 2 ^ r) := by
  obtain ⟨h1, h2, h3⟩ := h
  have hg2 : (r : Int) < H 0 := by rw [h1 0 (by omega)]; exact hg
  have e1 := h2 r hr hb 1 (by omega)
  have e2 := h2 r hr hb 2 (by omega)
  have hf := VG_file h3 hr hg2 (i := i) (j := j) (by omega) (by omega)
  have b := hf.2.2.2.2.2 r hr (by rw [upR_out (by omega)]; exact hg2)
  rw [upR_in (by omega), upR_in (by omega), show upR H r (filed H r i j) (20 + 7 * r) = filed H r i j 0 from upR_in (j := 0) (by omega), upR_in (by omega)] at b
  refine ⟨fun x hx => ?_, fun q hq hqb x hx => ?_, VG_upR h3 b.1 b.2.1 b.2.2.1 (by show 0 ≤ (1 : Int) ∧ (1 : Int) ≤ 2; omega)⟩
  · show upR _ _ _ _ = _
    rw [upR_out (by omega)]; exact h1 x hx
  · rw [bit_or, Bool.or_eq_false_iff] at hqb
    have hne : r ≠ q := of_decide_eq_false hqb.2
    show upR _ _ _ _ = _
    rw [upR_out (by omega)]; exact h2 q hq hqb.1 x hx
end MM
theorem wk_use {G : Nat → Int} (hV : VG G) {s r : Nat} (hr : r < 12) (hc : csG G s r ≠ 268435456) : (r : Int) < G 0 ∧ G (20 + 7 * r + 3) = 0 ∧ G (4 + s) ≠ -1 ∧ wk G r s ≠ 268435456 ∧ (0 ≤ wk G r s ∧ wk G r s ≤ 1268) ∧ (0 ≤ wk G r s % 32 ∧ wk G r s % 32 ≤ G (20 + 7 * r + 2)) ∧ 0 ≤ wk G r s / 32 - wk G r s % 32 ∧ wk G r s / 32 - wk G r s % 32 < G (20 + 7 * r + 1) := by
  have h := (csG_b (s := s) hV hr).resolve_left hc
  have h2 := of_decide_eq_true (show decide _ = true from h.2.2.1)
  have b := (wk_b (s := s) hV hr h2.1).resolve_left h.2.2.2.1
  exact ⟨h2.1, h2.2, h.2.2.2.2.2, h.2.2.2.1, by omega, by omega, by omega⟩
theorem dec4 {P s t u v : Int} (h : P = ((s * 32 + t) * 32 + u) * 32 + v) (ht : 0 ≤ t ∧ t < 32) (hu : 0 ≤ u ∧ u < 32) (hv : 0 ≤ v ∧ v < 32) : P / 32768 = s ∧ P / 1024 % 32 = t ∧ P / 32 % 32 = u ∧ P % 32 = v := by
  subst h
  refine ⟨by omega, by omega, by omega, by omega⟩
theorem pk_use {G : Nat → Int} (hV : VG G) {k r q : Nat} (hr : r < 12) (hq : q < 12) (hc : cpG G k r q ≠ 268435456) : (0 ≤ pk G r q k ∧ pk G r q k ≤ 3000000) ∧ (0 ≤ pk G r q k / 1024 % 32 ∧ pk G r q k / 1024 % 32 ≤ G (20 + 7 * r + 2)) ∧ (0 ≤ pk G r q k / 32 % 32 ∧ pk G r q k / 32 % 32 < G (20 + 7 * r + 1)) ∧ (0 ≤ pk G r q k % 32 ∧ pk G r q k % 32 ≤ G (20 + 7 * q + 2)) ∧ 0 ≤ pk G r q k / 32768 - pk G r q k / 1024 % 32 - pk G r q k / 32 % 32 - pk G r q k % 32 ∧ pk G r q k / 32768 - pk G r q k / 1024 % 32 - pk G r q k / 32 % 32 - pk G r q k % 32 < G (20 + 7 * q + 1) := by
  have h := (cpG_b (k := k) hV hr hq).resolve_left hc
  have a := wk_use hV hr h.2.2.2.2.1
  have b := wk_use hV hq h.2.2.2.2.2.1
  have vr := hV.2.2.2.2.2 r hr a.1
  have vq := hV.2.2.2.2.2 q hq b.1
  have hb := (pk_b (k := k) hV hr a.1 hq b.1).resolve_left h.2.2.2.2.2.2.1
  rcases (pk_is (k := k) hV hr a.1 hq b.1).far_or with z | ⟨x, _, z1, y, _, _, z2, z3⟩
  · exact absurd z h.2.2.2.2.2.2.1
  · have n1 := (nr_b (s := 2 * k) (x := x) hV hr a.1).resolve_left z1
    have n2 := (nr_b (s := 2 * k + 1) (x := y) hV hq b.1).resolve_left z2
    obtain ⟨A, hA⟩ : ∃ A, A = nr G r (2 * k) x := ⟨_, rfl⟩
    obtain ⟨B, hB⟩ : ∃ B, B = nr G q (2 * k + 1) y := ⟨_, rfl⟩
    obtain ⟨P, hP⟩ : ∃ P, P = pk G r q k := ⟨_, rfl⟩
    rw [← hA] at n1 z3
    rw [← hB] at n2 z3
    rw [← hP] at z3 hb ⊢
    unfold jk at z3
    obtain ⟨m1, m2, m3, m4⟩ := dec4 z3 (by omega) (by omega) (by omega)
    rw [m1, m2, m3, m4]
    refine ⟨hb, ⟨by omega, n1.2.2.1⟩, ⟨n1.2.2.2.1, n1.2.2.2.2⟩, ⟨by omega, n2.2.2.1⟩, ?_, ?_⟩
    · have := n2.2.2.2.1; omega
    · have := n2.2.2.2.2; omega
section MC
variable {L : Nat} {f : xF} {Q : List xV → xF → Prop} {G H : Nat → Int} {set : Nat}
theorem C_81 {s2 : Int} {s : Nat} {a : Option Nat} (es : s2 = s) (hs : s < 8) (hV : VG G) (hI : MI G H set) (hS : Sg f 4 H) (ha : ∀ r, a = some r → r < 12 ∧ set.testBit r = false ∧ csG G s r ≠ 268435456) (h148 : f 148 s = oz a) (K : ∀ g : xF, (∀ c, (c < 4 ∨ 20 < c) → c ≠ 139 → g c = f c) → Sg g 4 (opS G H s a) → Q [] g) : Rf (SHL L) 81 0 (xloc 81 [.inr 141, .inr 4, .inr 125, .inl s2]) [] f Q := by
  subst es
  have e1 : f 148 (s : Int).toNat = oz a := by rw [Int.toNat_natCast]; exact h148
  cases a with
  | none =>
    have e2 : f 148 (s : Int).toNat = -1 := e1
    refine R_al fx_81_0 rfl (by omega) ?_
    refine R_gr fx_81_1 kd_141 rfl rr_141_4 ?_
    refine R_il fx_81_4 rfl ?_
    refine R_ia fx_81_5 (Or.inl kd_148) (by omega) (by rw [ln_148]; omega) (by omega) ?_
    refine R_is fx_81_6 ?_
    refine R_al fx_81_8 rfl (by omega) ?_
    refine R_il fx_81_9 rfl ?_
    refine R_cv fx_81_11 rfl rfl rfl rfl kd_4 ?_
    rw [e2]
    refine C_18 (by omega) (hI.2.2.m hS) (hI.2.2.p hS) (fun hc => by omega) (fun hc => ?_)
    refine R_ifeq fx_81_14 (by decide) (fun _ => ?_) (fun h => absurd h (by decide))
    exact R_retv fx_81_25 rfl (K f (fun _ _ _ => rfl) hS)
  | some r =>
    have e2 : f 148 (s : Int).toNat = (r : Int) := e1
    obtain ⟨hr, hb, hc0⟩ := ha r rfl
    obtain ⟨u1, u2, u3, u4, u5, u6, u7, u8⟩ := wk_use hV hr hc0
    have h0 : (r : Int) < H 0 := by rw [hI.1 0 (by omega)]; exact u1
    have hp0 : f (9 + r) 3 = 0 := by rw [hS.rd hr h0 (by omega), hI.2.1 r hr hb 3 (by omega)]; exact u2
    have hm0 := hI.2.2.m hS
    have e44 : f 4 4 = H 0 := hS.1.1
    have hw6 : f 6 (s : Int).toNat ≠ -1 := by rw [Int.toNat_natCast, show f 6 s = f (4 + 2) s from rfl, hS.2.1 s hs, hI.1 _ (by omega)]; exact u3
    refine R_al fx_81_0 rfl (by omega) ?_
    refine R_gr fx_81_1 kd_141 rfl rr_141_4 ?_
    refine R_il fx_81_4 rfl ?_
    refine R_ia fx_81_5 (Or.inl kd_148) (by omega) (by rw [ln_148]; omega) (by omega) ?_
    refine R_is fx_81_6 ?_
    refine R_al fx_81_8 rfl (by omega) ?_
    refine R_il fx_81_9 rfl ?_
    refine R_cv fx_81_11 rfl rfl rfl rfl kd_4 ?_
    rw [e2]
    refine C_18 (by omega) (hI.2.2.m hS) (hI.2.2.p hS) (fun hc => ?_) (fun hc => absurd ⟨⟨by omega, by omega⟩, by rw [Int.toNat_natCast]; exact hp0⟩ hc)
    refine R_ifeq fx_81_14 (by decide) (fun h => absurd h (by decide)) (fun _ => ?_)
    refine R_al fx_81_17 rfl (by omega) ?_
    refine R_il fx_81_18 rfl ?_
    refine R_cv fx_81_19 rfl rfl rfl rfl kd_4 ?_
    refine C_33 (by omega) (hI.2.2.w hS) (fun hc => ?_) (fun hc => absurd ⟨⟨by omega, by omega⟩, hw6⟩ hc)
    refine R_ifne fx_81_22 (by decide) (fun _ => ?_) (fun h => absurd h (by decide))
    refine R_al fx_81_26 rfl (by omega) ?_
    refine R_al fx_81_27 rfl (by omega) ?_
    refine R_il fx_81_28 rfl ?_
    refine R_il fx_81_30 rfl ?_
    refine R_cv fx_81_31 rfl rfl rfl rfl kd_125 ?_
    refine C_36 (r := r) (s := s) rfl rfl hI.2.2 hS hr h0 hs (fun g1 hF => ?_)
    rw [hI.wk hr hb hs]
    have hS1 : Sg g1 4 H := hS.kept (fun c _ _ => hF c (by omega))
    refine R_is fx_81_34 ?_
    refine R_al fx_81_36 rfl (by omega) ?_
    refine R_gr fx_81_37 kd_4 rfl rr_4_0 ?_
    refine R_il fx_81_40 rfl ?_
    refine R_aa (q := 9 + r) fx_81_42 (Or.inl kd_5) (by omega) (by rw [ln_5]; omega) (by omega) (by rw [Int.toNat_natCast]; exact rr_reed r (by omega)) ?_
    refine R_il fx_81_43 rfl ?_
    refine R_cs fx_81_45 rfl rfl rfl rfl ?_
    refine C_40 (by omega) ?_
    refine R_il fx_81_48 rfl ?_
    refine R_cs fx_81_50 rfl rfl rfl rfl ?_
    refine C_41 (by omega) ?_
    refine R_al fx_81_53 rfl (by omega) ?_
    refine R_gf fx_81_54 kd_4 rfl ?_
    refine R_cv fx_81_57 rfl rfl rfl rfl (kd_reed _ (by omega)) ?_
    refine C_26i (by omega) (kd_reed _ hr) (by have := (hI.2.2.2.2.2.2.2 r hr h0).1; have := hI.2.1 r hr hb 1 (by omega); omega) (fun g2 k1 k2 => ?_)
    refine R_al fx_81_60 rfl (by omega) ?_
    refine R_gr fx_81_61 kd_4 rfl rr_4_0 ?_
    refine R_il fx_81_64 rfl ?_
    refine R_aa (q := 9 + r) fx_81_66 (Or.inl kd_5) (by omega) (by rw [ln_5]; omega) (by omega) (by rw [Int.toNat_natCast]; exact rr_reed r (by omega)) ?_
    refine R_al fx_81_67 rfl (by omega) ?_
    refine R_gf fx_81_68 kd_4 rfl ?_
    refine R_il fx_81_71 rfl ?_
    refine R_cv fx_81_72 rfl rfl rfl rfl (kd_reed _ (by omega)) ?_
    refine C_80 (by omega) (kd_reed _ hr) ?_
    have x0 := hS1.rd hr h0 (j := 0) (by omega)
    have x1 := hS1.rd hr h0 (j := 1) (by omega)
    have x2 := hS1.rd hr h0 (j := 2) (by omega)
    have x3 := hS1.rd hr h0 (j := 3) (by omega)
    have x4 := hS1.rd hr h0 (j := 4) (by omega)
    have x5 := hS1.rd hr h0 (j := 5) (by omega)
    have x6 := hS1.rd hr h0 (j := 6) (by omega)
    have er : g1 4 5 = H 1 := hS1.1.2.1
    have ep : g2 4 7 = G 3 := by rw [k2 4 (by omega), ← hI.1 3 (by omega)]; exact hS1.1.2.2.2
    obtain ⟨a0, a1, a2, a3, a4, a5, a6⟩ := k1
    rw [er] at a0
    refine R_retv fx_81_75 rfl (K _ (fun c hc hc2 => ?_) (hS1.reed hr (fun j hj => ?_) (fun c hc => ?_)))
    · funext y; rw [xup_a (by omega), xup_a (by omega), xup_a (by omega), k2 c (by omega), hF c hc2]
    · rcases (show j = 0 ∨ j = 1 ∨ j = 2 ∨ j = 3 ∨ j = 4 ∨ j = 5 ∨ j = 6 by omega) with rfl | rfl | rfl | rfl | rfl | rfl | rfl
      · rw [xup_i (by omega), xup_i (by omega), xup_i (by omega), a0, x0, x1]; rfl
      · rw [xup_i (by omega), xup_i (by omega), xup_i (by omega), a1, x1]; rfl
      · rw [xup_i (by omega), xup_i (by omega), xup_i (by omega), a2, x2]; rfl
      · rw [xup_i (by omega), xup_i (by omega), xup_s]; rfl
      · rw [xup_i (by omega), xup_s, ep]; rfl
      · rw [xup_s]; rfl
      · rw [xup_i (by omega), xup_i (by omega), xup_i (by omega), a6, x6]; rfl
    · funext y; rw [xup_a hc, xup_a hc, xup_a hc, k2 c hc]
end MC
