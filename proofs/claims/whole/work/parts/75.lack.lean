/-! ===== what is left out: ways through the slots ===== -/
def nw (G : Nat → Int) (s : Nat) : Nat := if wsG G s then 1 else 0
def mw (G : Nat → Int) (s : Nat) : Nat := if wsG G s then 2 ^ s else 0
def SSt (G : Nat → Int) (s u u' n m : Nat) : Prop := (u' = u ∧ n = nw G s ∧ m = mw G s) ∨ (wsG G s = true ∧ n = 0 ∧ m = 0 ∧ ∃ r, r < 12 ∧ u.testBit r = false ∧ csG G s r ≠ 268435456 ∧ u' = u ||| 2 ^ r)
def KSt (G : Nat → Int) (k u u' n m : Nat) : Prop := (u' = u ∧ n = nw G (2 * k) + nw G (2 * k + 1) ∧ m = mw G (2 * k) + mw G (2 * k + 1)) ∨ (wsG G (2 * k) = true ∧ n = nw G (2 * k + 1) ∧ m = mw G (2 * k + 1) ∧ ∃ r, r < 12 ∧ u.testBit r = false ∧ csG G (2 * k) r ≠ 268435456 ∧ u' = u ||| 2 ^ r) ∨ (wsG G (2 * k + 1) = true ∧ n = nw G (2 * k) ∧ m = mw G (2 * k) ∧ ∃ r, r < 12 ∧ u.testBit r = false ∧ csG G (2 * k + 1) r ≠ 268435456 ∧ u' = u ||| 2 ^ r) ∨ (wsG G (2 * k) = true ∧ wsG G (2 * k + 1) = true ∧ n = 0 ∧ m = 0 ∧ ∃ r q, r < 12 ∧ q < 12 ∧ u.testBit r = false ∧ u.testBit q = false ∧ cbG G k r q ≠ 268435456 ∧ u' = u ||| 2 ^ r ||| 2 ^ q)
def cmp (P : Nat → Nat → Nat → Prop) (S : Nat → Nat → Nat → Nat → Prop) (u n m : Nat) : Prop := ∃ u1 n1 m1 n2 m2, P u1 n1 m1 ∧ S u1 u n2 m2 ∧ n = n1 + n2 ∧ m = m1 + m2
def FPt (G : Nat → Int) : Nat → Nat → Nat → Nat → Prop
  | 0 => fun u n m => u = 0 ∧ n = 0 ∧ m = 0
  | k + 1 => cmp (FPt G k) (KSt G k)
def RBt (G : Nat → Int) : Nat → Nat → Nat → Nat → Nat → Prop
  | 0 => fun _ _ n m => n = 0 ∧ m = 0
  | j + 1 => fun k u n m => ∃ u1 n1 m1 n2 m2, KSt G k u u1 n1 m1 ∧ RBt G j (k + 1) u1 n2 m2 ∧ n = n1 + n2 ∧ m = m1 + m2
section LA
variable {G : Nat → Int}
theorem FR_step {n m k : Nat} (hk : k < 4) : (∃ u n1 m1 n2 m2, FPt G k u n1 m1 ∧ RBt G (4 - k) k u n2 m2 ∧ n = n1 + n2 ∧ m = m1 + m2) ↔ (∃ u n1 m1 n2 m2, FPt G (k + 1) u n1 m1 ∧ RBt G (4 - (k + 1)) (k + 1) u n2 m2 ∧ n = n1 + n2 ∧ m = m1 + m2) := by
  rw [show 4 - k = (4 - (k + 1)) + 1 by omega]
  constructor
  · rintro ⟨u, n1, m1, n2, m2, h1, ⟨u1, n3, m3, n4, m4, h3, h4, rfl, rfl⟩, rfl, rfl⟩
    exact ⟨u1, n1 + n3, m1 + m3, n4, m4, ⟨u, n1, m1, n3, m3, h1, h3, rfl, rfl⟩, h4, by omega, by omega⟩
  · rintro ⟨u1, n1, m1, n2, m2, ⟨u, n3, m3, n4, m4, h1, h3, rfl, rfl⟩, h4, rfl, rfl⟩
    exact ⟨u, n3, m3, n4 + n2, m4 + m2, h1, ⟨u1, n4, m4, n2, m2, h3, h4, rfl, rfl⟩, by omega, by omega⟩
theorem FR {n m : Nat} : (∃ u, FPt G 4 u n m) ↔ RBt G 4 0 0 n m := by
  have h := ((FR_step (G := G) (n := n) (m := m) (k := 0) (by omega)).trans ((FR_step (k := 1) (by omega)).trans ((FR_step (k := 2) (by omega)).trans (FR_step (k := 3) (by omega)))))
  constructor
  · rintro ⟨u, hu⟩
    obtain ⟨u0, n1, m1, n2, m2, ⟨rfl, rfl, rfl⟩, h2, rfl, rfl⟩ := h.mpr ⟨u, n, m, 0, 0, hu, ⟨rfl, rfl⟩, rfl, rfl⟩
    simpa using h2
  · intro hr
    obtain ⟨u, n1, m1, n2, m2, h1, ⟨rfl, rfl⟩, rfl, rfl⟩ := h.mp ⟨0, 0, 0, n, m, ⟨rfl, rfl, rfl⟩, hr, by omega, by omega⟩
    exact ⟨u, h1⟩
/-- two slots of a pair that need not beat, one after the other -/
theorem SS2 (hV : VG G) {k u u' n m : Nat} (hk : k < 4) (hm : mbG G k = false) : (∃ u1 n1 m1 n2 m2, SSt G (2 * k) u u1 n1 m1 ∧ SSt G (2 * k + 1) u1 u' n2 m2 ∧ n = n1 + n2 ∧ m = m1 + m2) ↔ KSt G k u u' n m := by
  have hcb : ∀ r q, wsG G (2 * k) = true → wsG G (2 * k + 1) = true → cbG G k r q = c2 (coG G) k r q := fun r q h1 h2 => cb_no (fun z => of_decide_eq_false hm ⟨z, of_decide_eq_true h1, of_decide_eq_true h2⟩)
  constructor
  · rintro ⟨u1, n1, m1, n2, m2, h1, h2, rfl, rfl⟩
    rcases h1 with ⟨rfl, rfl, rfl⟩ | ⟨w1, rfl, rfl, r, hr, hb, hc, rfl⟩
    · rcases h2 with ⟨rfl, rfl, rfl⟩ | ⟨w2, rfl, rfl, q, hq, hb2, hc2, rfl⟩
      · exact Or.inl ⟨rfl, rfl, rfl⟩
      · exact Or.inr (Or.inr (Or.inl ⟨w2, by omega, by omega, q, hq, hb2, hc2, rfl⟩))
    · rcases h2 with ⟨rfl, rfl, rfl⟩ | ⟨w2, rfl, rfl, q, hq, hb2, hc2, rfl⟩
      · exact Or.inr (Or.inl ⟨w1, by omega, by omega, r, hr, hb, hc, rfl⟩)
      · rw [bit_or, Bool.or_eq_false_iff] at hb2
        have hne : r ≠ q := of_decide_eq_false hb2.2
        refine Or.inr (Or.inr (Or.inr ⟨w1, w2, rfl, rfl, r, q, hr, hq, hb, hb2.1, ?_, rfl⟩))
        rw [hcb r q w1 w2]
        have a := (csG_b (s := 2 * k) hV hr).resolve_left hc
        have b := (csG_b (s := 2 * k + 1) hV hq).resolve_left hc2
        have e : c2 (coG G) k r q = csG G (2 * k) r + csG G (2 * k + 1) q := if_neg (by rintro (z | z | z); exact hne z; exact hc z; exact hc2 z)
        omega
  · rintro (⟨rfl, rfl, rfl⟩ | ⟨w1, rfl, rfl, r, hr, hb, hc, rfl⟩ | ⟨w2, rfl, rfl, q, hq, hb2, hc2, rfl⟩ | ⟨w1, w2, rfl, rfl, r, q, hr, hq, hb, hb2, hc, rfl⟩)
    · exact ⟨u', _, _, _, _, Or.inl ⟨rfl, rfl, rfl⟩, Or.inl ⟨rfl, rfl, rfl⟩, rfl, rfl⟩
    · exact ⟨_, 0, 0, _, _, Or.inr ⟨w1, rfl, rfl, r, hr, hb, hc, rfl⟩, Or.inl ⟨rfl, rfl, rfl⟩, by omega, by omega⟩
    · exact ⟨_, _, _, 0, 0, Or.inl ⟨rfl, rfl, rfl⟩, Or.inr ⟨w2, rfl, rfl, q, hq, hb2, hc2, rfl⟩, rfl, rfl⟩
    · rw [hcb r q w1 w2] at hc
      have hn : ¬ (r = q ∨ csG G (2 * k) r = 268435456 ∨ csG G (2 * k + 1) q = 268435456) := fun z => hc (if_pos z)
      exact ⟨_, 0, 0, 0, 0, Or.inr ⟨w1, rfl, rfl, r, hr, hb, fun z => hn (Or.inr (Or.inl z)), rfl⟩, Or.inr ⟨w2, rfl, rfl, q, hq, by rw [bit_or, hb2]; simpa using fun z => hn (Or.inl z), fun z => hn (Or.inr (Or.inr z)), rfl⟩, rfl, rfl⟩
theorem nw_b {s : Nat} : nw G s ≤ 1 ∧ mw G s ≤ 2 ^ s := by unfold nw mw; split <;> simp
/-- what is bounded below slot s -/
def BP (G : Nat → Int) (P : Nat → Nat → Nat → Prop) (s : Nat) : Prop := ∀ u n m, P u n m → u < 4096 ∧ sub u (bset (frG G) 12) ∧ popc u 12 ≤ s ∧ n ≤ s ∧ m < 2 ^ s
theorem cs_free (hV : VG G) {s r : Nat} (hr : r < 12) (h : csG G s r ≠ 268435456) : (bset (frG G) 12).testBit r = true := by rw [frG_bit hr]; exact ((csG_b (s := s) hV hr).resolve_left h).2.2.1
theorem BP_slot (hV : VG G) {P : Nat → Nat → Nat → Prop} {s : Nat} (h : BP G P s) : BP G (cmp P (SSt G s)) (s + 1) := by
  rintro u n m ⟨u1, n1, m1, n2, m2, h1, h2, rfl, rfl⟩
  obtain ⟨a, b, c, d, e⟩ := h u1 n1 m1 h1
  have hw := nw_b (G := G) (s := s)
  have hp : 2 ^ (s + 1) = 2 ^ s * 2 := Nat.pow_succ ..
  rcases h2 with ⟨rfl, rfl, rfl⟩ | ⟨w1, rfl, rfl, r, hr, hb, hc, rfl⟩
  · exact ⟨a, b, by omega, by omega, by omega⟩
  · exact ⟨or_lt a hr, sub_or b (cs_free hV hr hc), by rw [popc_or hb, if_pos hr]; omega, by omega, by omega⟩
theorem cb_ok (hV : VG G) {k r q : Nat} (hr : r < 12) (hq : q < 12) (h : cbG G k r q ≠ 268435456) : r ≠ q ∧ csG G (2 * k) r ≠ 268435456 ∧ csG G (2 * k + 1) q ≠ 268435456 := by
  have hn : ¬ (r = q ∨ csG G (2 * k) r = 268435456 ∨ csG G (2 * k + 1) q = 268435456) := fun z => h (if_pos z)
  exact ⟨fun z => hn (Or.inl z), fun z => hn (Or.inr (Or.inl z)), fun z => hn (Or.inr (Or.inr z))⟩
theorem BP_pair (hV : VG G) {P : Nat → Nat → Nat → Prop} {k : Nat} (h : BP G P (2 * k)) : BP G (cmp P (KSt G k)) (2 * k + 2) := by
  rintro u n m ⟨u1, n1, m1, n2, m2, h1, h2, rfl, rfl⟩
  obtain ⟨a, b, c, d, e⟩ := h u1 n1 m1 h1
  have hw := nw_b (G := G) (s := 2 * k)
  have hw2 := nw_b (G := G) (s := 2 * k + 1)
  have hp : 2 ^ (2 * k + 1) = 2 ^ (2 * k) * 2 := Nat.pow_succ ..
  have hp2 : 2 ^ (2 * k + 2) = 2 ^ (2 * k + 1) * 2 := Nat.pow_succ ..
  rcases h2 with ⟨rfl, rfl, rfl⟩ | ⟨w1, rfl, rfl, r, hr, hb, hc, rfl⟩ | ⟨w1, rfl, rfl, r, hr, hb, hc, rfl⟩ | ⟨w1, w2, rfl, rfl, r, q, hr, hq, hb, hb2, hc, rfl⟩
  · exact ⟨a, b, by omega, by omega, by omega⟩
  · exact ⟨or_lt a hr, sub_or b (cs_free hV hr hc), by rw [popc_or hb, if_pos hr]; omega, by omega, by omega⟩
  · exact ⟨or_lt a hr, sub_or b (cs_free hV hr hc), by rw [popc_or hb, if_pos hr]; omega, by omega, by omega⟩
  · obtain ⟨x1, x2, x3⟩ := cb_ok hV hr hq hc
    have hb3 : (u1 ||| 2 ^ r).testBit q = false := by rw [bit_or, hb2]; simpa using x1
    exact ⟨or_lt (or_lt a hr) hq, sub_or (sub_or b (cs_free hV hr x2)) (cs_free hV hq x3), by rw [popc_or hb3, popc_or hb, if_pos hr, if_pos hq]; omega, by omega, by omega⟩
theorem BP_F (hV : VG G) : ∀ k, BP G (FPt G k) (2 * k)
  | 0 => by
    rintro u n m ⟨rfl, rfl, rfl⟩
    exact ⟨by omega, fun i hi => absurd hi (by simp), by rw [popc_0]; omega, by omega, by decide⟩
  | k + 1 => BP_pair hV (BP_F hV k)
/-- a lay is a way that leaves nothing out -/
theorem lay_way (hV : VG G) : ∀ (j k u : Nat), j + k = 4 → lev (coG G) (2 * k) u ≠ [] → RBt G j k u 0 0
  | 0, k, u, _, _ => ⟨rfl, rfl⟩
  | j + 1, k, u, h, hl => by
    obtain ⟨x, hx⟩ := List.exists_mem_of_ne_nil _ hl
    have hk : k < 4 := by omega
    have key : ∀ v, (∃ x, x ∈ lev (coG G) (2 * k + 2) v) → KSt G k u v 0 0 → RBt G (j + 1) k u 0 0 := fun v ⟨y, hy⟩ hs => ⟨v, 0, 0, 0, 0, hs, lay_way hV j (k + 1) v (by omega) (List.ne_nil_of_mem hy), rfl, rfl⟩
    by_cases h1 : G (4 + 2 * k) = -1
    · have e1 : nw G (2 * k) = 0 ∧ mw G (2 * k) = 0 := by unfold nw mw; rw [wsG_f h1]; exact ⟨rfl, rfl⟩
      by_cases h2 : G (4 + (2 * k + 1)) = -1
      · have e2 : nw G (2 * k + 1) = 0 ∧ mw G (2 * k + 1) = 0 := by unfold nw mw; rw [wsG_f h2]; exact ⟨rfl, rfl⟩
        rw [lev00 hV hk h1 h2] at hx
        obtain ⟨_, y, hy, _⟩ := sumL_mem hx
        exact key u ⟨y, hy⟩ (Or.inl ⟨rfl, by omega, by omega⟩)
      · rw [lev01 hV hk h1 h2] at hx
        obtain ⟨r, hr, hx⟩ := pt_mem.mp hx
        unfold slotG at hx
        split at hx
        · exact absurd hx (by simp)
        · rename_i hb
          obtain ⟨hc, y, hy, _⟩ := sumL_mem hx
          exact key _ ⟨y, hy⟩ (Or.inr (Or.inr (Or.inl ⟨decide_eq_true h2, by omega, by omega, r, hr, by simpa using hb, hc, rfl⟩)))
    · by_cases h2 : G (4 + (2 * k + 1)) = -1
      · have e2 : nw G (2 * k + 1) = 0 ∧ mw G (2 * k + 1) = 0 := by unfold nw mw; rw [wsG_f h2]; exact ⟨rfl, rfl⟩
        rw [lev10 hV hk h1 h2] at hx
        obtain ⟨r, hr, hx⟩ := pt_mem.mp hx
        unfold slotG at hx
        split at hx
        · exact absurd hx (by simp)
        · rename_i hb
          obtain ⟨hc, y, hy, _⟩ := sumL_mem hx
          exact key _ ⟨y, hy⟩ (Or.inr (Or.inl ⟨decide_eq_true h1, by omega, by omega, r, hr, by simpa using hb, hc, rfl⟩))
      · rw [lev11 hV hk h1 h2] at hx
        obtain ⟨t, ht, hx⟩ := pt_mem.mp hx
        unfold pairG at hx
        split at hx
        · exact absurd hx (by simp)
        · rename_i hb
          obtain ⟨hc, y, hy, _⟩ := sumL_mem hx
          simp only [Bool.or_eq_true, not_or] at hb
          exact key _ ⟨y, hy⟩ (Or.inr (Or.inr (Or.inr ⟨decide_eq_true h1, decide_eq_true h2, rfl, rfl, t / 12, t % 12, by omega, by omega, by simpa using hb.1, by simpa using hb.2, hc, rfl⟩)))
/-- the answer: the same from 256s and from 1000s -/
theorem lack_eq {Z : Nat → Nat → Prop} {v w : Int} (hz : ∀ n m, Z n m → n ≤ 8 ∧ m < 256) (hv : Lst (fun v => ∃ n m : Nat, Z n m ∧ v = 256 * (n : Int) + m) 268435456 v) (hw : (∃ n m : Nat, Z n m ∧ w = 1000 * (n : Int) + m) ∧ ∀ x, (∃ n m : Nat, Z n m ∧ x = 1000 * (n : Int) + m) → w ≤ x) : v % 256 = w % 1000 ∧ 0 ≤ v ∧ v ≤ 2303 := by
  obtain ⟨⟨n, m, h1, h2⟩, h3⟩ := hw
  have b1 := hz n m h1
  rcases hv with ⟨_, hn⟩ | ⟨⟨n', m', k1, k2⟩, k3⟩
  · exact absurd ⟨n, m, h1, rfl⟩ (hn _)
  · have b2 := hz n' m' k1
    have c1 := h3 _ ⟨n', m', k1, rfl⟩
    have c2 := k3 _ ⟨n, m, h1, rfl⟩
    omega
end LA
