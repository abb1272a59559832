/-! ===== the lay that is chosen ===== -/
def ff (p : Nat → Bool) : Nat → Option Nat
  | 0 => none
  | n + 1 => match ff p n with
    | some m => some m
    | none => if p n then some n else none
section FF
variable {p : Nat → Bool}
theorem ff_none : ∀ {n : Nat}, (∀ i, i < n → p i = false) → ff p n = none
  | 0, _ => rfl
  | n + 1, h => by simp only [ff, ff_none (n := n) (fun i hi => h i (by omega)), h n (by omega)]; rfl
theorem ff_some : ∀ {n m : Nat}, p m = true → m < n → (∀ i, i < m → p i = false) → ff p n = some m
  | 0, _, _, h, _ => absurd h (by omega)
  | n + 1, m, h1, h2, h3 => by
    by_cases e : m = n
    · subst e; simp only [ff, ff_none h3, h1]; rfl
    · simp only [ff, ff_some (n := n) h1 (by omega) h3]
theorem ff_spec : ∀ {n m : Nat}, ff p n = some m → m < n ∧ p m = true ∧ ∀ i, i < m → p i = false
  | 0, _, h => by simp [ff] at h
  | n + 1, m, h => by
    cases e : ff p n with
    | some m' =>
      simp only [ff, e, Option.some.injEq] at h
      subst h
      have := ff_spec e
      exact ⟨by omega, this.2⟩
    | none =>
      simp only [ff, e] at h
      have hn : ∀ {n : Nat}, ff p n = none → ∀ i, i < n → p i = false := by
        intro n
        induction n with
        | zero => intro _ i hi; omega
        | succ n ih =>
          intro h i hi
          cases e : ff p n with
          | some m' => simp [ff, e] at h
          | none =>
            by_cases e2 : i = n
            · subst e2
              simp only [ff, e] at h
              cases hp : p i with
              | false => rfl
              | true => rw [hp] at h; simp at h
            · exact ih e i (by omega)
      cases hp : p n with
      | false => rw [hp] at h; simp at h
      | true =>
        rw [hp] at h
        simp at h
        subst h
        exact ⟨by omega, hp, hn e⟩
theorem ff_ex {n m : Nat} (h : m < n) (hp : p m = true) : ∃ m', ff p n = some m' := by
  cases e : ff p n with
  | some m' => exact ⟨m', rfl⟩
  | none =>
    exfalso
    have key : ∀ {n : Nat}, ff p n = none → ∀ i, i < n → p i = false := by
      intro n
      induction n with
      | zero => intro _ i hi; omega
      | succ n ih =>
        intro h i hi
        cases e : ff p n with
        | some m' => simp [ff, e] at h
        | none =>
          by_cases e2 : i = n
          · subst e2
            simp only [ff, e] at h
            cases hp : p i with
            | false => rfl
            | true => rw [hp] at h; simp at h
          · exact ih e i (by omega)
    rw [key e m h] at hp
    exact absurd hp (by decide)
end FF
def okC (c a b : Int) : Bool := decide (c ≠ 268435456 ∧ a ≠ 268435456 ∧ c + a = b)
def okS (o : CO) (s set r : Nat) : Bool := !set.testBit r && okC (o.cs s r) (mn (lev o (s + 1) (set ||| 2 ^ r))) (mn (lev o s set))
def okP (o : CO) (c : Nat → Nat → Int) (k set t : Nat) : Bool := !(set.testBit (t / 12) || set.testBit (t % 12)) && okC (c (t / 12) (t % 12)) (mn (lev o (2 * k + 2) (set ||| 2 ^ (t / 12) ||| 2 ^ (t % 12)))) (mn (lev o (2 * k) set))
def pkS (o : CO) (s set : Nat) : Option Nat := if o.wa s then ff (okS o s set) 12 else none
def oz : Option Nat → Int
  | none => -1
  | some r => r
def oset (set : Nat) : Option Nat → Nat
  | none => set
  | some r => set ||| 2 ^ r
def ch1 (o : CO) (k set : Nat) : Option Nat × Option Nat := if o.mb k then ((ff (okP o (o.cp k) k set) 144).map (fun t => t / 12), (ff (okP o (o.cp k) k set) 144).map (fun t => t % 12)) else (pkS o (2 * k) set, pkS o (2 * k + 1) (oset set (pkS o (2 * k) set)))
def st1 (o : CO) (k set : Nat) : Nat := oset (oset set (ch1 o k set).1) (ch1 o k set).2
def setK (o : CO) : Nat → Nat
  | 0 => 0
  | k + 1 => st1 o k (setK o k)
def chO (o : CO) (s : Nat) : Option Nat := if s % 2 = 0 then (ch1 o (s / 2) (setK o (s / 2))).1 else (ch1 o (s / 2) (setK o (s / 2))).2
def chG (o : CO) (s : Nat) : Int := oz (chO o s)
section CH
variable {o : CO} {free : Nat}
theorem slot_le (ho : COk o free) {s set r : Nat} (hs : s < 8) (hw : o.wa s = true) (hm : o.mb (s / 2) = false) (hr : r < 12) (hb : set.testBit r = false) (hc : o.cs s r ≠ 268435456) (hn : mn (lev o (s + 1) (set ||| 2 ^ r)) ≠ 268435456) : mn (lev o s set) ≤ o.cs s r + mn (lev o (s + 1) (set ||| 2 ^ r)) := by
  apply mn_le
  rw [lev_slot hs hw hm]
  refine pt_mem.mpr ⟨r, hr, ?_⟩
  unfold slotG
  rw [hb, if_neg (by decide)]
  unfold sumL
  rw [if_neg hc]
  exact List.mem_map.mpr ⟨_, mn_mem hn, rfl⟩
theorem slot_ex (ho : COk o free) {s set : Nat} (hs : s < 8) (hw : o.wa s = true) (hm : o.mb (s / 2) = false) (hn : mn (lev o s set) ≠ 268435456) : ∃ r, r < 12 ∧ okS o s set r = true := by
  have h := mn_mem hn
  obtain ⟨v, hv⟩ : ∃ v, v = mn (lev o s set) := ⟨_, rfl⟩
  rw [← hv, lev_slot hs hw hm] at h
  obtain ⟨r, hr, h⟩ := pt_mem.mp h
  unfold slotG at h
  cases hb : set.testBit r with
  | true => rw [hb] at h; simp at h
  | false =>
    rw [hb, if_neg (by decide)] at h
    obtain ⟨hc, y, h1, h2⟩ := sumL_mem h
    have h3 := mn_le h1
    have h4 := lev_sml ho (set := set ||| 2 ^ r) (show s + 1 ≤ 8 by omega) y h1
    have h5 := slot_le ho hs hw hm hr hb hc (by omega)
    refine ⟨r, hr, ?_⟩
    unfold okS okC
    rw [hb]
    simp only [Bool.not_false, Bool.true_and, decide_eq_true_eq]
    exact ⟨hc, by omega, by omega⟩
theorem okS_iff {s set r : Nat} : okS o s set r = true ↔ set.testBit r = false ∧ o.cs s r ≠ 268435456 ∧ mn (lev o (s + 1) (set ||| 2 ^ r)) ≠ 268435456 ∧ o.cs s r + mn (lev o (s + 1) (set ||| 2 ^ r)) = mn (lev o s set) := by
  unfold okS okC
  simp only [Bool.and_eq_true, Bool.not_eq_true', decide_eq_true_eq]
theorem okP_iff {c : Nat → Nat → Int} {k set t : Nat} : okP o c k set t = true ↔ (set.testBit (t / 12) = false ∧ set.testBit (t % 12) = false) ∧ c (t / 12) (t % 12) ≠ 268435456 ∧ mn (lev o (2 * k + 2) (set ||| 2 ^ (t / 12) ||| 2 ^ (t % 12))) ≠ 268435456 ∧ c (t / 12) (t % 12) + mn (lev o (2 * k + 2) (set ||| 2 ^ (t / 12) ||| 2 ^ (t % 12))) = mn (lev o (2 * k) set) := by
  unfold okP okC
  simp only [Bool.and_eq_true, Bool.not_eq_true', Bool.or_eq_false_iff, decide_eq_true_eq]
theorem pair_ex (ho : COk o free) {k set : Nat} (hk : k < 4) (hm : o.mb k = true) (hn : mn (lev o (2 * k) set) ≠ 268435456) : ∃ t, t < 144 ∧ okP o (o.cp k) k set t = true := by
  have h := mn_mem hn
  obtain ⟨v, hv⟩ : ∃ v, v = mn (lev o (2 * k) set) := ⟨_, rfl⟩
  rw [← hv, lev_pair hk hm] at h
  obtain ⟨t, ht, h⟩ := pt_mem.mp h
  unfold pairG at h
  split at h
  · exact absurd h (by simp)
  · rename_i hb
    obtain ⟨hc, y, h1, h2⟩ := sumL_mem h
    have h3 := mn_le h1
    have h4 := lev_sml ho (set := set ||| 2 ^ (t / 12) ||| 2 ^ (t % 12)) (show 2 * k + 2 ≤ 8 by omega) y h1
    have h5 : mn (lev o (2 * k) set) ≤ o.cp k (t / 12) (t % 12) + mn (lev o (2 * k + 2) (set ||| 2 ^ (t / 12) ||| 2 ^ (t % 12))) := by
      apply mn_le
      rw [lev_pair hk hm]
      refine pt_mem.mpr ⟨t, ht, ?_⟩
      unfold pairG
      rw [if_neg hb]
      unfold sumL
      rw [if_neg hc]
      exact List.mem_map.mpr ⟨_, mn_mem (by omega), rfl⟩
    refine ⟨t, ht, okP_iff.mpr ⟨by simpa using hb, hc, by omega, by omega⟩⟩
/-- in a pair that need not beat, the first two that fit are the first and then the second that fit -/
theorem two_pick (ho : COk o free) {k set : Nat} (hk : k < 4) (hm : o.mb k = false) (h1 : o.wa (2 * k) = true) (h2 : o.wa (2 * k + 1) = true) (hn : mn (lev o (2 * k) set) ≠ 268435456) : ∃ r q, r < 12 ∧ q < 12 ∧ pkS o (2 * k) set = some r ∧ pkS o (2 * k + 1) (set ||| 2 ^ r) = some q ∧ ff (okP o (c2 o k) k set) 144 = some (12 * r + q) := by
  have m1 : o.mb (2 * k / 2) = false := by rw [show 2 * k / 2 = k by omega]; exact hm
  have m2 : o.mb ((2 * k + 1) / 2) = false := by rw [show (2 * k + 1) / 2 = k by omega]; exact hm
  obtain ⟨r', hr', ok'⟩ := slot_ex ho (by omega) h1 m1 hn
  obtain ⟨r, er⟩ := ff_ex hr' ok'
  obtain ⟨hr, okr, fr⟩ := ff_spec er
  have okr2 := okS_iff.mp okr
  obtain ⟨q', hq', ok2⟩ := slot_ex ho (s := 2 * k + 1) (by omega) h2 m2 okr2.2.2.1
  obtain ⟨q, eq⟩ := ff_ex hq' ok2
  obtain ⟨hq, okq, fq⟩ := ff_spec eq
  have okq2 := okS_iff.mp okq
  rw [show 2 * k + 1 + 1 = 2 * k + 2 from rfl] at okq2
  refine ⟨r, q, hr, hq, by unfold pkS; rw [if_pos h1]; exact er, by unfold pkS; rw [if_pos h2]; exact eq, ?_⟩
  have d1 : (12 * r + q) / 12 = r := by omega
  have d2 : (12 * r + q) % 12 = q := by omega
  have hrq : set.testBit q = false ∧ r ≠ q := by
    have := okq2.1
    rw [bit_or, Bool.or_eq_false_iff] at this
    exact ⟨this.1, by simpa using this.2⟩
  refine ff_some (okP_iff.mpr ?_) (by omega) ?_
  · rw [d1, d2]
    have e : c2 o k r q = o.cs (2 * k) r + o.cs (2 * k + 1) q := if_neg (by omega)
    rw [e]
    have a := (ho.cs (2 * k) r (by omega) hr).resolve_left okr2.2.1
    have b := (ho.cs (2 * k + 1) q (by omega) hq).resolve_left okq2.2.1
    have f1 := okr2.2.2.2
    have f2 := okq2.2.2.2
    exact ⟨⟨okr2.1, hrq.1⟩, by omega, okq2.2.2.1, by omega⟩
  · intro t ht
    cases hc : okP o (c2 o k) k set t with
    | false => rfl
    | true =>
      exfalso
      obtain ⟨⟨b1, b2⟩, b3, b4, b5⟩ := okP_iff.mp hc
      have l1 : t / 12 < 12 := by omega
      have l2 : t % 12 < 12 := by omega
      have hcc : ¬ (t / 12 = t % 12 ∨ o.cs (2 * k) (t / 12) = 268435456 ∨ o.cs (2 * k + 1) (t % 12) = 268435456) := fun z => b3 (if_pos z)
      have e : c2 o k (t / 12) (t % 12) = o.cs (2 * k) (t / 12) + o.cs (2 * k + 1) (t % 12) := if_neg hcc
      rw [e] at b5
      have s1 := slot_le ho (s := 2 * k + 1) (set := set ||| 2 ^ (t / 12)) (r := t % 12) (by omega) h2 m2 l2 (by rw [bit_or, b2]; simpa using fun z => hcc (Or.inl z)) (fun z => hcc (Or.inr (Or.inr z))) b4
      have c1 := (ho.cs (2 * k) (t / 12) (by omega) l1).resolve_left (fun z => hcc (Or.inr (Or.inl z)))
      have c3 := (ho.cs (2 * k + 1) (t % 12) (by omega) l2).resolve_left (fun z => hcc (Or.inr (Or.inr z)))
      have l3 := mn_b (lev_sml ho (s := 2 * k + 2) (set := set ||| 2 ^ (t / 12) ||| 2 ^ (t % 12)) (by omega))
      have e3 : 2 * k + 1 + 1 = 2 * k + 2 := rfl
      rw [e3] at s1
      have s2 := slot_le ho (s := 2 * k) (set := set) (r := t / 12) (by omega) h1 m1 l1 b1 (fun z => hcc (Or.inr (Or.inl z))) (by omega)
      have o1 : okS o (2 * k) set (t / 12) = true := okS_iff.mpr ⟨b1, fun z => hcc (Or.inr (Or.inl z)), by omega, by omega⟩
      have g1 : ¬ t / 12 < r := fun z => by rw [fr _ z] at o1; exact absurd o1 (by decide)
      have g2 : t / 12 = r := by omega
      have o2 : okS o (2 * k + 1) (set ||| 2 ^ (t / 12)) (t % 12) = true := okS_iff.mpr ⟨by rw [bit_or, b2]; simpa using fun z => hcc (Or.inl z), fun z => hcc (Or.inr (Or.inr z)), b4, by rw [e3]; omega⟩
      rw [g2] at o2
      have g3 : ¬ t % 12 < q := fun z => by rw [fq _ z] at o2; exact absurd o2 (by decide)
      omega
/-- what is chosen can be had -/
theorem ch1_a (ho : COk o free) {k set r : Nat} (hk : k < 4) (h : (ch1 o k set).1 = some r) : r < 12 ∧ set.testBit r = false ∧ o.cs (2 * k) r ≠ 268435456 ∧ o.wa (2 * k) = true := by
  unfold ch1 at h
  cases hm : o.mb k with
  | true =>
    rw [hm] at h
    simp only [if_true, Option.map_eq_some_iff] at h
    obtain ⟨t, h1, rfl⟩ := h
    obtain ⟨ht, h2, _⟩ := ff_spec h1
    have h3 := okP_iff.mp h2
    have h4 := (ho.cp k (t / 12) (t % 12) hk (by omega) (by omega)).resolve_left h3.2.1
    exact ⟨by omega, h3.1.1, h4.2.2.2.2.2.1, (ho.mb k hk hm).1⟩
  | false =>
    rw [hm] at h
    simp only [Bool.false_eq_true, if_false] at h
    unfold pkS at h
    split at h
    · rename_i hw
      obtain ⟨ht, h2, _⟩ := ff_spec h
      have h3 := okS_iff.mp h2
      exact ⟨ht, h3.1, h3.2.1, hw⟩
    · exact absurd h (by simp)
theorem ch1_b (ho : COk o free) {k set q : Nat} (hk : k < 4) (h : (ch1 o k set).2 = some q) : q < 12 ∧ (oset set (ch1 o k set).1).testBit q = false ∧ o.cs (2 * k + 1) q ≠ 268435456 ∧ o.wa (2 * k + 1) = true := by
  unfold ch1 at h ⊢
  cases hm : o.mb k with
  | true =>
    rw [hm] at h
    simp only [if_true, Option.map_eq_some_iff] at h ⊢
    obtain ⟨t, h1, rfl⟩ := h
    obtain ⟨ht, h2, _⟩ := ff_spec h1
    have h3 := okP_iff.mp h2
    have h4 := (ho.cp k (t / 12) (t % 12) hk (by omega) (by omega)).resolve_left h3.2.1
    refine ⟨by omega, ?_, h4.2.2.2.2.2.2, (ho.mb k hk hm).2⟩
    rw [h1]
    show (set ||| 2 ^ (t / 12)).testBit (t % 12) = false
    rw [bit_or, h3.1.2]
    simpa using h4.2.2.2.2.1
  | false =>
    rw [hm] at h
    simp only [Bool.false_eq_true, if_false] at h ⊢
    unfold pkS at h
    split at h
    · rename_i hw
      obtain ⟨ht, h2, _⟩ := ff_spec h
      have h3 := okS_iff.mp h2
      exact ⟨ht, h3.1, h3.2.1, hw⟩
    · exact absurd h (by simp)
theorem ch1_mb (ho : COk o free) {k set : Nat} (hk : k < 4) (hm : o.mb k = true) : ((ch1 o k set).1 = none ∧ (ch1 o k set).2 = none) ∨ ∃ r q, (ch1 o k set).1 = some r ∧ (ch1 o k set).2 = some q ∧ r < 12 ∧ q < 12 ∧ o.cp k r q ≠ 268435456 := by
  unfold ch1
  rw [hm]
  simp only [if_true]
  cases h : ff (okP o (o.cp k) k set) 144 with
  | none => exact Or.inl ⟨rfl, rfl⟩
  | some t =>
    obtain ⟨ht, h2, _⟩ := ff_spec h
    exact Or.inr ⟨t / 12, t % 12, rfl, rfl, by omega, by omega, (okP_iff.mp h2).2.1⟩
theorem oset_le {set r : Nat} {a : Option Nat} (h : set.testBit r = true) : (oset set a).testBit r = true := by
  cases a with
  | none => exact h
  | some q => show (set ||| 2 ^ q).testBit r = true; rw [bit_or, h]; rfl
theorem oset_in {set r : Nat} : (oset set (some r)).testBit r = true := by
  show (set ||| 2 ^ r).testBit r = true
  rw [bit_or]; simp
theorem st1_le {k set r : Nat} (h : set.testBit r = true) : (st1 o k set).testBit r = true := oset_le (oset_le h)
end CH
