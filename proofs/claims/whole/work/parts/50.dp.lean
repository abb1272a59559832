/-! ===== lists of costs: the least of them, and how often it stands there ===== -/
def mn : List Int → Int
  | [] => 268435456
  | x :: l => if x < mn l then x else mn l
def ct (l : List Int) : Int := (l.count (mn l) : Int)
def sumL (c : Int) (l : List Int) : List Int := if c = 268435456 then [] else l.map (fun x => c + x)
def sml (l : List Int) : Prop := ∀ x ∈ l, 0 ≤ x ∧ x ≤ 100000
section DL
variable {l a b : List Int} {c v x : Int}
theorem mn_far : mn l ≤ 268435456 := by
  induction l with
  | nil => exact Int.le_refl _
  | cons x l ih => simp only [mn]; split <;> omega
theorem mn_le (h : x ∈ l) : mn l ≤ x := by
  induction l with
  | nil => exact absurd h (by simp)
  | cons y l ih =>
    simp only [mn]
    rcases List.mem_cons.mp h with e | e
    · subst e; split <;> omega
    · have := ih e; split <;> omega
theorem mn_or : mn l = 268435456 ∨ mn l ∈ l := by
  induction l with
  | nil => exact Or.inl rfl
  | cons x l ih =>
    simp only [mn]
    split
    · exact Or.inr (by simp)
    · exact ih.imp id (fun h => by simp [h])
theorem mn_nil (h : sml l) (e : mn l = 268435456) : l = [] := by
  cases l with
  | nil => rfl
  | cons x l => have := mn_le (l := x :: l) (x := x) (by simp); have := h x (by simp); omega
theorem mn_mem (e : mn l ≠ 268435456) : mn l ∈ l := mn_or.resolve_left e
theorem mn_b (h : sml l) : mn l = 268435456 ∨ (0 ≤ mn l ∧ mn l ≤ 100000) := mn_or.imp id (fun z => h _ z)
theorem mn_app : mn (a ++ b) = if mn b < mn a then mn b else mn a := by
  induction a with
  | nil => have := mn_far (l := b); show mn b = if mn b < 268435456 then mn b else 268435456; split <;> omega
  | cons x a ih => simp only [List.cons_append, mn, ih]; repeat (first | omega | split)
theorem mn_uniq (h1 : v ∈ l) (h2 : ∀ x ∈ l, v ≤ x) (h3 : v < 268435456) : mn l = v := by
  have h4 := mn_le h1
  rcases mn_or (l := l) with e | e
  · omega
  · have := h2 _ e; omega
theorem mn_sum (hc : c ≠ 268435456) (hl : sml l) (hb : -1000 ≤ c ∧ c ≤ 1000) : mn (sumL c l) = if mn l = 268435456 then 268435456 else c + mn l := by
  unfold sumL
  rw [if_neg hc]
  split
  · rename_i h; rw [mn_nil hl h]; rfl
  · rename_i h
    have hm := mn_mem h
    refine mn_uniq (List.mem_map.mpr ⟨_, hm, rfl⟩) ?_ (by have := hl _ hm; omega)
    intro x hx
    obtain ⟨y, h1, rfl⟩ := List.mem_map.mp hx
    have := mn_le h1
    omega
theorem cnt_map : (l.map (fun x => c + x)).count (c + v) = l.count v := by
  induction l with
  | nil => rfl
  | cons x l ih =>
    simp only [List.map_cons, List.count_cons, ih]
    congr 1
    by_cases e : x = v
    · subst e; simp
    · rw [if_neg (by simpa using e), if_neg (by simp; omega)]
theorem cnt_no (h : v ∉ l) : l.count v = 0 := List.count_eq_zero.mpr h
theorem ct_app : ct (a ++ b) = (if mn b < mn a then 0 else ct a) + (if mn b ≤ mn a then ct b else 0) := by
  unfold ct
  rw [mn_app, List.count_append]
  rcases Int.lt_trichotomy (mn b) (mn a) with h | h | h
  · rw [if_pos h, if_pos h, if_pos (by omega), cnt_no (l := a) (fun z => by have := mn_le z; omega)]; omega
  · rw [if_neg (by omega), if_neg (by omega), if_pos (by omega), h]; omega
  · rw [if_neg (by omega), if_neg (by omega), if_neg (by omega), cnt_no (l := b) (fun z => by have := mn_le z; omega)]; omega
theorem ct_sum (hc : c ≠ 268435456) (hl : sml l) (hb : -1000 ≤ c ∧ c ≤ 1000) : ct (sumL c l) = ct l := by
  unfold ct
  rw [mn_sum hc hl hb]
  unfold sumL
  rw [if_neg hc]
  split
  · rename_i h; rw [mn_nil hl h]; rfl
  · rw [cnt_map]
theorem ct_nil (h : sml l) (e : mn l = 268435456) : ct l = 0 := by rw [mn_nil h e]; rfl
/-- what an offer does to the least and to the ways -/
theorem of_no (hl : sml b) (e : mn b = 268435456) : a ++ sumL c b = a := by
  rw [mn_nil hl e]; unfold sumL; split <;> simp
theorem of_mn (hc : c ≠ 268435456) (hl : sml b) (hb : 0 ≤ c ∧ c ≤ 1000) (e : mn b ≠ 268435456) : mn (a ++ sumL c b) = if c + mn b < mn a then c + mn b else mn a := by
  rw [mn_app, mn_sum hc hl (by omega), if_neg e]
theorem of_ct (hc : c ≠ 268435456) (hl : sml b) (hb : 0 ≤ c ∧ c ≤ 1000) (e : mn b ≠ 268435456) : ct (a ++ sumL c b) = (if c + mn b < mn a then 0 else ct a) + (if c + mn b ≤ mn a then ct b else 0) := by
  rw [ct_app, mn_sum hc hl (by omega), if_neg e, ct_sum hc hl (by omega)]
theorem sml_app (ha : sml a) (hb : sml b) : sml (a ++ b) := fun x hx => (List.mem_append.mp hx).elim (ha x) (hb x)
end DL
/-! ===== the costs; all ways to fill the slots ===== -/
def CO : Type := (Nat → Nat → Int) × (Nat → Nat → Nat → Int) × (Nat → Bool) × (Nat → Bool)
def CO.cs (o : CO) : Nat → Nat → Int := o.1
def CO.cp (o : CO) : Nat → Nat → Nat → Int := o.2.1
def CO.wa (o : CO) : Nat → Bool := o.2.2.1
def CO.mb (o : CO) : Nat → Bool := o.2.2.2
def pt (g : Nat → List Int) (n : Nat) : List Int := (List.range n).flatMap g
theorem pt_succ (g : Nat → List Int) (n : Nat) : pt g (n + 1) = pt g n ++ g n := by
  unfold pt; rw [List.range_succ, List.flatMap_append]; simp
theorem pt_congr {g h : Nat → List Int} {n : Nat} (e : ∀ i, i < n → g i = h i) : pt g n = pt h n := by
  induction n with
  | zero => rfl
  | succ n ih => rw [pt_succ, pt_succ, ih (fun i hi => e i (by omega)), e n (by omega)]
theorem pt_mem {g : Nat → List Int} {n : Nat} {x : Int} : x ∈ pt g n ↔ ∃ i, i < n ∧ x ∈ g i := by
  unfold pt; simp [List.mem_flatMap]
theorem pt_skip {g : Nat → List Int} {n m : Nat} (h : ∀ i, n ≤ i → i < n + m → g i = []) : pt g (n + m) = pt g n := by
  induction m with
  | zero => rfl
  | succ m ih => rw [show n + (m + 1) = (n + m) + 1 from rfl, pt_succ, ih (fun i a b => h i a (by omega)), h (n + m) (by omega) (by omega)]; simp
def slotG (c : Nat → Int) (F : Nat → List Int) (set r : Nat) : List Int := if set.testBit r then [] else sumL (c r) (F (set ||| 2 ^ r))
def pairG (c : Nat → Nat → Int) (F : Nat → List Int) (set t : Nat) : List Int := if set.testBit (t / 12) || set.testBit (t % 12) then [] else sumL (c (t / 12) (t % 12)) (F (set ||| 2 ^ (t / 12) ||| 2 ^ (t % 12)))
def slotL (o : CO) (s : Nat) (F : Nat → List Int) (set : Nat) : List Int := if o.wa s then pt (slotG (o.cs s) F set) 12 else F set
def pairL (c : Nat → Nat → Int) (F : Nat → List Int) (set : Nat) : List Int := pt (pairG c F set) 144
def levP (o : CO) : Nat → Nat → List Int
  | 0, _ => [0]
  | n + 1, set => if o.mb (3 - n) then pairL (o.cp (3 - n)) (levP o n) set else slotL o (2 * (3 - n)) (slotL o (2 * (3 - n) + 1) (levP o n)) set
def lev (o : CO) (s : Nat) (set : Nat) : List Int := if s % 2 = 0 then levP o (4 - s / 2) set else if o.mb (s / 2) then [] else slotL o s (levP o (3 - s / 2)) set
def COk (o : CO) (free : Nat) : Prop := (∀ s r, s < 8 → r < 12 → o.cs s r = 268435456 ∨ (0 ≤ o.cs s r ∧ o.cs s r ≤ 100 ∧ free.testBit r = true)) ∧ (∀ k r q, k < 4 → r < 12 → q < 12 → o.cp k r q = 268435456 ∨ (0 ≤ o.cp k r q ∧ o.cp k r q ≤ 200 ∧ free.testBit r = true ∧ free.testBit q = true ∧ r ≠ q ∧ o.cs (2 * k) r ≠ 268435456 ∧ o.cs (2 * k + 1) q ≠ 268435456)) ∧ ∀ k, k < 4 → o.mb k = true → o.wa (2 * k) = true ∧ o.wa (2 * k + 1) = true
theorem COk.cs {o : CO} {free : Nat} (h : COk o free) : ∀ s r, s < 8 → r < 12 → o.cs s r = 268435456 ∨ (0 ≤ o.cs s r ∧ o.cs s r ≤ 100 ∧ free.testBit r = true) := h.1
theorem COk.cp {o : CO} {free : Nat} (h : COk o free) : ∀ k r q, k < 4 → r < 12 → q < 12 → o.cp k r q = 268435456 ∨ (0 ≤ o.cp k r q ∧ o.cp k r q ≤ 200 ∧ free.testBit r = true ∧ free.testBit q = true ∧ r ≠ q ∧ o.cs (2 * k) r ≠ 268435456 ∧ o.cs (2 * k + 1) q ≠ 268435456) := h.2.1
theorem COk.mb {o : CO} {free : Nat} (h : COk o free) : ∀ k, k < 4 → o.mb k = true → o.wa (2 * k) = true ∧ o.wa (2 * k + 1) = true := h.2.2
section LV
variable {o : CO} {free : Nat}
theorem sumL_mem {c x : Int} {l : List Int} (h : x ∈ sumL c l) : c ≠ 268435456 ∧ ∃ y ∈ l, x = c + y := by
  unfold sumL at h
  split at h
  · exact absurd h (by simp)
  · rename_i hc
    obtain ⟨y, h1, rfl⟩ := List.mem_map.mp h
    exact ⟨hc, y, h1, rfl⟩
theorem slotL_b (ho : COk o free) {s B : Nat} {F : Nat → List Int} {set : Nat} (hs : s < 8) (h : ∀ u, ∀ x ∈ F u, 0 ≤ x ∧ x ≤ (B : Int)) : ∀ x ∈ slotL o s F set, 0 ≤ x ∧ x ≤ ((B + 100 : Nat) : Int) := by
  intro x hx
  unfold slotL at hx
  split at hx
  · obtain ⟨i, hi, hx⟩ := pt_mem.mp hx
    unfold slotG at hx
    split at hx
    · exact absurd hx (by simp)
    · obtain ⟨hc, y, h1, rfl⟩ := sumL_mem hx
      have := h _ _ h1
      have := (ho.cs s i hs hi).resolve_left hc
      omega
  · have := h _ _ hx; omega
theorem levP_b (ho : COk o free) : ∀ (n : Nat), n ≤ 4 → ∀ set, ∀ x ∈ levP o n set, 0 ≤ x ∧ x ≤ ((200 * n : Nat) : Int)
  | 0, _, _, x, hx => by simp only [levP, List.mem_singleton] at hx; omega
  | n + 1, hn, set, x, hx => by
    simp only [levP] at hx
    split at hx
    · obtain ⟨i, hi, hx⟩ := pt_mem.mp hx
      unfold pairG at hx
      split at hx
      · exact absurd hx (by simp)
      · obtain ⟨hc, y, h1, rfl⟩ := sumL_mem hx
        have := levP_b ho n (by omega) _ _ h1
        have := (ho.cp (3 - n) (i / 12) (i % 12) (by omega) (by omega) (by omega)).resolve_left hc
        omega
    · have := slotL_b ho (s := 2 * (3 - n)) (B := 200 * n + 100) (by omega) (fun u => slotL_b ho (s := 2 * (3 - n) + 1) (B := 200 * n) (by omega) (fun u => levP_b ho n (by omega) u)) x hx
      omega
theorem lev_sml (ho : COk o free) {s set : Nat} (hs : s ≤ 8) : sml (lev o s set) := by
  intro x hx
  unfold lev at hx
  split at hx
  · have := levP_b ho (4 - s / 2) (by omega) _ _ hx; omega
  · split at hx
    · exact absurd hx (by simp)
    · have := slotL_b ho (s := s) (B := 200 * (3 - s / 2)) (by omega) (fun u => levP_b ho (3 - s / 2) (by omega) u) x hx
      omega
theorem lev_8 {set : Nat} : lev o 8 set = [0] := rfl
theorem lev_even {k set : Nat} (hk : k < 4) : lev o (2 * k) set = if o.mb k then pairL (o.cp k) (lev o (2 * k + 2)) set else slotL o (2 * k) (lev o (2 * k + 1)) set := by
  have e1 : (fun u => lev o (2 * k + 2) u) = levP o (4 - (k + 1)) := by
    funext u; unfold lev; rw [if_pos (by omega), show (2 * k + 2) / 2 = k + 1 by omega]
  have e2 : o.mb k = false → (fun u => lev o (2 * k + 1) u) = slotL o (2 * k + 1) (levP o (4 - (k + 1))) := by
    intro h
    funext u; unfold lev
    rw [if_neg (by omega), show (2 * k + 1) / 2 = k by omega, h, show 3 - k = 4 - (k + 1) by omega]
    rfl
  show (if (2 * k) % 2 = 0 then _ else _) = _
  rw [if_pos (by omega), show 4 - 2 * k / 2 = (4 - (k + 1)) + 1 by omega]
  simp only [levP]
  rw [show 3 - (4 - (k + 1)) = k by omega]
  cases h : o.mb k with
  | true => show pairL _ _ _ = pairL _ (fun u => lev o (2 * k + 2) u) _; rw [e1]
  | false => show slotL _ _ _ _ = slotL _ _ (fun u => lev o (2 * k + 1) u) _; rw [e2 h]
theorem lev_odd {k set : Nat} (h : o.mb k = false) (hk : k < 4) : lev o (2 * k + 1) set = slotL o (2 * k + 1) (lev o (2 * k + 2)) set := by
  have e1 : (fun u => lev o (2 * k + 2) u) = levP o (4 - (k + 1)) := by
    funext u; unfold lev; rw [if_pos (by omega), show (2 * k + 2) / 2 = k + 1 by omega]
  show (if (2 * k + 1) % 2 = 0 then _ else _) = slotL _ _ (fun u => lev o (2 * k + 2) u) _
  rw [if_neg (by omega), e1, show (2 * k + 1) / 2 = k by omega, h, show 3 - k = 4 - (k + 1) by omega]
  rfl
theorem lev_odd_mb {k set : Nat} (h : o.mb k = true) : lev o (2 * k + 1) set = [] := by
  unfold lev
  rw [if_neg (by omega), show (2 * k + 1) / 2 = k by omega, h]
  rfl
/-- a slot that is not wanted is passed over -/
theorem lev_skip (ho : COk o free) {s set : Nat} (hs : s < 8) (hw : o.wa s = false) : lev o s set = lev o (s + 1) set := by
  have hm : o.mb (s / 2) = false := by
    cases h : o.mb (s / 2) with
    | false => rfl
    | true =>
      have := ho.mb (s / 2) (by omega) h
      rcases (show s = 2 * (s / 2) ∨ s = 2 * (s / 2) + 1 by omega) with e | e
      · rw [e, this.1] at hw; exact absurd hw (by decide)
      · rw [e, this.2] at hw; exact absurd hw (by decide)
  rcases (show s = 2 * (s / 2) ∨ s = 2 * (s / 2) + 1 by omega) with e | e
  · have h1 := lev_even (o := o) (k := s / 2) (set := set) (by omega)
    rw [hm] at h1
    rw [show lev o s set = lev o (2 * (s / 2)) set by rw [← e], h1]
    show slotL _ _ _ _ = _
    unfold slotL
    rw [← e, hw]
    rfl
  · have h1 := lev_odd (set := set) hm (by omega)
    rw [show lev o s set = lev o (2 * (s / 2) + 1) set by rw [← e], h1]
    unfold slotL
    rw [← e, hw, show s + 1 = 2 * (s / 2) + 2 by omega]
    rfl
/-- a wanted slot that need not beat -/
theorem lev_slot {s set : Nat} (hs : s < 8) (hw : o.wa s = true) (hm : o.mb (s / 2) = false) : lev o s set = pt (slotG (o.cs s) (lev o (s + 1)) set) 12 := by
  rcases (show s = 2 * (s / 2) ∨ s = 2 * (s / 2) + 1 by omega) with e | e
  · have h1 := lev_even (o := o) (k := s / 2) (set := set) (by omega)
    rw [hm] at h1
    rw [show lev o s set = lev o (2 * (s / 2)) set by rw [← e], h1]
    show slotL _ _ _ _ = _
    unfold slotL
    rw [← e, hw]
    rfl
  · have h1 := lev_odd (set := set) hm (by omega)
    rw [show lev o s set = lev o (2 * (s / 2) + 1) set by rw [← e], h1]
    unfold slotL
    rw [← e, hw, show s + 1 = 2 * (s / 2) + 2 by omega]
    rfl
theorem lev_pair {k set : Nat} (hk : k < 4) (hm : o.mb k = true) : lev o (2 * k) set = pt (pairG (o.cp k) (lev o (2 * k + 2)) set) 144 := by
  rw [lev_even hk, hm]; rfl
/-- two slots, one after the other, as a pair -/
def c2 (o : CO) (k r q : Nat) : Int := if r = q ∨ o.cs (2 * k) r = 268435456 ∨ o.cs (2 * k + 1) q = 268435456 then 268435456 else o.cs (2 * k) r + o.cs (2 * k + 1) q
theorem pt_144 (g : Nat → Nat → List Int) : ∀ n, pt (fun t => g (t / 12) (t % 12)) (12 * n) = pt (fun r => pt (g r) 12) n
  | 0 => rfl
  | n + 1 => by
    rw [pt_succ, ← pt_144 g n]
    have key : ∀ m, m ≤ 12 → pt (fun t => g (t / 12) (t % 12)) (12 * n + m) = pt (fun t => g (t / 12) (t % 12)) (12 * n) ++ pt (g n) m := by
      intro m hm
      induction m with
      | zero => simp [pt]
      | succ m ih =>
        rw [show 12 * n + (m + 1) = (12 * n + m) + 1 from rfl, pt_succ, pt_succ, ih (by omega), List.append_assoc]
        rw [show (12 * n + m) / 12 = n by omega, show (12 * n + m) % 12 = m by omega]
    exact key 12 (by omega)
theorem sumL_pt {c : Int} {g : Nat → List Int} : ∀ n, sumL c (pt g n) = pt (fun i => sumL c (g i)) n
  | 0 => by unfold sumL pt; simp
  | n + 1 => by
    rw [pt_succ, pt_succ, ← sumL_pt n]
    unfold sumL
    split <;> simp
theorem bit_or {u r q : Nat} : (u ||| 2 ^ r).testBit q = (u.testBit q || decide (r = q)) := by
  rw [Nat.testBit_or, Nat.testBit_two_pow]
theorem pair_two (ho : COk o free) {k set : Nat} {F : Nat → List Int} (hk : k < 4) (h1 : o.wa (2 * k) = true) (h2 : o.wa (2 * k + 1) = true) : slotL o (2 * k) (slotL o (2 * k + 1) F) set = pairL (c2 o k) F set := by
  unfold slotL pairL
  rw [if_pos h1, show (144 : Nat) = 12 * 12 from rfl]
  have e := pt_144 (fun r q => if set.testBit r || set.testBit q then [] else sumL (c2 o k r q) (F (set ||| 2 ^ r ||| 2 ^ q))) 12
  refine Eq.trans ?_ e.symm
  refine pt_congr (fun r hr => ?_)
  unfold slotG
  cases hb : set.testBit r with
  | true => rw [if_pos rfl]; exact (pt_skip (n := 0) (m := 12) (fun i _ _ => rfl)).symm
  | false =>
    rw [if_neg (by decide)]
    dsimp only
    rw [if_pos h2, sumL_pt]
    refine pt_congr (fun q hq => ?_)
    rw [bit_or]
    cases hq2 : set.testBit q with
    | true => simp [sumL]
    | false =>
      have e3 : (if (false || false) = true then ([] : List Int) else sumL (c2 o k r q) (F (set ||| 2 ^ r ||| 2 ^ q))) = sumL (c2 o k r q) (F (set ||| 2 ^ r ||| 2 ^ q)) := if_neg (by decide)
      refine Eq.trans ?_ e3.symm
      by_cases e : r = q
      · rw [if_pos (by simp [e]), show c2 o k r q = 268435456 from if_pos (Or.inl e)]; simp [sumL]
      · rw [if_neg (by simp [e])]
        rcases ho.cs (2 * k) r (by omega) hr with a | a
        · rw [show c2 o k r q = 268435456 from if_pos (by omega), a]; simp [sumL]
        · rcases ho.cs (2 * k + 1) q (by omega) hq with b | b
          · rw [show c2 o k r q = 268435456 from if_pos (by omega), b]; simp [sumL]
          · rw [show c2 o k r q = o.cs (2 * k) r + o.cs (2 * k + 1) q from if_neg (by omega)]
            unfold sumL
            rw [if_neg (by omega), if_neg (by omega), if_neg (by omega), List.map_map]
            congr 1
            funext x
            show _ + (_ + _) = _
            omega
end LV
