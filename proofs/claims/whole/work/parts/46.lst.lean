/-! ===== the least of a set of ints; ways to file ===== -/
def Lst (P : Int → Prop) (far v : Int) : Prop := (v = far ∧ ∀ k, ¬ P k) ∨ (P v ∧ ∀ k, P k → v ≤ k)
section LS
variable {P Q : Int → Prop} {far v w x : Int}
theorem Lst.uniq (h : Lst P far v) (h2 : Lst P far w) : v = w := by
  rcases h with ⟨a, b⟩ | ⟨a, b⟩ <;> rcases h2 with ⟨c, d⟩ | ⟨c, d⟩
  · omega
  · exact absurd c (b _)
  · exact absurd a (d _)
  · have := b _ c; have := d _ a; omega
theorem Lst.congr (h : Lst P far v) (he : ∀ k, P k ↔ Q k) : Lst Q far v := by
  rcases h with ⟨a, b⟩ | ⟨a, b⟩
  · exact Or.inl ⟨a, fun k hk => b k ((he k).mpr hk)⟩
  · exact Or.inr ⟨(he v).mp a, fun k hk => b k ((he k).mpr hk)⟩
theorem Lst.add (h : Lst P far v) (hx : x < far) (he : ∀ k, Q k ↔ P k ∨ k = x) : Lst Q far (if x < v then x else v) := by
  rcases h with ⟨a, b⟩ | ⟨a, b⟩
  · subst a
    rw [if_pos hx]
    exact Or.inr ⟨(he x).mpr (Or.inr rfl), fun k hk => by rcases (he k).mp hk with h | h; exact absurd h (b k); omega⟩
  · split
    · exact Or.inr ⟨(he x).mpr (Or.inr rfl), fun k hk => by rcases (he k).mp hk with h | h; have := b k h; omega; omega⟩
    · exact Or.inr ⟨(he v).mpr (Or.inl a), fun k hk => by rcases (he k).mp hk with h | h; exact b k h; omega⟩
theorem Lst.join {R : Int → Prop} (h : Lst P far v) (h2 : Lst Q far w) (hP : ∀ k, P k → k < far) (hQ : ∀ k, Q k → k < far) (he : ∀ k, R k ↔ P k ∨ Q k) : Lst R far (if w < v then w else v) := by
  rcases h2 with ⟨a, b⟩ | ⟨a, b⟩
  · rw [if_neg]
    · exact h.congr (fun k => by rw [he k]; exact ⟨Or.inl, fun z => z.elim id (fun z => absurd z (b k))⟩)
    · rcases h with ⟨c, d⟩ | ⟨c, d⟩
      · omega
      · have := hP _ c; omega
  · rcases h with ⟨c, d⟩ | ⟨c, d⟩
    · rw [if_pos (by have := hQ _ a; omega)]
      exact Or.inr ⟨(he w).mpr (Or.inr a), fun k hk => by rcases (he k).mp hk with h | h; exact absurd h (d k); exact b k h⟩
    · split
      · exact Or.inr ⟨(he w).mpr (Or.inr a), fun k hk => by rcases (he k).mp hk with h | h; have := d k h; omega; exact b k h⟩
      · exact Or.inr ⟨(he v).mpr (Or.inl c), fun k hk => by rcases (he k).mp hk with h | h; exact d k h; have := b k h; omega⟩
theorem lst_ex (P : Int → Prop) (far : Int) (hb : ∀ k, P k → 0 ≤ k) : ∃ v, Lst P far v := by
  by_cases h : ∃ k, P k
  · obtain ⟨k, hk⟩ := h
    have key : ∀ n : Nat, ∀ k : Int, k.toNat = n → P k → ∃ v, P v ∧ ∀ k, P k → v ≤ k := by
      intro n
      induction n using Nat.strongRecOn with
      | ind n ih =>
        intro k hn hk
        by_cases hl : ∃ k', P k' ∧ k' < k
        · obtain ⟨k', h1, h2⟩ := hl
          have := hb _ h1
          have := hb _ hk
          exact ih k'.toNat (by omega) k' rfl h1
        · exact ⟨k, hk, fun k' h => by
            by_cases z : k ≤ k'
            · exact z
            · exact absurd ⟨k', h, by omega⟩ hl⟩
    obtain ⟨v, h1, h2⟩ := key _ k rfl hk
    exact ⟨v, Or.inr ⟨h1, h2⟩⟩
  · exact ⟨far, Or.inl ⟨rfl, fun k hk => h ⟨k, hk⟩⟩⟩
noncomputable def lst (P : Int → Prop) (far : Int) : Int := @dite Int (∃ v, Lst P far v) (Classical.propDecidable _) (fun h => h.choose) (fun _ => far)
theorem lst_is (hb : ∀ k, P k → 0 ≤ k) : Lst P far (lst P far) := by
  have h := lst_ex P far hb
  unfold lst
  rw [dif_pos h]
  exact h.choose_spec
theorem Lst.eq (h : Lst P far v) (hb : ∀ k, P k → 0 ≤ k) : v = lst P far := h.uniq (lst_is hb)
theorem Lst.far_or (h : Lst P far v) : v = far ∨ P v := h.imp (fun z => z.1) (fun z => z.1)
end LS
def NKD (p t q ri lo : Int) (D : Nat → Nat → Prop) (x k : Int) : Prop := ∃ i j : Nat, D i j ∧ (i : Int) ≤ q ∧ (j : Int) < t ∧ p + i * ri - lo - dr t j = x ∧ k = ((i : Int) + j) * 32 + i
section NN
variable {p t q ri lo : Int} {D D' : Nat → Nat → Prop} {x k : Int}
theorem NKD_congr (h : ∀ i j : Nat, (i : Int) ≤ q → (j : Int) < t → p + i * ri - lo - dr t j = x → (D i j ↔ D' i j)) : ∀ k, NKD p t q ri lo D x k ↔ NKD p t q ri lo D' x k := by
  intro k
  constructor
  · rintro ⟨i, j, h1, h2, h3, h4, h5⟩
    exact ⟨i, j, (h i j h2 h3 h4).mp h1, h2, h3, h4, h5⟩
  · rintro ⟨i, j, h1, h2, h3, h4, h5⟩
    exact ⟨i, j, (h i j h2 h3 h4).mpr h1, h2, h3, h4, h5⟩
theorem NKD_add {i0 j0 : Nat} (h2 : (i0 : Int) ≤ q) (h3 : (j0 : Int) < t) (h4 : p + i0 * ri - lo - dr t j0 = x) (hD : ∀ i j, D' i j ↔ D i j ∨ (i = i0 ∧ j = j0)) : ∀ k, NKD p t q ri lo D' x k ↔ NKD p t q ri lo D x k ∨ k = ((i0 : Int) + j0) * 32 + i0 := by
  intro k
  constructor
  · rintro ⟨i, j, h1, h2, h3, h4, h5⟩
    rcases (hD i j).mp h1 with h | ⟨rfl, rfl⟩
    · exact Or.inl ⟨i, j, h, h2, h3, h4, h5⟩
    · exact Or.inr h5
  · rintro (⟨i, j, h1, h2, h3, h4, h5⟩ | h)
    · exact ⟨i, j, (hD i j).mpr (Or.inl h1), h2, h3, h4, h5⟩
    · exact ⟨i0, j0, (hD i0 j0).mpr (Or.inr ⟨rfl, rfl⟩), h2, h3, h4, h⟩
theorem NKD_b (hq : q ≤ 20) (ht : t ≤ 20) (h : NKD p t q ri lo D x k) : 0 ≤ k ∧ k ≤ 1268 ∧ k % 32 ≤ q ∧ 0 ≤ k / 32 - k % 32 ∧ k / 32 - k % 32 < t := by
  obtain ⟨i, j, h1, h2, h3, h4, h5⟩ := h
  have e1 : k / 32 = (i : Int) + j := by
    rw [h5, Int.add_comm, Int.add_mul_ediv_right _ _ (by omega), Int.ediv_eq_zero_of_lt (by omega) (by omega)]
    omega
  have e2 : k % 32 = (i : Int) := by omega
  omega
end NN
theorem dr_mono {t : Int} : ∀ (n j : Nat), ((j + n : Nat) : Int) ≤ t → dr t j ≤ dr t (j + n)
  | 0, j, _ => Int.le_refl _
  | n + 1, j, h => by
    have h1 := dr_mono (t := t) n j (by omega)
    show dr t j ≤ dr t (j + n) + (t - ((j + n : Nat) : Int))
    omega
/-- the ways to file reed r so that it is x above the lowest that will do for slot s, as keys -/
def NK (G : Nat → Int) (r s : Nat) (x k : Int) : Prop := NKD (G (20 + 7 * r)) (G (20 + 7 * r + 1)) (G (20 + 7 * r + 2)) (G 1) (G (4 + s) - G 2) (fun _ _ => True) x k
noncomputable def nr (G : Nat → Int) (r s : Nat) (x : Int) : Int := lst (NK G r s x) 268435456
def WK (G : Nat → Int) (r s : Nat) (k : Int) : Prop := ∃ x : Nat, (x : Int) ≤ 2 * G 2 ∧ NK G r s x k
noncomputable def wk (G : Nat → Int) (r s : Nat) : Int := lst (WK G r s) 268435456
section NB
variable {G : Nat → Int} {r s : Nat} {x k : Int}
theorem NK_b (hV : VG G) (hr : r < 12) (hg : (r : Int) < G 0) (h : NK G r s x k) : 0 ≤ k ∧ k ≤ 1268 ∧ k % 32 ≤ G (20 + 7 * r + 2) ∧ 0 ≤ k / 32 - k % 32 ∧ k / 32 - k % 32 < G (20 + 7 * r + 1) := by
  have := hV.2.2.2.2.2 r hr hg
  exact NKD_b (by omega) (by omega) h
theorem nr_is (hV : VG G) (hr : r < 12) (hg : (r : Int) < G 0) : Lst (NK G r s x) 268435456 (nr G r s x) := lst_is (fun k hk => (NK_b hV hr hg hk).1)
theorem wk_is (hV : VG G) (hr : r < 12) (hg : (r : Int) < G 0) : Lst (WK G r s) 268435456 (wk G r s) := lst_is (fun k hk => by obtain ⟨x, _, hx⟩ := hk; exact (NK_b hV hr hg hx).1)
theorem nr_b (hV : VG G) (hr : r < 12) (hg : (r : Int) < G 0) : nr G r s x = 268435456 ∨ (0 ≤ nr G r s x ∧ nr G r s x ≤ 1268 ∧ nr G r s x % 32 ≤ G (20 + 7 * r + 2) ∧ 0 ≤ nr G r s x / 32 - nr G r s x % 32 ∧ nr G r s x / 32 - nr G r s x % 32 < G (20 + 7 * r + 1)) := (nr_is hV hr hg).far_or.imp id (fun h => NK_b hV hr hg h)
theorem wk_b (hV : VG G) (hr : r < 12) (hg : (r : Int) < G 0) : wk G r s = 268435456 ∨ (0 ≤ wk G r s ∧ wk G r s ≤ 1268 ∧ wk G r s % 32 ≤ G (20 + 7 * r + 2) ∧ 0 ≤ wk G r s / 32 - wk G r s % 32 ∧ wk G r s / 32 - wk G r s % 32 < G (20 + 7 * r + 1)) := (wk_is hV hr hg).far_or.imp id (fun h => by obtain ⟨x, _, hx⟩ := h; exact NK_b hV hr hg hx)
theorem nr_congr {G2 : Nat → Int} {r s : Nat} {x : Int} (h0 : G2 (20 + 7 * r) = G (20 + 7 * r)) (h1 : G2 (20 + 7 * r + 1) = G (20 + 7 * r + 1)) (h2 : G2 (20 + 7 * r + 2) = G (20 + 7 * r + 2)) (h3 : G2 1 = G 1) (h4 : G2 (4 + s) = G (4 + s)) (h5 : G2 2 = G 2) : nr G2 r s x = nr G r s x := by
  unfold nr NK
  rw [h0, h1, h2, h3, h4, h5]
theorem wk_congr {G2 : Nat → Int} {r s : Nat} (h0 : G2 (20 + 7 * r) = G (20 + 7 * r)) (h1 : G2 (20 + 7 * r + 1) = G (20 + 7 * r + 1)) (h2 : G2 (20 + 7 * r + 2) = G (20 + 7 * r + 2)) (h3 : G2 1 = G 1) (h4 : G2 (4 + s) = G (4 + s)) (h5 : G2 2 = G 2) : wk G2 r s = wk G r s := by
  unfold wk WK NK
  rw [h0, h1, h2, h3, h4, h5]
end NB
