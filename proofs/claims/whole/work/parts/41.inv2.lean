/-! ===== the ranges are kept: beat, scrap, file, reed ===== -/
theorem VG_beat {G : Nat → Int} {k : Nat} {a b : Int} (h : VG G) (hk0 : k < 4) (h1 : -100 ≤ a ∧ a ≤ 100) (h2 : -100 ≤ b ∧ b ≤ 100) : VG (upG (upG G (12 + k) a) (16 + k) b) := by
  obtain ⟨v1, v2, v3, v4, v5, v6⟩ := h
  refine ⟨?_, ?_, ?_, fun t ht => ?_, fun t ht => ?_, fun r hr hg => ?_⟩
  · rw [upG_n (by omega), upG_n (by omega)]; exact v1
  · rw [upG_n (by omega), upG_n (by omega)]; exact v2
  · rw [upG_n (by omega), upG_n (by omega)]; exact v3
  · rw [upG_n (by omega), upG_n (by omega)]; exact v4 t ht
  · by_cases e : t = k
    · subst e; rw [upG_n (by omega), upG_s, upG_s]; exact ⟨h1, h2⟩
    · rw [upG_n (by omega), upG_n (by omega), upG_n (by omega), upG_n (by omega)]; exact v5 t ht
  · rw [upG_n (by omega), upG_n (by omega)] at hg
    have := v6 r hr hg
    simp only [upG, show ∀ j, ¬ 20 + 7 * r + j = 12 + k by omega, show ∀ j, ¬ 20 + 7 * r + j = 16 + k by omega, show ¬ 20 + 7 * r = 12 + k by omega, show ¬ 20 + 7 * r = 16 + k by omega, if_false]
    exact this
/-- one reed is changed, in its ranges -/
theorem VG_upR {G R : Nat → Int} {r : Nat} (h : VG G) (h1 : 1 ≤ R 1 ∧ R 1 ≤ 20) (h2 : 0 ≤ R 2 ∧ R 2 ≤ 20) (h0 : -20 * (20 - R 1) ≤ R 0 ∧ R 0 ≤ 9999 + 20 * (20 - R 2)) (h3 : 0 ≤ R 3 ∧ R 3 ≤ 2) : VG (upR G r R) := by
  obtain ⟨v1, v2, v3, v4, v5, v6⟩ := h
  refine ⟨?_, ?_, ?_, fun t ht => ?_, fun t ht => ?_, fun q hq hg => ?_⟩
  · rw [upR_out (by omega)]; exact v1
  · rw [upR_out (by omega)]; exact v2
  · rw [upR_out (by omega)]; exact v3
  · rw [upR_out (by omega)]; exact v4 t ht
  · rw [upR_out (by omega), upR_out (by omega)]; exact v5 t ht
  · rw [upR_out (by omega)] at hg
    by_cases e : q = r
    · subst e
      have e0 : upR G q R (20 + 7 * q) = R 0 := upR_in (j := 0) (by omega)
      rw [e0, upR_in (by omega), upR_in (by omega), upR_in (by omega)]
      exact ⟨h1, h2, h0, h3⟩
    · rw [upR_out (by omega), upR_out (by omega), upR_out (by omega), upR_out (by omega)]; exact v6 q hq hg
theorem VG_scrap {G : Nat → Int} {r : Nat} (h : VG G) (hr : r < 12) (hg : (r : Int) < G 0) : VG (upR G r (fun j => if j = 3 then 2 else G (20 + 7 * r + j))) := by
  have := h.2.2.2.2.2 r hr hg
  exact VG_upR h this.1 this.2.1 this.2.2.1 (by simp)
theorem VG_file {G : Nat → Int} {r : Nat} {i j : Int} (h : VG G) (hr : r < 12) (hg : (r : Int) < G 0) (hi : 0 ≤ i ∧ i ≤ G (20 + 7 * r + 2)) (hj : 0 ≤ j ∧ j < G (20 + 7 * r + 1)) : VG (upR G r (filed G r i j)) := by
  have v := h.2.2.2.2.2 r hr hg
  have hd := dr_b (t := G (20 + 7 * r + 1)) j.toNat (by omega) v.1.2
  have m1 : 0 ≤ i * G 1 := Int.mul_nonneg hi.1 (by have := h.2.1; omega)
  have m2 : i * G 1 ≤ i * 20 := Int.mul_le_mul_of_nonneg_left h.2.1.2 hi.1
  have e0 : filed G r i j 0 = G (20 + 7 * r) + i * G 1 - dr (G (20 + 7 * r + 1)) j.toNat := rfl
  have e1 : filed G r i j 1 = G (20 + 7 * r + 1) - j := rfl
  have e2 : filed G r i j 2 = G (20 + 7 * r + 2) - i := rfl
  have e3 : filed G r i j 3 = G (20 + 7 * r + 3) := rfl
  refine VG_upR h ?_ ?_ ?_ ?_
  · rw [e1]; omega
  · rw [e2]; omega
  · rw [e0, e1, e2]; omega
  · rw [e3]; exact v.2.2.2
theorem VG_reed {G : Nat → Int} {p t q : Int} (h : VG G) (h12 : G 0 < 12) (hp : 0 ≤ p ∧ p ≤ 9999) (ht : 1 ≤ t ∧ t ≤ 20) (hq : 0 ≤ q ∧ q ≤ 20) : VG (upG (upR G (G 0).toNat (newR p t q)) 0 (G 0 + 1)) := by
  have hU := VG_upR (r := (G 0).toNat) (R := newR p t q) h (show 1 ≤ t ∧ t ≤ 20 from ht) (show 0 ≤ q ∧ q ≤ 20 from hq) (show -20 * (20 - t) ≤ p ∧ p ≤ 9999 + 20 * (20 - q) by omega) (show (0 : Int) ≤ 0 ∧ (0 : Int) ≤ 2 by omega)
  have h0 := h.1
  obtain ⟨v1, v2, v3, v4, v5, v6⟩ := hU
  refine ⟨?_, ?_, ?_, fun s hs => ?_, fun k hk => ?_, fun r hr hg => ?_⟩
  · rw [upG_s]; omega
  · rw [upG_n (by omega)]; exact v2
  · rw [upG_n (by omega)]; exact v3
  · rw [upG_n (by omega)]; exact v4 s hs
  · rw [upG_n (by omega), upG_n (by omega)]; exact v5 k hk
  · rw [upG_s] at hg
    rw [upG_n (by omega), upG_n (by omega), upG_n (by omega), upG_n (by omega)]
    by_cases e : r = (G 0).toNat
    · subst e
      have e0 : upR G (G 0).toNat (newR p t q) (20 + 7 * (G 0).toNat) = newR p t q 0 := upR_in (j := 0) (by omega)
      rw [e0, upR_in (by omega), upR_in (by omega), upR_in (by omega)]
      exact ⟨ht, hq, (show -20 * (20 - t) ≤ p ∧ p ≤ 9999 + 20 * (20 - q) by omega), (show (0 : Int) ≤ 0 ∧ (0 : Int) ≤ 2 by omega)⟩
    · exact v6 r hr (by rw [upR_out (by omega)]; omega)
