/-! ===== the ranges are kept ===== -/
theorem VG_rates {G : Nat → Int} {a b : Int} (h : VG G) (h1 : 1 ≤ a ∧ a ≤ 20) (h2 : 0 ≤ b ∧ b ≤ 50) : VG (upG (upG G 1 a) 2 b) := by
  obtain ⟨v1, v2, v3, v4, v5, v6⟩ := h
  refine ⟨?_, ?_, ?_, fun s hs => ?_, fun k hk => ?_, fun r hr hg => ?_⟩
  · rw [upG_n (by omega), upG_n (by omega)]; exact v1
  · rw [upG_n (by omega), upG_s]; exact h1
  · rw [upG_s]; exact h2
  · rw [upG_n (by omega), upG_n (by omega)]; exact v4 s hs
  · rw [upG_n (by omega), upG_n (by omega), upG_n (by omega), upG_n (by omega)]; exact v5 k hk
  · rw [upG_n (by omega), upG_n (by omega)] at hg
    have := v6 r hr hg
    simp only [upG, show ∀ j, ¬ 20 + 7 * r + j = 2 by omega, show ∀ j, ¬ 20 + 7 * r + j = 1 by omega, show ¬ 20 + 7 * r = 2 by omega, show ¬ 20 + 7 * r = 1 by omega, if_false]
    exact this
theorem VG_want {G : Nat → Int} {s : Nat} {b : Int} (h : VG G) (hs0 : s < 8) (h2 : -1 ≤ b ∧ b ≤ 9999) : VG (upG G (4 + s) b) := by
  obtain ⟨v1, v2, v3, v4, v5, v6⟩ := h
  refine ⟨?_, ?_, ?_, fun t ht => ?_, fun k hk => ?_, fun r hr hg => ?_⟩
  · rw [upG_n (by omega)]; exact v1
  · rw [upG_n (by omega)]; exact v2
  · rw [upG_n (by omega)]; exact v3
  · by_cases e : t = s
    · subst e; rw [upG_s]; exact h2
    · rw [upG_n (by omega)]; exact v4 t ht
  · rw [upG_n (by omega), upG_n (by omega)]; exact v5 k hk
  · rw [upG_n (by omega)] at hg
    have := v6 r hr hg
    simp only [upG, show ∀ j, ¬ 20 + 7 * r + j = 4 + s by omega, show ¬ 20 + 7 * r = 4 + s by omega, if_false]
    exact this
theorem VG_tun {G : Nat → Int} {kd key : Int} (h : VG G) (h1 : 0 ≤ kd ∧ kd ≤ 2) (h2 : 0 ≤ key ∧ key ≤ 8000) : VG (tunG G kd key) := by
  obtain ⟨v1, v2, v3, v4, v5, v6⟩ := h
  have hk : ∀ i : Nat, 0 ≤ xnth xkeys i 0 ∧ xnth xkeys i 0 ≤ 1200 := fun i => by
    by_cases hi : i < 24
    · have : (List.range 24).all (fun i => decide (0 ≤ xnth xkeys i 0 ∧ xnth xkeys i 0 ≤ 1200)) = true := by decide +kernel
      exact of_decide_eq_true (List.all_eq_true.mp this i (List.mem_range.mpr hi))
    · rw [xnth_of_le _ _ _ (by show 24 ≤ i; omega)]; omega
  refine ⟨?_, ?_, ?_, fun t ht => ?_, fun k hk => ?_, fun r hr hg => ?_⟩
  · rw [show tunG G kd key 0 = G 0 from if_neg (by omega)]; exact v1
  · rw [show tunG G kd key 1 = G 1 from if_neg (by omega)]; exact v2
  · rw [show tunG G kd key 2 = G 2 from if_neg (by omega)]; exact v3
  · rw [show tunG G kd key (4 + t) = key + xnth xkeys (kd.toNat * 8 + (4 + t - 4)) 0 from if_pos (by omega)]
    have := hk (kd.toNat * 8 + (4 + t - 4))
    omega
  · rw [show tunG G kd key (12 + k) = G (12 + k) from if_neg (by omega), show tunG G kd key (16 + k) = G (16 + k) from if_neg (by omega)]; exact v5 k hk
  · rw [show tunG G kd key 0 = G 0 from if_neg (by omega)] at hg
    have := v6 r hr hg
    simp only [tunG, show ∀ j, ¬ (4 ≤ 20 + 7 * r + j ∧ 20 + 7 * r + j < 12) by omega, show ¬ (4 ≤ 20 + 7 * r ∧ 20 + 7 * r < 12) by omega, if_false]
    exact this
theorem scrap_eq {G : Nat → Int} {r : Nat} : upR G r (fun j => if j = 3 then 2 else G (20 + 7 * r + j)) = upG G (20 + 7 * r + 3) 2 := by
  funext i
  by_cases h : 20 + 7 * r ≤ i ∧ i < 27 + 7 * r
  · obtain ⟨d, rfl⟩ : ∃ d, i = 20 + 7 * r + d := ⟨i - (20 + 7 * r), by omega⟩
    rw [upR_in (by omega)]
    by_cases e : d = 3
    · subst e; rw [upG_s, if_pos rfl]
    · rw [upG_n (by omega), if_neg e]
  · rw [upR_out (by omega), upG_n (by omega)]
theorem dr_b {t : Int} : ∀ j : Nat, (j : Int) ≤ t → t ≤ 20 → 0 ≤ dr t j ∧ dr t j ≤ 20 * j
  | 0, _, _ => by simp [dr]
  | j + 1, h1, h2 => by
    have ih := dr_b j (by omega) h2
    simp only [dr]
    omega
