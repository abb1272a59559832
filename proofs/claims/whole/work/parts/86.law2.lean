/-! ===== the law: its loop, its beginning ===== -/
section LZ
variable {L : Nat} {sc : Nat → Int} {k : Nat × Nat}
theorem L_loop (hL : L ≤ 2560) (hk1 : k.1 ≤ xmi 128 7) (hk2 : k.2 ≤ xmi 128 8) (hsc : ∀ j, xok (sc j)) : ∀ (t : Nat) (y : Int) (f : xF) (G : Nat → Int) (n x : Nat) (hi : Nat → Nat → Int), (0 ≤ y ∧ y ≤ 3000) → (L : Int) - y ≤ 5 * t → VG G → (∀ i, i < n → VG (hi i)) → CI f G n x hi sc → MMv f G n hi → Rg 128 18 k [some (.inr 1), some (.inr 3), some (.inr 149), some (.inl y)] [] (SHL L, f) (fun v _ => v = [.inl 1]) := by
  intro t
  induction t with
  | zero =>
    intro y f G n x hi hy ht hV hVh hC hM
    refine G_il fx_128_18 rfl ?_
    refine G_al fx_128_19 rfl (by omega) ?_
    refine G_len fx_128_20 (Or.inr kd_1) ?_
    rw [ln_1]
    refine G_push fx_128_21 ?_
    refine G_sub fx_128_22 ?_
    refine G_icgt fx_128_23 (by omega) (fun hc => ?_) (fun hc => by omega)
    refine G_push fx_128_596 ?_
    exact G_ret fx_128_597 (by decide) rfl
  | succ t ih =>
    intro y f G n x hi hy ht hV hVh hC hM
    refine G_il fx_128_18 rfl ?_
    refine G_al fx_128_19 rfl (by omega) ?_
    refine G_len fx_128_20 (Or.inr kd_1) ?_
    rw [ln_1]
    refine G_push fx_128_21 ?_
    refine G_sub fx_128_22 ?_
    refine G_icgt fx_128_23 (by omega) (fun hc => ?_) (fun hc => ?_)
    · refine G_push fx_128_596 ?_
      exact G_ret fx_128_597 (by decide) rfl
    · have go : ∀ (f2 : xF) (G2 : Nat → Int) (n2 x2 : Nat) (hi2 : Nat → Nat → Int), VG G2 → (∀ i, i < n2 → VG (hi2 i)) → CI f2 G2 n2 x2 hi2 sc → MMv f2 G2 n2 hi2 → Rg 128 590 k [some (.inr 1), some (.inr 3), some (.inr 149), some (.inl y)] [] (SHL L, f2) (fun v _ => v = [.inl 1]) := fun f2 G2 n2 x2 hi2 a1 a2 a3 a4 => by
        refine G_inc fx_128_590 rfl ?_
        refine G_goto fx_128_593 ?_
        exact ih (y + 5) f2 G2 n2 x2 hi2 (by omega) (by omega) a1 a2 a3 a4
      refine G_al fx_128_26 rfl (by omega) ?_
      refine G_il fx_128_27 rfl ?_
      refine G_ia fx_128_28 (Or.inr kd_1) (by omega) (by rw [ln_1]; omega) (by omega) ?_
      refine G_push fx_128_29 ?_
      obtain ⟨z, hz, ez⟩ := xb_and15 (f 1 y.toNat)
      refine G_bin fx_128_31 ez ?_
      rcases (show z = 0 ∨ z = 1 ∨ z = 2 ∨ z = 3 ∨ z = 4 ∨ z = 5 ∨ z = 6 ∨ z = 7 ∨ z = 8 ∨ z = 9 ∨ z = 10 ∨ z = 11 ∨ z = 12 ∨ z = 13 ∨ z = 14 ∨ z = 15 by omega) with rfl | rfl | rfl | rfl | rfl | rfl | rfl | rfl | rfl | rfl | rfl | rfl | rfl | rfl | rfl | rfl
      · refine G_sw fx_128_32 (by decide) rfl ?_
        exact L_0 hL hk1 hk2 hsc hV hVh hC hM ⟨hy.1, by omega⟩ go
      · refine G_sw fx_128_32 (by decide) rfl ?_
        exact L_1 hL hk1 hk2 hsc hV hVh hC hM ⟨hy.1, by omega⟩ go
      · refine G_sw fx_128_32 (by decide) rfl ?_
        exact L_2 hL hk1 hk2 hsc hV hVh hC hM ⟨hy.1, by omega⟩ go
      · refine G_sw fx_128_32 (by decide) rfl ?_
        exact L_3 hL hk1 hk2 hsc hV hVh hC hM ⟨hy.1, by omega⟩ go
      · refine G_sw fx_128_32 (by decide) rfl ?_
        exact L_4 hL hk1 hk2 hsc hV hVh hC hM ⟨hy.1, by omega⟩ go
      · refine G_sw fx_128_32 (by decide) rfl ?_
        exact L_5 hL hk1 hk2 hsc hV hVh hC hM ⟨hy.1, by omega⟩ go
      · refine G_sw fx_128_32 (by decide) rfl ?_
        exact L_6 hL hk1 hk2 hsc hV hVh hC hM ⟨hy.1, by omega⟩ go
      · refine G_sw fx_128_32 (by decide) rfl ?_
        exact L_7 hL hk1 hk2 hsc hV hVh hC hM ⟨hy.1, by omega⟩ go
      · refine G_sw fx_128_32 (by decide) rfl ?_
        exact L_8 hL hk1 hk2 hsc hV hVh hC hM ⟨hy.1, by omega⟩ go
      · refine G_sw fx_128_32 (by decide) rfl ?_
        exact L_9 hL hk1 hk2 hsc hV hVh hC hM ⟨hy.1, by omega⟩ go
      · refine G_sw fx_128_32 (by decide) rfl ?_
        exact L_10 hL hk1 hk2 hsc hV hVh hC hM ⟨hy.1, by omega⟩ go
      · refine G_sw fx_128_32 (by decide) rfl ?_
        exact L_11 hL hk1 hk2 hsc hV hVh hC hM ⟨hy.1, by omega⟩ go
      · refine G_sw fx_128_32 (by decide) rfl ?_
        exact L_12 hL hk1 hk2 hsc hV hVh hC hM ⟨hy.1, by omega⟩ go
      · refine G_sw fx_128_32 (by decide) rfl ?_
        exact L_13 hL hk1 hk2 hsc hV hVh hC hM ⟨hy.1, by omega⟩ go
      · refine G_sw fx_128_32 (by decide) rfl ?_
        exact L_14 hL hk1 hk2 hsc hV hVh hC hM ⟨hy.1, by omega⟩ go
      · refine G_sw fx_128_32 (by decide) rfl ?_
        exact L_15 hL hk1 hk2 hsc hV hVh hC hM ⟨hy.1, by omega⟩ go
theorem VG_start : VG startG := by
  refine ⟨by decide, by decide, by decide, fun s hs => ?_, fun k hk => ?_, fun r hr hg => ?_⟩
  · have e : startG (4 + s) = -1 := by unfold startG; rw [if_neg (by omega), if_neg (by omega), if_pos (by omega)]
    omega
  · have e1 : startG (12 + k) = 1 := by unfold startG; rw [if_neg (by omega), if_neg (by omega), if_neg (by omega), if_pos (by omega)]
    have e2 : startG (16 + k) = 0 := by unfold startG; rw [if_neg (by omega), if_neg (by omega), if_neg (by omega), if_neg (by omega)]
    omega
  · have e0 : startG 0 = 0 := rfl
    omega
def S3 (L : Nat) : List xC := [(0, 0, fun _ => 0), (5, L, fun _ => 0), (5, 24, fun _ => 0)]
set_option maxRecDepth 4000 in
theorem SHL_eq (L : Nat) : (S3 L ++ BEc 3) ++ MDc 149 = SHL L := rfl
theorem L_all (hL : L ≤ 2560) (hsc : ∀ j, xok (sc j)) : Rg 128 0 (0, 0) (xloc 128 [.inr 1]) [] (xM0 L sc) (fun v _ => v = [.inl 1]) := by
  show Rg 128 0 (0, 0) [some (.inr 1), none, none, none] [] (S3 L ++ [], fun a i => if a = 1 then sc i else if a = 2 then xnth xkeys i 0 else 0) _
  refine G_new (p := 3) fx_128_0 rfl (by decide) ?_
  refine G_dup fx_128_3 ?_
  refine G_ci fx_128_4 rfl ⟨Nat.le_of_ble_eq_true rfl, Nat.le_of_ble_eq_true rfl, by decide, by decide, by decide, by decide⟩ (by omega) rfl rfl ?_
  refine C_0 (S := S3 L) (b := 3) rfl (by omega) (fun g a1 a2 a3 a4 a5 a6 a7 => ?_)
  refine G_as fx_128_7 (by omega) ?_
  refine Rg.cast (S' := (S3 L ++ BEc 3) ++ []) (by rw [List.append_nil]) ?_
  refine G_new (p := 149) fx_128_8 rfl (by decide) ?_
  refine G_dup fx_128_11 ?_
  refine G_ci fx_128_12 rfl ⟨Nat.le_of_ble_eq_true rfl, Nat.le_of_ble_eq_true rfl, by decide, by decide, by decide, by decide⟩ (by omega) rfl rfl ?_
  refine C_91 (S := S3 L ++ BEc 3) (b := 149) rfl (by omega) (fun i => xzr_s) (fun g2 b1 b2 b3 b4 b5 b6 b7 => ?_)
  refine Rg.cast (SHL_eq L) ?_
  refine G_as fx_128_15 (by omega) ?_
  refine G_push fx_128_16 ?_
  refine G_is fx_128_17 ?_
  have f1 : ∀ c, c < 149 → g2 c = g c := fun c hc => by rw [b1 c hc, xzr_n (by omega)]
  refine L_loop hL (by decide) (by decide) hsc 600 0 g2 startG 0 0 (fun _ => startG) (by omega) (by omega) VG_start (fun i h => absurd h (by omega)) ⟨?_, ?_, ?_, ?_, ?_⟩ ⟨?_, ?_, ?_, ?_, ?_, ?_⟩
  · refine ⟨⟨?_, ?_, ?_, ?_⟩, fun s hs => ?_, fun k hk => ?_, fun k hk => ?_, fun r hr hg => ?_⟩
    · rw [f1 4 (by omega)]; exact a2.1
    · rw [f1 4 (by omega)]; exact a2.2.1
    · rw [f1 4 (by omega)]; exact a2.2.2.1
    · rw [f1 4 (by omega)]; exact a2.2.2.2
    · rw [f1 (4 + 2) (by omega), show startG (4 + s) = -1 by unfold startG; rw [if_neg (by omega), if_neg (by omega), if_pos (by omega)]]; exact a3 s hs
    · rw [f1 (4 + 3) (by omega), show startG (12 + k) = 1 by unfold startG; rw [if_neg (by omega), if_neg (by omega), if_neg (by omega), if_pos (by omega)]]; exact a4 k hk
    · rw [f1 (4 + 4) (by omega), show startG (16 + k) = 0 by unfold startG; rw [if_neg (by omega), if_neg (by omega), if_neg (by omega), if_neg (by omega)]]; exact a5 k hk
    · have e0 : startG 0 = 0 := rfl
      omega
  · refine ⟨by omega, by omega, ?_, ?_, fun i h => absurd h (by omega)⟩
    · rw [f1 21 (by omega)]; exact a6.1
    · rw [f1 21 (by omega)]; exact a6.2
  · exact Or.inl (by rw [f1 141 (by omega)]; exact a7)
  · intro i hi
    rw [f1 2 (by omega), a1 2 (by omega), xzr_n (by omega)]
    show (if (2 : Nat) = 1 then sc i else if (2 : Nat) = 2 then xnth xkeys i 0 else 0) = _
    rw [if_neg (by omega), if_pos rfl]
  · rw [f1 1 (by omega), a1 1 (by omega), xzr_n (by omega)]
    funext i
    exact if_pos rfl
  · exact Or.inr ⟨b2 4, fun i _ => b3 i, fun i _ => rfl⟩
  · exact ⟨by omega, b2 3, fun i h => absurd h (by omega)⟩
  · refine ⟨fun j hj => ?_, ?_⟩
    · have := b4 j
      rw [show g2 156 j = 0 from this]; omega
    · rw [b2 11]; omega
  · exact b5
  · exact b6
  · exact b7
end LZ
theorem i32_ok (z : Int32) : xok z.toInt := by
  have h1 := Int32.le_toInt z
  have h2 := Int32.toInt_lt z
  omega
theorem whole_run {L : Nat} {xs : Nat → Int32} (hL : L ≤ 2560) : ∃ n M', xrun n 128 0 (0, 0) (xloc 128 [.inr 1]) [] (xM0 L (fun j => (xs j).toInt)) = some ([.inl 1], M') := by
  obtain ⟨n, v, M', h, rfl⟩ := L_all (sc := fun j => (xs j).toInt) hL (fun j => i32_ok _)
  exact ⟨n, M', h⟩
