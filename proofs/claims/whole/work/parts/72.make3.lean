/-! ===== make; the model: sets ===== -/
/-- the bench behind a make that was done -/
def Dk (f g : xF) (n x : Nat) (hi : Nat → Nat → Int) (G : Nat → Int) : Prop := Sg g 4 (mkF G) ∧ Hc g (min (n + 1) 6) ((x + 1) % 6) (consG G hi) ∧ g 141 8 = 0 ∧ ∀ c, (c < 4 ∨ 148 < c) → g c = f c
section ME
variable {L : Nat} {f : xF} {Q : List xV → xF → Prop} {G H : Nat → Int} {set : Nat} {hi : Nat → Nat → Int} {n x : Nat}
theorem C_77 (hV : VG G) (hS : Sg f 4 G) (hH : Hc f n x hi) (hP : Pk f G) (K1 : mn (lev (coG G) 0 0) ≠ 268435456 → bset (wsG G) 8 ≠ 0 → ∀ g, Dk f g n x hi G → Q [.inl (G 3)] g) (K0 : ¬ (mn (lev (coG G) 0 0) ≠ 268435456 ∧ bset (wsG G) 8 ≠ 0) → ∀ g, PF g f G → Q [.inl (-1)] g) : Rf (SHL L) 77 0 (xloc 77 [.inr 3]) [] f Q := by
  refine R_al fx_77_0 rfl (by omega) ?_
  refine R_gr fx_77_1 kd_3 rfl rr_3_3 ?_
  refine R_al fx_77_4 rfl (by omega) ?_
  refine R_gr fx_77_5 kd_3 rfl rr_3_0 ?_
  refine R_al fx_77_8 rfl (by omega) ?_
  refine R_gr fx_77_9 kd_3 rfl rr_3_2 ?_
  refine R_cv fx_77_12 rfl rfl rfl rfl kd_141 ?_
  refine C_57 hV hS hP (fun g a b c => ?_)
  have hb := mn_b (lev_sml (coG_ok hV) (s := 0) (set := 0) (by omega))
  have c1 := c.1
  have hSg : Sg g 4 G := hS.kept (fun c _ _ => a c (by omega))
  have hHg : Hc g n x hi := hH.kept (fun c _ _ => a c (by omega))
  have hwl := bset_lt (wsG G) 8
  refine R_al fx_77_15 rfl (by omega) ?_
  refine R_gr fx_77_16 kd_3 rfl rr_3_3 ?_
  refine R_cv fx_77_19 rfl rfl rfl rfl kd_141 ?_
  refine C_71 (by rw [c1]; omega) (fun hx => ?_) (fun hx => ?_)
  · refine R_ifeq fx_77_22 (by decide) (fun h => absurd h (by decide)) (fun _ => ?_)
    refine R_al fx_77_25 rfl (by omega) ?_
    refine R_gr fx_77_26 kd_3 rfl rr_3_0 ?_
    refine R_cv fx_77_29 rfl rfl rfl rfl kd_4 ?_
    refine C_32 (hV.w hSg) ?_
    rw [ws_eq hSg]
    refine R_ifne fx_77_32 (by omega) (fun hw => ?_) (fun hw => ?_)
    · refine R_al fx_77_37 rfl (by omega) ?_
      refine R_gr fx_77_38 kd_3 rfl rr_3_1 ?_
      refine R_al fx_77_41 rfl (by omega) ?_
      refine R_gr fx_77_42 kd_3 rfl rr_3_0 ?_
      refine R_cv fx_77_45 rfl rfl rfl rfl kd_21 ?_
      refine C_11 hHg hSg (fun g2 h2 a2 => ?_)
      have hS2 : Sg g2 4 G := hSg.kept (fun c _ _ => a2 c (by omega))
      refine R_al fx_77_48 rfl (by omega) ?_
      refine R_gr fx_77_49 kd_3 rfl rr_3_3 ?_
      refine R_al fx_77_52 rfl (by omega) ?_
      refine R_gr fx_77_53 kd_3 rfl rr_3_0 ?_
      refine R_al fx_77_56 rfl (by omega) ?_
      refine R_gr fx_77_57 kd_3 rfl rr_3_2 ?_
      refine R_cv fx_77_60 rfl rfl rfl rfl kd_141 ?_
      refine C_78 hV hS2 (fun j hj => by rw [a2 148 (by omega), c.2.2.1 j hj, if_neg (by omega)]) (fun g3 a3 s3 => ?_)
      refine R_al fx_77_63 rfl (by omega) ?_
      refine R_gr fx_77_64 kd_3 rfl rr_3_3 ?_
      refine R_cv fx_77_67 rfl rfl rfl rfl kd_141 ?_
      refine C_15 ?_
      refine R_al fx_77_70 rfl (by omega) ?_
      refine R_gr fx_77_71 kd_3 rfl rr_3_0 ?_
      refine R_gf fx_77_74 kd_4 rfl ?_
      refine R_push fx_77_77 ?_
      refine R_sub fx_77_78 ?_
      have hS4 : Sg (xup g3 141 8 0) 4 (mkF G) := s3.kept (fun c _ _ => by funext y; rw [xup_a (by omega)])
      have e3 : mkF G 3 = G 3 + 1 := rfl
      rw [show (xup g3 141 8 0) 4 7 - 1 = G 3 by rw [hS4.1.2.2.2, e3]; omega]
      refine R_ret fx_77_79 (Or.inl rfl) (K1 (by omega) (by omega) _ ⟨hS4, h2.kept (fun c q1 q2 => ?_), by rw [xup_s], fun c hc => ?_⟩)
      · funext y; rw [xup_a (by omega), a3 c (by omega) (by omega)]
      · funext y; rw [xup_a (by omega), a3 c (by omega) (by omega), a2 c (by omega), a c (by omega)]
    · refine R_push fx_77_35 ?_
      exact R_ret fx_77_36 (Or.inl rfl) (K0 (by omega) g ⟨a, b, c⟩)
  · refine R_ifeq fx_77_22 (by decide) (fun _ => ?_) (fun h => absurd h (by decide))
    refine R_push fx_77_35 ?_
    exact R_ret fx_77_36 (Or.inl rfl) (K0 (by omega) g ⟨a, b, c⟩)
def setsG (H : Nat → Int) (r s : Nat) (pl : Int) : Nat → Int := upG (upG (upG H (20 + 7 * r + 3) 1) (20 + 7 * r + 4) pl) (20 + 7 * r + 5) (s : Int)
theorem C_126 {s2 r2 pl : Int} {s r : Nat} (es : s2 = s) (er : r2 = r) (hr : r < 12) (hM : Mg f H) (K : ∀ g : xF, Mg g (setsG H r s pl) → (∀ c, c ≠ 150 → g c = f c) → Q [] g) : Rf (SHL L) 126 0 (xloc 126 [.inr 149, .inl s2, .inl r2, .inl pl]) [] f Q := by
  subst es er
  refine R_push fx_126_0 ?_
  refine R_push fx_126_2 ?_
  refine R_il fx_126_4 rfl ?_
  refine R_mul fx_126_5 ?_
  refine R_add fx_126_6 ?_
  refine R_is fx_126_7 ?_
  refine R_al fx_126_9 rfl (by omega) ?_
  refine R_gr fx_126_10 kd_149 rfl rr_149_1 ?_
  refine R_il fx_126_13 rfl ?_
  refine R_push fx_126_15 ?_
  refine R_add fx_126_16 ?_
  refine R_push fx_126_17 ?_
  refine R_ias fx_126_18 kd_150 (by omega) (by rw [ln_150]; omega) (by omega) ?_
  refine R_al fx_126_19 rfl (by omega) ?_
  refine R_gr fx_126_20 kd_149 rfl rr_149_1 ?_
  refine R_il fx_126_23 rfl ?_
  refine R_push fx_126_25 ?_
  refine R_add fx_126_26 ?_
  refine R_il fx_126_27 rfl ?_
  refine R_ias fx_126_28 kd_150 (by omega) (by rw [ln_150]; omega) (by omega) ?_
  refine R_al fx_126_29 rfl (by omega) ?_
  refine R_gr fx_126_30 kd_149 rfl rr_149_1 ?_
  refine R_il fx_126_33 rfl ?_
  refine R_push fx_126_35 ?_
  refine R_add fx_126_36 ?_
  refine R_il fx_126_37 rfl ?_
  refine R_ias fx_126_38 kd_150 (by omega) (by rw [ln_150]; omega) (by omega) ?_
  rw [show (20 + 7 * (r : Int) + 3).toNat = 20 + 7 * r + 3 by omega, show (20 + 7 * (r : Int) + 4).toNat = 20 + 7 * r + 4 by omega, show (20 + 7 * (r : Int) + 5).toNat = 20 + 7 * r + 5 by omega]
  exact R_retv fx_126_39 rfl (K _ hM.up.up.up (fun c hc => by funext y; rw [xup_a hc, xup_a hc, xup_a hc]))
theorem upR_congr {r : Nat} {R R' : Nat → Int} (h : ∀ x, x < 7 → R x = R' x) : upR H r R = upR H r R' := by
  funext i
  unfold upR
  split
  · exact h _ (by omega)
  · rfl
theorem sets_done {r s : Nat} {pl i j : Int} : setsG (upR H r (filed H r i j)) r s pl = doneG H r s pl i j := by
  funext y
  unfold setsG doneG
  by_cases h : 20 + 7 * r ≤ y ∧ y < 27 + 7 * r
  · obtain ⟨d, rfl⟩ : ∃ d, y = 20 + 7 * r + d := ⟨y - (20 + 7 * r), by omega⟩
    rw [upR_in (by omega)]
    unfold dnR
    by_cases h5 : d = 5
    · subst h5; rw [upG_s]; rfl
    · rw [upG_n (by omega)]
      by_cases h4 : d = 4
      · subst h4; rw [upG_s]; rfl
      · rw [upG_n (by omega)]
        by_cases h3 : d = 3
        · subst h3; rw [upG_s]; rfl
        · rw [upG_n (by omega), upR_in (by omega), if_neg h3, if_neg h4, if_neg h5]
  · rw [upG_n (by omega), upG_n (by omega), upG_n (by omega), upR_out (by omega), upR_out (by omega)]
theorem sets_comm {r q s : Nat} {pl : Int} {R : Nat → Int} (hne : r ≠ q) : setsG (upR H q R) r s pl = upR (setsG H r s pl) q R := by
  funext y
  by_cases h : 20 + 7 * q ≤ y ∧ y < 27 + 7 * q
  · obtain ⟨d, rfl⟩ : ∃ d, y = 20 + 7 * q + d := ⟨y - (20 + 7 * q), by omega⟩
    unfold setsG
    rw [upG_n (by omega), upG_n (by omega), upG_n (by omega), upR_in (by omega), upR_in (by omega)]
  · rw [upR_out (by omega)]
    unfold setsG upG
    split
    · rfl
    · split
      · rfl
      · split
        · rfl
        · exact upR_out (by omega)
theorem two_done {r q s t : Nat} {pl i j i2 j2 : Int} (hne : r ≠ q) : setsG (setsG (upR (upR H r (filed H r i j)) q (filed (upR H r (filed H r i j)) q i2 j2)) r s pl) q t pl = doneG (doneG H r s pl i j) q t pl i2 j2 := by
  rw [sets_comm hne, sets_done]
  rw [upR_congr (R' := filed (doneG H r s pl i j) q i2 j2) (fun x hx => by rw [filed_ne hne hx]; exact (filed_ne (H := H) hne hx).symm), sets_done]
theorem filed_3 {r : Nat} {v i j : Int} : filed (upG H 3 v) r i j = filed H r i j := by
  have e : ∀ y, 20 ≤ y → upG H 3 v y = H y := fun y hy => upG_n (by omega)
  funext x
  unfold filed
  split
  · rw [show upG H 3 v 1 = H 1 from upG_n (by omega), e (20 + 7 * r) (by omega), e (20 + 7 * r + 1) (by omega)]
  · rw [e _ (by omega)]
  · rw [e _ (by omega)]
  · rw [e _ (by omega)]
  · rw [e _ (by omega)]
theorem done_3 {r s : Nat} {v pl i j : Int} : doneG (upG H 3 v) r s pl i j = upG (doneG H r s pl i j) 3 v := by
  have e1 : dnR (upG H 3 v) r s pl i j = dnR H r s pl i j := by unfold dnR; rw [filed_3]
  unfold doneG
  rw [e1]
  funext y
  by_cases h : 20 + 7 * r ≤ y ∧ y < 27 + 7 * r
  · obtain ⟨d, rfl⟩ : ∃ d, y = 20 + 7 * r + d := ⟨y - (20 + 7 * r), by omega⟩
    rw [upR_in (by omega), upG_n (by omega), upR_in (by omega)]
  · rw [upR_out (by omega)]
    by_cases h3 : y = 3
    · subst h3; rw [upG_s, upG_s]
    · rw [upG_n h3, upG_n h3, upR_out (by omega)]
theorem VG_3 {v : Int} (h : VG H) : VG (upG H 3 v) := by
  obtain ⟨a1, a2, a3, a4, a5, a6⟩ := h
  refine ⟨by rw [upG_n (by omega)]; exact a1, by rw [upG_n (by omega)]; exact a2, by rw [upG_n (by omega)]; exact a3, fun s hs => by rw [upG_n (by omega)]; exact a4 s hs, fun k hk => by rw [upG_n (by omega), upG_n (by omega)]; exact a5 k hk, fun r hr hg => ?_⟩
  rw [upG_n (by omega)] at hg
  rw [upG_n (by omega), upG_n (by omega), upG_n (by omega), upG_n (by omega)]
  exact a6 r hr hg
theorem MIwk3 (h : MI G H set) {r s : Nat} {v : Int} (hr : r < 12) (hb : set.testBit r = false) (hs : s < 8) : wk (upG H 3 v) r s = wk G r s := by
  rw [← h.wk hr hb hs]
  exact wk_congr (upG_n (by omega)) (upG_n (by omega)) (upG_n (by omega)) (upG_n (by omega)) (upG_n (by omega)) (upG_n (by omega))
theorem MIpk3 (h : MI G H set) {r q k : Nat} {v : Int} (hr : r < 12) (hb : set.testBit r = false) (hq : q < 12) (hb2 : set.testBit q = false) (hk : k < 4) : pk (upG H 3 v) r q k = pk G r q k := by
  rw [← h.pk hr hb hq hb2 hk]
  exact pk_congr (fun i hi h3 => upG_n h3) (fun j hj => upG_n (by omega)) (fun j hj => upG_n (by omega)) hk
theorem wk_use2 (hV : VG G) {s r : Nat} (hr : r < 12) (hc : csG G s r ≠ 268435456) : ∃ i j : Int, Hid (wk G r s % 32 = i) ∧ Hid (wk G r s / 32 - wk G r s % 32 = j) ∧ (0 ≤ i ∧ i ≤ G (20 + 7 * r + 2)) ∧ 0 ≤ j ∧ j < G (20 + 7 * r + 1) := by
  obtain ⟨u1, u2, u3, u4, u5, u6, u7, u8⟩ := wk_use hV hr hc
  exact ⟨_, _, rfl, rfl, u6, u7, u8⟩
end ME
