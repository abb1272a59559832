/-! ===== constructors: History, Works, Costs, Plan, the bench ===== -/
def blk (b : Nat) : Nat → List xC
  | 0 => []
  | x + 1 => blk b x ++ STc (b + 17 * x)
theorem blk_len (b : Nat) : ∀ x, (blk b x).length = 17 * x
  | 0 => rfl
  | x + 1 => by
    show (blk b x ++ STc (b + 17 * x)).length = _
    rw [List.length_append, blk_len b x]
    show 17 * x + 17 = _
    omega
def HIl (b x : Nat) : List xC := (11, 3, fun i => xnth [b + 1] i 0) :: (3, 6, fun i => if i < x then b + 2 + 17 * i else 0) :: blk (b + 2) x
def HIc (b : Nat) : List xC := (11, 3, fun i => xnth [b + 1] i 0) :: (3, 6, fun i => xnth [b + 2, b + 19, b + 36, b + 53, b + 70, b + 87] i 0) :: blk (b + 2) 6
theorem HI_len (b x : Nat) : (HIl b x).length = 2 + 17 * x := by
  unfold HIl
  simp only [List.length_cons, blk_len]
  omega
theorem ref1 (b : Nat) : (fun i => if i = 0 then b + 1 else (0 : Nat)) = fun i => xnth [b + 1] i 0 := by
  funext i
  match i with
  | 0 => rfl
  | n + 1 => rw [if_neg (by omega)]; rfl
theorem ref6 (b : Nat) : (fun i => if i < 6 then b + 2 + 17 * i else 0) = fun i => xnth [b + 2, b + 19, b + 36, b + 53, b + 70, b + 87] i 0 := by
  funext i
  match i with
  | 0 => rfl
  | 1 => rfl
  | 2 => rfl
  | 3 => rfl
  | 4 => rfl
  | 5 => rfl
  | n + 6 => rw [if_neg (by omega)]; rfl
theorem HI_6 (b : Nat) : HIl b 6 = HIc b := by
  unfold HIl HIc
  rw [ref6]
section CV
variable {S e : List xC} {f : xF} {Q : List xV → xM → Prop} {b : Nat}
theorem C_4 (hb : S.length = b) (h0 : 0 < b) (hz : ∀ i, f b i = 0) (K : ∀ g : xF, (∀ c, c < b → g c = f c) → (g b 1 = 0 ∧ g b 2 = 0) → Q [] (S ++ HIc b, g)) : Rg 4 0 (0, 0) (xloc 4 [.inr b]) [] (S ++ [(11, 3, zr)], f) Q := by
  have loop : ∀ (n x : Nat) (g : xF), x + n = 6 → (∀ c, c < b → g c = f c) → (g b 1 = 0 ∧ g b 2 = 0) → Rg 4 15 (1 + 17 * x, 6 + 120 * x) [some (.inr b), some (.inl (x : Int))] [] (S ++ HIl b x, g) Q := by
    intro n
    induction n with
    | zero =>
      intro x g hx a1 a2
      have hxj : x = 6 := by omega
      subst hxj
      rw [HI_6]
      refine G_il fx_4_15 rfl ?_
      refine G_push fx_4_16 ?_
      refine G_icge fx_4_18 (by omega) (fun hc => ?_) (fun hc => by omega)
      exact G_retv fx_4_40 rfl (K g a1 a2)
    | succ n ih =>
      intro x g hx a1 a2
      have hlen := HI_len b x
      have hl2 : (S ++ HIl b x).length = b + 2 + 17 * x := by rw [List.length_append]; omega
      refine G_il fx_4_15 rfl ?_
      refine G_push fx_4_16 ?_
      refine G_icge fx_4_18 (by omega) (fun hc => by omega) (fun hc => ?_)
      refine G_al fx_4_21 rfl (by omega) ?_
      refine G_gr (q := b + 1) fx_4_22 (j := 0) (by omega) rfl rfl rfl ?_
      refine G_il fx_4_25 rfl ?_
      refine G_new (p := b + 2 + 17 * x) fx_4_26 (by omega) ⟨show 1 + 17 * x + 1 ≤ 103 by omega, show 6 + 120 * x + 8 ≤ 726 by omega⟩ ?_
      refine G_dup fx_4_29 ?_
      refine G_ci fx_4_30 rfl ⟨Nat.le_of_ble_eq_true rfl, Nat.le_of_ble_eq_true rfl, by decide, by decide, show 1 + 17 * x + 1 + 16 ≤ 103 by omega, show 6 + 120 * x + 8 + 112 ≤ 726 by omega⟩ (by omega) rfl rfl ?_
      refine Rg.cast (S' := (S ++ HIl b x) ++ [(14, 8, zr)]) (by rw [List.append_assoc]; rfl) ?_
      refine C_1 (S := S ++ HIl b x) hl2 (by omega) (fun i => xzr_s) (fun g2 b1 b2 b3 b4 b5 => ?_)
      refine Rg.cast (S' := S ++ (HIl b x ++ STc (b + 2 + 17 * x))) (by rw [List.append_assoc]) ?_
      have hkd : xkd (HIl b x ++ STc (b + 2 + 17 * x)) (2 + 17 * x) = 14 := by
        show (xnth (HIl b x ++ STc (b + 2 + 17 * x)) (2 + 17 * x) (0, 0, zr)).1 = 14
        rw [show 2 + 17 * x = (HIl b x).length + 0 by omega, xnth_app2]
        rfl
      refine G_aas (j := 1) (i := 2 + 17 * x) fx_4_33 (by omega) (by omega) (Or.inr ⟨rfl, hkd⟩) (by omega) (by omega) (show (x : Int) < ((6 : Nat) : Int) by omega) (by omega) ?_
      refine Rg.cast (S' := S ++ HIl b (x + 1)) ?_ ?_
      · have e1 : (fun i => if i = (x : Int).toNat then b + 2 + 17 * x else if i < x then b + 2 + 17 * i else 0) = fun i => if i < x + 1 then b + 2 + 17 * i else 0 := by
          funext i
          rw [Int.toNat_natCast]
          by_cases h1 : i = x
          · subst h1; rw [if_pos rfl, if_pos (by omega)]
          · rw [if_neg h1]
            by_cases h2 : i < x
            · rw [if_pos h2, if_pos (by omega)]
            · rw [if_neg h2, if_neg (by omega)]
        unfold HIl
        rw [← e1]
        rfl
      · refine G_inc fx_4_34 rfl ?_
        refine G_goto fx_4_37 ?_
        have h9 := ih (x + 1) g2 (by omega) (fun c hc => by rw [b1 c (by omega), xzr_n (by omega)]; exact a1 c hc) (by rw [b1 b (by omega), xzr_n (by omega)]; exact a2)
        rw [show 1 + 17 * (x + 1) = 1 + 17 * x + 1 + 16 by omega, show 6 + 120 * (x + 1) = 6 + 120 * x + 8 + 112 by omega] at h9
        exact h9
  refine G_al fx_4_0 rfl (by omega) ?_
  refine G_oi fx_4_1 (by omega) ⟨by decide, by decide, Nat.le_of_ble_eq_true rfl⟩ ?_
  refine G_al fx_4_4 rfl (by omega) ?_
  refine G_push fx_4_5 ?_
  refine G_aa (p := (b + 1)) fx_4_7 (by rw [hb]; rfl) (by decide) (by decide) ?_
  refine G_pfr fx_4_10 (j := 0) (by omega) rfl rfl (by omega) ?_
  refine G_push fx_4_13 ?_
  refine G_is fx_4_14 ?_
  refine Rg.cast (S' := S ++ HIl b 0) ?_ (loop 6 0 _ (by omega) (fun c hc => ?_) ⟨?_, ?_⟩)
  · unfold HIl; rw [← ref1]; rfl
  · rw [xzr_n (by omega)]
  · rw [xzr_n (by omega)]; exact hz 1
  · rw [xzr_n (by omega)]; exact hz 2
def WRc (b : Nat) : List xC := [(15, 3, fun i => xnth [b + 1, b + 14, b + 15] i 0), (4, 12, fun i => b + 1 + 1 + i), (1, 101, zr), (1, 101, zr), (1, 101, zr), (1, 101, zr), (1, 101, zr), (1, 101, zr), (1, 101, zr), (1, 101, zr), (1, 101, zr), (1, 101, zr), (1, 101, zr), (1, 101, zr), (1, 101, zr), (1, 101, zr)]
theorem ref3 (b : Nat) : (fun i => if i = 2 then b + 15 else if i = 1 then b + 14 else if i = 0 then b + 1 else (0 : Nat)) = fun i => xnth [b + 1, b + 14, b + 15] i 0 := by
  funext i
  match i with
  | 0 => rfl
  | 1 => rfl
  | 2 => rfl
  | n + 3 => rw [if_neg (by omega), if_neg (by omega), if_neg (by omega)]; rfl
theorem C_5 (hb : S.length = b) (h0 : 0 < b) (K : ∀ g : xF, (∀ c, c < b → g c = f c) → Q [] (S ++ WRc b, g)) : Rg 5 0 (0, 0) (xloc 5 [.inr b]) [] (S ++ [(15, 3, zr)], f) Q := by
  refine G_al fx_5_0 rfl (by omega) ?_
  refine G_oi fx_5_1 (by omega) ⟨by decide, by decide, Nat.le_of_ble_eq_true rfl⟩ ?_
  refine G_al fx_5_4 rfl (by omega) ?_
  refine G_push fx_5_5 ?_
  refine G_push fx_5_7 ?_
  refine G_mn (p := b + 1) fx_5_9 (by rw [hb]; rfl) (by decide) (by decide) ?_
  refine G_pfr fx_5_13 (j := 0) (by omega) rfl rfl (by omega) ?_
  refine G_al fx_5_16 rfl (by omega) ?_
  refine G_push fx_5_17 ?_
  refine G_na (p := (b + 14)) fx_5_19 (by rw [hb]; rfl) (by decide) (by decide) ?_
  refine G_pfr fx_5_21 (j := 0) (by omega) rfl rfl (by omega) ?_
  refine G_al fx_5_24 rfl (by omega) ?_
  refine G_push fx_5_25 ?_
  refine G_na (p := (b + 15)) fx_5_27 (by rw [hb]; rfl) (by decide) (by decide) ?_
  refine G_pfr fx_5_29 (j := 0) (by omega) rfl rfl (by omega) ?_
  refine G_retv fx_5_32 rfl ?_
  refine Eq.mp (congrArg (fun X => Q [] (X, _)) ?_) (K _ (fun c hc => ?_))
  · unfold WRc; rw [← ref3]; rfl
  · rw [xzr_n (by omega), xzr_n (by omega)]; funext y; rw [if_neg (by omega)]
def COc (b : Nat) : List xC := [(10, 2, fun i => xnth [b + 1, b + 2] i 0), (1, 96, zr), (1, 576, zr)]
theorem ref2 (b : Nat) : (fun i => if i = 1 then b + 2 else if i = 0 then b + 1 else (0 : Nat)) = fun i => xnth [b + 1, b + 2] i 0 := by
  funext i
  match i with
  | 0 => rfl
  | 1 => rfl
  | n + 2 => rw [if_neg (by omega), if_neg (by omega)]; rfl
theorem C_7 (hb : S.length = b) (h0 : 0 < b) (K : ∀ g : xF, (∀ c, c < b → g c = f c) → Q [] (S ++ COc b, g)) : Rg 7 0 (0, 0) (xloc 7 [.inr b]) [] (S ++ [(10, 2, zr)], f) Q := by
  refine G_al fx_7_0 rfl (by omega) ?_
  refine G_oi fx_7_1 (by omega) ⟨by decide, by decide, Nat.le_of_ble_eq_true rfl⟩ ?_
  refine G_al fx_7_4 rfl (by omega) ?_
  refine G_push fx_7_5 ?_
  refine G_na (p := (b + 1)) fx_7_7 (by rw [hb]; rfl) (by decide) (by decide) ?_
  refine G_pfr fx_7_9 (j := 0) (by omega) rfl rfl (by omega) ?_
  refine G_al fx_7_12 rfl (by omega) ?_
  refine G_push fx_7_13 ?_
  refine G_na (p := (b + 2)) fx_7_16 (by rw [hb]; rfl) (by decide) (by decide) ?_
  refine G_pfr fx_7_18 (j := 0) (by omega) rfl rfl (by omega) ?_
  refine G_retv fx_7_21 rfl ?_
  refine Eq.mp (congrArg (fun X => Q [] (X, _)) ?_) (K _ (fun c hc => ?_))
  · unfold COc; rw [← ref2]; rfl
  · rw [xzr_n (by omega), xzr_n (by omega)]
def PLc (b : Nat) : List xC := (12, 9, fun i => xnth [b + 1, b + 4, b + 5, b + 6, b + 7] i 0) :: (COc (b + 1) ++ [(1, 4096, zr), (1, 4096, zr), (1, 8, zr), (1, 8, zr)])
theorem ref5 (b : Nat) : (fun i => if i = 4 then b + 7 else if i = 3 then b + 6 else if i = 2 then b + 5 else if i = 1 then b + 4 else if i = 0 then b + 1 else (0 : Nat)) = fun i => xnth [b + 1, b + 4, b + 5, b + 6, b + 7] i 0 := by
  funext i
  match i with
  | 0 => rfl
  | 1 => rfl
  | 2 => rfl
  | 3 => rfl
  | 4 => rfl
  | n + 5 => rw [if_neg (by omega), if_neg (by omega), if_neg (by omega), if_neg (by omega), if_neg (by omega)]; rfl
theorem C_6 (hb : S.length = b) (h0 : 0 < b) (hz : ∀ i, f b i = 0) (K : ∀ g : xF, (∀ c, c < b → g c = f c) → g b 8 = 0 → Q [] (S ++ PLc b, g)) : Rg 6 0 (0, 0) (xloc 6 [.inr b]) [] (S ++ [(12, 9, zr)], f) Q := by
  refine G_al fx_6_0 rfl (by omega) ?_
  refine G_oi fx_6_1 (by omega) ⟨by decide, by decide, Nat.le_of_ble_eq_true rfl⟩ ?_
  refine G_al fx_6_4 rfl (by omega) ?_
  refine G_new (p := (b + 1)) fx_6_5 (by rw [hb]; rfl) (by decide) ?_
  refine G_dup fx_6_8 ?_
  refine G_ci fx_6_9 rfl ⟨Nat.le_of_ble_eq_true rfl, Nat.le_of_ble_eq_true rfl, by decide, by decide, by decide, by decide⟩ (by omega) rfl rfl ?_
  refine Rg.cast (S' := (S ++ [(12, 9, zr)]) ++ [(10, 2, zr)]) (by rw [List.append_assoc]; rfl) ?_
  refine C_7 (S := S ++ [(12, 9, zr)]) (b := b + 1) (by rw [List.length_append, hb]; rfl) (by omega) (fun g2 a2 => ?_)
  refine Rg.cast (S' := S ++ ((12, 9, zr) :: COc (b + 1))) (by rw [List.append_assoc]; rfl) ?_
  refine G_pfr fx_6_12 (j := 0) (by omega) rfl rfl (by omega) ?_
  refine G_al fx_6_15 rfl (by omega) ?_
  refine G_push fx_6_16 ?_
  refine G_na (p := (b + 4)) fx_6_19 (by rw [hb]; rfl) (by decide) (by decide) ?_
  refine G_pfr fx_6_21 (j := 0) (by omega) rfl rfl (by omega) ?_
  refine G_al fx_6_24 rfl (by omega) ?_
  refine G_push fx_6_25 ?_
  refine G_na (p := (b + 5)) fx_6_28 (by rw [hb]; rfl) (by decide) (by decide) ?_
  refine G_pfr fx_6_30 (j := 0) (by omega) rfl rfl (by omega) ?_
  refine G_al fx_6_33 rfl (by omega) ?_
  refine G_push fx_6_34 ?_
  refine G_na (p := (b + 6)) fx_6_36 (by rw [hb]; rfl) (by decide) (by decide) ?_
  refine G_pfr fx_6_38 (j := 0) (by omega) rfl rfl (by omega) ?_
  refine G_al fx_6_41 rfl (by omega) ?_
  refine G_push fx_6_42 ?_
  refine G_na (p := (b + 7)) fx_6_44 (by rw [hb]; rfl) (by decide) (by decide) ?_
  refine G_pfr fx_6_46 (j := 0) (by omega) rfl rfl (by omega) ?_
  refine G_retv fx_6_49 rfl ?_
  refine Eq.mp (congrArg (fun X => Q [] (X, _)) ?_) (K _ (fun c hc => ?_) ?_)
  · unfold PLc; rw [← ref5]; rfl
  · rw [xzr_n (by omega), xzr_n (by omega), xzr_n (by omega), xzr_n (by omega), a2 c (by omega), xzr_n (by omega)]
  · rw [xzr_n (by omega), xzr_n (by omega), xzr_n (by omega), xzr_n (by omega), a2 b (by omega), xzr_n (by omega)]; exact hz 8
end CV
