/-! ===== constructors: Reed, State ===== -/
section FS
variable {S : List xC} {f : xF} {Q : List xV → xF → Prop}
theorem C_3S {a N : Nat} {v : Int} (ha : 0 < a) (hk : xkd S a = 1) (hl : xln S a = N) (hN : N < 100000) (K : ∀ f2 : xF, (∀ i, i < N → f2 a i = v) → (∀ c, c ≠ a → f2 c = f c) → Q [] f2) : Rf S 3 0 (xloc 3 [.inr a, .inl v]) [] f Q := by
  have loop : ∀ (t m : Nat) (g : xF), m + t = N → (∀ i, i < m → g a i = v) → (∀ c, c ≠ a → g c = f c) → Rf S 3 5 [some (.inr a), some (.inl v), some (.inl (m : Int)), some (.inl (N : Int))] [] g Q := by
    intro t
    induction t with
    | zero =>
      intro m g hmn e1 e2
      have hmj : m = N := by omega
      subst hmj
      refine R_il fx_3_5 rfl ?_
      refine R_il fx_3_6 rfl ?_
      refine R_icge fx_3_7 (by omega) (fun hc => ?_) (fun hc => by omega)
      exact R_retv fx_3_20 rfl (K g e1 e2)
    | succ t ih =>
      intro m g hmn e1 e2
      refine R_il fx_3_5 rfl ?_
      refine R_il fx_3_6 rfl ?_
      refine R_icge fx_3_7 (by omega) (fun hc => by omega) (fun hc => ?_)
      refine R_al fx_3_10 rfl (by omega) ?_
      refine R_il fx_3_11 rfl ?_
      refine R_il fx_3_12 rfl ?_
      refine R_ias fx_3_13 hk (by omega) (by rw [hl]; omega) (by omega) ?_
      refine R_inc fx_3_14 rfl ?_
      refine R_goto fx_3_17 ?_
      rw [Int.toNat_natCast]
      refine ih (m + 1) _ (by omega) (fun i h9 => ?_) (fun c hc => ?_)
      · by_cases e : i = m
        · subst e; rw [xup_s]
        · rw [xup_i e]; exact e1 i (by omega)
      · funext i; rw [xup_a hc]; exact congrFun (e2 c hc) i
  refine R_push fx_3_0 ?_
  refine R_is fx_3_1 ?_
  refine R_al fx_3_2 rfl (by omega) ?_
  refine R_len fx_3_3 (Or.inl hk) ?_
  refine R_is fx_3_4 ?_
  rw [hl]
  exact loop N 0 f (by omega) (fun i h9 => absurd h9 (by omega)) (fun _ _ => rfl)
end FS
abbrev zr : Nat → Nat := fun _ => 0
def STc (b : Nat) : List xC := [(14, 8, fun i => xnth [b + 1, b + 2, b + 3, b + 4] i 0), (2, 12, fun i => xnth [b + 5, b + 6, b + 7, b + 8, b + 9, b + 10, b + 11, b + 12, b + 13, b + 14, b + 15, b + 16] i 0), (1, 8, zr), (1, 4, zr), (1, 4, zr), (13, 7, zr), (13, 7, zr), (13, 7, zr), (13, 7, zr), (13, 7, zr), (13, 7, zr), (13, 7, zr), (13, 7, zr), (13, 7, zr), (13, 7, zr), (13, 7, zr), (13, 7, zr)]
def STl (b r : Nat) : List xC := (14, 8, fun i => xnth [b + 1, b + 2, b + 3, b + 4] i 0) :: (2, 12, fun i => if i < r then b + 5 + i else 0) :: (1, 8, zr) :: (1, 4, zr) :: (1, 4, zr) :: List.replicate r (13, 7, zr)
theorem STl_len (b r : Nat) : (STl b r).length = 5 + r := by
  simp [STl]; omega
theorem ref4 (b : Nat) : (fun i => if i = 3 then b + 4 else if i = 2 then b + 3 else if i = 1 then b + 2 else if i = 0 then b + 1 else (0 : Nat)) = fun i => xnth [b + 1, b + 2, b + 3, b + 4] i 0 := by
  funext i
  match i with
  | 0 => rfl
  | 1 => rfl
  | 2 => rfl
  | 3 => rfl
  | n + 4 => rw [if_neg (by omega), if_neg (by omega), if_neg (by omega), if_neg (by omega)]; rfl
theorem ref12 (b : Nat) : (fun i => if i < 12 then b + 5 + i else 0) = fun i => xnth [b + 5, b + 6, b + 7, b + 8, b + 9, b + 10, b + 11, b + 12, b + 13, b + 14, b + 15, b + 16] i 0 := by
  funext i
  match i with
  | 0 => rfl
  | 1 => rfl
  | 2 => rfl
  | 3 => rfl
  | 4 => rfl
  | 5 => rfl
  | 6 => rfl
  | 7 => rfl
  | 8 => rfl
  | 9 => rfl
  | 10 => rfl
  | 11 => rfl
  | n + 12 => rw [if_neg (by omega)]; rfl
theorem STl_12 (b : Nat) : STl b 12 = STc b := by
  unfold STl STc
  rw [ref12]
  rfl
theorem xnth_rep {α : Type} {d c : α} : ∀ (r : Nat) (t : List α), xnth (List.replicate r c ++ t) r d = xnth t 0 d
  | 0, t => rfl
  | r + 1, t => by show xnth (List.replicate r c ++ t) r d = _; exact xnth_rep r t
section CT
variable {S e : List xC} {f : xF} {Q : List xV → xM → Prop} {b p j : Nat}
theorem C_2 (hp : p = S.length + j) (h0 : 0 < p) (hk : xkd e j = 13) (K : ∀ g : xF, (∀ c, c ≠ p → g c = f c) → Q [] (S ++ e, g)) : Rg 2 0 (0, 0) (xloc 2 [.inr p]) [] (S ++ e, f) Q := by
  refine G_al fx_2_0 rfl h0 ?_
  refine G_oi fx_2_1 h0 ⟨by decide, by decide, Nat.le_of_ble_eq_true rfl⟩ ?_
  refine G_al fx_2_4 rfl h0 ?_
  refine G_push fx_2_5 ?_
  refine G_pfi fx_2_6 (j := j) hp hk rfl (fun h => absurd h (by decide)) ?_
  refine G_al fx_2_9 rfl h0 ?_
  refine G_push fx_2_10 ?_
  refine G_pfi fx_2_11 (j := j) hp hk rfl (fun h => absurd h (by decide)) ?_
  refine G_al fx_2_14 rfl h0 ?_
  refine G_push fx_2_15 ?_
  refine G_pfi fx_2_16 (j := j) hp hk rfl (fun h => absurd h (by decide)) ?_
  refine G_al fx_2_19 rfl h0 ?_
  refine G_push fx_2_20 ?_
  refine G_pfi fx_2_21 (j := j) hp hk rfl (fun h => absurd h (by decide)) ?_
  refine G_retv fx_2_24 rfl ?_
  refine K _ (fun c hc => ?_)
  funext y; rw [xup_a hc, xup_a hc, xup_a hc, xup_a hc]
/-- a State is made -/
theorem C_1 (hb : S.length = b) (h0 : 0 < b) (hz : ∀ i, f b i = 0) (K : ∀ g : xF, (∀ c, c < b → g c = f c) → (g b 4 = 0 ∧ g b 5 = 6 ∧ g b 6 = 5 ∧ g b 7 = 0) → (∀ s, s < 8 → g (b + 2) s = -1) → (∀ k, k < 4 → g (b + 3) k = 1) → (∀ k, k < 4 → g (b + 4) k = 0) → Q [] (S ++ STc b, g)) : Rg 1 0 (0, 0) (xloc 1 [.inr b]) [] (S ++ [(14, 8, zr)], f) Q := by
  have fin : ∀ (g : xF) (k : Nat × Nat) (x : Int), (∀ c, c < b → g c = f c) → (g b 4 = 0 ∧ g b 5 = 6 ∧ g b 6 = 5 ∧ g b 7 = 0) → (∀ k, k < 4 → g (b + 4) k = 0) → k.1 ≤ 16 → k.2 ≤ 112 → Rg 1 73 k [some (.inr b), some (.inl x)] [] (S ++ STc b, g) Q := by
    intro g k x a1 a2 a3 k1 k2
    have kd2 : xkd (S ++ STc b) (b + 2) = 1 := by rw [← hb]; exact congrArg (fun c : xC => c.1) (xnth_app2 S (STc S.length) 2)
    have ln2 : xln (S ++ STc b) (b + 2) = 8 := by rw [← hb]; exact congrArg (fun c : xC => c.2.1) (xnth_app2 S (STc S.length) 2)
    have kd3 : xkd (S ++ STc b) (b + 3) = 1 := by rw [← hb]; exact congrArg (fun c : xC => c.1) (xnth_app2 S (STc S.length) 3)
    have ln3 : xln (S ++ STc b) (b + 3) = 4 := by rw [← hb]; exact congrArg (fun c : xC => c.2.1) (xnth_app2 S (STc S.length) 3)
    refine G_al fx_1_73 rfl (by omega) ?_
    refine G_gr (q := b + 2) fx_1_74 (j := 0) (by omega) rfl rfl rfl ?_
    refine G_push fx_1_77 ?_
    refine G_cs fx_1_78 rfl ⟨Nat.le_of_ble_eq_true rfl, Nat.le_of_ble_eq_true rfl, by decide, by decide, k1, k2⟩ rfl rfl ?_
    refine Rf.g (C_3S (N := 8) (by omega) kd2 ln2 (by omega) (fun g2 e1 e2 => ?_))
    refine G_al fx_1_81 rfl (by omega) ?_
    refine G_gr (q := b + 3) fx_1_82 (j := 0) (by omega) rfl rfl rfl ?_
    refine G_push fx_1_85 ?_
    refine G_cs fx_1_86 rfl ⟨Nat.le_of_ble_eq_true rfl, Nat.le_of_ble_eq_true rfl, by decide, by decide, k1, k2⟩ rfl rfl ?_
    refine Rf.g (C_3S (N := 4) (by omega) kd3 ln3 (by omega) (fun g3 e3 e4 => ?_))
    refine G_retv fx_1_89 rfl (K g3 (fun c hc => ?_) ?_ (fun s hs => ?_) e3 (fun k hk => ?_))
    · rw [e4 c (by omega), e2 c (by omega)]; exact a1 c hc
    · rw [e4 b (by omega), e2 b (by omega)]; exact a2
    · rw [e4 _ (by omega)]; exact e1 s hs
    · rw [e4 _ (by omega), e2 _ (by omega)]; exact a3 k hk
  have loop : ∀ (n r : Nat) (g : xF), r + n = 12 → (∀ c, c < b → g c = f c) → (g b 4 = 0 ∧ g b 5 = 6 ∧ g b 6 = 5 ∧ g b 7 = 0) → (∀ k, k < 4 → g (b + 4) k = 0) → Rg 1 48 (4 + r, 28 + 7 * r) [some (.inr b), some (.inl (r : Int))] [] (S ++ STl b r, g) Q := by
    intro n
    induction n with
    | zero =>
      intro r g hr a1 a2 a3
      have hrj : r = 12 := by omega
      subst hrj
      rw [STl_12]
      refine G_il fx_1_48 rfl ?_
      refine G_push fx_1_49 ?_
      refine G_icge fx_1_51 (by omega) (fun hc => ?_) (fun hc => by omega)
      exact fin g _ _ a1 a2 a3 (by omega) (by omega)
    | succ n ih =>
      intro r g hr a1 a2 a3
      have hlen := STl_len b r
      have hkd : xkd (STl b r ++ [(13, 7, zr)]) (5 + r) = 13 := by
        show (xnth (STl b r ++ [(13, 7, zr)]) (5 + r) (0, 0, zr)).1 = 13
        rw [show 5 + r = (STl b r).length + 0 by omega, xnth_app2]
        rfl
      refine G_il fx_1_48 rfl ?_
      refine G_push fx_1_49 ?_
      refine G_icge fx_1_51 (by omega) (fun hc => by omega) (fun hc => ?_)
      refine G_al fx_1_54 rfl (by omega) ?_
      refine G_gr (q := b + 1) fx_1_55 (j := 0) (by omega) rfl rfl rfl ?_
      refine G_il fx_1_58 rfl ?_
      refine G_new (p := b + 5 + r) fx_1_59 (by omega) ⟨show 4 + r + 1 ≤ 16 by omega, show 28 + 7 * r + 7 ≤ 112 by omega⟩ ?_
      refine G_dup fx_1_62 ?_
      refine G_ci fx_1_63 rfl ⟨Nat.le_of_ble_eq_true rfl, Nat.le_of_ble_eq_true rfl, by decide, by decide, show 4 + r + 1 + 0 ≤ 16 by omega, show 28 + 7 * r + 7 + 0 ≤ 112 by omega⟩ (by omega) rfl rfl ?_
      refine C_2 (j := 5 + r) (by omega) (by omega) hkd (fun g2 h2 => ?_)
      refine G_aas (j := 1) (i := 5 + r) fx_1_66 (by omega) (by omega) (Or.inl ⟨rfl, hkd⟩) (by omega) (by omega) (show (r : Int) < ((12 : Nat) : Int) by omega) (by omega) ?_
      refine Rg.cast (S' := S ++ STl b (r + 1)) ?_ ?_
      · have e1 : (fun i => if i = (r : Int).toNat then b + 5 + r else if i < r then b + 5 + i else 0) = fun i => if i < r + 1 then b + 5 + i else 0 := by
          funext i
          rw [Int.toNat_natCast]
          by_cases h1 : i = r
          · subst h1; rw [if_pos rfl, if_pos (by omega)]
          · rw [if_neg h1]
            by_cases h2 : i < r
            · rw [if_pos h2, if_pos (by omega)]
            · rw [if_neg h2, if_neg (by omega)]
        unfold STl
        rw [← e1, List.replicate_succ']
        rfl
      · refine G_inc fx_1_67 rfl ?_
        refine G_goto fx_1_70 ?_
        refine ih (r + 1) g2 (by omega) (fun c hc => ?_) ?_ (fun k hk => ?_)
        · rw [h2 c (by omega), xzr_n (by omega)]; exact a1 c hc
        · rw [h2 b (by omega), xzr_n (by omega)]; exact a2
        · rw [h2 _ (by omega), xzr_n (by omega)]; exact a3 k hk
  refine G_al fx_1_0 rfl (by omega) ?_
  refine G_oi fx_1_1 (by omega) ⟨by decide, by decide, Nat.le_of_ble_eq_true rfl⟩ ?_
  refine G_al fx_1_4 rfl (by omega) ?_
  refine G_push fx_1_5 ?_
  refine G_aa (p := (b + 1)) fx_1_7 (by rw [hb]; rfl) (by decide) (by decide) ?_
  refine G_pfr fx_1_10 (j := 0) (by omega) rfl rfl (by omega) ?_
  refine G_al fx_1_13 rfl (by omega) ?_
  refine G_push fx_1_14 ?_
  refine G_na (p := (b + 2)) fx_1_16 (by rw [hb]; rfl) (by decide) (by decide) ?_
  refine G_pfr fx_1_18 (j := 0) (by omega) rfl rfl (by omega) ?_
  refine G_al fx_1_21 rfl (by omega) ?_
  refine G_push fx_1_22 ?_
  refine G_na (p := (b + 3)) fx_1_23 (by rw [hb]; rfl) (by decide) (by decide) ?_
  refine G_pfr fx_1_25 (j := 0) (by omega) rfl rfl (by omega) ?_
  refine G_al fx_1_28 rfl (by omega) ?_
  refine G_push fx_1_29 ?_
  refine G_na (p := (b + 4)) fx_1_30 (by rw [hb]; rfl) (by decide) (by decide) ?_
  refine G_pfr fx_1_32 (j := 0) (by omega) rfl rfl (by omega) ?_
  refine G_al fx_1_35 rfl (by omega) ?_
  refine G_push fx_1_36 ?_
  refine G_pfi fx_1_38 (j := 0) (by omega) rfl rfl (fun h => absurd h (by decide)) ?_
  refine G_al fx_1_41 rfl (by omega) ?_
  refine G_push fx_1_42 ?_
  refine G_pfi fx_1_43 (j := 0) (by omega) rfl rfl (fun h => absurd h (by decide)) ?_
  refine G_push fx_1_46 ?_
  refine G_is fx_1_47 ?_
  refine Rg.cast (S' := S ++ STl b 0) ?_ (loop 12 0 _ (by omega) (fun c hc => ?_) ⟨?_, ?_, ?_, ?_⟩ (fun k hk => ?_))
  · unfold STl; rw [← ref4]; rfl
  · funext y; rw [xup_a (by omega), xup_a (by omega)]; rw [xzr_n (by omega), xzr_n (by omega), xzr_n (by omega), xzr_n (by omega)]
  · rw [xup_i (by omega), xup_i (by omega), xzr_n (by omega), xzr_n (by omega), xzr_n (by omega), xzr_n (by omega)]; exact hz 4
  · rw [xup_i (by omega), xup_s]
  · rw [xup_s]
  · rw [xup_i (by omega), xup_i (by omega), xzr_n (by omega), xzr_n (by omega), xzr_n (by omega), xzr_n (by omega)]; exact hz 7
  · rw [xup_a (by omega), xup_a (by omega)]; exact xzr_s
end CT
