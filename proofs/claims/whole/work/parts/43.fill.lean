/-! ===== Arrays.fill ===== -/
section FI
variable {L : Nat} {f : xF} {Q : List xV → xF → Prop}
theorem C_3 {a N : Nat} {v : Int} (ha : 0 < a) (hk : xkd (SHL L) a = 1) (hl : xln (SHL L) a = N) (hN : N < 100000) (K : ∀ f2 : xF, (∀ i, i < N → f2 a i = v) → (∀ c, c ≠ a → f2 c = f c) → Q [] f2) : Rf (SHL L) 3 0 (xloc 3 [.inr a, .inl v]) [] f Q := by
  have loop : ∀ (t m : Nat) (g : xF), m + t = N → (∀ i, i < m → g a i = v) → (∀ c, c ≠ a → g c = f c) → Rf (SHL L) 3 5 [some (.inr a), some (.inl v), some (.inl (m : Int)), some (.inl (N : Int))] [] g Q := by
    intro t
    induction t with
    | zero =>
      intro m g hmn e1 e2
      have hmj : m = N := by omega
      subst hmj
      refine R_il fx_3_5 rfl ?_
      refine R_il fx_3_6 rfl ?_
      refine R_icge fx_3_7 (by omega) (fun hc => ?_) (fun hc => by omega)
      exact R_retv fx_3_20 rfl (K g e1 e2)
    | succ t ih =>
      intro m g hmn e1 e2
      refine R_il fx_3_5 rfl ?_
      refine R_il fx_3_6 rfl ?_
      refine R_icge fx_3_7 (by omega) (fun hc => by omega) (fun hc => ?_)
      refine R_al fx_3_10 rfl (by omega) ?_
      refine R_il fx_3_11 rfl ?_
      refine R_il fx_3_12 rfl ?_
      refine R_ias fx_3_13 hk (by omega) (by rw [hl]; omega) (by omega) ?_
      refine R_inc fx_3_14 rfl ?_
      refine R_goto fx_3_17 ?_
      rw [Int.toNat_natCast]
      refine ih (m + 1) _ (by omega) (fun i h9 => ?_) (fun c hc => ?_)
      · by_cases e : i = m
        · subst e; rw [xup_s]
        · rw [xup_i e]; exact e1 i (by omega)
      · funext i; rw [xup_a hc]; exact congrFun (e2 c hc) i
  refine R_push fx_3_0 ?_
  refine R_is fx_3_1 ?_
  refine R_al fx_3_2 rfl (by omega) ?_
  refine R_len fx_3_3 (Or.inl hk) ?_
  refine R_is fx_3_4 ?_
  rw [hl]
  exact loop N 0 f (by omega) (fun i h9 => absurd h9 (by omega)) (fun _ _ => rfl)
end FI
