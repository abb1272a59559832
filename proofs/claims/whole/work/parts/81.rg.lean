/-! ===== rules where the shapes grow; rules for any count ===== -/
def Rg (mi pc : Nat) (k : Nat × Nat) (ls : xL) (st : List xV) (M : xM) (Q : List xV → xM → Prop) : Prop := ∃ (n : Nat) (v : List xV) (M' : xM), xrun n mi pc k ls st M = some (v, M') ∧ Q v M'
def xzr (f : xF) (p : Nat) : xF := fun a i => if a = p then 0 else f a i
theorem xzr_s {f : xF} {p i : Nat} : xzr f p p i = 0 := if_pos rfl
theorem xzr_n {f : xF} {p c : Nat} (h : c ≠ p) : xzr f p c = f c := by funext i; exact if_neg h
theorem set_app2 {α : Type} : ∀ (l r : List α) (j : Nat) (v : α), (l ++ r).set (l.length + j) v = l ++ r.set j v
  | [], r, j, v => by simp
  | x :: t, r, j, v => by
    rw [show (x :: t).length + j = (t.length + j) + 1 by simp; omega]
    show x :: ((t ++ r).set (t.length + j) v) = _
    rw [set_app2 t r j v]
    rfl
section RG
variable {S e : List xC} {mi pc : Nat} {k : Nat × Nat} {ls : xL} {st r : List xV} {f : xF} {Q : List xV → xM → Prop} {a : Int} {b c : Nat} {x y z : Int} {p q j : Nat} {M : xM}
theorem Rg.go {pc' : Nat} {k' : Nat × Nat} {ls' : xL} {st' : List xV} {M' : xM} (h : xstep mi pc k ls st M = some (.inl (pc', k', ls', st', M'))) (K : Rg mi pc' k' ls' st' M' Q) : Rg mi pc k ls st M Q := by
  obtain ⟨n, v, f1, h1, h2⟩ := K
  refine ⟨n + 1, v, f1, ?_, h2⟩
  unfold xrun
  rw [h]
  exact h1
theorem Rg.cast {S' : List xC} (h : S = S') (K : Rg mi pc k ls st (S', f) Q) : Rg mi pc k ls st (S, f) Q := by rw [h]; exact K
theorem G_push (h : xins mi pc = (1, a, b, c)) (K : Rg mi (pc + b) k ls (.inl a :: st) M Q) : Rg mi pc k ls st M Q := Rg.go (by rw [xstep_eq h]; rfl) K
theorem G_il (h : xins mi pc = (2, a, b, c)) (hl : xnth ls b none = some (.inl x)) (K : Rg mi (pc + c) k ls (.inl x :: st) M Q) : Rg mi pc k ls st M Q := Rg.go (by rw [xstep_eq h]; simp only [xsem, hl]; rfl) K
theorem G_al (h : xins mi pc = (3, a, b, c)) (hl : xnth ls b none = some (.inr p)) (hp : 0 < p) (K : Rg mi (pc + c) k ls (.inr p :: st) M Q) : Rg mi pc k ls st M Q := by
  obtain ⟨p', rfl⟩ : ∃ p', p = p' + 1 := ⟨p - 1, by omega⟩
  exact Rg.go (by rw [xstep_eq h]; simp only [xsem, hl]; rfl) K
theorem G_is (h : xins mi pc = (4, a, b, c)) (K : Rg mi (pc + c) k (ls.set b (some (.inl x))) st M Q) : Rg mi pc k ls (.inl x :: st) M Q := Rg.go (by rw [xstep_eq h]; rfl) K
theorem G_as (h : xins mi pc = (5, a, b, c)) (hp : 0 < p) (K : Rg mi (pc + c) k (ls.set b (some (.inr p))) st M Q) : Rg mi pc k ls (.inr p :: st) M Q := by
  obtain ⟨p', rfl⟩ : ∃ p', p = p' + 1 := ⟨p - 1, by omega⟩
  exact Rg.go (by rw [xstep_eq h]; rfl) K
theorem G_inc (h : xins mi pc = (6, a, b, c)) (hl : xnth ls b none = some (.inl x)) (K : Rg mi (pc + 3) k (ls.set b (some (.inl (x + a)))) st M Q) : Rg mi pc k ls st M Q := Rg.go (by rw [xstep_eq h]; simp only [xsem, hl]; rfl) K
theorem G_add (h : xins mi pc = (7, a, 0, c)) (K : Rg mi (pc + 1) k ls (.inl (x + y) :: st) M Q) : Rg mi pc k ls (.inl y :: .inl x :: st) M Q := Rg.go (by rw [xstep_eq h]; rfl) K
theorem G_sub (h : xins mi pc = (7, a, 1, c)) (K : Rg mi (pc + 1) k ls (.inl (x - y) :: st) M Q) : Rg mi pc k ls (.inl y :: .inl x :: st) M Q := Rg.go (by rw [xstep_eq h]; rfl) K
theorem G_bin (h : xins mi pc = (7, a, b, c)) (hz : xbin b x y = some z) (K : Rg mi (pc + 1) k ls (.inl z :: st) M Q) : Rg mi pc k ls (.inl y :: .inl x :: st) M Q := Rg.go (by rw [xstep_eq h]; simp only [xsem, hz]; rfl) K
theorem G_ic0 (h : xins mi pc = (10, a, b, c)) (hx : (xok x ∧ xok y) ∨ (b ≤ 1 ∧ x = y)) (K1 : xcmp b x y = true → Rg mi c k ls st M Q) (K2 : xcmp b x y = false → Rg mi (pc + 3) k ls st M Q) : Rg mi pc k ls (.inl y :: .inl x :: st) M Q := by
  cases hc : xcmp b x y with
  | true => exact Rg.go (pc' := c) (by rw [xstep_eq h]; simp only [xsem, if_pos hx, hc, if_true]; rfl) (K1 hc)
  | false => exact Rg.go (pc' := pc + 3) (by rw [xstep_eq h]; simp only [xsem, if_pos hx, hc]; rfl) (K2 hc)
theorem G_iceq (h : xins mi pc = (10, a, 0, c)) (hx : (xok x ∧ xok y) ∨ x = y) (K1 : x = y → Rg mi c k ls st M Q) (K2 : ¬ x = y → Rg mi (pc + 3) k ls st M Q) : Rg mi pc k ls (.inl y :: .inl x :: st) M Q := G_ic0 h (hx.imp id (fun z => ⟨by omega, z⟩)) (fun z => K1 (by simpa [xcmp] using z)) (fun z => K2 (by simpa [xcmp] using z))
theorem G_icge (h : xins mi pc = (10, a, 3, c)) (hx : xok x ∧ xok y) (K1 : y ≤ x → Rg mi c k ls st M Q) (K2 : ¬ y ≤ x → Rg mi (pc + 3) k ls st M Q) : Rg mi pc k ls (.inl y :: .inl x :: st) M Q := G_ic0 h (Or.inl hx) (fun z => K1 (by simpa [xcmp] using z)) (fun z => K2 (by simpa [xcmp] using z))
theorem G_icgt (h : xins mi pc = (10, a, 4, c)) (hx : xok x ∧ xok y) (K1 : y < x → Rg mi c k ls st M Q) (K2 : ¬ y < x → Rg mi (pc + 3) k ls st M Q) : Rg mi pc k ls (.inl y :: .inl x :: st) M Q := G_ic0 h (Or.inl hx) (fun z => K1 (by simpa [xcmp] using z)) (fun z => K2 (by simpa [xcmp] using z))
theorem G_goto (h : xins mi pc = (11, a, b, c)) (K : Rg mi c k ls st M Q) : Rg mi pc k ls st M Q := Rg.go (by rw [xstep_eq h]; rfl) K
theorem G_gr (h : xins mi pc = (12, a, b, c)) (hp : p = S.length + j) (hk : xkd e j = 10 + b) (hr : xrf b c = true) (hq : xrr e j c = q) (K : Rg mi (pc + 3) k ls (.inr q :: st) (S ++ e, f) Q) : Rg mi pc k ls (.inr p :: st) (S ++ e, f) Q := by
  refine Rg.go ?_ K
  rw [xstep_eq h]
  have e1 : xat (S ++ e, f) p = xnth e j (0, 0, fun _ => 0) := by rw [hp]; exact xnth_app2 S e j
  show (if (xat (S ++ e, f) p).1 = 10 + b then xgo (pc + 3) k ls ((if xrf b c then .inr ((xat (S ++ e, f) p).2.2 c) else .inl (f p c)) :: st) (S ++ e, f) else none) = _
  rw [e1, if_pos (show (xnth e j (0, 0, fun _ => 0)).1 = 10 + b from hk), hr, ← hq]
  rfl
theorem G_pfi (h : xins mi pc = (13, a, b, c)) (hp : p = S.length + j) (hk : xkd e j = 10 + b) (hr : xrf b c = false) (hb : xbf b c = true → x = 0 ∨ x = 1) (K : Rg mi (pc + 3) k ls st (S ++ e, xup f p c x) Q) : Rg mi pc k ls (.inl x :: .inr p :: st) (S ++ e, f) Q := by
  refine Rg.go ?_ K
  rw [xstep_eq h]
  have e1 : xat (S ++ e, f) p = xnth e j (0, 0, fun _ => 0) := by rw [hp]; exact xnth_app2 S e j
  show (if (xat (S ++ e, f) p).1 = 10 + b ∧ xrf b c = false ∧ (xbf b c = true → x = 0 ∨ x = 1) then _ else none) = _
  rw [e1, if_pos ⟨hk, hr, hb⟩]
  rfl
theorem G_pfr (h : xins mi pc = (13, a, b, c)) (hp : p = S.length + j) (hk : xkd e j = 10 + b) (hr : xrf b c = true) (hq : 0 < q) (K : Rg mi (pc + 3) k ls st (S ++ e.set j (xkd e j, xln e j, fun i => if i = c then q else xrr e j i), f) Q) : Rg mi pc k ls (.inr q :: .inr p :: st) (S ++ e, f) Q := by
  obtain ⟨q', rfl⟩ : ∃ q', q = q' + 1 := ⟨q - 1, by omega⟩
  refine Rg.go ?_ K
  rw [xstep_eq h]
  have e1 : xat (S ++ e, f) p = xnth e j (0, 0, fun _ => 0) := by rw [hp]; exact xnth_app2 S e j
  show (if (xat (S ++ e, f) p).1 = 10 + b ∧ xrf b c = true then xgo (pc + 3) k ls st ((S ++ e).set p ((xat (S ++ e, f) p).1, (xat (S ++ e, f) p).2.1, fun i => if i = c then q' + 1 else (xat (S ++ e, f) p).2.2 i), f) else none) = _
  rw [e1, if_pos ⟨hk, hr⟩, hp, set_app2]
  rfl
theorem G_ias (h : xins mi pc = (15, a, b, c)) (hp : p = S.length + j) (hk : xkd e j = 1) (h0 : 0 ≤ x) (h1 : x < xln e j) (hx : xok x) (K : Rg mi (pc + 1) k ls st (S ++ e, xup f p x.toNat y) Q) : Rg mi pc k ls (.inl y :: .inl x :: .inr p :: st) (S ++ e, f) Q := by
  refine Rg.go ?_ K
  rw [xstep_eq h]
  have e1 : xat (S ++ e, f) p = xnth e j (0, 0, fun _ => 0) := by rw [hp]; exact xnth_app2 S e j
  show (if (xat (S ++ e, f) p).1 = 1 ∧ 0 ≤ x ∧ x < (xat (S ++ e, f) p).2.1 ∧ xok x then _ else none) = _
  rw [e1, if_pos ⟨hk, h0, h1, hx⟩]
  rfl
theorem G_aas {i : Nat} (h : xins mi pc = (17, a, b, c)) (hp : p = S.length + j) (hqi : q = S.length + i) (hk : (xkd e j = 2 ∧ xkd e i = 13) ∨ (xkd e j = 3 ∧ xkd e i = 14)) (hq : 0 < q) (h0 : 0 ≤ x) (h1 : x < xln e j) (hx : xok x) (K : Rg mi (pc + 1) k ls st (S ++ e.set j (xkd e j, xln e j, fun i => if i = x.toNat then q else xrr e j i), f) Q) : Rg mi pc k ls (.inr q :: .inl x :: .inr p :: st) (S ++ e, f) Q := by
  obtain ⟨q', rfl⟩ : ∃ q', q = q' + 1 := ⟨q - 1, by omega⟩
  refine Rg.go ?_ K
  rw [xstep_eq h]
  have e1 : xat (S ++ e, f) p = xnth e j (0, 0, fun _ => 0) := by rw [hp]; exact xnth_app2 S e j
  have e2 : xat (S ++ e, f) (q' + 1) = xnth e i (0, 0, fun _ => 0) := by rw [hqi]; exact xnth_app2 S e i
  show (if ((xat (S ++ e, f) p).1 = 2 ∧ (xat (S ++ e, f) (q' + 1)).1 = 13 ∨ (xat (S ++ e, f) p).1 = 3 ∧ (xat (S ++ e, f) (q' + 1)).1 = 14) ∧ 0 ≤ x ∧ x < (xat (S ++ e, f) p).2.1 ∧ xok x then xgo (pc + 1) k ls st ((S ++ e).set p ((xat (S ++ e, f) p).1, (xat (S ++ e, f) p).2.1, fun i => if i = x.toNat then q' + 1 else (xat (S ++ e, f) p).2.2 i), f) else none) = _
  rw [e1, e2, if_pos ⟨hk, h0, h1, hx⟩, hp, set_app2]
  rfl
theorem G_new {k1 k2 : Nat} (h : xins mi pc = (19, a, b, c)) (hp : p = S.length + e.length) (hg : k1 + 1 ≤ xmi mi 7 ∧ k2 + xN b ≤ xmi mi 8) (K : Rg mi (pc + 3) (k1 + 1, k2 + xN b) ls (.inr p :: st) (S ++ (e ++ [(10 + b, xN b, fun _ => 0)]), xzr f p) Q) : Rg mi pc (k1, k2) ls st (S ++ e, f) Q := by
  have hl : (S ++ e).length = p := by rw [List.length_append, hp]
  refine Rg.go ?_ K
  rw [xstep_eq h]
  show (if k1 + 1 ≤ xmi mi 7 ∧ k2 + xN b ≤ xmi mi 8 then xgo (pc + 3) (k1 + 1, k2 + xN b) ls (.inr (S ++ e).length :: st) ((S ++ e) ++ [(10 + b, xN b, fun _ => 0)], fun a' i' => if a' = (S ++ e).length then 0 else f a' i') else none) = _
  rw [if_pos hg, hl, List.append_assoc]
  rfl
theorem G_na {k1 k2 : Nat} (h : xins mi pc = (20, a, b, c)) (hp : p = S.length + e.length) (h0 : 0 ≤ x ∧ x ≤ 134217728) (hg : k1 + 1 ≤ xmi mi 7 ∧ k2 + x.toNat ≤ xmi mi 8) (K : Rg mi (pc + 2) (k1 + 1, k2 + x.toNat) ls (.inr p :: st) (S ++ (e ++ [(1, x.toNat, fun _ => 0)]), xzr f p) Q) : Rg mi pc (k1, k2) ls (.inl x :: st) (S ++ e, f) Q := by
  have hl : (S ++ e).length = p := by rw [List.length_append, hp]
  refine Rg.go ?_ K
  rw [xstep_eq h]
  show (if 0 ≤ x ∧ x ≤ 134217728 ∧ k1 + 1 ≤ xmi mi 7 ∧ k2 + x.toNat ≤ xmi mi 8 then xgo (pc + 2) (k1 + 1, k2 + x.toNat) ls (.inr (S ++ e).length :: st) ((S ++ e) ++ [(1, x.toNat, fun _ => 0)], fun a' i' => if a' = (S ++ e).length then 0 else f a' i') else none) = _
  rw [if_pos ⟨h0.1, h0.2, hg⟩, hl, List.append_assoc]
  rfl
theorem G_aa {k1 k2 : Nat} (h : xins mi pc = (21, a, b, c)) (hp : p = S.length + e.length) (h0 : 0 ≤ x ∧ x ≤ 134217728) (hg : k1 + 1 ≤ xmi mi 7 ∧ k2 + x.toNat ≤ xmi mi 8) (K : Rg mi (pc + 3) (k1 + 1, k2 + x.toNat) ls (.inr p :: st) (S ++ (e ++ [(b, x.toNat, fun _ => 0)]), xzr f p) Q) : Rg mi pc (k1, k2) ls (.inl x :: st) (S ++ e, f) Q := by
  have hl : (S ++ e).length = p := by rw [List.length_append, hp]
  refine Rg.go ?_ K
  rw [xstep_eq h]
  show (if 0 ≤ x ∧ x ≤ 134217728 ∧ k1 + 1 ≤ xmi mi 7 ∧ k2 + x.toNat ≤ xmi mi 8 then xgo (pc + 3) (k1 + 1, k2 + x.toNat) ls (.inr (S ++ e).length :: st) ((S ++ e) ++ [(b, x.toNat, fun _ => 0)], fun a' i' => if a' = (S ++ e).length then 0 else f a' i') else none) = _
  rw [if_pos ⟨h0.1, h0.2, hg⟩, hl, List.append_assoc]
  rfl
theorem G_mn {k1 k2 : Nat} (h : xins mi pc = (22, a, b, c)) (hp : p = S.length + e.length) (h0 : (0 ≤ x ∧ x ≤ 134217728) ∧ (0 ≤ y ∧ y ≤ 134217728)) (hg : k1 + (1 + x.toNat) ≤ xmi mi 7 ∧ k2 + (x.toNat + x.toNat * y.toNat) ≤ xmi mi 8) (K : Rg mi (pc + 4) (k1 + 1 + x.toNat, k2 + x.toNat + x.toNat * y.toNat) ls (.inr p :: st) (S ++ (e ++ (4, x.toNat, fun i => p + 1 + i) :: List.replicate x.toNat (1, y.toNat, fun _ => 0)), fun a i => if p ≤ a then 0 else f a i) Q) : Rg mi pc (k1, k2) ls (.inl y :: .inl x :: st) (S ++ e, f) Q := by
  have hl : (S ++ e).length = p := by rw [List.length_append, hp]
  refine Rg.go ?_ K
  rw [xstep_eq h]
  show (if (0 ≤ x ∧ x ≤ 134217728) ∧ (0 ≤ y ∧ y ≤ 134217728) ∧ k1 + (1 + x.toNat) ≤ xmi mi 7 ∧ k2 + (x.toNat + x.toNat * y.toNat) ≤ xmi mi 8 then xgo (pc + 4) (k1 + 1 + x.toNat, k2 + x.toNat + x.toNat * y.toNat) ls (.inr (S ++ e).length :: st) ((S ++ e) ++ (4, x.toNat, fun i => (S ++ e).length + 1 + i) :: List.replicate x.toNat (1, y.toNat, fun _ => 0), fun a' i' => if (S ++ e).length ≤ a' then 0 else f a' i') else none) = _
  rw [if_pos ⟨h0.1, h0.2, hg⟩, hl, List.append_assoc]
  rfl
theorem G_dup {v : xV} (h : xins mi pc = (23, a, b, c)) (K : Rg mi (pc + 1) k ls (v :: v :: st) M Q) : Rg mi pc k ls (v :: st) M Q := Rg.go (by rw [xstep_eq h]; rfl) K
theorem G_oi (h : xins mi pc = (26, a, b, c)) (hp : 0 < p) (hg : 1 ≤ xmi mi 5 ∧ 20 ≤ xmi mi 6 ∧ st.length ≤ 8) (K : Rg mi (pc + 3) k ls st M Q) : Rg mi pc k ls (.inr p :: st) M Q := by
  obtain ⟨p', rfl⟩ : ∃ p', p = p' + 1 := ⟨p - 1, by omega⟩
  refine Rg.go ?_ K
  rw [xstep_eq h]
  simp only [xsem, if_pos hg]
  rfl
theorem G_retv (h : xins mi pc = (30, a, b, c)) (hg : xmi mi 1 = 0) (K : Q [] M) : Rg mi pc k ls [] M Q := by
  refine ⟨1, [], M, ?_, K⟩
  unfold xrun
  rw [xstep_eq h]
  simp only [xsem, if_pos hg]
theorem G_ret (h : xins mi pc = (29, a, b, c)) (hg : xmi mi 1 = 1 ∨ (xmi mi 1 = 2 ∧ (x = 0 ∨ x = 1))) (K : Q [.inl x] M) : Rg mi pc k ls [.inl x] M Q := by
  refine ⟨1, [.inl x], M, ?_, K⟩
  unfold xrun
  rw [xstep_eq h]
  simp only [xsem, if_pos hg]
theorem Rg.call {j : Nat} {as : List xV} (h : xstep mi pc k ls st M = some (.inr (.inl (j, as, r)))) (K : Rg j 0 (0, 0) (xloc j as) [] M (fun v M' => Rg mi (pc + 3) (k.1 + xmi j 7, k.2 + xmi j 8) ls (v ++ r) M' Q)) : Rg mi pc k ls st M Q := by
  obtain ⟨n, v, f1, h1, m, v2, f2, h2, h3⟩ := K
  refine ⟨max n m + 1, v2, f2, ?_, h3⟩
  unfold xrun
  rw [h]
  dsimp only
  rw [xrun_mono n _ _ _ _ _ _ _ h1 _ (Nat.le_max_left n m)]
  exact xrun_mono m _ _ _ _ _ _ _ h2 _ (Nat.le_max_right n m)
theorem G_ci {j : Nat} {as : List xV} (h : xins mi pc = (28, a, j, c)) (hk : xmi j 3 = 2) (hg : c ≤ st.length ∧ st.length ≤ c + 8 ∧ xmi j 5 + 1 ≤ xmi mi 5 ∧ 8 + (xmi j 0 + 11) + xmi j 6 ≤ xmi mi 6 ∧ k.1 + xmi j 7 ≤ xmi mi 7 ∧ k.2 + xmi j 8 ≤ xmi mi 8) (hp : 0 < p) (ha : (st.take c).reverse = .inr p :: as) (hr : st.drop c = r) (K : Rg j 0 (0, 0) (xloc j (.inr p :: as)) [] M (fun v M' => Rg mi (pc + 3) (k.1 + xmi j 7, k.2 + xmi j 8) ls (v ++ r) M' Q)) : Rg mi pc k ls st M Q := by
  obtain ⟨p', rfl⟩ : ∃ p', p = p' + 1 := ⟨p - 1, by omega⟩
  refine Rg.call ?_ K
  rw [xstep_eq h]
  simp only [xsem]
  rw [if_pos hg, hk, ha, hr]
  rfl
theorem G_cs {j : Nat} {as : List xV} (h : xins mi pc = (28, a, j, c)) (hk : xmi j 3 = 0) (hg : c ≤ st.length ∧ st.length ≤ c + 8 ∧ xmi j 5 + 1 ≤ xmi mi 5 ∧ 8 + (xmi j 0 + 11) + xmi j 6 ≤ xmi mi 6 ∧ k.1 + xmi j 7 ≤ xmi mi 7 ∧ k.2 + xmi j 8 ≤ xmi mi 8) (ha : (st.take c).reverse = as) (hr : st.drop c = r) (K : Rg j 0 (0, 0) (xloc j as) [] M (fun v M' => Rg mi (pc + 3) (k.1 + xmi j 7, k.2 + xmi j 8) ls (v ++ r) M' Q)) : Rg mi pc k ls st M Q := by
  refine Rg.call ?_ K
  rw [xstep_eq h]
  simp only [xsem]
  rw [if_pos hg, hk, ha, hr]
  rfl
theorem Rf.g {S : List xC} {Q : List xV → xM → Prop} (h : Rf S mi pc ls st f (fun v f' => Q v (S, f'))) : Rg mi pc (0, 0) ls st (S, f) Q := by
  obtain ⟨n, v, f', h1, h2⟩ := h
  exact ⟨n, v, (S, f'), h1, h2⟩
/-- a virtual call, from any count, of a method that makes nothing -/
theorem G_cv {S : List xC} {j : Nat} {as : List xV} (h : xins mi pc = (28, a, j, c)) (hk : xmi j 3 = 1) (hz : xmi j 7 = 0 ∧ xmi j 8 = 0) (hg : c ≤ st.length ∧ st.length ≤ c + 8 ∧ xmi j 5 + 1 ≤ xmi mi 5 ∧ 8 + (xmi j 0 + 11) + xmi j 6 ≤ xmi mi 6 ∧ k.1 + xmi j 7 ≤ xmi mi 7 ∧ k.2 + xmi j 8 ≤ xmi mi 8) (ha : (st.take c).reverse = .inr p :: as) (hr : st.drop c = r) (hp : xkd S p = 10 + xmi j 4) (K : Rf S j 0 (xloc j (.inr p :: as)) [] f (fun v f' => Rg mi (pc + 3) k ls (v ++ r) (S, f') Q)) : Rg mi pc k ls st (S, f) Q := by
  refine Rg.call (j := j) (as := .inr p :: as) (r := r) ?_ ?_
  · rw [xstep_eq h]
    simp only [xsem]
    rw [if_pos hg, hk, ha, hr]
    show (if xkd S p = 10 + xmi j 4 then _ else none) = _
    rw [if_pos hp]
  · rw [hz.1, hz.2]
    exact Rf.g K
theorem G_len {S : List xC} (h : xins mi pc = (18, a, b, c)) (hk : xkd S p = 1 ∨ xkd S p = 5) (K : Rg mi (pc + 1) k ls (.inl (xln S p) :: st) (S, f) Q) : Rg mi pc k ls (.inr p :: st) (S, f) Q := by
  refine Rg.go ?_ K
  rw [xstep_eq h]
  show (if xkd S p = 1 ∨ xkd S p = 5 then _ else none) = _
  rw [if_pos hk]
  rfl
theorem G_ia {S : List xC} (h : xins mi pc = (14, a, b, c)) (hk : xkd S p = 1 ∨ xkd S p = 5) (h0 : 0 ≤ x) (h1 : x < xln S p) (hx : xok x) (K : Rg mi (pc + 1) k ls (.inl (f p x.toNat) :: st) (S, f) Q) : Rg mi pc k ls (.inl x :: .inr p :: st) (S, f) Q := by
  refine Rg.go ?_ K
  rw [xstep_eq h]
  show (if (xkd S p = 1 ∨ xkd S p = 5) ∧ 0 ≤ x ∧ x < xln S p ∧ xok x then _ else none) = _
  rw [if_pos ⟨hk, h0, h1, hx⟩]
  rfl
theorem G_sw {t : Nat} (h : xins mi pc = (32, a, b, c)) (hx : xok x) (ht : (if x < a ∨ a + (xsw mi pc).length ≤ x then b else xnth (xsw mi pc) (x - a).toNat 0) = t) (K : Rg mi t k ls st M Q) : Rg mi pc k ls (.inl x :: st) M Q := by
  subst ht
  refine Rg.go ?_ K
  rw [xstep_eq h]
  show (if xok x then _ else none) = _
  rw [if_pos hx]
  rfl
end RG
