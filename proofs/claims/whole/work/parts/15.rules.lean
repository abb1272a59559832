/-! ===== rules of the pure machine over fixed shapes ===== -/
abbrev xF : Type := Nat → Nat → Int
def xup (f : xF) (a i : Nat) (v : Int) : xF := fun a' i' => if a' = a ∧ i' = i then v else f a' i'
theorem xup_s {f : xF} {a i : Nat} {v : Int} : xup f a i v a i = v := if_pos ⟨rfl, rfl⟩
theorem xup_a {f : xF} {a i a' i' : Nat} {v : Int} (h : a' ≠ a) : xup f a i v a' i' = f a' i' := if_neg (fun z => h z.1)
theorem xup_i {f : xF} {a i a' i' : Nat} {v : Int} (h : i' ≠ i) : xup f a i v a' i' = f a' i' := if_neg (fun z => h z.2)
def xkd (S : List xC) (p : Nat) : Nat := (xnth S p (0, 0, fun _ => 0)).1
def xln (S : List xC) (p : Nat) : Nat := (xnth S p (0, 0, fun _ => 0)).2.1
def xrr (S : List xC) (p i : Nat) : Nat := (xnth S p (0, 0, fun _ => 0)).2.2 i
def Rf (S : List xC) (mi pc : Nat) (ls : xL) (st : List xV) (f : xF) (Q : List xV → xF → Prop) : Prop := ∃ (n : Nat) (v : List xV) (f' : xF), xrun n mi pc (0, 0) ls st (S, f) = some (v, (S, f')) ∧ Q v f'
section RF
variable {S : List xC} {mi pc : Nat} {ls : xL} {st r : List xV} {f : xF} {Q : List xV → xF → Prop} {a : Int} {b c : Nat} {x y z : Int} {p q : Nat}
theorem Rf.go {pc' : Nat} {ls' : xL} {st' : List xV} {f' : xF} (h : xstep mi pc (0, 0) ls st (S, f) = some (.inl (pc', (0, 0), ls', st', (S, f')))) (K : Rf S mi pc' ls' st' f' Q) : Rf S mi pc ls st f Q := by
  obtain ⟨n, v, f1, h1, h2⟩ := K
  refine ⟨n + 1, v, f1, ?_, h2⟩
  unfold xrun
  rw [h]
  exact h1
theorem Rf.mono {Q' : List xV → xF → Prop} (h : Rf S mi pc ls st f Q) (hQ : ∀ v f', Q v f' → Q' v f') : Rf S mi pc ls st f Q' := by
  obtain ⟨n, v, f1, h1, h2⟩ := h
  exact ⟨n, v, f1, h1, hQ _ _ h2⟩
theorem xstep_eq {t : Nat} (h : xins mi pc = (t, a, b, c)) (k : Nat × Nat) (ls : xL) (st : List xV) (M : xM) : xstep mi pc k ls st M = xsem t a b c mi pc k ls st M := by unfold xstep; rw [h]
theorem R_push (h : xins mi pc = (1, a, b, c)) (K : Rf S mi (pc + b) ls (.inl a :: st) f Q) : Rf S mi pc ls st f Q := Rf.go (by rw [xstep_eq h]; rfl) K
theorem R_il (h : xins mi pc = (2, a, b, c)) (hl : xnth ls b none = some (.inl x)) (K : Rf S mi (pc + c) ls (.inl x :: st) f Q) : Rf S mi pc ls st f Q := Rf.go (by rw [xstep_eq h]; simp only [xsem, hl]; rfl) K
theorem R_al (h : xins mi pc = (3, a, b, c)) (hl : xnth ls b none = some (.inr p)) (hp : 0 < p) (K : Rf S mi (pc + c) ls (.inr p :: st) f Q) : Rf S mi pc ls st f Q := by
  obtain ⟨p', rfl⟩ : ∃ p', p = p' + 1 := ⟨p - 1, by omega⟩
  exact Rf.go (by rw [xstep_eq h]; simp only [xsem, hl]; rfl) K
theorem R_is (h : xins mi pc = (4, a, b, c)) (K : Rf S mi (pc + c) (ls.set b (some (.inl x))) st f Q) : Rf S mi pc ls (.inl x :: st) f Q := Rf.go (by rw [xstep_eq h]; rfl) K
theorem R_as (h : xins mi pc = (5, a, b, c)) (hp : 0 < p) (K : Rf S mi (pc + c) (ls.set b (some (.inr p))) st f Q) : Rf S mi pc ls (.inr p :: st) f Q := by
  obtain ⟨p', rfl⟩ : ∃ p', p = p' + 1 := ⟨p - 1, by omega⟩
  exact Rf.go (by rw [xstep_eq h]; rfl) K
theorem R_inc (h : xins mi pc = (6, a, b, c)) (hl : xnth ls b none = some (.inl x)) (K : Rf S mi (pc + 3) (ls.set b (some (.inl (x + a)))) st f Q) : Rf S mi pc ls st f Q := Rf.go (by rw [xstep_eq h]; simp only [xsem, hl]; rfl) K
theorem R_add (h : xins mi pc = (7, a, 0, c)) (K : Rf S mi (pc + 1) ls (.inl (x + y) :: st) f Q) : Rf S mi pc ls (.inl y :: .inl x :: st) f Q := Rf.go (by rw [xstep_eq h]; rfl) K
theorem R_sub (h : xins mi pc = (7, a, 1, c)) (K : Rf S mi (pc + 1) ls (.inl (x - y) :: st) f Q) : Rf S mi pc ls (.inl y :: .inl x :: st) f Q := Rf.go (by rw [xstep_eq h]; rfl) K
theorem R_mul (h : xins mi pc = (7, a, 2, c)) (K : Rf S mi (pc + 1) ls (.inl (x * y) :: st) f Q) : Rf S mi pc ls (.inl y :: .inl x :: st) f Q := Rf.go (by rw [xstep_eq h]; rfl) K
theorem R_bin (h : xins mi pc = (7, a, b, c)) (hz : xbin b x y = some z) (K : Rf S mi (pc + 1) ls (.inl z :: st) f Q) : Rf S mi pc ls (.inl y :: .inl x :: st) f Q := Rf.go (by rw [xstep_eq h]; simp only [xsem, hz]; rfl) K
theorem R_neg (h : xins mi pc = (8, a, b, c)) (K : Rf S mi (pc + 1) ls (.inl (-x) :: st) f Q) : Rf S mi pc ls (.inl x :: st) f Q := Rf.go (by rw [xstep_eq h]; rfl) K
theorem R_if0 (h : xins mi pc = (9, a, b, c)) (hx : xok x ∨ (b ≤ 1 ∧ x = 0)) (K1 : xcmp b x 0 = true → Rf S mi c ls st f Q) (K2 : xcmp b x 0 = false → Rf S mi (pc + 3) ls st f Q) : Rf S mi pc ls (.inl x :: st) f Q := by
  cases hc : xcmp b x 0 with
  | true => exact Rf.go (pc' := c) (by rw [xstep_eq h]; simp only [xsem, if_pos hx, hc, if_true]; rfl) (K1 hc)
  | false => exact Rf.go (pc' := pc + 3) (by rw [xstep_eq h]; simp only [xsem, if_pos hx, hc]; rfl) (K2 hc)
theorem R_ifeq (h : xins mi pc = (9, a, 0, c)) (hx : xok x ∨ x = 0) (K1 : x = 0 → Rf S mi c ls st f Q) (K2 : ¬ x = 0 → Rf S mi (pc + 3) ls st f Q) : Rf S mi pc ls (.inl x :: st) f Q := R_if0 h (hx.imp id (fun z => ⟨by omega, z⟩)) (fun z => K1 (by simpa [xcmp] using z)) (fun z => K2 (by simpa [xcmp] using z))
theorem R_ifne (h : xins mi pc = (9, a, 1, c)) (hx : xok x ∨ x = 0) (K1 : ¬ x = 0 → Rf S mi c ls st f Q) (K2 : x = 0 → Rf S mi (pc + 3) ls st f Q) : Rf S mi pc ls (.inl x :: st) f Q := R_if0 h (hx.imp id (fun z => ⟨by omega, z⟩)) (fun z => K1 (by simpa [xcmp] using z)) (fun z => K2 (by simpa [xcmp] using z))
theorem R_iflt (h : xins mi pc = (9, a, 2, c)) (hx : xok x) (K1 : x < 0 → Rf S mi c ls st f Q) (K2 : ¬ x < 0 → Rf S mi (pc + 3) ls st f Q) : Rf S mi pc ls (.inl x :: st) f Q := R_if0 h (Or.inl hx) (fun z => K1 (by simpa [xcmp] using z)) (fun z => K2 (by simpa [xcmp] using z))
theorem R_ifge (h : xins mi pc = (9, a, 3, c)) (hx : xok x) (K1 : 0 ≤ x → Rf S mi c ls st f Q) (K2 : ¬ 0 ≤ x → Rf S mi (pc + 3) ls st f Q) : Rf S mi pc ls (.inl x :: st) f Q := R_if0 h (Or.inl hx) (fun z => K1 (by simpa [xcmp] using z)) (fun z => K2 (by simpa [xcmp] using z))
theorem R_ifgt (h : xins mi pc = (9, a, 4, c)) (hx : xok x) (K1 : 0 < x → Rf S mi c ls st f Q) (K2 : ¬ 0 < x → Rf S mi (pc + 3) ls st f Q) : Rf S mi pc ls (.inl x :: st) f Q := R_if0 h (Or.inl hx) (fun z => K1 (by simpa [xcmp] using z)) (fun z => K2 (by simpa [xcmp] using z))
theorem R_ifle (h : xins mi pc = (9, a, 5, c)) (hx : xok x) (K1 : x ≤ 0 → Rf S mi c ls st f Q) (K2 : ¬ x ≤ 0 → Rf S mi (pc + 3) ls st f Q) : Rf S mi pc ls (.inl x :: st) f Q := R_if0 h (Or.inl hx) (fun z => K1 (by simpa [xcmp] using z)) (fun z => K2 (by simpa [xcmp] using z))
theorem R_ic0 (h : xins mi pc = (10, a, b, c)) (hx : (xok x ∧ xok y) ∨ (b ≤ 1 ∧ x = y)) (K1 : xcmp b x y = true → Rf S mi c ls st f Q) (K2 : xcmp b x y = false → Rf S mi (pc + 3) ls st f Q) : Rf S mi pc ls (.inl y :: .inl x :: st) f Q := by
  cases hc : xcmp b x y with
  | true => exact Rf.go (pc' := c) (by rw [xstep_eq h]; simp only [xsem, if_pos hx, hc, if_true]; rfl) (K1 hc)
  | false => exact Rf.go (pc' := pc + 3) (by rw [xstep_eq h]; simp only [xsem, if_pos hx, hc]; rfl) (K2 hc)
theorem R_iceq (h : xins mi pc = (10, a, 0, c)) (hx : (xok x ∧ xok y) ∨ x = y) (K1 : x = y → Rf S mi c ls st f Q) (K2 : ¬ x = y → Rf S mi (pc + 3) ls st f Q) : Rf S mi pc ls (.inl y :: .inl x :: st) f Q := R_ic0 h (hx.imp id (fun z => ⟨by omega, z⟩)) (fun z => K1 (by simpa [xcmp] using z)) (fun z => K2 (by simpa [xcmp] using z))
theorem R_icne (h : xins mi pc = (10, a, 1, c)) (hx : (xok x ∧ xok y) ∨ x = y) (K1 : ¬ x = y → Rf S mi c ls st f Q) (K2 : x = y → Rf S mi (pc + 3) ls st f Q) : Rf S mi pc ls (.inl y :: .inl x :: st) f Q := R_ic0 h (hx.imp id (fun z => ⟨by omega, z⟩)) (fun z => K1 (by simpa [xcmp] using z)) (fun z => K2 (by simpa [xcmp] using z))
theorem R_iclt (h : xins mi pc = (10, a, 2, c)) (hx : xok x ∧ xok y) (K1 : x < y → Rf S mi c ls st f Q) (K2 : ¬ x < y → Rf S mi (pc + 3) ls st f Q) : Rf S mi pc ls (.inl y :: .inl x :: st) f Q := R_ic0 h (Or.inl hx) (fun z => K1 (by simpa [xcmp] using z)) (fun z => K2 (by simpa [xcmp] using z))
theorem R_icge (h : xins mi pc = (10, a, 3, c)) (hx : xok x ∧ xok y) (K1 : y ≤ x → Rf S mi c ls st f Q) (K2 : ¬ y ≤ x → Rf S mi (pc + 3) ls st f Q) : Rf S mi pc ls (.inl y :: .inl x :: st) f Q := R_ic0 h (Or.inl hx) (fun z => K1 (by simpa [xcmp] using z)) (fun z => K2 (by simpa [xcmp] using z))
theorem R_icgt (h : xins mi pc = (10, a, 4, c)) (hx : xok x ∧ xok y) (K1 : y < x → Rf S mi c ls st f Q) (K2 : ¬ y < x → Rf S mi (pc + 3) ls st f Q) : Rf S mi pc ls (.inl y :: .inl x :: st) f Q := R_ic0 h (Or.inl hx) (fun z => K1 (by simpa [xcmp] using z)) (fun z => K2 (by simpa [xcmp] using z))
theorem R_icle (h : xins mi pc = (10, a, 5, c)) (hx : xok x ∧ xok y) (K1 : x ≤ y → Rf S mi c ls st f Q) (K2 : ¬ x ≤ y → Rf S mi (pc + 3) ls st f Q) : Rf S mi pc ls (.inl y :: .inl x :: st) f Q := R_ic0 h (Or.inl hx) (fun z => K1 (by simpa [xcmp] using z)) (fun z => K2 (by simpa [xcmp] using z))
theorem R_goto (h : xins mi pc = (11, a, b, c)) (K : Rf S mi c ls st f Q) : Rf S mi pc ls st f Q := Rf.go (by rw [xstep_eq h]; rfl) K
theorem R_gf (h : xins mi pc = (12, a, b, c)) (hk : xkd S p = 10 + b) (hr : xrf b c = false) (K : Rf S mi (pc + 3) ls (.inl (f p c) :: st) f Q) : Rf S mi pc ls (.inr p :: st) f Q := by
  refine Rf.go ?_ K
  rw [xstep_eq h]
  show (if xkd S p = 10 + b then _ else none) = _
  rw [if_pos hk, hr]
  rfl
theorem R_gr (h : xins mi pc = (12, a, b, c)) (hk : xkd S p = 10 + b) (hr : xrf b c = true) (hq : xrr S p c = q) (K : Rf S mi (pc + 3) ls (.inr q :: st) f Q) : Rf S mi pc ls (.inr p :: st) f Q := by
  refine Rf.go ?_ K
  rw [xstep_eq h]
  show (if xkd S p = 10 + b then _ else none) = _
  rw [if_pos hk, hr, ← hq]
  rfl
theorem R_pf (h : xins mi pc = (13, a, b, c)) (hk : xkd S p = 10 + b) (hr : xrf b c = false) (hb : xbf b c = true → x = 0 ∨ x = 1) (K : Rf S mi (pc + 3) ls st (xup f p c x) Q) : Rf S mi pc ls (.inl x :: .inr p :: st) f Q := by
  refine Rf.go ?_ K
  rw [xstep_eq h]
  show (if xkd S p = 10 + b ∧ xrf b c = false ∧ (xbf b c = true → x = 0 ∨ x = 1) then _ else none) = _
  rw [if_pos ⟨hk, hr, hb⟩]
  rfl
theorem R_ia (h : xins mi pc = (14, a, b, c)) (hk : xkd S p = 1 ∨ xkd S p = 5) (h0 : 0 ≤ x) (h1 : x < xln S p) (hx : xok x) (K : Rf S mi (pc + 1) ls (.inl (f p x.toNat) :: st) f Q) : Rf S mi pc ls (.inl x :: .inr p :: st) f Q := by
  refine Rf.go ?_ K
  rw [xstep_eq h]
  show (if (xkd S p = 1 ∨ xkd S p = 5) ∧ 0 ≤ x ∧ x < xln S p ∧ xok x then _ else none) = _
  rw [if_pos ⟨hk, h0, h1, hx⟩]
  rfl
theorem R_ias (h : xins mi pc = (15, a, b, c)) (hk : xkd S p = 1) (h0 : 0 ≤ x) (h1 : x < xln S p) (hx : xok x) (K : Rf S mi (pc + 1) ls st (xup f p x.toNat y) Q) : Rf S mi pc ls (.inl y :: .inl x :: .inr p :: st) f Q := by
  refine Rf.go ?_ K
  rw [xstep_eq h]
  show (if xkd S p = 1 ∧ 0 ≤ x ∧ x < xln S p ∧ xok x then _ else none) = _
  rw [if_pos ⟨hk, h0, h1, hx⟩]
  rfl
theorem R_aa (h : xins mi pc = (16, a, b, c)) (hk : xkd S p = 2 ∨ xkd S p = 3 ∨ xkd S p = 4) (h0 : 0 ≤ x) (h1 : x < xln S p) (hx : xok x) (hq : xrr S p x.toNat = q) (K : Rf S mi (pc + 1) ls (.inr q :: st) f Q) : Rf S mi pc ls (.inl x :: .inr p :: st) f Q := by
  refine Rf.go ?_ K
  rw [xstep_eq h]
  show (if (xkd S p = 2 ∨ xkd S p = 3 ∨ xkd S p = 4) ∧ 0 ≤ x ∧ x < xln S p ∧ xok x then _ else none) = _
  rw [if_pos ⟨hk, h0, h1, hx⟩, ← hq]
  rfl
theorem R_len (h : xins mi pc = (18, a, b, c)) (hk : xkd S p = 1 ∨ xkd S p = 5) (K : Rf S mi (pc + 1) ls (.inl (xln S p) :: st) f Q) : Rf S mi pc ls (.inr p :: st) f Q := by
  refine Rf.go ?_ K
  rw [xstep_eq h]
  show (if xkd S p = 1 ∨ xkd S p = 5 then _ else none) = _
  rw [if_pos hk]
  rfl
theorem R_dup {v : xV} (h : xins mi pc = (23, a, b, c)) (K : Rf S mi (pc + 1) ls (v :: v :: st) f Q) : Rf S mi pc ls (v :: st) f Q := Rf.go (by rw [xstep_eq h]; rfl) K
theorem R_pop {v : xV} (h : xins mi pc = (24, a, b, c)) (K : Rf S mi (pc + 1) ls st f Q) : Rf S mi pc ls (v :: st) f Q := Rf.go (by rw [xstep_eq h]; rfl) K
theorem R_dup2 {v w : xV} (h : xins mi pc = (25, a, b, c)) (K : Rf S mi (pc + 1) ls (v :: w :: v :: w :: st) f Q) : Rf S mi pc ls (v :: w :: st) f Q := Rf.go (by rw [xstep_eq h]; rfl) K
theorem R_key (h : xins mi pc = (31, a, b, c)) (K : Rf S mi (pc + 3) ls (.inr 2 :: st) f Q) : Rf S mi pc ls st f Q := Rf.go (by rw [xstep_eq h]; rfl) K
theorem R_sw {t : Nat} (h : xins mi pc = (32, a, b, c)) (hx : xok x) (ht : (if x < a ∨ a + (xsw mi pc).length ≤ x then b else xnth (xsw mi pc) (x - a).toNat 0) = t) (K : Rf S mi t ls st f Q) : Rf S mi pc ls (.inl x :: st) f Q := by
  subst ht
  refine Rf.go ?_ K
  rw [xstep_eq h]
  show (if xok x then _ else none) = _
  rw [if_pos hx]
  rfl
theorem R_min (h : xins mi pc = (33, a, b, c)) (hx : xok x) (hy : xok y) (hg : 1 ≤ xmi mi 5 ∧ 21 ≤ xmi mi 6 ∧ st.length ≤ 8) (K : Rf S mi (pc + 3) ls (.inl (if y < x then y else x) :: st) f Q) : Rf S mi pc ls (.inl y :: .inl x :: st) f Q := by
  refine Rf.go ?_ K
  rw [xstep_eq h]
  show (if xok x ∧ xok y ∧ 1 ≤ xmi mi 5 ∧ 21 ≤ xmi mi 6 ∧ st.length ≤ 8 then _ else none) = _
  rw [if_pos ⟨hx, hy, hg⟩]
  rfl
theorem R_max (h : xins mi pc = (34, a, b, c)) (hx : xok x) (hy : xok y) (hg : 1 ≤ xmi mi 5 ∧ 21 ≤ xmi mi 6 ∧ st.length ≤ 8) (K : Rf S mi (pc + 3) ls (.inl (if x < y then y else x) :: st) f Q) : Rf S mi pc ls (.inl y :: .inl x :: st) f Q := by
  refine Rf.go ?_ K
  rw [xstep_eq h]
  show (if xok x ∧ xok y ∧ 1 ≤ xmi mi 5 ∧ 21 ≤ xmi mi 6 ∧ st.length ≤ 8 then _ else none) = _
  rw [if_pos ⟨hx, hy, hg⟩]
  rfl
theorem R_cpy {s d : Nat} {sp dp n : Int} (h : xins mi pc = (27, a, b, c)) (hk : xkd S s = 1 ∧ xkd S d = 1) (h1 : 0 ≤ sp ∧ xok sp) (h2 : 0 ≤ dp ∧ xok dp) (h3 : 0 ≤ n ∧ xok n) (h4 : sp + n ≤ xln S s) (h5 : dp + n ≤ xln S d) (hg : 1 ≤ xmi mi 5 ∧ 38 ≤ xmi mi 6 ∧ st.length ≤ 8) (K : Rf S mi (pc + 3) ls st (fun a' i' => if a' = d ∧ dp.toNat ≤ i' ∧ i' < dp.toNat + n.toNat then f s (sp.toNat + (i' - dp.toNat)) else f a' i') Q) : Rf S mi pc ls (.inl n :: .inl dp :: .inr d :: .inl sp :: .inr s :: st) f Q := by
  refine Rf.go ?_ K
  rw [xstep_eq h]
  show (if (xkd S s = 1 ∧ xkd S d = 1) ∧ (0 ≤ sp ∧ xok sp) ∧ (0 ≤ dp ∧ xok dp) ∧ (0 ≤ n ∧ xok n) ∧ sp + n ≤ xln S s ∧ dp + n ≤ xln S d ∧ 1 ≤ xmi mi 5 ∧ 38 ≤ xmi mi 6 ∧ st.length ≤ 8 then _ else none) = _
  rw [if_pos ⟨hk, h1, h2, h3, h4, h5, hg⟩]
  rfl
theorem R_ret (h : xins mi pc = (29, a, b, c)) (hg : xmi mi 1 = 1 ∨ (xmi mi 1 = 2 ∧ (x = 0 ∨ x = 1))) (K : Q [.inl x] f) : Rf S mi pc ls [.inl x] f Q := by
  refine ⟨1, [.inl x], f, ?_, K⟩
  unfold xrun
  rw [xstep_eq h]
  simp only [xsem, if_pos hg]
theorem R_retv (h : xins mi pc = (30, a, b, c)) (hg : xmi mi 1 = 0) (K : Q [] f) : Rf S mi pc ls [] f Q := by
  refine ⟨1, [], f, ?_, K⟩
  unfold xrun
  rw [xstep_eq h]
  simp only [xsem, if_pos hg]
theorem Rf.call {j : Nat} {as : List xV} (h : xstep mi pc (0, 0) ls st (S, f) = some (.inr (.inl (j, as, r)))) (hz : xmi j 7 = 0 ∧ xmi j 8 = 0) (K : Rf S j 0 (xloc j as) [] f (fun v f' => Rf S mi (pc + 3) ls (v ++ r) f' Q)) : Rf S mi pc ls st f Q := by
  obtain ⟨n, v, f1, h1, m, v2, f2, h2, h3⟩ := K
  refine ⟨max n m + 1, v2, f2, ?_, h3⟩
  unfold xrun
  rw [h]
  dsimp only
  rw [xrun_mono n _ _ _ _ _ _ _ h1 _ (Nat.le_max_left n m)]
  dsimp only
  rw [hz.1, hz.2]
  exact xrun_mono m _ _ _ _ _ _ _ h2 _ (Nat.le_max_right n m)
def xcg (mi j c n : Nat) : Bool := decide (c ≤ n) && (decide (n ≤ c + 8) && (decide (xmi j 5 + 1 ≤ xmi mi 5) && (decide (8 + (xmi j 0 + 11) + xmi j 6 ≤ xmi mi 6) && (decide (xmi j 7 = 0) && decide (xmi j 8 = 0)))))
theorem xcg_eq {j n : Nat} (h : xcg mi j c n = true) : (c ≤ n ∧ n ≤ c + 8 ∧ xmi j 5 + 1 ≤ xmi mi 5 ∧ 8 + (xmi j 0 + 11) + xmi j 6 ≤ xmi mi 6 ∧ 0 + xmi j 7 ≤ xmi mi 7 ∧ 0 + xmi j 8 ≤ xmi mi 8) ∧ xmi j 7 = 0 ∧ xmi j 8 = 0 := by
  simp only [xcg, Bool.and_eq_true, decide_eq_true_eq] at h
  obtain ⟨h1, h2, h3, h4, h5, h6⟩ := h
  exact ⟨⟨h1, h2, h3, h4, by omega, by omega⟩, h5, h6⟩
theorem R_cs {j : Nat} {as : List xV} (h : xins mi pc = (28, a, j, c)) (hk : xmi j 3 = 0) (hg : xcg mi j c st.length = true) (ha : (st.take c).reverse = as) (hr : st.drop c = r) (K : Rf S j 0 (xloc j as) [] f (fun v f' => Rf S mi (pc + 3) ls (v ++ r) f' Q)) : Rf S mi pc ls st f Q := by
  obtain ⟨g1, g2⟩ := xcg_eq hg
  refine Rf.call ?_ g2 K
  rw [xstep_eq h]
  simp only [xsem]
  rw [if_pos g1, hk, ha, hr]
  rfl
theorem R_cv {j : Nat} {as : List xV} (h : xins mi pc = (28, a, j, c)) (hk : xmi j 3 = 1) (hg : xcg mi j c st.length = true) (ha : (st.take c).reverse = .inr p :: as) (hr : st.drop c = r) (hp : xkd S p = 10 + xmi j 4) (K : Rf S j 0 (xloc j (.inr p :: as)) [] f (fun v f' => Rf S mi (pc + 3) ls (v ++ r) f' Q)) : Rf S mi pc ls st f Q := by
  obtain ⟨g1, g2⟩ := xcg_eq hg
  refine Rf.call ?_ g2 K
  rw [xstep_eq h]
  simp only [xsem]
  rw [if_pos g1, hk, ha, hr]
  show (if xkd S p = 10 + xmi j 4 then _ else none) = _
  rw [if_pos hp]
end RF
