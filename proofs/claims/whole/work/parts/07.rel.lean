/-! ===== the pure memory against the heap ===== -/
abbrev xB : Type := va_G × (ClassId × ClassId × ClassId × ClassId) × Nat × Nat × Nat
def xba (B : xB) : Nat := B.2.2.2.2
def xA (B : xB) : Nat → Prop := fun q => xba B ≤ q
def xad (B : xB) (a : Nat) : Nat := if a = 1 then B.2.2.1 else if a = 2 then B.2.2.2.1 else xba B + (a - 3)
def xro (B : xB) (a : Nat) : Option Nat := if a = 0 then none else some (xad B a)
def xr (B : xB) : xV → Value
  | .inl x => .int (Int32.ofInt x)
  | .inr a => va_rf (xro B a)
theorem xr_ref (B : xB) (a : Nat) : xr B (.inr (a + 1)) = .ref (xad B (a + 1)) := by simp [xr, xro, va_rf]
theorem xr_cat (B : xB) (v : xV) : (xr B v).category = 1 := by
  cases v with
  | inl x => rfl
  | inr a => cases a <;> simp [xr, xro, va_rf, Value.category]
def xtys (B : xB) : List (ClassId × FieldType) := [(B.2.1.1, .int), (B.2.1.2.1, .object "ReedBench$Reed"), (B.2.1.2.2.1, .object "ReedBench$State"), (B.2.1.2.2.2, .array .int)]
def xfs (B : xB) (M : xM) (a ci : Nat) : List Value := (List.range (xN ci)).map (fun i => if xrf ci i then xr B (.inr ((xat M a).2.2 i)) else .int (Int32.ofInt (M.2 a i)))
def xra (B : xB) (M : xM) (a : Nat) : Nat → Option Nat := fun i => xro B ((xat M a).2.2 i)
def xce (B : xB) (M : xM) (a : Nat) : va_E := match (xat M a).1 with
  | 1 => .inl (B.2.1.1, (xat M a).2.1, .inl (fun i => Int32.ofInt (M.2 a i)))
  | 2 => .inl (B.2.1.2.1, (xat M a).2.1, .inr (.inr (.inr (.inr (xra B M a)))))
  | 3 => .inl (B.2.1.2.2.1, (xat M a).2.1, .inr (.inr (.inr (.inr (xra B M a)))))
  | 4 => .inl (B.2.1.2.2.2, (xat M a).2.1, .inr (.inr (.inr (.inr (xra B M a)))))
  | k => .inr (k - 10, xfs B M a (k - 10))
def xws (B : xB) (M : xM) : va_W := (List.range (M.1.length - 3)).map (fun k => (xad B (k + 3), xce B M (k + 3)))
def xX (B : xB) (M : xM) (U : State) (H : Heap) (a : Nat) : Prop := xad B a < xba B ∧ (xat M a).1 = 5 ∧ ∃ scr : Cell, H[xad B a]? = some scr ∧ U.isArrayOf scr .int ∧ scr.vm ≠ .unknown ∧ ((xat M a).2.1 ≤ scr.slots.size ∧ scr.slots.size.toInt32 = Int32.ofNat (xat M a).2.1) ∧ ∀ j : Nat, j < (xat M a).2.1 → scr.slots[j]? = some (.int (Int32.ofInt (M.2 a j)))
def xR (B : xB) (U : State) (M : xM) (H : Heap) : Prop :=
  3 ≤ M.1.length ∧ H.size = xba B + (M.1.length - 3) ∧ va_P B.1 xcl (xws B M) H ∧ (xat M 0).1 = 0 ∧ xX B M U H 1 ∧ xX B M U H 2 ∧ ∀ q, 3 ≤ q → (xat M q).1 ≠ 5
theorem xat_lt {M : xM} {a k : Nat} (h : (xat M a).1 = k) (hk : k ≠ 0) : a < M.1.length := by
  rcases Nat.lt_or_ge a M.1.length with q | q
  · exact q
  · exact absurd (by rw [← h]; unfold xat; rw [xnth_of_le _ _ _ q]) (Ne.symm hk)
theorem xR.low {B : xB} {U : State} {M : xM} {H : Heap} (h : xR B U M H) {a k : Nat} (ha : (xat M a).1 = k) (h0 : k ≠ 0) (h5 : k ≠ 5) : 3 ≤ a ∧ a < M.1.length := by
  refine ⟨?_, xat_lt ha h0⟩
  obtain ⟨-, -, -, e0, e1, e2, -⟩ := h
  match a, ha with
  | 0, ha => rw [e0] at ha; exact absurd ha.symm h0
  | 1, ha => rw [e1.2.1] at ha; exact absurd ha.symm h5
  | 2, ha => rw [e2.2.1] at ha; exact absurd ha.symm h5
  | a + 3, _ => omega
theorem xws_at {B : xB} {M : xM} {a : Nat} (h : 3 ≤ a ∧ a < M.1.length) : (xws B M)[a - 3]? = some (xad B a, xce B M a) := by
  unfold xws
  rw [List.getElem?_map, List.getElem?_range (by omega)]
  simp [show a - 3 + 3 = a by omega]
theorem xad_ge {B : xB} {a : Nat} (h : 3 ≤ a) : xad B a = xba B + (a - 3) := by
  unfold xad; rw [if_neg (by omega), if_neg (by omega)]
theorem xws_D (B : xB) (M : xM) : va_D (xA B) (xws B M) := by
  have key : ∀ (k : Nat) (q : Nat × va_E), (xws B M)[k]? = some q → q.1 = xba B + k := by
    intro k q hk
    unfold xws at hk
    rw [List.getElem?_map] at hk
    cases hr : (List.range (M.1.length - 3))[k]? with
    | none => rw [hr] at hk; cases hk
    | some j =>
      rw [hr] at hk
      have hj : j = k := by
        have := List.getElem?_eq_some_iff.mp hr
        obtain ⟨h1, h2⟩ := this
        simpa using h2.symm
      subst hj
      have : (xad B (j + 3), xce B M (j + 3)) = q := Option.some.inj hk
      rw [← this]
      show xad B (j + 3) = _
      rw [xad_ge (by omega)]
      omega
  refine ⟨fun i j p q hi hj hpq => ?_, fun k q hk => ?_⟩
  · have := key i p hi; have := key j q hj; omega
  · rw [key k q hk]; exact Nat.le_add_right _ _
/-- a world that differs at one cell -/
theorem xws_set {B : xB} {M M' : xM} {a : Nat} {e : va_E} (ha : 3 ≤ a ∧ a < M.1.length) (hl : M'.1.length = M.1.length) (he : xce B M' a = e) (ho : ∀ q, q ≠ a → xce B M' q = xce B M q) : xws B M' = (xws B M).set (a - 3) (xad B a, e) := by
  apply List.ext_getElem?
  intro k
  have hlen : (xws B M).length = M.1.length - 3 := by simp [xws]
  by_cases hk : k = a - 3
  · subst hk
    rw [List.getElem?_set_self (by rw [hlen]; omega), xws_at (M := M') (by omega), he]
  · rw [List.getElem?_set_ne (Ne.symm hk)]
    unfold xws
    rw [List.getElem?_map, List.getElem?_map, hl]
    by_cases h2 : k < M.1.length - 3
    · rw [List.getElem?_range h2]
      simp only [Option.map_some]
      rw [ho (k + 3) (by omega)]
    · have : (List.range (M.1.length - 3))[k]? = none := List.getElem?_eq_none (by simp; omega)
      rw [this]; rfl
theorem xws_app {B : xB} {M M' : xM} {cs : List xC} (h3 : 3 ≤ M.1.length) (hl : M'.1 = M.1 ++ cs) (ho : ∀ q, q < M.1.length → xce B M' q = xce B M q) : xws B M' = xws B M ++ (List.range cs.length).map (fun k => (xad B (M.1.length + k), xce B M' (M.1.length + k))) := by
  apply List.ext_getElem?
  intro k
  have hlen : (xws B M).length = M.1.length - 3 := by simp [xws]
  have hl' : M'.1.length = M.1.length + cs.length := by rw [hl, List.length_append]
  by_cases hk : k < M.1.length - 3
  · rw [List.getElem?_append_left (by omega)]
    have h1 := xws_at (B := B) (M := M') (a := k + 3) (by omega)
    have h2 := xws_at (B := B) (M := M) (a := k + 3) (by omega)
    rw [show k + 3 - 3 = k by omega] at h1 h2
    rw [h1, h2, ho _ (by omega)]
  · rw [List.getElem?_append_right (by omega), hlen, List.getElem?_map]
    by_cases h2 : k - (M.1.length - 3) < cs.length
    · rw [List.getElem?_range h2]
      have h1 := xws_at (B := B) (M := M') (a := k + 3) (by omega)
      rw [show k + 3 - 3 = k by omega] at h1
      rw [h1]
      simp only [Option.map_some]
      rw [show M.1.length + (k - (M.1.length - 3)) = k + 3 by omega]
    · have e1 : (List.range cs.length)[k - (M.1.length - 3)]? = none := List.getElem?_eq_none (by simp; omega)
      have e2 : (xws B M')[k]? = none := List.getElem?_eq_none (by simp [xws]; omega)
      rw [e1, e2]; rfl
theorem xat_wr (M : xM) (p i q : Nat) (v : Int) : xat (xwr M p i v) q = xat M q := rfl
theorem xce_wr_ne (B : xB) (M : xM) {p i q : Nat} (v : Int) (h : q ≠ p) : xce B (xwr M p i v) q = xce B M q := by
  unfold xce xfs xra
  simp only [xat_wr]
  have e : (xwr M p i v).2 q = M.2 q := by funext j; simp [xwr, h]
  rw [e]
theorem xnth_set_ne {α : Type} {d : α} : ∀ (l : List α) (a q : Nat) (v : α), q ≠ a → xnth (l.set a v) q d = xnth l q d
  | [], _, _, _, _ => by simp
  | x :: t, 0, 0, v, h => absurd rfl h
  | x :: t, 0, q + 1, v, _ => rfl
  | x :: t, a + 1, 0, v, _ => rfl
  | x :: t, a + 1, q + 1, v, h => xnth_set_ne t a q v (by omega)
theorem xnth_set_self {α : Type} {d : α} : ∀ (l : List α) (a : Nat) (v : α), a < l.length → xnth (l.set a v) a d = v
  | [], _, _, h => by simp at h
  | x :: t, 0, v, _ => rfl
  | x :: t, a + 1, v, h => xnth_set_self t a v (by simpa using h)
theorem xnth_app {α : Type} {d : α} : ∀ (l r : List α) (a : Nat), a < l.length → xnth (l ++ r) a d = xnth l a d
  | [], _, _, h => by simp at h
  | x :: t, _, 0, _ => rfl
  | x :: t, r, a + 1, h => xnth_app t r a (by simpa using h)
theorem xnth_app2 {α : Type} {d : α} : ∀ (l r : List α) (a : Nat), xnth (l ++ r) (l.length + a) d = xnth r a d
  | [], _, a => by simp
  | x :: t, r, a => by
    rw [show (x :: t).length + a = (t.length + a) + 1 by simp; omega]
    exact xnth_app2 t r a
theorem xat_wref_ne (M : xM) {p i r q : Nat} (h : q ≠ p) : xat (xwref M p i r) q = xat M q := xnth_set_ne _ _ _ _ h
theorem xat_wref (M : xM) {p : Nat} (i r : Nat) (h : p < M.1.length) : xat (xwref M p i r) p = ((xat M p).1, (xat M p).2.1, fun j => if j = i then r else (xat M p).2.2 j) := xnth_set_self _ _ _ h
theorem xce_wref_ne (B : xB) (M : xM) {p i r q : Nat} (h : q ≠ p) : xce B (xwref M p i r) q = xce B M q := by
  unfold xce xfs xra
  rw [xat_wref_ne M h]
  rfl
/-- what a heap change above the base leaves -/
theorem xX.kept {B : xB} {M M' : xM} {U : State} {H H1 : Heap} {a : Nat} (h : xX B M U H a) (hq : ∀ q, q < xba B → H1[q]? = H[q]?) (h1 : xat M' a = xat M a) (h2 : M'.2 a = M.2 a) : xX B M' U H1 a := by
  obtain ⟨e1, e2, scr, e3, e4⟩ := h
  unfold xX
  rw [h1, h2]
  exact ⟨e1, e2, scr, by rw [hq _ e1]; exact e3, e4⟩
theorem xX.moved {B : xB} {M : xM} {u U : State} {H : Heap} {a : Nat} (hvm : u.vm.Alike U.vm) (h : xX B M u H a) : xX B M U H a := by
  obtain ⟨e1, e2, scr, e3, e4, e5⟩ := h
  exact ⟨e1, e2, scr, e3, State.isArrayOf_alike hvm e4, e5⟩
theorem xR.moved {B : xB} {M : xM} {u U : State} {H : Heap} (hvm : u.vm.Alike U.vm) (h : xR B u M H) : xR B U M H := ⟨h.1, h.2.1, h.2.2.1, h.2.2.2.1, h.2.2.2.2.1.moved hvm, h.2.2.2.2.2.1.moved hvm, h.2.2.2.2.2.2⟩
/-- one cell is changed -/
theorem xR.upd {B : xB} {U : State} {M M' : xM} {H H1 : Heap} {a : Nat} {e : va_E} (h : xR B U M H) (ha : 3 ≤ a ∧ a < M.1.length) (hl : M'.1.length = M.1.length) (h0 : ∀ q, q ≠ a → xat M' q = xat M q) (hf : ∀ q, q ≠ a → M'.2 q = M.2 q) (he : xce B M' a = e) (ho : ∀ q, q ≠ a → xce B M' q = xce B M q) (hP : va_P B.1 xcl ((xws B M).set (a - 3) (xad B a, e)) H1) (hz : H1.size = H.size) (hk : ∀ q, q < xba B → H1[q]? = H[q]?) (h5 : (xat M' a).1 ≠ 5) : xR B U M' H1 := by
  obtain ⟨e1, e2, e3, e4, e5, e6, e7⟩ := h
  refine ⟨by omega, by rw [hz, e2, hl], ?_, by rw [h0 0 (by omega)]; exact e4, e5.kept hk (h0 1 (by omega)) (hf 1 (by omega)), e6.kept hk (h0 2 (by omega)) (hf 2 (by omega)), fun q hq => by
    by_cases e : q = a
    · rw [e]; exact h5
    · rw [h0 q e]; exact e7 q hq⟩
  rw [xws_set ha hl he ho]
  exact hP
/-! ===== the state at a step ===== -/
def xlh (B : xB) (Ls : Array Slot) (n : Nat) (ls : xL) : Prop := Ls.size = n ∧ lv_wf Ls ∧ ∀ (i : Nat) (v : xV), xnth ls i none = some v → Ls[i]? = some (.val (xr B v))
def xll (B : xB) (ls : xL) : List (Nat × Value) := (List.range ls.length).filterMap (fun i => (xnth ls i none).map (fun v => (i, xr B v)))
theorem xlh.has {B : xB} {Ls : Array Slot} {n : Nat} {ls : xL} (h : xlh B Ls n ls) : lv_has Ls n (xll B ls) := by
  refine ⟨h.1, h.2.1, fun q hq => ?_⟩
  obtain ⟨i, -, hi⟩ := List.mem_filterMap.mp hq
  cases hv : xnth ls i none with
  | none => rw [hv] at hi; cases hi
  | some v =>
    rw [hv] at hi
    cases hi
    exact h.2.2 i v hv
theorem xll_mem {B : xB} {ls : xL} {i : Nat} {v : xV} (h : xnth ls i none = some v) : (i, xr B v) ∈ xll B ls := by
  refine List.mem_filterMap.mpr ⟨i, List.mem_range.mpr ?_, by rw [h]; rfl⟩
  rcases Nat.lt_or_ge i ls.length with q | q
  · exact q
  · rw [xnth_of_le _ _ _ q] at h; cases h
theorem xlh.store {B : xB} {Ls' : Array Slot} {n i : Nat} {ls : xL} {v : xV} (h : lv_has Ls' n ((i, xr B v) :: (xll B ls).filter (fun q => !(q.1 == i) && !(q.1 + 1 == i && q.2.category == 2)))) : xlh B Ls' n (ls.set i (some v)) := by
  refine ⟨h.1, h.2.1, fun j w hw => ?_⟩
  by_cases hj : j = i
  · subst hj
    have hl : j < ls.length := by
      rcases Nat.lt_or_ge j ls.length with q | q
      · exact q
      · rw [List.set_eq_of_length_le q, xnth_of_le _ _ _ q] at hw; cases hw
    rw [xnth_set_self _ _ _ hl] at hw
    cases hw
    exact h.2.2 (j, xr B v) List.mem_cons_self
  · rw [xnth_set_ne _ _ _ _ hj] at hw
    refine h.2.2 (j, xr B w) (List.mem_cons_of_mem _ (List.mem_filter.mpr ⟨xll_mem hw, ?_⟩))
    simp [hj, xr_cat]
/-- what the tables say, kept by every call -/
def xTB (U : State) : Prop := ∀ w ∈ lw_tbl, xkp w = true → ∀ A : Array Value, w.before A U = true
theorem xTB.get {U : State} (h : xTB U) {i : Nat} {w : Jvm.Cond} (hi : xwd i = some w) (hk : xkp w = true) (A : Array Value) : w.before A U = true := h w (xwd_mem hi) hk A
theorem xTB.ws {U : State} (h : xTB U) (A : Array Value) : ∀ w ∈ xwl, w.before A U = true := fun w hw => h w (List.mem_filter.mp hw).1 (List.mem_filter.mp hw).2 A
theorem xkp_cases {w : Jvm.Cond} (h : xkp w = true) : goodWord w = true ∨ (∃ a i b n d e, w = .fieldLinkNest a i b n d e) ∨ (∃ a i x e, w = .methodLinkNest a i x e) ∨ ∃ t, w = .arrayOver t := by
  unfold xkp at h
  rw [Bool.or_eq_true] at h
  rcases h with h | h
  · exact Or.inl h
  · right
    split at h
    · exact Or.inl ⟨_, _, _, _, _, _, rfl⟩
    · exact Or.inr (Or.inl ⟨_, _, _, _, rfl⟩)
    · exact Or.inr (Or.inr ⟨_, rfl⟩)
    · cases h
theorem xTB.warm {s U : State} (hW : s.WarmedH U.vm) (h : xTB s) : xTB U := by
  intro w hw hk A
  have h0 := h w hw hk
  rcases xkp_cases hk with g | ⟨a, i, b, n, d, e, rfl⟩ | ⟨a, i, x, e, rfl⟩ | ⟨t, rfl⟩
  · exact word_at hW (good_of_word g) (h0 #[])
  · exact va_Nw.use rfl (va_Nw.warmF hW (h0 #[]))
  · exact va_Nw.use rfl (va_Nw.warmM hW (h0 #[]))
  · have h1 := Cond.overAtom_setVm (args := #[]) (s := s) (vm' := U.vm) hW.alike (.arrayOver t) rfl (h0 #[])
    exact h1
def xE (B : xB) (U : State) (H : Heap) : Prop := va_K B.1 xcl (xtys B) U ∧ xTB U ∧ xba B ≤ H.size ∧ va_Z "ReedBench" "ABOVE_KEY" "[I" (.ref (xad B 2)) (xA B) U H
