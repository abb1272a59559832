/-! ===== one instruction of the pure machine is one of the machine ===== -/
def xCx (p : Program) (R : Room) (s : State) (m : MethodId) (meth : Method) (c : Code) (mi : Nat) : Prop :=
  p.tables.exec = Jvm.exec ∧ c.code = xb mi ∧ c.maxLocals = xmi mi 0 ∧ s.vm.findClass (xy mi).cls = some m.cls ∧ meth.locks = false ∧ meth.sig.returnType = xret mi ∧ ((xy mi).name = "<init>" → meth.name = "<init>") ∧ (xmi mi 5 ≤ R.frames ∧ xmi mi 6 ≤ R.locals ∧ xmi mi 7 ≤ R.cells ∧ xmi mi 8 ≤ R.slots)
section XSN
variable {p : Program} {l : Launch} {e : Env} {R : Room} {s : State} {m : MethodId} {args : Array Value} {below : List Frame} {meth : Method} {c : Code} {Q : State → Prop} {B : xB} {mi : Nat}
def xW (B : xB) (p : Program) (l : Launch) (e : Env) (R : Room) (s : State) (m : MethodId) (args : Array Value) (below : List Frame) (meth : Method) (c : Code) (mi : Nat) (Q : State → Prop) (pc : Nat) (k : Nat × Nat) (ls : xL) (st : List xV) (M : xM) : Prop :=
  ∀ (H : Heap) (locs : List Loc) (Ls : Array Slot), xR B s M H → va_S (xA B) s.heap H locs → xlh B Ls (xmi mi 0) ls → W p l e R s m args below meth c H locs k.1 k.2 Q (F0 m pc Ls (st.map (xr B)))
theorem xdc_eq {cc : ByteArray} {pc n : Nat} {i : Instr} (h : xdc cc pc i n = true) : decode cc pc = .ok (i, n) := of_decide_eq_true h
theorem xfin {b : Nat} (h : b < 4) : ((Fin.ofNat 4 b : Fin 4) : Nat) = b := Nat.mod_eq_of_lt h
theorem xti {x : Int} (h : xok x) : (Int32.ofInt x).toInt = x := Int32.toInt_ofInt_of_le (by obtain ⟨h1, -⟩ := h; simpa using h1) (by obtain ⟨-, h2⟩ := h; simpa using (show x < 2147483648 by omega))
theorem xi_eq {x y : Int} (h : (xok x ∧ xok y) ∨ x = y) : Int32.ofInt x = Int32.ofInt y ↔ x = y := by
  rcases h with ⟨h1, h2⟩ | h
  · exact ⟨fun q => by rw [← xti h1, ← xti h2, q], fun q => by rw [q]⟩
  · simp [h]
theorem xi_lt {x y : Int} (h1 : xok x) (h2 : xok y) : Int32.ofInt x < Int32.ofInt y ↔ x < y := by rw [Int32.lt_iff_toInt_lt, xti h1, xti h2]
theorem xi_le {x y : Int} (h1 : xok x) (h2 : xok y) : Int32.ofInt x ≤ Int32.ofInt y ↔ x ≤ y := by rw [Int32.le_iff_toInt_le, xti h1, xti h2]
theorem xr_pos {p : Nat} (h : 0 < p) : xr B (.inr p) = .ref (xad B p) := by
  obtain ⟨q, rfl⟩ : ∃ q, p = q + 1 := ⟨p - 1, by omega⟩
  exact xr_ref B q
theorem xce_obj {M : xM} {q b : Nat} (h : (xat M q).1 = 10 + b) : xce B M q = .inr (b, xfs B M q b) := by
  unfold xce
  split
  · omega
  · omega
  · omega
  · omega
  · rw [h, show 10 + b - 10 = b by omega]
theorem xce_1 {M : xM} {q : Nat} (h : (xat M q).1 = 1) : xce B M q = .inl (B.2.1.1, (xat M q).2.1, .inl (fun i => Int32.ofInt (M.2 q i))) := by unfold xce; simp only [h]
theorem xce_2 {M : xM} {q : Nat} (h : (xat M q).1 = 2) : xce B M q = .inl (B.2.1.2.1, (xat M q).2.1, .inr (.inr (.inr (.inr (xra B M q))))) := by unfold xce; simp only [h]
theorem xce_3 {M : xM} {q : Nat} (h : (xat M q).1 = 3) : xce B M q = .inl (B.2.1.2.2.1, (xat M q).2.1, .inr (.inr (.inr (.inr (xra B M q))))) := by unfold xce; simp only [h]
theorem xce_4 {M : xM} {q : Nat} (h : (xat M q).1 = 4) : xce B M q = .inl (B.2.1.2.2.2, (xat M q).2.1, .inr (.inr (.inr (.inr (xra B M q))))) := by unfold xce; simp only [h]
theorem xfs_at {M : xM} {q ci k : Nat} (hk : k < xN ci) : (xfs B M q ci)[k]? = some (xr B (if xrf ci k then .inr ((xat M q).2.2 k) else .inl (M.2 q k))) := by
  unfold xfs
  rw [List.getElem?_map, List.getElem?_range hk]
  simp only [Option.map_some]
  split <;> rfl
theorem xcl_at : ∀ ci, ci < 8 → xcl[ci]? = some (xCn ci, xT ci, xN ci)
  | 0, _ => rfl
  | 1, _ => rfl
  | 2, _ => rfl
  | 3, _ => rfl
  | 4, _ => rfl
  | 5, _ => rfl
  | 6, _ => rfl
  | 7, _ => rfl
theorem xus_at : ∀ ci, ci < 8 → ∀ w ∈ u_ws (xCn ci) (xT ci) (xN ci), w ∈ xwl
  | 0, _ => xus_0
  | 1, _ => xus_1
  | 2, _ => xus_2
  | 3, _ => xus_3
  | 4, _ => xus_4
  | 5, _ => xus_5
  | 6, _ => xus_6
  | 7, _ => xus_7
theorem xg1 (C : xCx p R s m meth c mi) (E : xE B s s.heap) {pc : Nat} {k : Nat × Nat} {ls : xL} {st : List xV} {M : xM} {a : Int} {b d : Nat} {q : Nat × (Nat × Nat) × xL × List xV × xM}
    (hok : xokb (xy mi).cls (decide ((xy mi).name = "<init>")) (xmi mi 0) (xb mi) mi pc (1, a, b, d) = true) (hs : xsem 1 a b d mi pc k ls st M = some (.inl q)) (hK : xW B p l e R s m args below meth c mi Q q.1 q.2.1 q.2.2.1 q.2.2.2.1 q.2.2.2.2) : xW B p l e R s m args below meth c mi Q pc k ls st M := by
  obtain ⟨hx, hb, hml, hown, -⟩ := C
  simp only [xsem, xgo, Option.some.injEq, Sum.inl.injEq] at hs
  subst hs
  intro H locs Ls hR hS hL
  have hk := hK H locs Ls hR hS hL
  simp only [xokb, Bool.or_eq_true, Bool.and_eq_true, decide_eq_true_eq] at hok
  rcases hok with ⟨rfl, h⟩ | ⟨rfl, h0, h⟩ | ⟨rfl, h0, h⟩ | h
  · exact lv_iconst hx hb (xdc_eq h) rfl hk
  · exact lv_bipush hx hb (xdc_eq h) h0 hk
  · exact lv_sipush hx hb (xdc_eq h) h0 hk
  · unfold xkc at h
    split at h
    · rename_i o i v hw
      simp only [Bool.or_eq_true, Bool.and_eq_true, decide_eq_true_eq] at h
      obtain ⟨rfl, rfl, ⟨rfl, h⟩ | ⟨rfl, h⟩⟩ := h
      · exact lv_ldc hx hb hown (E.2.1.get hw rfl args) (xdc_eq h) hk
      · exact lv_ldcw hx hb hown (E.2.1.get hw rfl args) (xdc_eq h) hk
    · cases h
theorem xg2 (C : xCx p R s m meth c mi) {pc : Nat} {k : Nat × Nat} {ls : xL} {st : List xV} {M : xM} {a : Int} {b d : Nat} {q : Nat × (Nat × Nat) × xL × List xV × xM}
    (hok : xokb (xy mi).cls (decide ((xy mi).name = "<init>")) (xmi mi 0) (xb mi) mi pc (2, a, b, d) = true) (hs : xsem 2 a b d mi pc k ls st M = some (.inl q)) (hK : xW B p l e R s m args below meth c mi Q q.1 q.2.1 q.2.2.1 q.2.2.2.1 q.2.2.2.2) : xW B p l e R s m args below meth c mi Q pc k ls st M := by
  obtain ⟨hx, hb, hml, hown, -⟩ := C
  simp only [xsem] at hs
  split at hs
  · rename_i x hv
    simp only [xgo, Option.some.injEq, Sum.inl.injEq] at hs
    subst hs
    intro H locs Ls hR hS hL
    have hk := hK H locs Ls hR hS hL
    have hl := hL.2.2 _ _ hv
    simp only [xokb, Bool.or_eq_true, Bool.and_eq_true, decide_eq_true_eq] at hok
    rcases hok with ⟨rfl, h0, h⟩ | ⟨rfl, h⟩
    · exact lv_iload_n hx hb (xdc_eq h) (xfin h0) hl hk
    · exact lv_iload hx hb (xdc_eq h) hl hk
  · cases hs
theorem xg3 (C : xCx p R s m meth c mi) {pc : Nat} {k : Nat × Nat} {ls : xL} {st : List xV} {M : xM} {a : Int} {b d : Nat} {q : Nat × (Nat × Nat) × xL × List xV × xM}
    (hok : xokb (xy mi).cls (decide ((xy mi).name = "<init>")) (xmi mi 0) (xb mi) mi pc (3, a, b, d) = true) (hs : xsem 3 a b d mi pc k ls st M = some (.inl q)) (hK : xW B p l e R s m args below meth c mi Q q.1 q.2.1 q.2.2.1 q.2.2.2.1 q.2.2.2.2) : xW B p l e R s m args below meth c mi Q pc k ls st M := by
  obtain ⟨hx, hb, hml, hown, -⟩ := C
  simp only [xsem] at hs
  split at hs
  · rename_i x hv
    simp only [xgo, Option.some.injEq, Sum.inl.injEq] at hs
    subst hs
    intro H locs Ls hR hS hL
    have hk := hK H locs Ls hR hS hL
    have hl := hL.2.2 _ _ hv
    simp only [List.map_cons, xr_ref] at hk hl
    simp only [xokb, Bool.or_eq_true, Bool.and_eq_true, decide_eq_true_eq] at hok
    rcases hok with ⟨rfl, h0, h⟩ | ⟨rfl, h⟩
    · exact lv_aload_n hx hb (xdc_eq h) (xfin h0) hl hk
    · exact lv_aload hx hb (xdc_eq h) hl hk
  · cases hs
theorem xg4 (C : xCx p R s m meth c mi) {pc : Nat} {k : Nat × Nat} {ls : xL} {st : List xV} {M : xM} {a : Int} {b d : Nat} {q : Nat × (Nat × Nat) × xL × List xV × xM}
    (hok : xokb (xy mi).cls (decide ((xy mi).name = "<init>")) (xmi mi 0) (xb mi) mi pc (4, a, b, d) = true) (hs : xsem 4 a b d mi pc k ls st M = some (.inl q)) (hK : xW B p l e R s m args below meth c mi Q q.1 q.2.1 q.2.2.1 q.2.2.2.1 q.2.2.2.2) : xW B p l e R s m args below meth c mi Q pc k ls st M := by
  obtain ⟨hx, hb, hml, hown, -⟩ := C
  simp only [xsem] at hs
  split at hs
  · rename_i x r
    simp only [xgo, Option.some.injEq, Sum.inl.injEq] at hs
    subst hs
    intro H locs Ls hR hS hL
    simp only [xokb, Bool.or_eq_true, Bool.and_eq_true, decide_eq_true_eq] at hok
    obtain ⟨hn, hok⟩ := hok
    rcases hok with ⟨rfl, h0, h⟩ | ⟨rfl, h⟩
    · exact lv_istore_n hx hb (xdc_eq h) (xfin h0) hL.has hn rfl (fun Ls' hL' => hK H locs Ls' hR hS (xlh.store (v := .inl x) hL'))
    · exact lv_istore hx hb (xdc_eq h) hL.has hn rfl (fun Ls' hL' => hK H locs Ls' hR hS (xlh.store (v := .inl x) hL'))
  · cases hs
theorem xg5 (C : xCx p R s m meth c mi) {pc : Nat} {k : Nat × Nat} {ls : xL} {st : List xV} {M : xM} {a : Int} {b d : Nat} {q : Nat × (Nat × Nat) × xL × List xV × xM}
    (hok : xokb (xy mi).cls (decide ((xy mi).name = "<init>")) (xmi mi 0) (xb mi) mi pc (5, a, b, d) = true) (hs : xsem 5 a b d mi pc k ls st M = some (.inl q)) (hK : xW B p l e R s m args below meth c mi Q q.1 q.2.1 q.2.2.1 q.2.2.2.1 q.2.2.2.2) : xW B p l e R s m args below meth c mi Q pc k ls st M := by
  obtain ⟨hx, hb, hml, hown, -⟩ := C
  simp only [xsem] at hs
  split at hs
  · rename_i x r
    simp only [xgo, Option.some.injEq, Sum.inl.injEq] at hs
    subst hs
    intro H locs Ls hR hS hL
    simp only [List.map_cons, xr_ref]
    simp only [xokb, Bool.or_eq_true, Bool.and_eq_true, decide_eq_true_eq] at hok
    obtain ⟨hn, hok⟩ := hok
    rcases hok with ⟨rfl, h0, h⟩ | ⟨rfl, h⟩
    · exact lv_astore_n hx hb (xdc_eq h) (xfin h0) hL.has hn rfl (fun Ls' hL' => hK H locs Ls' hR hS (xlh.store (v := .inr (x + 1)) (by rw [xr_ref]; exact hL')))
    · exact lv_astore hx hb (xdc_eq h) hL.has hn rfl (fun Ls' hL' => hK H locs Ls' hR hS (xlh.store (v := .inr (x + 1)) (by rw [xr_ref]; exact hL')))
  · cases hs
theorem xg6 (C : xCx p R s m meth c mi) {pc : Nat} {k : Nat × Nat} {ls : xL} {st : List xV} {M : xM} {a : Int} {b d : Nat} {q : Nat × (Nat × Nat) × xL × List xV × xM}
    (hok : xokb (xy mi).cls (decide ((xy mi).name = "<init>")) (xmi mi 0) (xb mi) mi pc (6, a, b, d) = true) (hs : xsem 6 a b d mi pc k ls st M = some (.inl q)) (hK : xW B p l e R s m args below meth c mi Q q.1 q.2.1 q.2.2.1 q.2.2.2.1 q.2.2.2.2) : xW B p l e R s m args below meth c mi Q pc k ls st M := by
  obtain ⟨hx, hb, hml, hown, -⟩ := C
  simp only [xsem] at hs
  split at hs
  · rename_i x hv
    simp only [xgo, Option.some.injEq, Sum.inl.injEq] at hs
    subst hs
    intro H locs Ls hR hS hL
    simp only [xokb, Bool.and_eq_true, decide_eq_true_eq] at hok
    obtain ⟨hn, h⟩ := hok
    obtain ⟨j, hj⟩ := List.getElem?_of_mem (xll_mem (B := B) hv)
    exact lv_iinc hx hb (xdc_eq h) hL.has hj (v := Int32.ofInt (x + a)) (by rw [Int32.ofInt_add]) hn rfl (fun Ls' hL' => hK H locs Ls' hR hS (xlh.store (v := .inl (x + a)) hL'))
  · cases hs
theorem xg7 (C : xCx p R s m meth c mi) {pc : Nat} {k : Nat × Nat} {ls : xL} {st : List xV} {M : xM} {a : Int} {b d : Nat} {q : Nat × (Nat × Nat) × xL × List xV × xM}
    (hok : xokb (xy mi).cls (decide ((xy mi).name = "<init>")) (xmi mi 0) (xb mi) mi pc (7, a, b, d) = true) (hs : xsem 7 a b d mi pc k ls st M = some (.inl q)) (hK : xW B p l e R s m args below meth c mi Q q.1 q.2.1 q.2.2.1 q.2.2.2.1 q.2.2.2.2) : xW B p l e R s m args below meth c mi Q pc k ls st M := by
  obtain ⟨hx, hb, hml, hown, -⟩ := C
  simp only [xsem] at hs
  split at hs
  · rename_i y x r
    split at hs
    · rename_i z hz
      simp only [xgo, Option.some.injEq, Sum.inl.injEq] at hs
      subst hs
      intro H locs Ls hR hS hL
      have hk := hK H locs Ls hR hS hL
      simp only [List.map_cons, xr] at hk ⊢
      simp only [xokb, Bool.and_eq_true, decide_eq_true_eq] at hok
      obtain ⟨hn, h⟩ := hok
      have hd := xdc_eq h
      match b, hn, hz, hd with
      | 0, _, hz, hd => cases hz; rw [Int32.ofInt_add] at hk; exact lv_iadd hx hb hd hk
      | 1, _, hz, hd => cases hz; rw [Int32.ofInt_sub] at hk; exact lv_isub hx hb hd hk
      | 2, _, hz, hd => cases hz; rw [Int32.ofInt_mul] at hk; exact lv_imul hx hb hd hk
      | 3, _, hz, hd =>
        simp only [xbin] at hz
        split at hz
        · cases hz
        · rename_i h0
          cases hz
          rw [Int32.ofInt_toInt] at hk
          exact lv_idiv hx hb hd h0 hk
      | 4, _, hz, hd =>
        simp only [xbin] at hz
        split at hz
        · cases hz
        · rename_i h0
          cases hz
          rw [Int32.ofInt_toInt] at hk
          exact lv_irem hx hb hd h0 hk
      | 5, _, hz, hd => cases hz; rw [Int32.ofInt_toInt] at hk; exact lv_iand hx hb hd hk
      | 6, _, hz, hd => cases hz; rw [Int32.ofInt_toInt] at hk; exact lv_ior hx hb hd hk
      | 7, _, hz, hd => cases hz; rw [Int32.ofInt_toInt] at hk; exact lv_ixor hx hb hd hk
      | 8, _, hz, hd => cases hz; rw [Int32.ofInt_toInt] at hk; exact lv_ishl hx hb hd hk
      | 9, _, hz, hd => cases hz; rw [Int32.ofInt_toInt] at hk; exact lv_ishr hx hb hd hk
      | 10, _, hz, hd => cases hz; rw [Int32.ofInt_toInt] at hk; exact lv_iushr hx hb hd rfl hk
    · cases hs
  · cases hs
theorem xg8 (C : xCx p R s m meth c mi) {pc : Nat} {k : Nat × Nat} {ls : xL} {st : List xV} {M : xM} {a : Int} {b d : Nat} {q : Nat × (Nat × Nat) × xL × List xV × xM}
    (hok : xokb (xy mi).cls (decide ((xy mi).name = "<init>")) (xmi mi 0) (xb mi) mi pc (8, a, b, d) = true) (hs : xsem 8 a b d mi pc k ls st M = some (.inl q)) (hK : xW B p l e R s m args below meth c mi Q q.1 q.2.1 q.2.2.1 q.2.2.2.1 q.2.2.2.2) : xW B p l e R s m args below meth c mi Q pc k ls st M := by
  obtain ⟨hx, hb, hml, hown, -⟩ := C
  simp only [xsem] at hs
  split at hs
  · rename_i x r
    simp only [xgo, Option.some.injEq, Sum.inl.injEq] at hs
    subst hs
    intro H locs Ls hR hS hL
    have hk := hK H locs Ls hR hS hL
    simp only [List.map_cons, xr, Int32.ofInt_neg] at hk ⊢
    exact lv_ineg hx hb (xdc_eq hok) hk
  · cases hs
theorem xg9 (C : xCx p R s m meth c mi) {pc : Nat} {k : Nat × Nat} {ls : xL} {st : List xV} {M : xM} {a : Int} {b d : Nat} {q : Nat × (Nat × Nat) × xL × List xV × xM}
    (hok : xokb (xy mi).cls (decide ((xy mi).name = "<init>")) (xmi mi 0) (xb mi) mi pc (9, a, b, d) = true) (hs : xsem 9 a b d mi pc k ls st M = some (.inl q)) (hK : xW B p l e R s m args below meth c mi Q q.1 q.2.1 q.2.2.1 q.2.2.2.1 q.2.2.2.2) : xW B p l e R s m args below meth c mi Q pc k ls st M := by
  obtain ⟨hx, hb, hml, hown, -⟩ := C
  simp only [xsem] at hs
  split at hs
  · rename_i x r
    split at hs
    · rename_i hc
      simp only [xgo, Option.some.injEq, Sum.inl.injEq] at hs
      subst hs
      intro H locs Ls hR hS hL
      have hk := hK H locs Ls hR hS hL
      simp only [List.map_cons, xr] at hk ⊢
      simp only [xokb, Bool.and_eq_true, decide_eq_true_eq] at hok
      obtain ⟨hn, h⟩ := hok
      have hd := xdc_eq h
      have ht : (pc : Int) + ((d : Int) - pc) = (d : Int) := by omega
      have h0 : xok 0 := ⟨by omega, by omega⟩
      have z0 : (0 : Int32) = Int32.ofInt 0 := rfl
      have heq : Int32.ofInt x = 0 ↔ x = 0 := by
        rw [z0]; exact xi_eq (hc.elim (fun q => Or.inl ⟨q, h0⟩) (fun q => Or.inr q.2))
      have go : ∀ (P : Prop), (xcmp b x 0 = true ↔ P) → (P → W p l e R s m args below meth c H locs k.1 k.2 Q (F0 m d Ls (r.map (xr B)))) ∧ (¬ P → W p l e R s m args below meth c H locs k.1 k.2 Q (F0 m (pc + 3) Ls (r.map (xr B)))) := fun P hP => ⟨fun q => by
        have e : xcmp b x 0 = true := hP.mpr q
        rw [if_pos e] at hk
        exact hk, fun q => by
        have e : ¬ xcmp b x 0 = true := fun z => q (hP.mp z)
        rw [if_neg e] at hk
        exact hk⟩
      match b, hn, hd, hc, go with
      | 0, _, hd, hc, go =>
        have g := go (Int32.ofInt x = 0) (by rw [heq]; simp [xcmp])
        exact lv_if_eq hx hb hd ht g.1 g.2
      | 1, _, hd, hc, go =>
        have g := go (¬ Int32.ofInt x = 0) (by rw [heq]; simp [xcmp])
        exact lv_if_ne hx hb hd ht g.1 (fun z => g.2 (fun n => n z))
      | 2, _, hd, hc, go =>
        have hxk : xok x := hc.elim id (fun q => absurd q.1 (by omega))
        have g := go (Int32.ofInt x < 0) (by rw [z0, xi_lt hxk h0]; simp [xcmp])
        exact lv_if_lt hx hb hd ht g.1 g.2
      | 3, _, hd, hc, go =>
        have hxk : xok x := hc.elim id (fun q => absurd q.1 (by omega))
        have g := go (0 ≤ Int32.ofInt x) (by rw [z0, xi_le h0 hxk]; simp [xcmp])
        exact lv_if_ge hx hb hd ht g.1 g.2
      | 4, _, hd, hc, go =>
        have hxk : xok x := hc.elim id (fun q => absurd q.1 (by omega))
        have g := go (0 < Int32.ofInt x) (by rw [z0, xi_lt h0 hxk]; simp [xcmp])
        exact lv_if_gt hx hb hd ht g.1 g.2
      | 5, _, hd, hc, go =>
        have hxk : xok x := hc.elim id (fun q => absurd q.1 (by omega))
        have g := go (Int32.ofInt x ≤ 0) (by rw [z0, xi_le hxk h0]; simp [xcmp])
        exact lv_if_le hx hb hd ht g.1 g.2
    · cases hs
  · cases hs
theorem xg10 (C : xCx p R s m meth c mi) {pc : Nat} {k : Nat × Nat} {ls : xL} {st : List xV} {M : xM} {a : Int} {b d : Nat} {q : Nat × (Nat × Nat) × xL × List xV × xM}
    (hok : xokb (xy mi).cls (decide ((xy mi).name = "<init>")) (xmi mi 0) (xb mi) mi pc (10, a, b, d) = true) (hs : xsem 10 a b d mi pc k ls st M = some (.inl q)) (hK : xW B p l e R s m args below meth c mi Q q.1 q.2.1 q.2.2.1 q.2.2.2.1 q.2.2.2.2) : xW B p l e R s m args below meth c mi Q pc k ls st M := by
  obtain ⟨hx, hb, hml, hown, -⟩ := C
  simp only [xsem] at hs
  split at hs
  · rename_i y x r
    split at hs
    · rename_i hc
      simp only [xgo, Option.some.injEq, Sum.inl.injEq] at hs
      subst hs
      intro H locs Ls hR hS hL
      have hk := hK H locs Ls hR hS hL
      simp only [List.map_cons, xr] at hk ⊢
      simp only [xokb, Bool.and_eq_true, decide_eq_true_eq] at hok
      obtain ⟨hn, h⟩ := hok
      have hd := xdc_eq h
      have ht : (pc : Int) + ((d : Int) - pc) = (d : Int) := by omega
      have heq : Int32.ofInt x = Int32.ofInt y ↔ x = y := xi_eq (hc.elim Or.inl (fun q => Or.inr q.2))
      have go : ∀ (P : Prop), (xcmp b x y = true ↔ P) → (P → W p l e R s m args below meth c H locs k.1 k.2 Q (F0 m d Ls (r.map (xr B)))) ∧ (¬ P → W p l e R s m args below meth c H locs k.1 k.2 Q (F0 m (pc + 3) Ls (r.map (xr B)))) := fun P hP => ⟨fun q => by
        have e : xcmp b x y = true := hP.mpr q
        rw [if_pos e] at hk
        exact hk, fun q => by
        have e : ¬ xcmp b x y = true := fun z => q (hP.mp z)
        rw [if_neg e] at hk
        exact hk⟩
      match b, hn, hd, hc, go with
      | 0, _, hd, hc, go =>
        have g := go (Int32.ofInt x = Int32.ofInt y) (by rw [heq]; simp [xcmp])
        exact lv_icmp_eq hx hb hd ht g.1 g.2
      | 1, _, hd, hc, go =>
        have g := go (¬ Int32.ofInt x = Int32.ofInt y) (by rw [heq]; simp [xcmp])
        exact lv_icmp_ne hx hb hd ht g.1 (fun z => g.2 (fun n => n z))
      | 2, _, hd, hc, go =>
        have hxk : xok x ∧ xok y := hc.elim id (fun q => absurd q.1 (by omega))
        have g := go (Int32.ofInt x < Int32.ofInt y) (by rw [xi_lt hxk.1 hxk.2]; simp [xcmp])
        exact lv_icmp_lt hx hb hd ht g.1 g.2
      | 3, _, hd, hc, go =>
        have hxk : xok x ∧ xok y := hc.elim id (fun q => absurd q.1 (by omega))
        have g := go (Int32.ofInt y ≤ Int32.ofInt x) (by rw [xi_le hxk.2 hxk.1]; simp [xcmp])
        exact lv_icmp_ge hx hb hd ht g.1 g.2
      | 4, _, hd, hc, go =>
        have hxk : xok x ∧ xok y := hc.elim id (fun q => absurd q.1 (by omega))
        have g := go (Int32.ofInt y < Int32.ofInt x) (by rw [xi_lt hxk.2 hxk.1]; simp [xcmp])
        exact lv_icmp_gt hx hb hd ht g.1 g.2
      | 5, _, hd, hc, go =>
        have hxk : xok x ∧ xok y := hc.elim id (fun q => absurd q.1 (by omega))
        have g := go (Int32.ofInt x ≤ Int32.ofInt y) (by rw [xi_le hxk.1 hxk.2]; simp [xcmp])
        exact lv_icmp_le hx hb hd ht g.1 g.2
    · cases hs
  · cases hs
theorem xg11 (C : xCx p R s m meth c mi) {pc : Nat} {k : Nat × Nat} {ls : xL} {st : List xV} {M : xM} {a : Int} {b d : Nat} {q : Nat × (Nat × Nat) × xL × List xV × xM}
    (hok : xokb (xy mi).cls (decide ((xy mi).name = "<init>")) (xmi mi 0) (xb mi) mi pc (11, a, b, d) = true) (hs : xsem 11 a b d mi pc k ls st M = some (.inl q)) (hK : xW B p l e R s m args below meth c mi Q q.1 q.2.1 q.2.2.1 q.2.2.2.1 q.2.2.2.2) : xW B p l e R s m args below meth c mi Q pc k ls st M := by
  obtain ⟨hx, hb, hml, hown, -⟩ := C
  simp only [xsem, xgo, Option.some.injEq, Sum.inl.injEq] at hs
  subst hs
  intro H locs Ls hR hS hL
  exact lv_goto hx hb (xdc_eq hok) (by omega) (hK H locs Ls hR hS hL)
end XSN
