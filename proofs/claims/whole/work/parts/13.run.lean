/-! ===== a pure run is a run of the machine ===== -/
theorem xret_v {mi pc : Nat} {k : Nat × Nat} {ls : xL} {st : List xV} {M : xM} {v : List xV} (hs : xstep mi pc k ls st M = some (.inr (.inr v))) : v = [] ∨ ∃ x, v = [.inl x] := by
  unfold xstep at hs
  generalize xins mi pc = i at hs
  obtain ⟨t, a, b, d⟩ := i
  dsimp only at hs
  unfold xsem at hs
  split at hs
  all_goals (repeat' split at hs)
  all_goals first
    | (cases hs; done)
    | (cases hs; exact Or.inr ⟨_, rfl⟩)
    | (cases hs; exact Or.inl rfl)
theorem xrun_v : ∀ (n : Nat) {mi pc : Nat} {k : Nat × Nat} {ls : xL} {st : List xV} {M : xM} {v : List xV} {M' : xM}, xrun n mi pc k ls st M = some (v, M') → v = [] ∨ ∃ x, v = [.inl x]
  | 0, _, _, _, _, _, _, _, _, h => by simp [xrun] at h
  | n + 1, mi, pc, k, ls, st, M, v, M', h => by
    unfold xrun at h
    cases hs : xstep mi pc k ls st M with
    | none => rw [hs] at h; cases h
    | some o =>
      rw [hs] at h
      rcases o with ⟨pc', k', ls', st', M1⟩ | ⟨j, as, r⟩ | w
      · exact xrun_v n h
      · dsimp only at h
        cases hc : xrun n j 0 (0, 0) (xloc j as) [] M with
        | none => rw [hc] at h; cases h
        | some q =>
          obtain ⟨v1, M1⟩ := q
          rw [hc] at h
          exact xrun_v n h
      · simp only [Option.some.injEq, Prod.mk.injEq] at h
        obtain ⟨rfl, rfl⟩ := h
        exact xret_v hs
theorem xcall_k {mi pc : Nat} {k : Nat × Nat} {ls : xL} {st : List xV} {M : xM} {j : Nat} {as r : List xV} (hs : xstep mi pc k ls st M = some (.inr (.inl (j, as, r)))) : k.1 + xmi j 7 ≤ xmi mi 7 ∧ k.2 + xmi j 8 ≤ xmi mi 8 := by
  unfold xstep at hs
  generalize xins mi pc = i at hs
  obtain ⟨t, a, b, d⟩ := i
  dsimp only at hs
  unfold xsem at hs
  split at hs
  all_goals first
    | ((repeat' split at hs) <;> (cases hs; done))
    | skip
  split at hs
  · rename_i hc
    obtain ⟨c1, c2, c3, c4, c5, c6⟩ := hc
    split at hs
    · cases hs; exact ⟨c5, c6⟩
    · split at hs
      · cases hs; exact ⟨c5, c6⟩
      · cases hs
    · cases hs; exact ⟨c5, c6⟩
    · cases hs
  · cases hs
theorem xsl_eq (B : xB) : ∀ as : List xV, lg_sl (as.map (xr B)) = as.map (fun v => Slot.val (xr B v))
  | [] => rfl
  | v :: t => by
    have ih := xsl_eq B t
    unfold lg_sl at ih ⊢
    simp only [List.map_cons, List.flatMap_cons, ih, xr_cat]
    rfl
theorem xentry (B : xB) (as : List xV) (j : Nat) (h : as.length ≤ xmi j 0) : xlh B ((lg_sl (as.map (xr B)) ++ List.replicate (xmi j 0 - (lg_sl (as.map (xr B))).length) Slot.unset).toArray) (xmi j 0) (xloc j as) := by
  have hlen : (lg_sl (as.map (xr B))).length = as.length := by rw [xsl_eq, List.length_map]
  have hl := lv_entry (as.map (xr B)) (n := xmi j 0) (by rw [hlen]; exact h)
  refine ⟨hl.1, hl.2.1, fun i v hv => ?_⟩
  rw [xnth_get] at hv
  unfold xloc at hv
  rw [xsl_eq]
  by_cases hi : i < as.length
  · have e : as[i]? = some v := by
      rw [List.getD_eq_getElem?_getD, List.getElem?_append_left (by simpa using hi), List.getElem?_map] at hv
      cases ha : as[i]? with
      | none => rw [ha] at hv; cases hv
      | some w => rw [ha] at hv; simpa using hv
    simp only [List.getElem?_toArray]
    rw [List.getElem?_append_left (by simpa using hi), List.getElem?_map, e]
    rfl
  · rw [List.getD_eq_getElem?_getD, List.getElem?_append_right (by simp; omega)] at hv
    exfalso
    cases hr : (List.replicate (xmi j 0 - as.length) (none : Option xV))[i - (as.map some).length]? with
    | none => rw [hr] at hv; cases hv
    | some w =>
      rw [hr] at hv
      have := List.eq_of_mem_replicate (List.mem_of_getElem? hr)
      subst this
      cases hv
section XSJ
variable {l : Launch} {B : xB}
theorem xMet_of {j : Nat} {as : List xV} {M : xM} {v : List xV} {M' : xM} (hj : j < 128) (h14 : j ≠ 14) (h47 : j ≠ 47) (hlen : as.length = xmi j 2)
    (h : ∀ (p : Program) (e : Env) (R : Room) (s : State) (m : MethodId) (args : Array Value) (below : List Frame) (meth : Method) (c : Code), xCx p R s m meth c j → xE B s s.heap → xW B p l e R s m args below meth c j (MQ below (xQc B v M') args s (xmi j 7) (xmi j 8) (xA B)) 0 (0, 0) (xloc j as) [] M) : xMet B l j as M v M' := by
  have hmok := xmok j hj
  simp only [xmokb, Bool.or_eq_true, Bool.and_eq_true, decide_eq_true_eq, beq_iff_eq] at hmok
  have hmok := (hmok.resolve_left h14).resolve_left h47
  obtain ⟨m1, m2, m3, m4, m5, m6, m7, m8⟩ := hmok
  refine Met.ofW (cc := xb j) (maxL := xmi j 0) (ret := xret j) m3 rfl ?_
  intro p e s m args below meth c s₁ Bd hml hv
  obtain ⟨rfl, E, hR⟩ := hv
  rw [lg_entry_eq]
  exact h p e _ s m _ below meth c ⟨Bd.exec, Bd.bytes, hml, findClass_of_methodNamed Bd.named, Bd.notSynchronized, Bd.returns, fun z => ((name_of_methodNamed Bd.named Bd.method).1).trans z, Nat.le_refl _, Nat.le_refl _, Nat.le_refl _, Nat.le_refl _⟩ E s.heap [] _ hR va_S.rf (xentry B as j (by omega))
theorem xrun_W : ∀ (n : Nat) {mi pc : Nat} {k : Nat × Nat} {ls : xL} {st : List xV} {M : xM} {v : List xV} {M' : xM}, xrun n mi pc k ls st M = some (v, M') → ∀ {p : Program} {e : Env} {R : Room} {s : State} {m : MethodId} {args : Array Value} {below : List Frame} {meth : Method} {c : Code} {Q : State → Prop}, xCx p R s m meth c mi → xE B s s.heap → (k.1 ≤ xmi mi 7 ∧ k.2 ≤ xmi mi 8) →
    (∀ (pc : Nat) (k : Nat × Nat) (ls : xL) (st : List xV), (k.1 ≤ xmi mi 7 ∧ k.2 ≤ xmi mi 8) → xstep mi pc k ls st M' = some (.inr (.inr v)) → xW B p l e R s m args below meth c mi Q pc k ls st M') → xW B p l e R s m args below meth c mi Q pc k ls st M
  | 0, _, _, _, _, _, _, _, _, h => by simp [xrun] at h
  | n + 1, mi, pc, k, ls, st, M, v, M', h => by
    intro C E hkc hfin
    unfold xrun at h
    cases hs : xstep mi pc k ls st M with
    | none => rw [hs] at h; cases h
    | some o =>
      rw [hs] at h
      rcases o with ⟨pc', k', ls', st', M1⟩ | ⟨j, as, r⟩ | w
      · exact xgo_all C E hkc hs (xrun_W n h C E (xsem_k (q := (pc', k', ls', st', M1)) (by unfold xstep at hs; exact hs) hkc) hfin)
      · dsimp only at h
        cases hc : xrun n j 0 (0, 0) (xloc j as) [] M with
        | none => rw [hc] at h; cases h
        | some q =>
          obtain ⟨v1, M1⟩ := q
          rw [hc] at h
          exact xcall_all C E hs (fun a1 a2 a3 a4 => xMet_of a1 a2 a3 a4 (fun p e R s m args below meth c C E => xrun_W n hc C E ⟨Nat.zero_le _, Nat.zero_le _⟩ (fun pc k ls st hk hst => xret_all C hk hst))) (xrun_v n hc) (xrun_W n h C E (xcall_k hs) hfin)
      · simp only [Option.some.injEq, Prod.mk.injEq] at h
        obtain ⟨rfl, rfl⟩ := h
        exact hfin pc k ls st hkc hs
end XSJ
