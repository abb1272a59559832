/-! ===== arrays, new, the stack, the library ===== -/
section XSG
variable {p : Program} {l : Launch} {e : Env} {R : Room} {s : State} {m : MethodId} {args : Array Value} {below : List Frame} {meth : Method} {c : Code} {Q : State → Prop} {B : xB} {mi : Nat}
theorem xvp {i : Int} {n : Nat} (h0 : 0 ≤ i) (h1 : i < n) (hi : xok i) : vp_in (Int32.ofInt i) n := vp_in_iff.mpr (by rw [xti hi]; exact ⟨h0, h1⟩)
theorem xcl_nat {i : Int} (h0 : 0 ≤ i) (hi : xok i) : (Int32.ofInt i).toNatClampNeg = i.toNat := by
  show (Int32.ofInt i).toInt.toNat = i.toNat
  rw [xti hi]
theorem xt_0 : (xtys B)[0]? = some (B.2.1.1, .int) := rfl
theorem xt_1 : (xtys B)[1]? = some (B.2.1.2.1, .object "ReedBench$Reed") := rfl
theorem xt_2 : (xtys B)[2]? = some (B.2.1.2.2.1, .object "ReedBench$State") := rfl
theorem xt_3 : (xtys B)[3]? = some (B.2.1.2.2.2, .array .int) := rfl
theorem xlow5 {U : State} {M : xM} {H : Heap} (h : xR B U M H) {a : Nat} (ha : (xat M a).1 = 5) : (a = 1 ∨ a = 2) ∨ 3 ≤ a ∧ a < M.1.length := by
  have hl := xat_lt ha (by omega)
  match a, ha with
  | 0, ha => rw [h.2.2.2.1] at ha; cases ha
  | 1, _ => exact Or.inl (Or.inl rfl)
  | 2, _ => exact Or.inl (Or.inr rfl)
  | a + 3, _ => exact Or.inr ⟨by omega, hl⟩
theorem xg14 (C : xCx p R s m meth c mi) (E : xE B s s.heap) {pc : Nat} {k : Nat × Nat} {ls : xL} {st : List xV} {M : xM} {a : Int} {b d : Nat} {q : Nat × (Nat × Nat) × xL × List xV × xM}
    (hok : xokb (xy mi).cls (decide ((xy mi).name = "<init>")) (xmi mi 0) (xb mi) mi pc (14, a, b, d) = true) (hs : xsem 14 a b d mi pc k ls st M = some (.inl q)) (hK : xW B p l e R s m args below meth c mi Q q.1 q.2.1 q.2.2.1 q.2.2.2.1 q.2.2.2.2) : xW B p l e R s m args below meth c mi Q pc k ls st M := by
  obtain ⟨hx, hb, hml, hown, -⟩ := C
  simp only [xsem] at hs
  split at hs
  · rename_i i pp r
    split at hs
    · rename_i hc
      obtain ⟨hkd, h0, h1, hi⟩ := hc
      simp only [xgo, Option.some.injEq, Sum.inl.injEq] at hs
      subst hs
      intro H locs Ls hR hS hL
      have hk := hK H locs Ls hR hS hL
      simp only [List.map_cons] at hk ⊢
      rcases hkd with hkd | hkd
      · have hlow := hR.low hkd (by omega) (by omega)
        rw [xr_pos (p := pp) (by omega)]
        have he := xws_at (B := B) hlow
        rw [xce_1 hkd] at he
        refine va_iald hx hb E.1 hR.2.2.1 (pp - 3) 0 he xt_0 (xvp h0 h1 hi) (xdc_eq hok) ?_
        rw [xcl_nat h0 hi]
        exact hk
      · have go : xX B M s H pp → 0 < pp → W p l e R s m args below meth c H locs k.1 k.2 Q (F0 m pc Ls (xr B (.inl i) :: xr B (.inr pp) :: r.map (xr B))) := fun hX hp => by
          obtain ⟨-, -, scr, g1, g2, g3, g4, g5⟩ := hX
          rw [xr_pos hp]
          refine W.iald (v := xr B (.inl (M.2 pp i.toNat))) hx hb g1 g2 g3 (fun z => xvp h0 h1 hi (z.imp id (fun z => Nat.le_trans g4.1 z))) ?_ rfl rfl (xdc_eq hok) hk
          rw [xcl_nat h0 hi]
          exact g5 _ (by omega)
        rcases xlow5 hR hkd with (rfl | rfl) | hlow
        · exact go hR.2.2.2.2.1 (by omega)
        · exact go hR.2.2.2.2.2.1 (by omega)
        · exact absurd hkd (hR.2.2.2.2.2.2 pp hlow.1)
    · cases hs
  · cases hs
theorem xg15 (C : xCx p R s m meth c mi) (E : xE B s s.heap) {pc : Nat} {k : Nat × Nat} {ls : xL} {st : List xV} {M : xM} {a : Int} {b d : Nat} {q : Nat × (Nat × Nat) × xL × List xV × xM}
    (hok : xokb (xy mi).cls (decide ((xy mi).name = "<init>")) (xmi mi 0) (xb mi) mi pc (15, a, b, d) = true) (hs : xsem 15 a b d mi pc k ls st M = some (.inl q)) (hK : xW B p l e R s m args below meth c mi Q q.1 q.2.1 q.2.2.1 q.2.2.2.1 q.2.2.2.2) : xW B p l e R s m args below meth c mi Q pc k ls st M := by
  obtain ⟨hx, hb, hml, hown, -⟩ := C
  simp only [xsem] at hs
  split at hs
  · rename_i x i pp r
    split at hs
    · rename_i hc
      obtain ⟨hkd, h0, h1, hi⟩ := hc
      simp only [xgo, Option.some.injEq, Sum.inl.injEq] at hs
      subst hs
      intro H locs Ls hR hS hL
      simp only [List.map_cons]
      have hlow := hR.low hkd (by omega) (by omega)
      rw [xr_pos (p := pp) (by omega)]
      have he := xws_at (B := B) hlow
      rw [xce_1 hkd] at he
      refine W.iast hx hb (hR.2.2.1 _ _ he) ((E.1.2 0 _ xt_0).1 _ _) (fun z => by cases z) (by show ¬ (_ ∨ (arrV _ _ _).slots.size ≤ _); rw [arrV_size]; exact xvp h0 h1 hi) rfl rfl (xdc_eq hok) fun H1 e1 z oq => ?_
      refine hK H1 _ Ls (hR.upd (M' := xwr M pp i.toNat x) hlow rfl (fun _ _ => rfl) (fun z hz => by funext j; simp [xwr, hz]) (xce_1 (M := xwr M pp i.toNat x) hkd) (fun z hz => xce_wr_ne B M x hz) (hR.2.2.1.set (xws_D B M) he ?_ oq) z (xbelow hlow.1 oq) (by rw [xat_wr, hkd]; omega)) (hS.put z oq ((xws_D B M).2 _ _ he)) hL
      show H1[xad B pp]? = some (vp_cell _ _)
      rw [e1]
      dsimp only
      rw [vp_cell_i, vp_cell_i, arrV_store, xcl_nat h0 hi]
      congr 2
      funext j
      by_cases hj : j = i.toNat
      · subst hj; simp [updV, xwr]
      · simp [updV, xwr, hj]
    · cases hs
  · cases hs
theorem xg16 (C : xCx p R s m meth c mi) (E : xE B s s.heap) {pc : Nat} {k : Nat × Nat} {ls : xL} {st : List xV} {M : xM} {a : Int} {b d : Nat} {q : Nat × (Nat × Nat) × xL × List xV × xM}
    (hok : xokb (xy mi).cls (decide ((xy mi).name = "<init>")) (xmi mi 0) (xb mi) mi pc (16, a, b, d) = true) (hs : xsem 16 a b d mi pc k ls st M = some (.inl q)) (hK : xW B p l e R s m args below meth c mi Q q.1 q.2.1 q.2.2.1 q.2.2.2.1 q.2.2.2.2) : xW B p l e R s m args below meth c mi Q pc k ls st M := by
  obtain ⟨hx, hb, hml, hown, -⟩ := C
  simp only [xsem] at hs
  split at hs
  · rename_i i pp r
    split at hs
    · rename_i hc
      obtain ⟨hkd, h0, h1, hi⟩ := hc
      simp only [xgo, Option.some.injEq, Sum.inl.injEq] at hs
      subst hs
      intro H locs Ls hR hS hL
      have hk := hK H locs Ls hR hS hL
      simp only [List.map_cons] at hk ⊢
      have hlow : 3 ≤ pp ∧ pp < M.1.length := by
        rcases hkd with h | h | h
        · exact hR.low h (by omega) (by omega)
        · exact hR.low h (by omega) (by omega)
        · exact hR.low h (by omega) (by omega)
      rw [xr_pos (p := pp) (by omega)]
      have he := xws_at (B := B) hlow
      have hlt : (Int32.ofInt i).toNatClampNeg < (xat M pp).2.1 := by rw [xcl_nat h0 hi]; omega
      have go : ∀ (cA : ClassId) (ty : FieldType) (t0 : Nat), (xtys B)[t0]? = some (cA, ty) → ty.isReference = true → xce B M pp = .inl (cA, (xat M pp).2.1, .inr (.inr (.inr (.inr (xra B M pp))))) → W p l e R s m args below meth c H locs k.1 k.2 Q (F0 m pc Ls (xr B (.inl i) :: .ref (xad B pp) :: r.map (xr B))) := fun cA ty t0 ht hrf hce => by
        rw [hce] at he
        refine W.aald (v := xr B (.inr ((xat M pp).2.2 i.toNat))) (ty := ty) hx hb (hR.2.2.1 _ _ he) ((E.1.2 t0 _ ht).1 _ (fun j => va_rf (xra B M pp j))) hrf (fun z => by cases z) (by show ¬ (_ ∨ (arrV _ _ _).slots.size ≤ _); rw [arrV_size]; exact xvp h0 h1 hi) ?_ rfl rfl (xdc_eq hok) hk
        show (arrV _ _ _).slots[_]? = _
        rw [arrV_read _ _ hlt, xcl_nat h0 hi]
        rfl
      rcases hkd with h | h | h
      · exact go _ _ 1 xt_1 rfl (xce_2 h)
      · exact go _ _ 2 xt_2 rfl (xce_3 h)
      · exact go _ _ 3 xt_3 rfl (xce_4 h)
    · cases hs
  · cases hs
theorem xg17 (C : xCx p R s m meth c mi) (E : xE B s s.heap) {pc : Nat} {k : Nat × Nat} {ls : xL} {st : List xV} {M : xM} {a : Int} {b d : Nat} {q : Nat × (Nat × Nat) × xL × List xV × xM}
    (hok : xokb (xy mi).cls (decide ((xy mi).name = "<init>")) (xmi mi 0) (xb mi) mi pc (17, a, b, d) = true) (hs : xsem 17 a b d mi pc k ls st M = some (.inl q)) (hK : xW B p l e R s m args below meth c mi Q q.1 q.2.1 q.2.2.1 q.2.2.2.1 q.2.2.2.2) : xW B p l e R s m args below meth c mi Q pc k ls st M := by
  obtain ⟨hx, hb, hml, hown, -⟩ := C
  simp only [xsem] at hs
  split at hs
  · rename_i v i pp r
    split at hs
    · rename_i hc
      obtain ⟨hkd, h0, h1, hi⟩ := hc
      simp only [xgo, Option.some.injEq, Sum.inl.injEq] at hs
      subst hs
      intro H locs Ls hR hS hL
      simp only [List.map_cons]
      have hlow : 3 ≤ pp ∧ pp < M.1.length := by
        rcases hkd with ⟨h, -⟩ | ⟨h, -⟩
        · exact hR.low h (by omega) (by omega)
        · exact hR.low h (by omega) (by omega)
      rw [xr_pos (p := pp) (by omega), xr_ref]
      have he := xws_at (B := B) hlow
      have hlt : (Int32.ofInt i).toNatClampNeg < (xat M pp).2.1 := by rw [xcl_nat h0 hi]; omega
      have hn0 : ¬ Int32.ofInt i < 0 := fun z => (xvp h0 h1 hi) (Or.inl z)
      have go : ∀ (cA : ClassId) (ci t0 : Nat) (kd : Nat), ci < 8 → kd ≠ 5 → (xtys B)[t0]? = some (cA, .object (xCn ci)) → (xat M (v + 1)).1 = 10 + ci → (xat M pp).1 = kd → (∀ M' : xM, (xat M' pp).1 = kd → xce B M' pp = .inl (cA, (xat M' pp).2.1, .inr (.inr (.inr (.inr (xra B M' pp)))))) → W p l e R s m args below meth c H locs k.1 k.2 Q (F0 m pc Ls (.ref (xad B (v + 1)) :: xr B (.inl i) :: .ref (xad B pp) :: r.map (xr B))) := fun cA ci t0 kd hci hkd5 ht hvk hpk hce => by
        have hlv := hR.low hvk (by omega) (by omega)
        have hev := xws_at (B := B) hlv
        rw [xce_obj hvk] at hev
        rw [hce M hpk] at he
        have hcl := xcl_at ci hci
        obtain ⟨r', hr', cellV, g1, g2, g3, -⟩ := hR.2.2.1 _ _ hev
        have hcls := (E.1.1 ci _ hcl).2
        obtain ⟨kA, comp, k1, k2, k3, -⟩ := (E.1.2 t0 _ ht).2
        have hcomp : comp = B.1.1 ci := Option.some.inj (k3.symm.trans hcls.1)
        subst hcomp
        obtain ⟨kC, hkC, -⟩ := id hcls.2
        refine W.aast hx hb (hR.2.2.1 _ _ he) (fun z h => by cases h) (fun h => by cases h) k1 k2 rfl hkC ⟨hn0, by show _ < (arrV _ _ _).slots.size; rw [arrV_size]; exact hlt⟩ g1 (fun z h => by rw [g3] at h; cases h) (by rw [g2]; exact hkC) (by rw [g2]; exact va_assign hcls) rfl rfl (xdc_eq hok) fun H1 e1 z oq => ?_
        have hk' : (xat (xwref M pp i.toNat (v + 1)) pp).1 = kd := by rw [xat_wref M _ _ hlow.2]; exact hpk
        refine hK H1 _ Ls (hR.upd (M' := xwref M pp i.toNat (v + 1)) hlow (by simp [xwref]) (fun z hz => xat_wref_ne M hz) (fun z hz => rfl) (hce _ hk') (fun z hz => xce_wref_ne B M hz) (hR.2.2.1.set (xws_D B M) he ?_ oq) z (xbelow hlow.1 oq) (by rw [hk']; exact hkd5)) (hS.put z oq ((xws_D B M).2 _ _ he)) hL
        show H1[xad B pp]? = some (vp_cell _ _)
        rw [e1]
        dsimp only
        rw [vp_cell_q, vp_cell_q, arrV_store, xcl_nat h0 hi]
        unfold xra
        rw [xat_wref M _ _ hlow.2]
        congr 2
        funext j
        by_cases hj : j = i.toNat
        · subst hj; simp [updV, xro, va_rf]
        · simp [updV, hj]
      rcases hkd with ⟨h, h2⟩ | ⟨h, h2⟩
      · exact go _ 3 1 2 (by omega) (by omega) xt_1 h2 h (fun M' h' => xce_2 h')
      · exact go _ 4 2 3 (by omega) (by omega) xt_2 h2 h (fun M' h' => xce_3 h')
    · cases hs
  · cases hs
theorem xg18 (C : xCx p R s m meth c mi) (E : xE B s s.heap) {pc : Nat} {k : Nat × Nat} {ls : xL} {st : List xV} {M : xM} {a : Int} {b d : Nat} {q : Nat × (Nat × Nat) × xL × List xV × xM}
    (hok : xokb (xy mi).cls (decide ((xy mi).name = "<init>")) (xmi mi 0) (xb mi) mi pc (18, a, b, d) = true) (hs : xsem 18 a b d mi pc k ls st M = some (.inl q)) (hK : xW B p l e R s m args below meth c mi Q q.1 q.2.1 q.2.2.1 q.2.2.2.1 q.2.2.2.2) : xW B p l e R s m args below meth c mi Q pc k ls st M := by
  obtain ⟨hx, hb, hml, hown, -⟩ := C
  simp only [xsem] at hs
  split at hs
  · rename_i pp r
    split at hs
    · rename_i hkd
      simp only [xgo, Option.some.injEq, Sum.inl.injEq] at hs
      subst hs
      intro H locs Ls hR hS hL
      have hk := hK H locs Ls hR hS hL
      simp only [List.map_cons] at hk ⊢
      have hof : (Int32.ofNat (xat M pp).2.1) = Int32.ofInt ((xat M pp).2.1 : Int) := (Int32.ofInt_eq_ofNat).symm
      rcases hkd with hkd | hkd
      · have hlow := hR.low hkd (by omega) (by omega)
        rw [xr_pos (p := pp) (by omega)]
        have he := xws_at (B := B) hlow
        rw [xce_1 hkd] at he
        exact va_alen hx hb E.1 hR.2.2.1 (pp - 3) 0 he xt_0 hof (xdc_eq hok) hk
      · have go : xX B M s H pp → 0 < pp → W p l e R s m args below meth c H locs k.1 k.2 Q (F0 m pc Ls (xr B (.inr pp) :: r.map (xr B))) := fun hX hp => by
          obtain ⟨-, -, scr, g1, g2, g3, g4, g5⟩ := hX
          rw [xr_pos hp]
          exact W.alen hx hb g1 g2 (g4.2.trans hof) rfl rfl (xdc_eq hok) hk
        rcases xlow5 hR hkd with (rfl | rfl) | hlow
        · exact go hR.2.2.2.2.1 (by omega)
        · exact go hR.2.2.2.2.2.1 (by omega)
        · exact absurd hkd (hR.2.2.2.2.2.2 pp hlow.1)
    · cases hs
  · cases hs
theorem xg23 (C : xCx p R s m meth c mi) {pc : Nat} {k : Nat × Nat} {ls : xL} {st : List xV} {M : xM} {a : Int} {b d : Nat} {q : Nat × (Nat × Nat) × xL × List xV × xM}
    (hok : xokb (xy mi).cls (decide ((xy mi).name = "<init>")) (xmi mi 0) (xb mi) mi pc (23, a, b, d) = true) (hs : xsem 23 a b d mi pc k ls st M = some (.inl q)) (hK : xW B p l e R s m args below meth c mi Q q.1 q.2.1 q.2.2.1 q.2.2.2.1 q.2.2.2.2) : xW B p l e R s m args below meth c mi Q pc k ls st M := by
  obtain ⟨hx, hb, hml, hown, -⟩ := C
  simp only [xsem] at hs
  split at hs
  · simp only [xgo, Option.some.injEq, Sum.inl.injEq] at hs
    subst hs
    intro H locs Ls hR hS hL
    exact lv_dup hx hb (xdc_eq hok) (xr_cat B _) (hK H locs Ls hR hS hL)
  · cases hs
theorem xg24 (C : xCx p R s m meth c mi) {pc : Nat} {k : Nat × Nat} {ls : xL} {st : List xV} {M : xM} {a : Int} {b d : Nat} {q : Nat × (Nat × Nat) × xL × List xV × xM}
    (hok : xokb (xy mi).cls (decide ((xy mi).name = "<init>")) (xmi mi 0) (xb mi) mi pc (24, a, b, d) = true) (hs : xsem 24 a b d mi pc k ls st M = some (.inl q)) (hK : xW B p l e R s m args below meth c mi Q q.1 q.2.1 q.2.2.1 q.2.2.2.1 q.2.2.2.2) : xW B p l e R s m args below meth c mi Q pc k ls st M := by
  obtain ⟨hx, hb, hml, hown, -⟩ := C
  simp only [xsem] at hs
  split at hs
  · simp only [xgo, Option.some.injEq, Sum.inl.injEq] at hs
    subst hs
    intro H locs Ls hR hS hL
    exact lv_pop hx hb (xdc_eq hok) (xr_cat B _) (hK H locs Ls hR hS hL)
  · cases hs
theorem xg25 (C : xCx p R s m meth c mi) {pc : Nat} {k : Nat × Nat} {ls : xL} {st : List xV} {M : xM} {a : Int} {b d : Nat} {q : Nat × (Nat × Nat) × xL × List xV × xM}
    (hok : xokb (xy mi).cls (decide ((xy mi).name = "<init>")) (xmi mi 0) (xb mi) mi pc (25, a, b, d) = true) (hs : xsem 25 a b d mi pc k ls st M = some (.inl q)) (hK : xW B p l e R s m args below meth c mi Q q.1 q.2.1 q.2.2.1 q.2.2.2.1 q.2.2.2.2) : xW B p l e R s m args below meth c mi Q pc k ls st M := by
  obtain ⟨hx, hb, hml, hown, -⟩ := C
  simp only [xsem] at hs
  split at hs
  · simp only [xgo, Option.some.injEq, Sum.inl.injEq] at hs
    subst hs
    intro H locs Ls hR hS hL
    exact lv_dup2_11 hx hb (xdc_eq hok) (xr_cat B _) (xr_cat B _) (hK H locs Ls hR hS hL)
  · cases hs
theorem xsum (B : xB) : ∀ st : List xV, ((st.map (xr B)).map fun v => v.category).sum = st.length
  | [] => rfl
  | v :: t => by
    have := xsum B t
    simp only [List.map_cons, List.sum_cons, xr_cat, List.length_cons]
    rw [this]; omega
theorem xlk0_eq {own : String} {cc : ByteArray} {pc kd i0 : Nat} {y : MethodName} (h : xlk0 own cc pc kd y (xwd i0) = true) : ∃ i, xwd i0 = some (.methodLink own i y) ∧ decode cc pc = .ok (xiv kd i, 3) := by
  unfold xlk0 at h
  split at h
  · rename_i o i z hw
    simp only [Bool.and_eq_true, decide_eq_true_eq] at h
    obtain ⟨rfl, rfl, h⟩ := h
    exact ⟨i, hw, xdc_eq h⟩
  · cases h
theorem xg26 (C : xCx p R s m meth c mi) (E : xE B s s.heap) {pc : Nat} {k : Nat × Nat} {ls : xL} {st : List xV} {M : xM} {a : Int} {b d : Nat} {q : Nat × (Nat × Nat) × xL × List xV × xM}
    (hok : xokb (xy mi).cls (decide ((xy mi).name = "<init>")) (xmi mi 0) (xb mi) mi pc (26, a, b, d) = true) (hs : xsem 26 a b d mi pc k ls st M = some (.inl q)) (hK : xW B p l e R s m args below meth c mi Q q.1 q.2.1 q.2.2.1 q.2.2.2.1 q.2.2.2.2) : xW B p l e R s m args below meth c mi Q pc k ls st M := by
  obtain ⟨hx, hb, hml, hown, -, -, -, hr1, hr2, -⟩ := C
  simp only [xsem] at hs
  split at hs
  · rename_i pp r
    split at hs
    · rename_i hc
      obtain ⟨c1, c2, c3⟩ := hc
      simp only [xgo, Option.some.injEq, Sum.inl.injEq] at hs
      subst hs
      intro H locs Ls hR hS hL
      have hk := hK H locs Ls hR hS hL
      simp only [List.map_cons, xr_ref]
      obtain ⟨i, hw, hd⟩ := xlk0_eq hok
      refine W.objInit hx hb hown (E.2.1.get hw rfl args) (E.2.1.get xw_obi rfl args) (E.2.1.get xw_obc rfl args) rfl (by rw [hml]; exact hL.1) rfl hd (by omega) (by rw [xsum]; show 2 * 0 + _ + _ ≤ _; omega) hk
    · cases hs
  · cases hs
theorem xg31 (C : xCx p R s m meth c mi) (E : xE B s s.heap) {pc : Nat} {k : Nat × Nat} {ls : xL} {st : List xV} {M : xM} {a : Int} {b d : Nat} {q : Nat × (Nat × Nat) × xL × List xV × xM}
    (hok : xokb (xy mi).cls (decide ((xy mi).name = "<init>")) (xmi mi 0) (xb mi) mi pc (31, a, b, d) = true) (hs : xsem 31 a b d mi pc k ls st M = some (.inl q)) (hK : xW B p l e R s m args below meth c mi Q q.1 q.2.1 q.2.2.1 q.2.2.2.1 q.2.2.2.2) : xW B p l e R s m args below meth c mi Q pc k ls st M := by
  obtain ⟨hx, hb, hml, hown, -⟩ := C
  simp only [xsem, xgo, Option.some.injEq, Sum.inl.injEq] at hs
  subst hs
  intro H locs Ls hR hS hL
  have hk := hK H locs Ls hR hS hL
  simp only [List.map_cons, xr_ref] at hk
  simp only [xokb] at hok
  unfold xgs at hok
  split at hok
  · rename_i o i r n d1 hw
    simp only [Bool.and_eq_true, decide_eq_true_eq] at hok
    obtain ⟨rfl, rfl, rfl, rfl, h⟩ := hok
    exact va_gets hx hb E.2.2.2 hS hown (E.2.1.get hw rfl args) (fun _ z => z) (xdc_eq h) hk
  · cases hok
theorem xg32 (C : xCx p R s m meth c mi) {pc : Nat} {k : Nat × Nat} {ls : xL} {st : List xV} {M : xM} {a : Int} {b d : Nat} {q : Nat × (Nat × Nat) × xL × List xV × xM}
    (hok : xokb (xy mi).cls (decide ((xy mi).name = "<init>")) (xmi mi 0) (xb mi) mi pc (32, a, b, d) = true) (hs : xsem 32 a b d mi pc k ls st M = some (.inl q)) (hK : xW B p l e R s m args below meth c mi Q q.1 q.2.1 q.2.2.1 q.2.2.2.1 q.2.2.2.2) : xW B p l e R s m args below meth c mi Q pc k ls st M := by
  obtain ⟨hx, hb, hml, hown, -⟩ := C
  simp only [xsem] at hs
  split at hs
  · rename_i x r
    split at hs
    · rename_i hxk
      simp only [xgo, Option.some.injEq, Sum.inl.injEq] at hs
      subst hs
      intro H locs Ls hR hS hL
      have hk := hK H locs Ls hR hS hL
      simp only [List.map_cons, xr]
      have hd := xdc_eq hok
      have hv := xti hxk
      dsimp only at hk
      split at hk
      · rename_i hc
        exact lv_tableOut (tgt := b) hx hb hd (by rw [hv]; omega) (by omega) hk
      · rename_i hc
        have hlt : (x - a).toNat < (xsw mi pc).length := by omega
        refine lv_tableIn (tgt := xnth (xsw mi pc) (x - a).toNat 0) (off := ((xnth (xsw mi pc) (x - a).toNat 0 : Nat) : Int) - pc) hx hb hd (by rw [hv]; omega) (by rw [hv]; omega) ?_ (by omega) hk
        rw [hv, xnth_get]
        simp [hlt]
    · cases hs
  · cases hs
theorem xg33 (C : xCx p R s m meth c mi) (E : xE B s s.heap) {pc : Nat} {k : Nat × Nat} {ls : xL} {st : List xV} {M : xM} {a : Int} {b d : Nat} {q : Nat × (Nat × Nat) × xL × List xV × xM} (hkc : k.1 ≤ xmi mi 7 ∧ k.2 ≤ xmi mi 8)
    (hok : xokb (xy mi).cls (decide ((xy mi).name = "<init>")) (xmi mi 0) (xb mi) mi pc (33, a, b, d) = true) (hs : xsem 33 a b d mi pc k ls st M = some (.inl q)) (hK : xW B p l e R s m args below meth c mi Q q.1 q.2.1 q.2.2.1 q.2.2.2.1 q.2.2.2.2) : xW B p l e R s m args below meth c mi Q pc k ls st M := by
  obtain ⟨hx, hb, hml, hown, -, -, -, hr1, hr2, hr3, hr4⟩ := C
  simp only [xsem] at hs
  split at hs
  · rename_i y x r
    split at hs
    · rename_i hc
      obtain ⟨kx, ky, c1, c2, c3⟩ := hc
      simp only [xgo, Option.some.injEq, Sum.inl.injEq] at hs
      subst hs
      intro H locs Ls hR hS hL
      have hk := hK H locs Ls hR hS hL
      simp only [List.map_cons, xr] at hk ⊢
      obtain ⟨i, hw, hd⟩ := xlk0_eq hok
      refine va_mmin hx hb (by rw [hml]; exact hL.1.symm) hown (E.2.1.get hw rfl args) (E.2.1.get xw_mis rfl args) (E.2.1.get xw_mai rfl args) (E.2.1.get xw_mic rfl args) (by omega) (by rw [xsum]; omega) (by omega) (by omega) hd ?_
      by_cases h : y < x
      · rw [if_pos h] at hk; rw [if_pos ((xi_lt ky kx).mpr h)]; exact hk
      · rw [if_neg h] at hk; rw [if_neg (fun z => h ((xi_lt ky kx).mp z))]; exact hk
    · cases hs
  · cases hs
theorem xg34 (C : xCx p R s m meth c mi) (E : xE B s s.heap) {pc : Nat} {k : Nat × Nat} {ls : xL} {st : List xV} {M : xM} {a : Int} {b d : Nat} {q : Nat × (Nat × Nat) × xL × List xV × xM} (hkc : k.1 ≤ xmi mi 7 ∧ k.2 ≤ xmi mi 8)
    (hok : xokb (xy mi).cls (decide ((xy mi).name = "<init>")) (xmi mi 0) (xb mi) mi pc (34, a, b, d) = true) (hs : xsem 34 a b d mi pc k ls st M = some (.inl q)) (hK : xW B p l e R s m args below meth c mi Q q.1 q.2.1 q.2.2.1 q.2.2.2.1 q.2.2.2.2) : xW B p l e R s m args below meth c mi Q pc k ls st M := by
  obtain ⟨hx, hb, hml, hown, -, -, -, hr1, hr2, hr3, hr4⟩ := C
  simp only [xsem] at hs
  split at hs
  · rename_i y x r
    split at hs
    · rename_i hc
      obtain ⟨kx, ky, c1, c2, c3⟩ := hc
      simp only [xgo, Option.some.injEq, Sum.inl.injEq] at hs
      subst hs
      intro H locs Ls hR hS hL
      have hk := hK H locs Ls hR hS hL
      simp only [List.map_cons, xr] at hk ⊢
      obtain ⟨i, hw, hd⟩ := xlk0_eq hok
      refine va_mmax hx hb (by rw [hml]; exact hL.1.symm) hown (E.2.1.get hw rfl args) (E.2.1.get xw_mas rfl args) (E.2.1.get xw_mai rfl args) (E.2.1.get xw_mac rfl args) (by omega) (by rw [xsum]; omega) (by omega) (by omega) hd ?_
      by_cases h : x < y
      · rw [if_pos h] at hk; rw [if_pos ((xi_lt kx ky).mpr h)]; exact hk
      · rw [if_neg h] at hk; rw [if_neg (fun z => h ((xi_lt kx ky).mp z))]; exact hk
    · cases hs
  · cases hs
end XSG
