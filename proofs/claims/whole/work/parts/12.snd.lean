/-! ===== all instructions; calls; a pure run is a run of the machine ===== -/
theorem xsem_k {t : Nat} {a : Int} {b c mi pc : Nat} {k : Nat × Nat} {ls : xL} {st : List xV} {M : xM} {q : Nat × (Nat × Nat) × xL × List xV × xM} (h : xsem t a b c mi pc k ls st M = some (.inl q)) (hk : k.1 ≤ xmi mi 7 ∧ k.2 ≤ xmi mi 8) : q.2.1.1 ≤ xmi mi 7 ∧ q.2.1.2 ≤ xmi mi 8 := by
  unfold xsem at h
  split at h
  all_goals (repeat' split at h)
  all_goals first
    | (cases h; done)
    | (simp only [xgo, Option.some.injEq, Sum.inl.injEq] at h; subst h; first | exact hk | (refine ⟨?_, ?_⟩ <;> dsimp only <;> omega))
section XSI
variable {p : Program} {l : Launch} {e : Env} {R : Room} {s : State} {m : MethodId} {args : Array Value} {below : List Frame} {meth : Method} {c : Code} {Q : State → Prop} {B : xB} {mi : Nat}
theorem xgo_all (C : xCx p R s m meth c mi) (E : xE B s s.heap) {pc : Nat} {k : Nat × Nat} {ls : xL} {st : List xV} {M : xM} {q : Nat × (Nat × Nat) × xL × List xV × xM} (hkc : k.1 ≤ xmi mi 7 ∧ k.2 ≤ xmi mi 8)
    (hs : xstep mi pc k ls st M = some (.inl q)) (hK : xW B p l e R s m args below meth c mi Q q.1 q.2.1 q.2.2.1 q.2.2.2.1 q.2.2.2.2) : xW B p l e R s m args below meth c mi Q pc k ls st M := by
  have hok := xins_ok mi pc
  unfold xstep at hs
  generalize xins mi pc = i at hs hok
  obtain ⟨t, a, b, d⟩ := i
  dsimp only at hs
  match t, hs, hok with
  | 0, hs, _ => simp [xsem] at hs
  | 1, hs, hok => exact xg1 C E hok hs hK
  | 2, hs, hok => exact xg2 C hok hs hK
  | 3, hs, hok => exact xg3 C hok hs hK
  | 4, hs, hok => exact xg4 C hok hs hK
  | 5, hs, hok => exact xg5 C hok hs hK
  | 6, hs, hok => exact xg6 C hok hs hK
  | 7, hs, hok => exact xg7 C hok hs hK
  | 8, hs, hok => exact xg8 C hok hs hK
  | 9, hs, hok => exact xg9 C hok hs hK
  | 10, hs, hok => exact xg10 C hok hs hK
  | 11, hs, hok => exact xg11 C hok hs hK
  | 12, hs, hok => exact xg12 C E hok hs hK
  | 13, hs, hok => exact xg13 C E hok hs hK
  | 14, hs, hok => exact xg14 C E hok hs hK
  | 15, hs, hok => exact xg15 C E hok hs hK
  | 16, hs, hok => exact xg16 C E hok hs hK
  | 17, hs, hok => exact xg17 C E hok hs hK
  | 18, hs, hok => exact xg18 C E hok hs hK
  | 19, hs, hok => exact xg19 C E hok hs hK
  | 20, hs, hok => exact xg20 C E hok hs hK
  | 21, hs, hok => exact xg21 C E hok hs hK
  | 22, hs, hok => exact xg22 C E hok hs hK
  | 23, hs, hok => exact xg23 C hok hs hK
  | 24, hs, hok => exact xg24 C hok hs hK
  | 25, hs, hok => exact xg25 C hok hs hK
  | 26, hs, hok => exact xg26 C E hok hs hK
  | 27, hs, hok => exact xg27 C E hok hs hK
  | 28, hs, _ =>
    exfalso
    simp only [xsem] at hs
    repeat' split at hs
    all_goals cases hs
  | 29, hs, _ =>
    exfalso
    simp only [xsem] at hs
    repeat' split at hs
    all_goals cases hs
  | 30, hs, _ =>
    exfalso
    simp only [xsem] at hs
    repeat' split at hs
    all_goals cases hs
  | 31, hs, hok => exact xg31 C E hok hs hK
  | 32, hs, hok => exact xg32 C hok hs hK
  | 33, hs, hok => exact xg33 C E hkc hok hs hK
  | 34, hs, hok => exact xg34 C E hkc hok hs hK
  | n + 35, hs, _ => simp [xsem] at hs
def xQc (B : xB) (v : List xV) (M : xM) : Array Value → State → Outcome → State → Prop := match v with
  | [.inl x] => va_Qi (fun (r : Int32) (_ : Unit) => r = Int32.ofInt x) (fun _ t => xR B t M t.heap) (xA B)
  | _ => va_Qv (fun (_ : Unit) => True) (fun _ t => xR B t M t.heap) (xA B)
theorem xret_all (C : xCx p R s m meth c mi) {pc : Nat} {k : Nat × Nat} {ls : xL} {st : List xV} {M : xM} {v : List xV} (hkc : k.1 ≤ xmi mi 7 ∧ k.2 ≤ xmi mi 8)
    (hs : xstep mi pc k ls st M = some (.inr (.inr v))) : xW B p l e R s m args below meth c mi (MQ below (xQc B v M) args s (xmi mi 7) (xmi mi 8) (xA B)) pc k ls st M := by
  obtain ⟨hx, hb, hml, hown, hlocks, hr, -⟩ := C
  have hok := xins_ok mi pc
  unfold xstep at hs
  generalize xins mi pc = i at hs hok
  obtain ⟨t, a, b, d⟩ := i
  dsimp only at hs
  have ht : t = 29 ∨ t = 30 := by
    apply Classical.byContradiction
    intro hn
    unfold xsem at hs
    split at hs
    all_goals first
      | (exact hn (Or.inl rfl))
      | (exact hn (Or.inr rfl))
      | ((repeat' split at hs) <;> cases hs)
  rcases ht with rfl | rfl
  · simp only [xsem] at hs
    split at hs
    · rename_i x
      split at hs
      · rename_i hc
        simp only [Option.some.injEq, Sum.inr.injEq] at hs
        subst hs
        intro H locs Ls hR hS hL
        refine W.widen hkc.1 hkc.2 ?_
        have hd := xdc_eq hok
        have hq : ∀ t : State, t.heap = H → s.WarmedH t.vm → xQc B [.inl x] M args s (.returned (some (.int (Int32.ofInt x)))) t := fun t ht hW => ⟨⟨_, (), rfl, rfl, show xR B t M t.heap by rw [ht]; exact hR.moved hW.alike⟩, hS.F ht⟩
        rcases hc with hc | ⟨hc, hx2⟩
        · exact W.iret hx hb (by rw [hr]; unfold xret; simp only [hc]) hq hS.2.2 hd
        · exact W.zret (ty := .boolean) hx hb (by rw [hr]; unfold xret; simp only [hc]) (by rcases hx2 with rfl | rfl <;> decide) hq hS.2.2 hd
      · cases hs
    · cases hs
  · simp only [xsem] at hs
    split at hs
    · split at hs
      · rename_i hc
        simp only [Option.some.injEq, Sum.inr.injEq] at hs
        subst hs
        intro H locs Ls hR hS hL
        refine W.widen hkc.1 hkc.2 ?_
        have hd := xdc_eq hok
        exact W.vret hx hb (by rw [hr]; unfold xret; simp only [hc]) (fun t ht hW => ⟨⟨(), rfl, trivial, show xR B t M t.heap by rw [ht]; exact hR.moved hW.alike⟩, hS.F ht⟩) hS.2.2 hd
      · cases hs
    · cases hs
def xrm (j : Nat) : Room := { frames := xmi j 5, cells := xmi j 7, slots := xmi j 8, locals := xmi j 6 }
def xcw (j : Nat) : List Jvm.Cond := [.code (xy j) (xb j) (xmi j 0) (xret j)]
def xPc (B : xB) (as : List xV) (M : xM) : Array Value → State → Prop := va_Pc (as.map (xr B)) (fun U => xE B U U.heap ∧ xR B U M U.heap)
def xMet (B : xB) (l : Launch) (j : Nat) (as : List xV) (M : xM) (v : List xV) (M' : xM) : Prop := Met l (xy j) (xcw j) (xrm j) (xPc B as M) (xQc B v M') (xmi j 7) (xmi j 8) (xA B)
theorem xPc_blind {as : List xV} {M : xM} : FrameBlind (xPc B as M) := by
  intro a U g mk h
  obtain ⟨h1, ⟨hK, hT, hz, hZ⟩, hR⟩ := h
  exact ⟨h1, ⟨va_K.moved (u := U) (U := U.calling g mk a) (Vm.Alike.refl U.vm) hK, xTB.warm (s := U) (U := U.calling g mk a) (State.WarmedH.refl U) hT, hz, va_Z.moved (u := U) (U := U.calling g mk a) (Vm.Alike.refl U.vm) hZ⟩, xR.moved (u := U) (U := U.calling g mk a) (Vm.Alike.refl U.vm) hR⟩
theorem xE.at {H : Heap} {locs : List Loc} {M : xM} (E : xE B s s.heap) (hR : xR B s M H) (hS : va_S (xA B) s.heap H locs) {as : List xV} {U : State} (hU : U.heap = H) (hW : s.WarmedH U.vm) : xPc B as M (as.map (xr B)).toArray U := by
  obtain ⟨hK, hT, hz, hZ⟩ := E
  subst hU
  refine ⟨rfl, ⟨va_K.moved hW.alike hK, hT.warm hW, by rw [hR.2.1]; omega, ?_⟩, hR.moved hW.alike⟩
  exact va_Z.moved hW.alike (hZ.kept (fun a h1 h2 => hS.2.1 a h1 h2))
theorem xcw_good {j : Nat} (hj : j < 128) (h14 : j ≠ 14) (h47 : j ≠ 47) : GoodIn xwl (xcw j) := by
  intro w hw
  have hw' : w = .code (xy j) (xb j) (xmi j 0) (xret j) := by simpa [xcw] using hw
  subst hw'
  exact ⟨List.mem_filter.mpr ⟨xwd_mem (xmco j hj h14 h47), rfl⟩, Or.inl rfl⟩
theorem xlk_eq {own : String} {cc : ByteArray} {pc kd i0 : Nat} {y : MethodName} (h : xlk own cc pc kd y (xwd i0) = true) : ∃ i, decode cc pc = .ok (xiv kd i, 3) ∧ (xwd i0 = some (.methodLink own i y) ∨ ∃ h, xwd i0 = some (.methodLinkNest own i y h)) := by
  unfold xlk at h
  split at h
  · rename_i o i z hw
    simp only [Bool.and_eq_true, decide_eq_true_eq] at h
    obtain ⟨rfl, rfl, h⟩ := h
    exact ⟨i, xdc_eq h, Or.inl hw⟩
  · rename_i o i z hh hw
    simp only [Bool.and_eq_true, decide_eq_true_eq] at h
    obtain ⟨rfl, rfl, h⟩ := h
    exact ⟨i, xdc_eq h, Or.inr ⟨hh, hw⟩⟩
  · cases h
theorem xcall_all (C : xCx p R s m meth c mi) (E : xE B s s.heap) {pc : Nat} {k : Nat × Nat} {ls : xL} {st : List xV} {M M' : xM} {j : Nat} {as r v : List xV}
    (hs : xstep mi pc k ls st M = some (.inr (.inl (j, as, r)))) (hM : j < 128 → j ≠ 14 → j ≠ 47 → as.length = xmi j 2 → xMet B l j as M v M') (hv : v = [] ∨ ∃ x, v = [.inl x])
    (hK : xW B p l e R s m args below meth c mi Q (pc + 3) (k.1 + xmi j 7, k.2 + xmi j 8) ls (v ++ r) M') : xW B p l e R s m args below meth c mi Q pc k ls st M := by
  obtain ⟨hx, hb, hml, hown, -, -, -, hr1, hr2, hr3, hr4⟩ := C
  have hok := xins_ok mi pc
  unfold xstep at hs
  generalize xins mi pc = i at hs hok
  obtain ⟨t, a, b, d⟩ := i
  dsimp only at hs
  have ht : t = 28 := by
    apply Classical.byContradiction
    intro hn
    unfold xsem at hs
    split at hs
    all_goals first
      | (exact hn rfl)
      | ((repeat' split at hs) <;> cases hs)
  subst ht
  simp only [xsem] at hs
  split at hs
  · rename_i hc
    obtain ⟨c1, c2, c3, c4, c5, c6⟩ := hc
    simp only [xokb, Bool.and_eq_true, decide_eq_true_eq] at hok
    obtain ⟨⟨hb1, hb2, hb3⟩, hdn, hlk⟩ := hok
    obtain ⟨i, hd, hlink⟩ := xlk_eq hlk
    have hmok := xmok b hb1
    simp only [xmokb, Bool.or_eq_true, Bool.and_eq_true, decide_eq_true_eq, beq_iff_eq] at hmok
    have hmok := (hmok.resolve_left hb2).resolve_left hb3
    obtain ⟨m1, m2, m3, m4, m5, m6, m7, m8⟩ := hmok
    have hE1 := E.2.1.get m1 rfl args
    -- what all three kinds share
    have hlenr : (st.drop d).length ≤ 8 := by rw [List.length_drop]; omega
    have hsplit : st = (st.take d).reverse.reverse ++ st.drop d := by rw [List.reverse_reverse, List.take_append_drop]
    have hlen : (st.take d).reverse.length = xmi b 2 := by rw [List.length_reverse, List.length_take, ← hdn]; omega
    have fin' : ∀ {H : Heap} {locs : List Loc} {Ls : Array Slot} {st0 : List Value} {rr : List xV} {Aa : Array Value}, j = b → r = rr → xR B s M H → va_S (xA B) s.heap H locs → xlh B Ls (xmi mi 0) ls →
        va_Run p l e R s m args below meth c H locs k.1 k.2 (xmi b 7) (xmi b 8) (F0 m pc Ls st0) (rr.map (xr B)) (xQc B v M' Aa) (xA B) → W p l e R s m args below meth c H locs k.1 k.2 Q (F0 m pc Ls st0) := fun {H locs Ls st0 rr Aa} hj hrr hR hS hL hrun => by
      subst hj
      subst hrr
      rcases hv with rfl | ⟨x, rfl⟩
      · refine va_callv (a := Aa) hrun hS (fun _ _ z => z) (fun _ z => z) (fun u t H1 locs1 ht hvm hw hB hz1 hk1 hS1 => ?_)
        have hR1 : xR B s M' H1 := by rw [← ht]; exact hB.moved hvm.symm
        exact hK H1 locs1 Ls hR1 hS1 hL
      · refine va_calli (a := Aa) hrun hS (fun _ _ z => z) (fun _ z => z) (fun r0 u t H1 locs1 ht hvm hw hB hz1 hk1 hS1 => ?_)
        have hR1 : xR B s M' H1 := by rw [← ht]; exact hB.moved hvm.symm
        have hk2 := hK H1 locs1 Ls hR1 hS1 hL
        rw [hw]
        exact hk2
    have hroom : (xrm b).frames + 1 ≤ R.frames ∧ 8 + (xmi b 0 + 11) + (xrm b).locals ≤ R.locals := ⟨by show xmi b 5 + 1 ≤ _; omega, by show 8 + (xmi b 0 + 11) + xmi b 6 ≤ _; omega⟩
    have hcells : k.1 + xmi b 7 ≤ R.cells ∧ k.2 + xmi b 8 ≤ R.slots := ⟨by omega, by omega⟩
    split at hs
    · -- static
      rename_i heq
      simp only [Option.some.injEq, Sum.inr.injEq, Sum.inl.injEq, Prod.mk.injEq] at hs
      obtain ⟨rfl, rfl, rfl⟩ := hs
      rw [heq] at m2 hd m6
      try dsimp only at m2
      simp only [decide_eq_true_eq] at m2
      intro H locs Ls hR hS hL
      have hdesc : (xy b).cls ≠ "java/lang/invoke/MethodHandle" ∧ (xy b).cls ≠ "java/lang/invoke/VarHandle" ∧ (parseMethodDescriptor (xy b).desc).map (fun d => d.parameters.length) = some (xmi b 2) := ⟨m4, m5, by rw [m6, if_pos rfl]⟩
      have hpre : PreS s H (xPc B (st.take d).reverse M) ((st.take d).reverse.map (xr B)) := ⟨xPc_blind, fun U hU hW => E.at hR hS hU hW⟩
      have hstk : (st.map (xr B)) = ((st.take d).reverse.map (xr B)).reverse ++ (st.drop d).map (xr B) := by rw [← List.map_reverse, ← List.map_append, ← hsplit]
      have hMet := hM hb1 hb2 hb3 hlen
      refine fin' (Aa := ((st.take d).reverse.map (xr B)).toArray) rfl rfl hR hS hL ?_
      rcases hlink with hlk | ⟨hh, hlk⟩
      · exact va_runS (Ts := xwl) ⟨hx, hb, hml, hown, E.2.1.ws args⟩ hMet ⟨callB_of (xmi b 2) (E.2.1.ws args) (xcw_good hb1 hb2 hb3) rfl rfl rfl hE1 (E.2.1.get hlk rfl args) hdesc hroom, E.2.1.get m2 rfl args⟩ hpre rfl (by rw [List.length_map]; exact hlen) hL.1 hstk (lv_room (by rw [xsum]; exact hlenr)) hd hcells
      · exact va_runSN (Ts := xwl) ⟨hx, hb, hml, hown, E.2.1.ws args⟩ hMet ⟨va_cnB (xmi b 2) (E.2.1.ws args) (xcw_good hb1 hb2 hb3) rfl rfl rfl (E.2.1.get hlk rfl #[]) hE1 hdesc hroom, E.2.1.get m2 rfl args, trivial⟩ hpre rfl (by rw [List.length_map]; exact hlen) hL.1 hstk (lv_room (by rw [xsum]; exact hlenr)) hd hcells
    · -- virtual
      rename_i pp as' heq hrev
      split at hs
      · rename_i hkd
        simp only [Option.some.injEq, Sum.inr.injEq, Sum.inl.injEq, Prod.mk.injEq] at hs
        obtain ⟨rfl, rfl, rfl⟩ := hs
        rw [heq] at m2 hd m6
        try dsimp only at m2
        simp only [Bool.and_eq_true, decide_eq_true_eq] at m2
        obtain ⟨m2, ms, mcn, mc8⟩ := m2
        intro H locs Ls hR hS hL
        rw [hrev] at hlen hsplit
        have hlow := hR.low hkd (by omega) (by omega)
        have hl1 : as'.length = xmi b 2 - 1 := by rw [List.length_cons] at hlen; omega
        have hdesc : (xy b).cls ≠ "java/lang/invoke/MethodHandle" ∧ (xy b).cls ≠ "java/lang/invoke/VarHandle" ∧ (parseMethodDescriptor (xy b).desc).map (fun d => d.parameters.length) = some (xmi b 2 - 1) := ⟨m4, m5, by rw [m6, if_neg (by omega)]⟩
        have he := xws_at (B := B) hlow
        rw [xce_obj hkd] at he
        have hrec := va_recv E.1 hR.2.2.1 (xcl_at _ mc8) he
        dsimp only at hrec
        rw [mcn] at hrec
        have hpre : PreV s H (xy b).cls (xad B pp) (xPc B (.inr pp :: as') M) (as'.map (xr B)) := ⟨xPc_blind, hrec, fun U hU hW => by
          have := E.at (as := .inr pp :: as') hR hS hU hW
          rw [List.map_cons, xr_pos (by omega)] at this
          exact this⟩
        have hstk : (st.map (xr B)) = (as'.map (xr B)).reverse ++ .ref (xad B pp) :: (st.drop d).map (xr B) := by
          conv => lhs; rw [hsplit]
          rw [List.reverse_cons, List.append_assoc, List.map_append, List.map_append, List.map_reverse, List.map_cons, xr_pos (by omega)]
          rfl
        have hMet := hM hb1 hb2 hb3 hlen
        refine fin' (Aa := (Value.ref (xad B pp) :: as'.map (xr B)).toArray) rfl rfl hR hS hL ?_
        rcases hlink with hlk | ⟨hh, hlk⟩
        · exact va_runV (Ts := xwl) ⟨hx, hb, hml, hown, E.2.1.ws args⟩ hMet ⟨callB_of (xmi b 2 - 1) (E.2.1.ws args) (xcw_good hb1 hb2 hb3) rfl rfl rfl hE1 (E.2.1.get hlk rfl args) hdesc hroom, E.2.1.get m2 rfl args, E.2.1.get ms rfl args⟩ hpre rfl (by rw [List.length_map]; exact hl1) hL.1 hstk (lv_room (by rw [xsum]; exact hlenr)) hd hcells
        · exact va_runVN (Ts := xwl) ⟨hx, hb, hml, hown, E.2.1.ws args⟩ hMet ⟨va_cnB (xmi b 2 - 1) (E.2.1.ws args) (xcw_good hb1 hb2 hb3) rfl rfl rfl (E.2.1.get hlk rfl #[]) hE1 hdesc hroom, E.2.1.get m2 rfl args, E.2.1.get ms rfl args⟩ hpre rfl (by rw [List.length_map]; exact hl1) hL.1 hstk (lv_room (by rw [xsum]; exact hlenr)) hd hcells
      · cases hs
    · -- a constructor
      rename_i pp as' heq hrev
      simp only [Option.some.injEq, Sum.inr.injEq, Sum.inl.injEq, Prod.mk.injEq] at hs
      obtain ⟨rfl, rfl, rfl⟩ := hs
      rw [heq] at m2 hd m6
      try dsimp only at m2
      simp only [Bool.and_eq_true, decide_eq_true_eq] at m2
      obtain ⟨m2, mnm, mrt⟩ := m2
      intro H locs Ls hR hS hL
      rw [hrev] at hlen hsplit
      have hl1 : as'.length = xmi b 2 - 1 := by rw [List.length_cons] at hlen; omega
      have hdesc : (xy b).cls ≠ "java/lang/invoke/MethodHandle" ∧ (xy b).cls ≠ "java/lang/invoke/VarHandle" ∧ (parseMethodDescriptor (xy b).desc).map (fun d => d.parameters.length) = some (xmi b 2 - 1) := ⟨m4, m5, by rw [m6, if_neg (by omega)]⟩
      have hpre : PreS s H (xPc B (.inr (pp + 1) :: as') M) (.ref (xad B (pp + 1)) :: as'.map (xr B)) := ⟨xPc_blind, fun U hU hW => by
        have := E.at (as := .inr (pp + 1) :: as') hR hS hU hW
        rw [List.map_cons, xr_ref] at this
        exact this⟩
      have hstk : (st.map (xr B)) = (as'.map (xr B)).reverse ++ .ref (xad B (pp + 1)) :: (st.drop d).map (xr B) := by
        conv => lhs; rw [hsplit]
        rw [List.reverse_cons, List.append_assoc, List.map_append, List.map_append, List.map_reverse, List.map_cons, xr_ref]
        rfl
      have hMet := hM hb1 hb2 hb3 hlen
      have hcw : xcw b = [.code (xy b) (xb b) (xmi b 0) none] := by unfold xcw xret; simp only [mrt]
      refine fin' (Aa := (Value.ref (xad B (pp + 1)) :: as'.map (xr B)).toArray) rfl rfl hR hS hL ?_
      rcases hlink with hlk | ⟨hh, hlk⟩
      · exact va_runI (Ts := xwl) ⟨hx, hb, hml, hown, E.2.1.ws args⟩ hMet ⟨callB_of (xmi b 2 - 1) (E.2.1.ws args) (xcw_good hb1 hb2 hb3) hcw rfl rfl hE1 (E.2.1.get hlk rfl args) hdesc hroom, mnm, E.2.1.get m2 rfl args⟩ hpre rfl (by rw [List.length_map]; exact hl1) hL.1 hstk (lv_room (by rw [xsum]; exact hlenr)) hd hcells
      · exact va_runIN (Ts := xwl) ⟨hx, hb, hml, hown, E.2.1.ws args⟩ hMet ⟨va_cnB (xmi b 2 - 1) (E.2.1.ws args) (xcw_good hb1 hb2 hb3) hcw rfl rfl (E.2.1.get hlk rfl #[]) hE1 hdesc hroom, mnm, E.2.1.get m2 rfl args⟩ hpre rfl (by rw [List.length_map]; exact hl1) hL.1 hstk (lv_room (by rw [xsum]; exact hlenr)) hd hcells
    · cases hs
  · cases hs
end XSI
