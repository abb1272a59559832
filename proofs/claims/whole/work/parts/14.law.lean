/-! THE CLAIM OUT OF ONE WALK OF THE LAW'S BODY. Your part is whole_start (and what it stands on); all else here is the same for every law, but numbers. -/
def R_law : String := "ReedBenchLaw"
def lw_P (b : Addr) (xs : List Int32) (args : Array Value) (s : State) : Prop := args = #[.ref b] ∧ s.IntsAt b xs ∧ xs.length ≤ 2560 ∧ (Jvm.Cond.and given_1 narrow_1).before args s = true
def lw_Q (_ : Array Value) (s : State) (o : Outcome) (t : State) : Prop := o = .returned (some (.int 1)) ∧ Framed s o t [] 600000 7302250
def lw_Z (below : List Frame) (a : Array Value) (s : State) : State → Prop := fun t => ∃ o, t.status = .running ∧ Ended t below o ∧ lw_Q a s o t
/-- the law's own end, with 1 on the stack, nothing written that was there before, its room as the claim has it -/
theorem lw_ret {p : Program} {l : Launch} {e : Env} {s : State} {m : MethodId} {below : List Frame} {meth : Method} {c : Code} {b : Nat} (hx : p.tables.exec = Jvm.exec) (hb : c.code = code) (hr : meth.sig.returnType = ret) (hlocks : meth.locks = false) {pc : Nat} {H : Heap} {ls : Array Slot} (hdg : decode code pc = .ok (.ireturn, 1)) : W p l e room_1 s m #[Value.ref b] below meth c H [] 600000 7302250 (lw_Z below #[Value.ref b] s) (F0 m pc ls [.int 1]) := by
  intro T hT X
  obtain ⟨fs, hret, hrun, hended, hW, hframe⟩ := X.leave (v := some (.int 1)) (hlocks := hlocks) (fun h => by rw [hr] at h; cases h)
  have hmeth' : T.vm.method? m = some meth := X.method'
  refine ⟨T.setFrames fs, ?_, .returned (some (.int 1)), hrun, hended, rfl, ⟨_, rfl⟩, hW, hframe⟩
  jvm_step X.here [X.here.top, hx, hb, hdg, hmeth', hr, ret, narrow_b1]
  (try refine ⟨rfl, ?_⟩); (try refine ⟨rfl, ?_⟩)
  first | (intro acts; rw [hret _ acts rfl rfl rfl]) | rw [hret _ _ rfl rfl rfl]
  exact Steps.refl _
/-- what holds at the law's entry: the machine, the code, the tables' words (any of lw_tbl by 'hts w (by decide +kernel)'), the script of L ints xs at the cell b, what the Statement gives of the start (any of its parts by flat_of_before) -/
def lw_At (p : Program) (s : State) (m : MethodId) (meth : Method) (c : Code) (b L : Nat) (xs : Nat → Int32) : Prop :=
  p.tables.exec = Jvm.exec ∧ c.code = code ∧ meth.sig.returnType = ret ∧ c.maxLocals = 4 ∧ s.vm.findClass R_law = some m.cls ∧ (∀ w ∈ lw_tbl, w.before #[Value.ref b] s = true) ∧ va_X b L xs s s.heap ∧ b < s.heap.size ∧ meth.locks = false ∧ (Jvm.Cond.and given_1 narrow_1).before #[Value.ref b] s = true
/-! ===== the law's start in the pure machine ===== -/
def xkeys : List Int := [0, 200, 400, 500, 700, 900, 1100, 1200, 0, 204, 386, 498, 702, 884, 1088, 1200, 0, 0, 400, 400, 700, 700, 1200, 1200]
def xM0 (L : Nat) (f : Nat → Int) : xM := ([(0, 0, fun _ => 0), (5, L, fun _ => 0), (5, 24, fun _ => 0)], fun a i => if a = 1 then f i else if a = 2 then xnth xkeys i 0 else 0)
theorem xret_1 {mi pc : Nat} {k : Nat × Nat} {ls : xL} {st : List xV} {M : xM} {x : Int} (hs : xstep mi pc k ls st M = some (.inr (.inr [.inl x]))) : st = [.inl x] ∧ decode (xb mi) pc = .ok (.ireturn, 1) := by
  have hok := xins_ok mi pc
  unfold xstep at hs
  generalize xins mi pc = i at hs hok
  obtain ⟨t, a, b, d⟩ := i
  dsimp only at hs
  have ht : t = 29 := by
    apply Classical.byContradiction
    intro hn
    unfold xsem at hs
    split at hs
    all_goals first
      | (exact hn rfl)
      | ((repeat' split at hs) <;> cases hs)
  subst ht
  simp only [xsem] at hs
  split at hs
  · split at hs
    · cases hs
      exact ⟨rfl, xdc_eq hok⟩
    · cases hs
  · cases hs
theorem xword {s : State} {A : Array Value} (hts : ∀ w ∈ lw_tbl, w.before A s = true) : xTB s := by
  intro w hw hk A'
  have h0 := hts w hw
  rcases xkp_cases hk with g | ⟨a, i, b, n, d, e, rfl⟩ | ⟨a, i, x, e, rfl⟩ | ⟨t, rfl⟩
  · exact word_at (State.WarmedH.refl s) (good_of_word g) h0
  · exact va_tabs rfl rfl h0
  · exact va_tabs rfl rfl h0
  · exact h0
set_option maxRecDepth 100000 in
theorem xlays : Jvm.Cond.laysStatic "ReedBench" "ABOVE_KEY" "[I" ∈ lw_tbl := List.mem_of_getElem? (i := 343) rfl
set_option maxRecDepth 100000 in
theorem xkinit : Jvm.Cond.initialized "ReedBench" ∈ lw_tbl := List.mem_of_getElem? (i := 67) rfl
theorem xkey_all : (List.range 24).all (fun j => decide (Jvm.Cond.eq (Jvm.Term.elem (Jvm.Term.static "ReedBench" "ABOVE_KEY" "[I") (Jvm.Term.int (Int32.ofNat j))) (Jvm.Term.int (Int32.ofInt (xnth xkeys j 0))) ∈ flatC (Jvm.Cond.and given_1 narrow_1))) = true := by decide +kernel
theorem xkey_arr : Jvm.Cond.arrayOf (Jvm.Term.static "ReedBench" "ABOVE_KEY" "[I") .int ∈ flatC (Jvm.Cond.and given_1 narrow_1) := by decide +kernel
theorem xkey_len : Jvm.Cond.eq (Jvm.Term.length (Jvm.Term.static "ReedBench" "ABOVE_KEY" "[I")) (Jvm.Term.int (Int32.ofNat 24)) ∈ flatC (Jvm.Cond.and given_1 narrow_1) := by decide +kernel
set_option maxHeartbeats 1000000 in
theorem xlaw_W {p : Program} {e : Env} {s : State} {m : MethodId} {below : List Frame} {meth : Method} {c : Code} (l : Launch) {b L : Nat} {xs : Nat → Int32} (hL : L ≤ 2560) (C0 : lw_At p s m meth c b L xs)
    (hrun : ∃ n M', xrun n 128 0 (0, 0) (xloc 128 [.inr 1]) [] (xM0 L (fun j => (xs j).toInt)) = some ([.inl 1], M')) :
    W p l e room_1 s m #[Value.ref b] below meth c s.heap [] 0 0 (lw_Z below #[Value.ref b] s) (entryFrame m ([Value.ref b] : List Value).toArray 4) := by
  obtain ⟨hx, hb, hr, hml, hown, hts, hX, hbl, hlocks, hgv⟩ := C0
  have hT : xTB s := xword hts
  have hfl := flat_of_before _ hgv
  have hAn : ∀ a : Nat, a < s.heap.size → ¬ (fun q : Nat => s.heap.size ≤ q) a := fun a h => Nat.not_le.mpr h
  obtain ⟨ky, hky, hkT⟩ := va_Tof (N := 24) (f := fun j => .int (Int32.ofInt (xnth xkeys j 0))) (A := fun q : Nat => s.heap.size ≤ q) (by decide) (hfl _ xkey_arr) (va_eqt (hfl _ xkey_len)) (fun j hj => va_eqt (hfl _ (of_decide_eq_true (List.all_eq_true.mp xkey_all j (List.mem_range.mpr hj))))) hAn
  have hZ := va_Zof (A := fun q : Nat => s.heap.size ≤ q) (hts _ xlays) (hts _ xkinit) hky hAn
  -- the classes
  have hcls : ∀ k : Nat, ∃ (cC : ClassId) (iS : Nat → Nat), k < 8 → u_Kn s (xCn k) (xT k) (xN k) cC iS := fun k => by
    by_cases hk : k < 8
    · obtain ⟨cC, iS, h⟩ := u_known (C := xCn k) (T := xT k) (N := xN k) (hT.ws #[]) (xus_at k hk) (hT.get (xiw_at hk).1 rfl #[])
      exact ⟨cC, iS, fun _ => h⟩
    · exact ⟨0, fun _ => 0, fun h => absurd h hk⟩
  obtain ⟨dC, hdC⟩ := Classical.axiomOfChoice hcls
  obtain ⟨dI, hdI⟩ := Classical.axiomOfChoice hdC
  -- the array classes
  obtain ⟨cI, kI, compI, fI, gI, hI⟩ := Cond.arrayClass_spec (hT.get xw_int rfl #[])
  obtain ⟨compR, cR, kR, fR, -, gR, hR', eR⟩ := Cond.arrayOver_spec (hT.get xw_reed rfl #[])
  obtain ⟨compS, cS, kS, fS, -, gS, hS', eS⟩ := Cond.arrayOver_spec (hT.get xw_state rfl #[])
  obtain ⟨compA, cA, kA, fA, gA, hA', eA⟩ := Cond.arrayOver_specA (hT.get xw_aint rfl #[])
  obtain ⟨n, M', hrun⟩ := hrun
  let B : xB := ((dC, dI), (cI, cR, cS, cA), b, ky, s.heap.size)
  have hK : va_K (dC, dI) xcl (xtys B) s := by
    refine ⟨fun k q hq => ?_, fun k q hq => ?_⟩
    · have hk : k < 8 := by
        have := (List.getElem?_eq_some_iff.mp hq).1
        simpa using this
      have he := xcl_at k hk
      rw [he] at hq
      cases hq
      exact hdI k hk
    · match k, hq with
      | 0, hq => cases hq; exact ⟨fun n z => ⟨fun k h => (by cases h), kI, gI, compI, hI⟩, fI⟩
      | 1, hq => cases hq; exact ⟨fun n z => ⟨fun k h => (by cases h), kR, gR, compR, hR'⟩, kR, compR, gR, hR', fR, eR⟩
      | 2, hq => cases hq; exact ⟨fun n z => ⟨fun k h => (by cases h), kS, gS, compS, hS'⟩, kS, compS, gS, hS', fS, eS⟩
      | 3, hq => cases hq; exact ⟨fun n z => ⟨fun k h => (by cases h), kA, gA, compA, hA'⟩, eA⟩
      | k + 4, hq => simp [xtys] at hq
  have E : xE B s s.heap := ⟨hK, hT, Nat.le_refl _, hZ⟩
  have hkl : ky < s.heap.size := by
    obtain ⟨cell, h1, -⟩ := hkT
    exact (Array.getElem?_eq_some_iff.mp h1).1
  have hRel : xR B s (xM0 L (fun j => (xs j).toInt)) s.heap := by
    refine ⟨Nat.le_refl 3, rfl, fun k q h => by simp [xws, xM0] at h, rfl, ⟨hbl, rfl, ?_⟩, ⟨hkl, rfl, ?_⟩, fun q hq => ?_⟩
    · obtain ⟨scr, g1, g2, g3, g4, g5⟩ := hX
      refine ⟨scr, g1, g2, g3, ⟨by rw [g4]; exact Nat.le_refl _, by rw [g4]; rfl⟩, fun j hj => ?_⟩
      show _ = some (Value.int (Int32.ofInt (xs j).toInt))
      rw [Int32.ofInt_toInt]
      exact g5 j hj
    · obtain ⟨cell, g1, g2, g3, g4, g5, g6, -⟩ := hkT
      exact ⟨cell, g1, g2, g3, ⟨g4, g5⟩, fun j hj => g6 j hj⟩
    · unfold xat
      rw [xnth_of_le _ _ _ (by simpa [xM0] using hq)]
      decide
  rw [lg_entry_eq]
  refine xrun_W n hrun (s := s) (args := #[Value.ref b]) (below := below) (Q := lw_Z below #[Value.ref b] s) ⟨hx, hb, hml, hown, hlocks, hr, fun z => absurd z (by decide), by decide, by decide, by decide, by decide⟩ E ⟨Nat.zero_le _, Nat.zero_le _⟩ (fun pc k ls st hk hst => ?_) s.heap [] _ hRel va_S.rf (xentry B [.inr 1] 128 (by decide))
  obtain ⟨rfl, hd⟩ := xret_1 hst
  intro H locs Ls hR hS hLs
  refine va_forget (fun q hq => hS.2.2 q hq) ?_
  refine W.widen (k := 600000) (n := 7302250) hk.1 hk.2 ?_
  exact lw_ret hx hb hr hlocks hd
