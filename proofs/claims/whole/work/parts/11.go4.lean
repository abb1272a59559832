/-! ===== new cells; arraycopy ===== -/
section XSH
variable {p : Program} {l : Launch} {e : Env} {R : Room} {s : State} {m : MethodId} {args : Array Value} {below : List Frame} {meth : Method} {c : Code} {Q : State → Prop} {B : xB} {mi : Nat}
theorem xat_app {M M' : xM} {cs : List xC} (hl : M'.1 = M.1 ++ cs) {q : Nat} (hq : q < M.1.length) : xat M' q = xat M q := by
  unfold xat; rw [hl]; exact xnth_app _ _ _ hq
theorem xat_app2 {M M' : xM} {cs : List xC} (hl : M'.1 = M.1 ++ cs) (k : Nat) : xat M' (M.1.length + k) = xnth cs k (0, 0, fun _ => 0) := by
  unfold xat; rw [hl]; exact xnth_app2 _ _ _
theorem xce_app {M M' : xM} {cs : List xC} (hl : M'.1 = M.1 ++ cs) {q : Nat} (hq : q < M.1.length) (hf : M'.2 q = M.2 q) : xce B M' q = xce B M q := by
  unfold xce xfs xra; rw [xat_app hl hq, hf]
theorem xR.app {U : State} {M M' : xM} {H H1 : Heap} {cs : List xC} (h : xR B U M H) (hl : M'.1 = M.1 ++ cs) (hf : ∀ q, q < M.1.length → M'.2 q = M.2 q) (hz : H1.size = H.size + cs.length) (hk : ∀ q, q < H.size → H1[q]? = H[q]?) (hc : ∀ k, k < cs.length → va_at B.1 xcl (xad B (M.1.length + k), xce B M' (M.1.length + k)) H1) (h5 : ∀ k, k < cs.length → (xnth cs k (0, 0, fun _ => 0)).1 ≠ 5) : xR B U M' H1 := by
  obtain ⟨e1, e2, e3, e4, e5, e6, e7⟩ := h
  have hlen : M'.1.length = M.1.length + cs.length := by rw [hl, List.length_append]
  have hb : ∀ q, q < xba B → H1[q]? = H[q]? := fun q hq => hk q (by omega)
  refine ⟨by omega, by rw [hz, e2, hlen]; omega, ?_, by rw [xat_app hl (by omega)]; exact e4, e5.kept hb (xat_app hl (by omega)) (hf 1 (by omega)), e6.kept hb (xat_app hl (by omega)) (hf 2 (by omega)), fun q hq => ?_⟩
  · rw [xws_app e1 hl (fun q hq => xce_app hl hq (hf q hq))]
    refine va_P.app (e3.kept (fun k q hq => hk q.1 ((e3 k q hq).lt))) (fun k q hq => ?_)
    rw [List.getElem?_map] at hq
    by_cases hkc : k < cs.length
    · rw [List.getElem?_range hkc] at hq
      simp only [Option.map_some, Option.some.injEq] at hq
      rw [← hq]
      exact hc k hkc
    · rw [List.getElem?_eq_none (by simp; omega)] at hq
      cases hq
  · by_cases hq2 : q < M.1.length
    · rw [xat_app hl hq2]; exact e7 q hq
    · by_cases hq3 : q - M.1.length < cs.length
      · have := h5 _ hq3
        rw [← xat_app2 hl, show M.1.length + (q - M.1.length) = q by omega] at this
        exact this
      · unfold xat; rw [xnth_of_le _ _ _ (by omega)]; exact (by decide)
theorem xR.top {U : State} {M : xM} {H : Heap} (h : xR B U M H) (k : Nat) : xad B (M.1.length + k) = H.size + k := by
  rw [xad_ge (by have := h.1; omega), h.2.1]; have := h.1; omega
theorem xcl1_eq {own C : String} {cc : ByteArray} {pc n i0 : Nat} {f : Nat → Instr} (h : xcl1 own C cc pc f n (xwd i0) = true) : ∃ i, xwd i0 = some (.classLink own i C) ∧ decode cc pc = .ok (f i, n) := by
  unfold xcl1 at h
  split at h
  · rename_i o i z hw
    simp only [Bool.and_eq_true, decide_eq_true_eq] at h
    obtain ⟨rfl, rfl, h⟩ := h
    exact ⟨i, hw, xdc_eq h⟩
  · cases h
theorem xiw_at {b : Nat} (hb : b < 8) : xwd (xnth xiw b (0, 0)).1 = some (.instantiable (xCn b) (xN b)) ∧ xwd (xnth xiw b (0, 0)).2 = some (.initialized (xCn b)) := by
  have := List.all_eq_true.mp xiw_ok b (List.mem_range.mpr hb)
  simp only [Bool.and_eq_true, decide_eq_true_eq] at this
  exact this
theorem xg19 (C : xCx p R s m meth c mi) (E : xE B s s.heap) {pc : Nat} {k : Nat × Nat} {ls : xL} {st : List xV} {M : xM} {a : Int} {b d : Nat} {q : Nat × (Nat × Nat) × xL × List xV × xM}
    (hok : xokb (xy mi).cls (decide ((xy mi).name = "<init>")) (xmi mi 0) (xb mi) mi pc (19, a, b, d) = true) (hs : xsem 19 a b d mi pc k ls st M = some (.inl q)) (hK : xW B p l e R s m args below meth c mi Q q.1 q.2.1 q.2.2.1 q.2.2.2.1 q.2.2.2.2) : xW B p l e R s m args below meth c mi Q pc k ls st M := by
  obtain ⟨hx, hb, hml, hown, -, -, -, hr1, hr2, hr3, hr4⟩ := C
  simp only [xsem] at hs
  split at hs
  · rename_i hc
    simp only [xgo, Option.some.injEq, Sum.inl.injEq] at hs
    subst hs
    intro H locs Ls hR hS hL
    simp only [xokb, Bool.and_eq_true, decide_eq_true_eq] at hok
    obtain ⟨hb8, hok⟩ := hok
    obtain ⟨i, hw, hd⟩ := xcl1_eq hok
    obtain ⟨w1, w2⟩ := xiw_at hb8
    have hcl := xcl_at b hb8
    have hKn := E.1.1 b _ hcl
    obtain ⟨⟨ty0, htys⟩, hnm⟩ := xap b hb8
    refine W.newcK hx hb hown (E.2.1.get hw rfl args) (E.2.1.get w1 rfl args) (E.2.1.get w2 rfl args) rfl hd (by omega) (by omega) hKn.2.1 rfl fun H1 kC hkC e1 z1 o1 => ?_
    have htop := hR.top 0
    have hkd : (xat (xnew M (10 + b) (xN b)) (M.1.length + 0)).1 = 10 + b := by rw [xat_app2 (M' := xnew M (10 + b) (xN b)) rfl]; rfl
    have hk := hK H1 locs Ls (hR.app (M' := xnew M (10 + b) (xN b)) (cs := [(10 + b, xN b, fun _ => 0)]) rfl (fun q hq => by funext j; simp [xnew, Nat.ne_of_lt hq]) z1 o1 (fun j hj => ?_) (fun j hj => ?_)) ⟨Nat.le_trans hS.1 (by omega), fun x h1 h2 => (o1 x (Nat.lt_of_lt_of_le h1 hS.1)).trans (hS.2.1 x h1 h2), hS.2.2⟩ hL
    · simp only [List.map_cons] at hk
      rw [xr_pos (by have := hR.1; omega)] at hk
      rw [show M.1.length + 0 = M.1.length from rfl] at htop
      rw [htop] at hk
      exact hk
    · have hj0 : j = 0 := by simpa using hj
      subst hj0
      rw [xce_obj hkd, htop]
      refine ⟨_, hcl, (u_born ty0 (E.2.1.ws args) (xus_at b hb8) hKn hkC e1 htys).to (fun j hj => ?_)⟩
      obtain ⟨t, ht, t1, t2, t3⟩ := xty_at hb8 hj
      have et : ty0 j = t := Option.some.inj ((htys j hj).symm.trans ht)
      have hv : vp_V (xfs B (xnew M (10 + b) (xN b)) (M.1.length + 0) b) j = xr B (if xrf b j then .inr 0 else .inl 0) := by
        unfold vp_V
        rw [List.getD_eq_getElem?_getD, xfs_at hj]
        have e1 : (xat (xnew M (10 + b) (xN b)) (M.1.length + 0)).2.2 j = 0 := by rw [xat_app2 (M' := xnew M (10 + b) (xN b)) rfl]; rfl
        have e2 : (xnew M (10 + b) (xN b)).2 (M.1.length + 0) j = 0 := by simp [xnew]
        rw [e1, e2]
        rfl
      rw [hv, et]
      cases hrf : xrf b j with
      | true =>
        have := t1 hrf
        cases t <;> first | rfl | cases this
      | false =>
        cases hbf : xbf b j with
        | true => rw [t2 hrf hbf]; rfl
        | false => rw [t3 hrf hbf]; rfl
    · have hj0 : j = 0 := by simpa using hj
      subst hj0
      show 10 + b ≠ 5
      omega
  · cases hs
theorem xwrap {n : Int} (h0 : 0 ≤ n) (h1 : n ≤ 134217728) : xok n ∧ ¬ Int32.ofInt n < 0 ∧ (Int32.ofInt n).toNatClampNeg = n.toNat := by
  have hk : xok n := ⟨by omega, by omega⟩
  refine ⟨hk, fun z => ?_, xcl_nat h0 hk⟩
  rw [show (0 : Int32) = Int32.ofInt 0 from rfl, xi_lt hk ⟨by omega, by omega⟩] at z
  omega
theorem xg20 (C : xCx p R s m meth c mi) (E : xE B s s.heap) {pc : Nat} {k : Nat × Nat} {ls : xL} {st : List xV} {M : xM} {a : Int} {b d : Nat} {q : Nat × (Nat × Nat) × xL × List xV × xM}
    (hok : xokb (xy mi).cls (decide ((xy mi).name = "<init>")) (xmi mi 0) (xb mi) mi pc (20, a, b, d) = true) (hs : xsem 20 a b d mi pc k ls st M = some (.inl q)) (hK : xW B p l e R s m args below meth c mi Q q.1 q.2.1 q.2.2.1 q.2.2.2.1 q.2.2.2.2) : xW B p l e R s m args below meth c mi Q pc k ls st M := by
  obtain ⟨hx, hb, hml, hown, -, -, -, hr1, hr2, hr3, hr4⟩ := C
  simp only [xsem] at hs
  split at hs
  · rename_i n r
    split at hs
    · rename_i hc
      obtain ⟨h0, h1, h2, h3⟩ := hc
      simp only [xgo, Option.some.injEq, Sum.inl.injEq] at hs
      subst hs
      intro H locs Ls hR hS hL
      obtain ⟨hnk, hn0, hnn⟩ := xwrap h0 h1
      have hd := xdc_eq hok
      refine va_newaK (atype := .int) hx hb (E.2.1.get xw_int rfl args) rfl hd rfl hn0 hnn (by show n.toNat * 4 ≤ _; omega) (by omega) (by omega) rfl fun H1 cA e1 z1 o1 hAr hNm => ?_
      have hcA : cA = B.2.1.1 := Option.some.inj (hNm.symm.trans (E.1.2 0 _ xt_0).2)
      subst hcA
      have htop := hR.top 0
      have hkd : (xat (xnew M 1 n.toNat) (M.1.length + 0)) = (1, n.toNat, fun _ => 0) := by rw [xat_app2 (M' := xnew M 1 n.toNat) rfl]; rfl
      have hk := hK H1 locs Ls (hR.app (M' := xnew M 1 n.toNat) (cs := [(1, n.toNat, fun _ => 0)]) rfl (fun q hq => by funext j; simp [xnew, Nat.ne_of_lt hq]) z1 o1 (fun j hj => ?_) (fun j hj => ?_)) ⟨Nat.le_trans hS.1 (by omega), fun x h1 h2 => (o1 x (Nat.lt_of_lt_of_le h1 hS.1)).trans (hS.2.1 x h1 h2), hS.2.2⟩ hL
      · simp only [List.map_cons] at hk
        rw [xr_pos (by have := hR.1; omega)] at hk
        rw [show M.1.length + 0 = M.1.length from rfl] at htop
        rw [htop] at hk
        exact hk
      · have hj0 : j = 0 := by simpa using hj
        subst hj0
        rw [xce_1 (by rw [hkd]), htop, hkd]
        show H1[H.size + 0]? = some (vp_cell _ _)
        rw [Nat.add_zero, e1, vp_cell_i]
        congr 2
        funext j
        simp [xnew]
        rfl
      · have hj0 : j = 0 := by simpa using hj
        subst hj0
        show (1 : Nat) ≠ 5
        omega
    · cases hs
  · cases hs
theorem xg21 (C : xCx p R s m meth c mi) (E : xE B s s.heap) {pc : Nat} {k : Nat × Nat} {ls : xL} {st : List xV} {M : xM} {a : Int} {b d : Nat} {q : Nat × (Nat × Nat) × xL × List xV × xM}
    (hok : xokb (xy mi).cls (decide ((xy mi).name = "<init>")) (xmi mi 0) (xb mi) mi pc (21, a, b, d) = true) (hs : xsem 21 a b d mi pc k ls st M = some (.inl q)) (hK : xW B p l e R s m args below meth c mi Q q.1 q.2.1 q.2.2.1 q.2.2.2.1 q.2.2.2.2) : xW B p l e R s m args below meth c mi Q pc k ls st M := by
  obtain ⟨hx, hb, hml, hown, -, -, -, hr1, hr2, hr3, hr4⟩ := C
  simp only [xsem] at hs
  split at hs
  · rename_i n r
    split at hs
    · rename_i hc
      obtain ⟨h0, h1, h2, h3⟩ := hc
      simp only [xgo, Option.some.injEq, Sum.inl.injEq] at hs
      subst hs
      intro H locs Ls hR hS hL
      obtain ⟨hnk, hn0, hnn⟩ := xwrap h0 h1
      have go : ∀ (Cn : String) (cA : ClassId) (t0 i w0 : Nat), xwd a.toNat = some (.classLink (xy mi).cls i Cn) → decode (xb mi) pc = .ok (.anewarray i, 3) → xwd w0 = some (.arrayOver (.object Cn)) → (xtys B)[t0]? = some (cA, .object Cn) → b ≠ 5 → (∀ M' : xM, (xat M' (M.1.length + 0)).1 = b → xce B M' (M.1.length + 0) = .inl (cA, (xat M' (M.1.length + 0)).2.1, .inr (.inr (.inr (.inr (xra B M' (M.1.length + 0))))))) → W p l e R s m args below meth c H locs k.1 k.2 Q (F0 m pc Ls (xr B (.inl n) :: r.map (xr B))) := fun Cn cA t0 i w0 hw hd hwo ht hb5 hce => by
        refine W.anew hx hb hown (E.2.1.get hw rfl args) (E.2.1.get hwo rfl args) rfl hd rfl hn0 (by rw [hnn]; omega) (by omega) (by rw [hnn]; omega) fun cA' kA comp f1 f2 f3 f4 => ?_
        obtain ⟨kA', comp', k1, k2, k3, k4⟩ := (E.1.2 t0 _ ht).2
        have hcA : cA' = cA := Option.some.inj (f1.symm.trans k4)
        subst hcA
        rw [hnn]
        generalize hH1 : H.push ({ cls := cA', slots := Array.replicate n.toNat .null, vm := .none } : Cell) = H1
        have z1 : H1.size = H.size + 1 := by rw [← hH1, Array.size_push]
        have e1 : H1[H.size]? = some (arrV cA' n.toNat (fun _ => .null)) := by rw [← hH1, Array.getElem?_push_size, ← arrV_new]
        have o1 : ∀ q, q < H.size → H1[q]? = H[q]? := fun q hq => by rw [← hH1, Array.getElem?_push, if_neg (Nat.ne_of_lt hq)]
        have htop := hR.top 0
        have hkd : (xat (xnew M b n.toNat) (M.1.length + 0)) = (b, n.toNat, fun _ => 0) := by rw [xat_app2 (M' := xnew M b n.toNat) rfl]; rfl
        have hk := hK H1 locs Ls (hR.app (M' := xnew M b n.toNat) (cs := [(b, n.toNat, fun _ => 0)]) rfl (fun q hq => by funext j; simp [xnew, Nat.ne_of_lt hq]) z1 o1 (fun j hj => ?_) (fun j hj => ?_)) ⟨Nat.le_trans hS.1 (by omega), fun x h1 h2 => (o1 x (Nat.lt_of_lt_of_le h1 hS.1)).trans (hS.2.1 x h1 h2), hS.2.2⟩ hL
        · simp only [List.map_cons] at hk
          rw [xr_pos (by have := hR.1; omega)] at hk
          rw [show M.1.length + 0 = M.1.length from rfl] at htop
          rw [htop] at hk
          exact hk
        · have hj0 : j = 0 := by simpa using hj
          subst hj0
          rw [hce _ (by rw [hkd]), htop]
          show H1[H.size + 0]? = some (vp_cell _ _)
          rw [Nat.add_zero, e1, vp_cell_q]
          unfold xra
          rw [hkd]
          rfl
        · have hj0 : j = 0 := by simpa using hj
          subst hj0
          exact hb5
      simp only [xokb, Bool.or_eq_true, Bool.and_eq_true, decide_eq_true_eq] at hok
      rcases hok with ⟨rfl, hok⟩ | ⟨rfl, hok⟩
      · obtain ⟨i, hw, hd⟩ := xcl1_eq hok
        exact go _ _ 1 i _ hw hd xw_reed xt_1 (by omega) (fun M' h' => xce_2 h')
      · obtain ⟨i, hw, hd⟩ := xcl1_eq hok
        exact go _ _ 2 i _ hw hd xw_state xt_2 (by omega) (fun M' h' => xce_3 h')
    · cases hs
  · cases hs
theorem xg22 (C : xCx p R s m meth c mi) (E : xE B s s.heap) {pc : Nat} {k : Nat × Nat} {ls : xL} {st : List xV} {M : xM} {a : Int} {b d : Nat} {q : Nat × (Nat × Nat) × xL × List xV × xM}
    (hok : xokb (xy mi).cls (decide ((xy mi).name = "<init>")) (xmi mi 0) (xb mi) mi pc (22, a, b, d) = true) (hs : xsem 22 a b d mi pc k ls st M = some (.inl q)) (hK : xW B p l e R s m args below meth c mi Q q.1 q.2.1 q.2.2.1 q.2.2.2.1 q.2.2.2.2) : xW B p l e R s m args below meth c mi Q pc k ls st M := by
  obtain ⟨hx, hb, hml, hown, -, -, -, hr1, hr2, hr3, hr4⟩ := C
  simp only [xsem] at hs
  split at hs
  · rename_i w n r
    split at hs
    · rename_i hc
      obtain ⟨⟨h0, h1⟩, ⟨h2, h3⟩, h4, h5⟩ := hc
      simp only [xgo, Option.some.injEq, Sum.inl.injEq] at hs
      subst hs
      intro H locs Ls hR hS hL
      obtain ⟨hnk, hn0, hnn⟩ := xwrap h0 h1
      obtain ⟨hwk, hw0, hww⟩ := xwrap h2 h3
      obtain ⟨i, hw, hd⟩ := xcl1_eq hok
      intro T hT Xs
      obtain ⟨vm₁, cA, comp, -, fA, fC, hO, -, X', step⟩ := Xs.multianewarray2F (ty := .int) hx hown (E.2.1.get hw rfl args) (E.2.1.get xw_aint rfl args) (E.2.1.get xw_int rfl args) (g := F0 m pc Ls (xr B (.inl w) :: xr B (.inl n) :: r.map (xr B))) rfl (by rw [hb]; exact hd) rfl hn0 hw0 (by rw [hnn]; omega) (by rw [hww]; show w.toNat * 4 ≤ _; omega) (by rw [hww]; omega) rfl rfl (by rw [hnn]; omega) (by rw [hnn, hww]; omega)
      rw [hnn, hww] at X' step
      have hcA : cA = B.2.1.2.2.2 := Option.some.inj (fA.symm.trans (E.1.2 3 _ xt_3).2)
      have hcI : comp = B.2.1.1 := Option.some.inj (fC.symm.trans (E.1.2 0 _ xt_0).2)
      subst hcA
      subst hcI
      generalize hF : Jvm.Free.Multi.fill (T.setVm vm₁) B.2.1.2.2.2 B.2.1.1 n.toNat w.toNat (defaultValue .int) n.toNat = F at X' step
      have hTh : (T.setVm vm₁).heap = H := hT
      obtain ⟨f1, f2, -, -⟩ := Jvm.Free.Multi.fill_facts (T.setVm vm₁) B.2.1.2.2.2 B.2.1.1 n.toNat w.toNat (defaultValue .int) n.toNat
      rw [hF, hTh] at f1 f2
      have o1 : ∀ x : Nat, x < H.size → F.heap[x]? = H[x]? := fun x hx => by
        have := Jvm.Free.Multi.fill_old (T.setVm vm₁) B.2.1.2.2.2 B.2.1.1 n.toNat w.toNat (defaultValue .int) (a := x) (by rw [hTh]; exact hx) n.toNat
        rw [hF, hTh] at this
        exact this
      have hrow : ∀ j : Nat, j < n.toNat → F.heap[H.size + 1 + j]? = some (Jvm.Free.Multi.innerC B.2.1.1 w.toNat (defaultValue .int)) := fun j hj => by
        have := Jvm.Free.Multi.fill_inner (T.setVm vm₁) B.2.1.2.2.2 B.2.1.1 n.toNat w.toNat (defaultValue .int) n.toNat j hj
        rw [hF, hTh] at this
        exact this
      have hlen : ((4, n.toNat, fun i => M.1.length + 1 + i) :: List.replicate n.toNat ((1, w.toNat, fun _ => 0) : xC)).length = n.toNat + 1 := by simp
      have hcell : ∀ j, j < n.toNat → xnth (List.replicate n.toNat ((1, w.toNat, fun _ => 0) : xC)) j (0, 0, fun _ => 0) = (1, w.toNat, fun _ => 0) := fun j hj => by
        rw [xnth_get]; simp [hj]
      have hk := hK F.heap locs Ls (hR.app (M' := xnew2 M n.toNat w.toNat) (cs := (4, n.toNat, fun i => M.1.length + 1 + i) :: List.replicate n.toNat (1, w.toNat, fun _ => 0)) rfl (fun q hq => by funext j; simp [xnew2, Nat.not_le.mpr hq]) (by rw [f1, hlen]; omega) o1 (fun j hj => ?_) (fun j hj => ?_)) ⟨Nat.le_trans hS.1 (by rw [f1]; omega), fun x h1 h2 => (o1 x (Nat.lt_of_lt_of_le h1 hS.1)).trans (hS.2.1 x h1 h2), hS.2.2⟩ hL
      · obtain ⟨t, a1, b1⟩ := hk F rfl X'
        refine ⟨t, step t ?_, b1⟩
        simp only [List.map_cons] at a1
        rw [xr_pos (by have := hR.1; omega), show M.1.length = M.1.length + 0 from rfl, hR.top 0] at a1
        rw [hT]
        exact a1
      · rw [hR.top j]
        cases j with
        | zero =>
          have hkd : xat (xnew2 M n.toNat w.toNat) (M.1.length + 0) = (4, n.toNat, fun i => M.1.length + 1 + i) := by rw [xat_app2 (M' := xnew2 M n.toNat w.toNat) rfl]; rfl
          rw [xce_4 (by rw [hkd])]
          show F.heap[H.size + 0]? = some (vp_cell _ _)
          rw [Nat.add_zero, f2, vp_cell_q]
          unfold xra
          rw [hkd]
          have houter : ∀ (c : ClassId) (N h0 : Nat) (i : Nat), Jvm.Free.Multi.outerC c N h0 i = arrV c N (fun j => va_rf (if j < i then some (h0 + 1 + j) else none)) := by
            intro c N h0 i
            induction i with
            | zero =>
              show ({ cls := c, slots := Array.replicate N .null, vm := .none } : Cell) = _
              rw [arrV_new]
              refine congrArg (arrV c N) (funext fun j => ?_)
              simp [va_rf]
            | succ i ih =>
              show (Jvm.Free.Multi.outerC c N h0 i).setSlot i (.ref (h0 + 1 + i)) = _
              rw [ih, arrV_store]
              refine congrArg (arrV c N) (funext fun j => ?_)
              by_cases e : j = i
              · subst e
                simp [updV, va_rf]
              · by_cases h : j < i
                · simp [updV, e, h, Nat.lt_succ_of_lt h]
                · simp [updV, e, h, show ¬ j < i + 1 by omega]
          rw [houter]
          have hext : ∀ (f g : Nat → Value), (∀ j, j < n.toNat → f j = g j) → arrV B.2.1.2.2.2 n.toNat f = arrV B.2.1.2.2.2 n.toNat g := fun f g hfg => by
            unfold arrV
            congr 2
            funext j
            exact hfg j.1 j.2
          congr 1
          refine hext _ _ (fun j hj => ?_)
          have hpos := hR.1
          rw [if_pos hj]
          unfold xro
          dsimp only
          rw [if_neg (by omega), show M.1.length + 1 + j = M.1.length + (1 + j) by omega, hR.top (1 + j), Nat.add_assoc]
        | succ j =>
          have hj' : j < n.toNat := by rw [hlen] at hj; omega
          have hkd : xat (xnew2 M n.toNat w.toNat) (M.1.length + (j + 1)) = (1, w.toNat, fun _ => 0) := by
            rw [xat_app2 (M' := xnew2 M n.toNat w.toNat) rfl]
            exact hcell j hj'
          rw [xce_1 (by rw [hkd])]
          show F.heap[H.size + (j + 1)]? = some (vp_cell _ _)
          rw [show H.size + (j + 1) = H.size + 1 + j by omega, hrow j hj', vp_cell_i, hkd]
          congr 1
          show ({ cls := _, slots := Array.replicate w.toNat (.int 0), vm := .none } : Cell) = _
          rw [arrV_new]
          refine congrArg (arrV _ _) (funext fun i => ?_)
          simp [xnew2]
      · cases j with
        | zero => show (4 : Nat) ≠ 5; omega
        | succ j =>
          have hj' : j < n.toNat := by rw [hlen] at hj; omega
          show (xnth (List.replicate n.toNat ((1, w.toNat, fun _ => 0) : xC)) j (0, 0, fun _ => 0)).1 ≠ 5
          rw [hcell j hj']
          show (1 : Nat) ≠ 5
          omega
    · cases hs
  · cases hs
theorem xg27 (C : xCx p R s m meth c mi) (E : xE B s s.heap) {pc : Nat} {k : Nat × Nat} {ls : xL} {st : List xV} {M : xM} {a : Int} {b d : Nat} {q : Nat × (Nat × Nat) × xL × List xV × xM}
    (hok : xokb (xy mi).cls (decide ((xy mi).name = "<init>")) (xmi mi 0) (xb mi) mi pc (27, a, b, d) = true) (hs : xsem 27 a b d mi pc k ls st M = some (.inl q)) (hK : xW B p l e R s m args below meth c mi Q q.1 q.2.1 q.2.2.1 q.2.2.2.1 q.2.2.2.2) : xW B p l e R s m args below meth c mi Q pc k ls st M := by
  obtain ⟨hx, hb, hml, hown, -, -, -, hr1, hr2, hr3, hr4⟩ := C
  simp only [xsem] at hs
  split at hs
  · rename_i n dp dd sp ss r
    split at hs
    · rename_i hc
      obtain ⟨⟨ks, kd⟩, ⟨s0, s1⟩, ⟨d0, d1⟩, ⟨n0, n1⟩, hss, hdd, hfr, hlo, hrl⟩ := hc
      simp only [xgo, Option.some.injEq, Sum.inl.injEq] at hs
      subst hs
      intro H locs Ls hR hS hL
      simp only [List.map_cons]
      have ls' := hR.low ks (by omega) (by omega)
      have ld' := hR.low kd (by omega) (by omega)
      rw [xr_pos (p := ss) (by omega), xr_pos (p := dd) (by omega)]
      have hes := xws_at (B := B) ls'
      have hed := xws_at (B := B) ld'
      rw [xce_1 ks] at hes
      rw [xce_1 kd] at hed
      obtain ⟨i, hw, hd⟩ := xlk0_eq hok
      have nz : ∀ {z : Int}, 0 ≤ z → xok z → ¬ Int32.ofInt z < 0 := fun {z} h0 hk h => by
        rw [show (0 : Int32) = Int32.ofInt 0 from rfl, xi_lt hk ⟨by omega, by omega⟩] at h
        omega
      intro T hT X
      have hc0 := hR.2.2.1 _ _ hes
      have hc1 := hR.2.2.1 _ _ hed
      obtain ⟨-, k0, hk0, cm0, hkk0⟩ := (E.1.2 0 _ xt_0).1 (xat M ss).2.1 (fun j => .int (Int32.ofInt (M.2 ss j)))
      obtain ⟨vm', X', step⟩ := X.arraycopy hx hown (E.2.1.get hw rfl args) (E.2.1.get xw_nat rfl args) (E.2.1.get xw_cst rfl args) (E.2.1.get xw_csi rfl args) (src := xad B ss) (dst := xad B dd) (cs := vp_cell B.2.1.1 ((xat M ss).2.1, .inl (fun i => Int32.ofInt (M.2 ss i)))) (cd := vp_cell B.2.1.1 ((xat M dd).2.1, .inl (fun i => Int32.ofInt (M.2 dd i)))) (srcPos := Int32.ofInt sp) (destPos := Int32.ofInt dp) (n := Int32.ofInt n) (by rw [hT]; exact hc0) (by rw [hT]; exact hc1)
        (fun _ h => by cases h) (fun _ h => by cases h) (fun h => by cases h) (fun h => by cases h) hk0 hk0 hkk0 hkk0 (by simp [refKind]) (nz s0 s1) (nz d0 d1) (nz n0 n1)
        (by rw [xti s1, xti n1]; show ¬ _ > ((arrV B.2.1.1 (xat M ss).2.1 (fun j => .int (Int32.ofInt (M.2 ss j)))).slots.size : Int); rw [arrV_size]; omega)
        (by rw [xti d1, xti n1]; show ¬ _ > ((arrV B.2.1.1 (xat M dd).2.1 (fun j => .int (Int32.ofInt (M.2 dd j)))).slots.size : Int); rw [arrV_size]; omega)
        (fun vm₁ _ i hi => by
          rw [xcl_nat n0 n1] at hi
          have e : (vp_cell B.2.1.1 ((xat M ss).2.1, .inl (fun i => Int32.ofInt (M.2 ss i)))).slots.getD ((Int32.ofInt sp).toNatClampNeg + i) .null = .int (Int32.ofInt (M.2 ss (sp.toNat + i))) := by
            rw [xcl_nat s0 s1]
            show (arrV B.2.1.1 (xat M ss).2.1 (fun j => .int (Int32.ofInt (M.2 ss j)))).slots.getD _ _ = _
            rw [Array.getD_eq_getD_getElem?, arrV_read _ _ (by omega)]
            rfl
          refine ⟨?_, ?_⟩
          · rw [e]
            rfl
          · rw [e]
            exact trivial)
        (g := F0 m pc Ls (.int (Int32.ofInt n) :: .int (Int32.ofInt dp) :: .ref (xad B dd) :: .int (Int32.ofInt sp) :: .ref (xad B ss) :: r.map (xr B))) rfl (by rw [hml]; exact hL.1) (rest := r.map (xr B)) rfl (by rw [hb]; exact hd) (by omega) (by rw [xsum]; show 2 * 0 + _ + _ ≤ _; show 2 * 0 + r.length + (7 + 11) ≤ _; omega)
      have e1 : copied (vp_cell B.2.1.1 ((xat M ss).2.1, .inl (fun i => Int32.ofInt (M.2 ss i)))) (vp_cell B.2.1.1 ((xat M dd).2.1, .inl (fun i => Int32.ofInt (M.2 dd i)))) (Int32.ofInt sp) (Int32.ofInt dp) (Int32.ofInt n) = vp_cell B.2.1.1 ((xat M dd).2.1, .inl (va_cpy (fun i => Int32.ofInt (M.2 ss i)) (fun i => Int32.ofInt (M.2 dd i)) (Int32.ofInt sp).toNatClampNeg (Int32.ofInt dp).toNatClampNeg (Int32.ofInt n).toNatClampNeg)) := va_copied (n0 := (xat M ss).2.1) (n1 := (xat M dd).2.1) (sp := (Int32.ofInt sp).toNatClampNeg) (dp := (Int32.ofInt dp).toNatClampNeg) (n := (Int32.ofInt n).toNatClampNeg) (fun z => .int z) B.2.1.1 B.2.1.1 (fun i => Int32.ofInt (M.2 ss i)) (fun i => Int32.ofInt (M.2 dd i)) (by rw [xcl_nat s0 s1, xcl_nat n0 n1]; omega)
      rw [e1] at X' step
      rw [xcl_nat s0 s1, xcl_nat d0 d1, xcl_nat n0 n1] at X' step
      generalize hCe : vp_cell B.2.1.1 ((xat M dd).2.1, .inl (va_cpy (fun i => Int32.ofInt (M.2 ss i)) (fun i => Int32.ofInt (M.2 dd i)) sp.toNat dp.toNat n.toNat)) = Ce at X' step
      have hl : xad B dd < H.size := (Array.getElem?_eq_some_iff.mp hc1).1
      have hheap : ((T.setVm vm').setCell (xad B dd) Ce).heap = H.setIfInBounds (xad B dd) Ce := by rw [← hT]; rfl
      have oq : ∀ q : Nat, q ≠ xad B dd → (H.setIfInBounds (xad B dd) Ce)[q]? = H[q]? := fun q hq => by simp [Array.getElem?_setIfInBounds, Ne.symm hq]
      have hz : (H.setIfInBounds (xad B dd) Ce).size = H.size := by simp
      have hk1 : (xat (xcpy M ss sp.toNat dd dp.toNat n.toNat) dd).1 = 1 := kd
      obtain ⟨t, a1, b1⟩ := hK (H.setIfInBounds (xad B dd) Ce) _ Ls (hR.upd (M' := xcpy M ss sp.toNat dd dp.toNat n.toNat) ld' rfl (fun _ _ => rfl) (fun z hz => by funext j; simp [xcpy, hz]) (xce_1 hk1) (fun z hz => by
          unfold xce xfs xra
          have e2 : (xcpy M ss sp.toNat dd dp.toNat n.toNat).2 z = M.2 z := by funext j; simp [xcpy, hz]
          rw [e2]
          rfl) (hR.2.2.1.set (xws_D B M) hed (show (H.setIfInBounds (xad B dd) Ce)[xad B dd]? = some (vp_cell _ _) by
          rw [Array.getElem?_setIfInBounds, if_pos rfl, if_pos hl, ← hCe]
          congr 1
          show vp_cell B.2.1.1 ((xat M dd).2.1, .inl _) = vp_cell B.2.1.1 ((xat M dd).2.1, .inl _)
          congr 3
          funext j
          by_cases hj : dp.toNat ≤ j ∧ j < dp.toNat + n.toNat
          · rw [show va_cpy (fun i => Int32.ofInt (M.2 ss i)) (fun i => Int32.ofInt (M.2 dd i)) sp.toNat dp.toNat n.toNat j = Int32.ofInt (M.2 ss (sp.toNat + (j - dp.toNat))) from if_pos hj]
            have : (xcpy M ss sp.toNat dd dp.toNat n.toNat).2 dd j = M.2 ss (sp.toNat + (j - dp.toNat)) := if_pos ⟨rfl, hj⟩
            rw [this]
          · rw [show va_cpy (fun i => Int32.ofInt (M.2 ss i)) (fun i => Int32.ofInt (M.2 dd i)) sp.toNat dp.toNat n.toNat j = Int32.ofInt (M.2 dd j) from if_neg hj]
            have : (xcpy M ss sp.toNat dd dp.toNat n.toNat).2 dd j = M.2 dd j := by
              show (if dd = dd ∧ dp.toNat ≤ j ∧ j < dp.toNat + n.toNat then _ else _) = _
              rw [if_neg (fun z => hj z.2)]
            rw [this]) oq) hz (xbelow ld'.1 oq) (by rw [hk1]; omega)) ⟨by rw [hz]; exact hS.1, fun q g1 g2 => by
          rw [oq q (fun e => g2 (by rw [e]; exact (xws_D B M).2 _ _ hed))]
          exact hS.2.1 q g1 g2, fun q hq => by
          rcases List.mem_append.mp hq with h | h
          · exact hS.2.2 q h
          · obtain ⟨z, -, hz⟩ := List.mem_map.mp h
            rw [← hz]
            exact (xws_D B M).2 _ _ hed⟩ hL _ hheap X'
      exact ⟨t, step t a1, b1⟩
    · cases hs
  · cases hs
end XSH
