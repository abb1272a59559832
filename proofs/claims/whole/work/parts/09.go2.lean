/-! ===== fields and arrays ===== -/
section XSF
variable {p : Program} {l : Launch} {e : Env} {R : Room} {s : State} {m : MethodId} {args : Array Value} {below : List Frame} {meth : Method} {c : Code} {Q : State → Prop} {B : xB} {mi : Nat}
theorem xg12 (C : xCx p R s m meth c mi) (E : xE B s s.heap) {pc : Nat} {k : Nat × Nat} {ls : xL} {st : List xV} {M : xM} {a : Int} {b d : Nat} {q : Nat × (Nat × Nat) × xL × List xV × xM}
    (hok : xokb (xy mi).cls (decide ((xy mi).name = "<init>")) (xmi mi 0) (xb mi) mi pc (12, a, b, d) = true) (hs : xsem 12 a b d mi pc k ls st M = some (.inl q)) (hK : xW B p l e R s m args below meth c mi Q q.1 q.2.1 q.2.2.1 q.2.2.2.1 q.2.2.2.2) : xW B p l e R s m args below meth c mi Q pc k ls st M := by
  obtain ⟨hx, hb, hml, hown, -⟩ := C
  simp only [xsem] at hs
  split at hs
  · rename_i pp r
    split at hs
    · rename_i hkd
      simp only [xgo, Option.some.injEq, Sum.inl.injEq] at hs
      subst hs
      intro H locs Ls hR hS hL
      have hlow := hR.low hkd (by omega) (by omega)
      have hk := hK H locs Ls hR hS hL
      simp only [List.map_cons] at hk ⊢
      rw [xr_pos (by omega)]
      simp only [xokb, Bool.and_eq_true, decide_eq_true_eq] at hok
      obtain ⟨hb8, hd, h⟩ := hok
      have he := xws_at (B := B) hlow
      rw [xce_obj hkd] at he
      unfold xfl at h
      split at h
      · rename_i o i r1 n1 d1 hw
        simp only [Bool.and_eq_true, decide_eq_true_eq] at h
        obtain ⟨rfl, rfl, rfl, rfl, h, -⟩ := h
        exact va_get hx hb (E.2.1.ws args) (xus_at b hb8) hown E.1 hR.2.2.1 (pp - 3) he (xcl_at b hb8) d hd (E.2.1.get hw rfl args) (fun _ z => z) (xfs_at hd) (xdc_eq h) hk
      · rename_i o i r1 n1 d1 hst hw
        simp only [Bool.and_eq_true, decide_eq_true_eq] at h
        obtain ⟨rfl, rfl, rfl, rfl, h, -⟩ := h
        exact va_getN hx hb (E.2.1.ws args) (xus_at b hb8) hown E.1 hR.2.2.1 (pp - 3) he (xcl_at b hb8) d hd (E.2.1.get hw rfl args) (fun _ z => z) (xfs_at hd) (xdc_eq h) hk
      · cases h
    · cases hs
  · cases hs
theorem xap : ∀ b, b < 8 → (∃ ty0 : Nat → FieldType, ∀ k, k < xN b → parseFieldDescriptor (xT b k).2.2.1 = some (ty0 k)) ∧ ∀ a, a < xN b → ∀ z, z < xN b → a ≠ z → (xT b a).2.1 ≠ (xT b z).2.1
  | 0, _ => ⟨⟨tyX0, tyX0_ok⟩, nmX0⟩
  | 1, _ => ⟨⟨tyX1, tyX1_ok⟩, nmX1⟩
  | 2, _ => ⟨⟨tyX3, tyX3_ok⟩, nmX3⟩
  | 3, _ => ⟨⟨tyX4, tyX4_ok⟩, nmX4⟩
  | 4, _ => ⟨⟨tyX5, tyX5_ok⟩, nmX5⟩
  | 5, _ => ⟨⟨tyX6, tyX6_ok⟩, nmX6⟩
  | 6, _ => ⟨⟨tyX7, tyX7_ok⟩, nmX7⟩
  | 7, _ => ⟨⟨tyX8, tyX8_ok⟩, nmX8⟩
theorem xput (C : xCx p R s m meth c mi) (E : xE B s s.heap) {H : Heap} {locs : List Loc} {cells slots pc : Nat} {Ls : Array Slot} {ws : va_W} {q0 a b d i0 : Nat} {fs : List Value} {v : Value} {rest : List Value} {ty : FieldType}
    (hb8 : b < 8) (hd : d < xN b) (h : xfl (xy mi).cls (xb mi) pc true (xT b d).2.2.2 (decide ((xy mi).name = "<init>")) (xT b d).1 (xT b d).2.1 (xT b d).2.2.1 (xwd i0) = true)
    (hP : va_P B.1 xcl ws H) (hD : va_D (xA B) ws) (hS0 : va_S (xA B) s.heap H locs) (he : ws[q0]? = some (a, .inr (b, fs))) (hty : parseFieldDescriptor (xT b d).2.2.1 = some ty) (hn : narrow ty v = v) (hfit : fits ty v = true) (hl : d < fs.length)
    (kk : ∀ (H1 : Heap) (locs1 : List Loc), va_P B.1 xcl (ws.set q0 (a, .inr (b, fs.set d v))) H1 → va_S (xA B) s.heap H1 locs1 → H1.size = H.size → (∀ q, q ≠ a → H1[q]? = H[q]?) → W p l e R s m args below meth c H1 locs1 cells slots Q (F0 m (pc + 3) Ls rest)) :
    W p l e R s m args below meth c H locs cells slots Q (F0 m pc Ls (v :: .ref a :: rest)) := by
  obtain ⟨hx, hb, hml, hown, -, -, hini, -⟩ := C
  obtain ⟨⟨ty0, htys⟩, hnm⟩ := xap b hb8
  have hts := E.2.1.ws args
  have hin := xus_at b hb8
  have hc := xcl_at b hb8
  have hap := va_apart (own := (xy mi).cls) hts hin ty0 htys hnm E.1 hc
  obtain ⟨r, h1, cell, q1, q2, q3, q4⟩ := hP q0 _ he
  have hr : r = (xCn b, xT b, xN b) := Option.some.inj (h1.symm.trans hc)
  subst hr
  obtain ⟨hSl, hfc, kC, hkC, hkind⟩ := E.1.1 b _ hc
  obtain ⟨cf, kf, fi, f, hi, hsl⟩ := hSl d hd
  have hlay := hts _ (hin _ (u_in_lay hd))
  unfold u_lay at hlay
  have hst := (u_facts hfc hkC (u_lays hts hin hd) hi).1
  have fin' : ∀ H' : Heap, H'[a]? = some (cell.setSlot (B.1.2 b d) v) → H'.size = H.size → (∀ q, q ≠ a → H'[q]? = H[q]?) → W p l e R s m args below meth c H' (locs ++ [⟨a, B.1.2 b d⟩]) cells slots Q (F0 m (pc + 3) Ls rest) := fun H' e1 e2 e3 =>
    kk H' _ (hP.set hD he ⟨_, hc, t_OB.to (V := updV (vp_V fs) d v) ⟨_, e1, q2, q3, t_set q4 hap hd v⟩ (fun j _ => vp_updV_set hl v j)⟩ e3) (hS0.put e2 e3 (hD.2 q0 _ he)) e2 e3
  unfold xfl at h
  split at h
  · rename_i o i r1 n1 d1 hw
    simp only [Bool.and_eq_true, Bool.or_eq_true, decide_eq_true_eq, Bool.not_eq_true', Bool.not_true, Bool.false_eq_true, false_or] at h
    obtain ⟨rfl, rfl, rfl, rfl, h, hfin⟩ := h
    have hlink := E.2.1.get hw rfl args
    rcases hfin with hf | ⟨hf1, hf2⟩
    · rw [if_neg (by rw [hf]; decide)] at hlay
      have h6 := u_store hfc hkC hkind hlay hi hty hn hfit
      refine W.putK hx hb (f := f) ⟨hown, hlink, ⟨_, _, _, hi⟩, hst⟩ (by rw [q2]; exact h6) q1 q3 (by rw [hsl]; exact k2_hasslot (q4 d hd)) rfl rfl (xdc_eq h) fun H' e1 e2 e3 => ?_
      rw [hsl] at e1 ⊢
      exact fin' H' e1 e2 e3
    · cases hff : (xT b d).2.2.2 with
      | false =>
        rw [if_neg (by rw [hff]; decide)] at hlay
        have h6 := u_store hfc hkC hkind hlay hi hty hn hfit
        refine W.putK hx hb (f := f) ⟨hown, hlink, ⟨_, _, _, hi⟩, hst⟩ (by rw [q2]; exact h6) q1 q3 (by rw [hsl]; exact k2_hasslot (q4 d hd)) rfl rfl (xdc_eq h) fun H' e1 e2 e3 => ?_
        rw [hsl] at e1 ⊢
        exact fin' H' e1 e2 e3
      | true =>
        rw [if_pos hff] at hlay
        have hcf : m.cls = cf := by
          obtain ⟨_, _, c', _, _, _, -, -, hf', -, -, -, hown2, -⟩ := Cond.laysFinal_spec hlay
          have e1 : c' = cf := by have := hi.symm.trans hf'; simp at this; exact this.1.symm
          rw [hf2] at hown2
          rw [← e1]; exact Option.some.inj (hown.symm.trans hown2)
        have h6 := u_fits hfc hkC hkind (Or.inr hlay) hi hty hn hfit
        refine W.putFinK hx hb hown hlink hi hst hcf (hini hf1) (by rw [q2]; exact h6) q1 q3 (by rw [hsl]; exact k2_hasslot (q4 d hd)) rfl rfl (xdc_eq h) fun H' e1 e2 e3 => ?_
        rw [hsl] at e1 ⊢
        exact fin' H' e1 e2 e3
  · rename_i o i r1 n1 d1 hst' hw
    simp only [Bool.and_eq_true, Bool.or_eq_true, decide_eq_true_eq, Bool.not_eq_true', Bool.not_true, Bool.false_eq_true, false_or] at h
    obtain ⟨rfl, rfl, rfl, rfl, h, hf⟩ := h
    have hlink := E.2.1.get hw rfl args
    rw [if_neg (by rw [hf]; decide)] at hlay
    have h6 := u_store hfc hkC hkind hlay hi hty hn hfit
    refine va_WputK hx hb (f := f) hown hlink hi hst (by rw [q2]; exact h6) q1 q3 (by rw [hsl]; exact k2_hasslot (q4 d hd)) rfl rfl (xdc_eq h) fun H' e1 e2 e3 => ?_
    rw [hsl] at e1 ⊢
    exact fin' H' e1 e2 e3
  · cases h
def xrt (t : FieldType) : Bool := match t with
  | .object _ => true
  | .array _ => true
  | _ => false
theorem xty_all : (List.range 8).all (fun b => (List.range (xN b)).all (fun d => match parseFieldDescriptor (xT b d).2.2.1 with
    | some t => if xrf b d then xrt t else if xbf b d then decide (t = .boolean) else decide (t = .int)
    | none => false)) = true := by decide +kernel
theorem xty_at {b d : Nat} (hb : b < 8) (hd : d < xN b) : ∃ t, parseFieldDescriptor (xT b d).2.2.1 = some t ∧ (xrf b d = true → xrt t = true) ∧ (xrf b d = false → xbf b d = true → t = .boolean) ∧ (xrf b d = false → xbf b d = false → t = .int) := by
  have h := List.all_eq_true.mp (List.all_eq_true.mp xty_all b (List.mem_range.mpr hb)) d (List.mem_range.mpr hd)
  split at h
  · rename_i t ht
    refine ⟨t, ht, fun q => ?_, fun q q2 => ?_, fun q q2 => ?_⟩
    · rw [if_pos q] at h; exact h
    · rw [if_neg (by rw [q]; decide), if_pos q2] at h; exact of_decide_eq_true h
    · rw [if_neg (by rw [q]; decide), if_neg (by rw [q2]; decide)] at h; exact of_decide_eq_true h
  · cases h
theorem xfs_len (M : xM) (q b : Nat) : (xfs B M q b).length = xN b := by simp [xfs]
theorem xfs_wr {M : xM} {q b d : Nat} {x : Int} (hr : xrf b d = false) : xfs B (xwr M q d x) q b = (xfs B M q b).set d (.int (Int32.ofInt x)) := by
  apply List.ext_getElem?
  intro j
  by_cases hj : j < xN b
  · rw [xfs_at hj]
    by_cases e : j = d
    · subst e
      rw [List.getElem?_set_self (by rw [xfs_len]; exact hj), hr]
      simp [xr, xwr]
    · rw [List.getElem?_set_ne (Ne.symm e), xfs_at hj]
      simp [xwr, xat, e]
  · rw [List.getElem?_eq_none (by rw [xfs_len]; omega), List.getElem?_eq_none (by rw [List.length_set, xfs_len]; omega)]
theorem xfs_wref {M : xM} {q b d v : Nat} (hq : q < M.1.length) (hr : xrf b d = true) : xfs B (xwref M q d v) q b = (xfs B M q b).set d (xr B (.inr v)) := by
  apply List.ext_getElem?
  intro j
  by_cases hj : j < xN b
  · rw [xfs_at hj]
    by_cases e : j = d
    · subst e
      rw [List.getElem?_set_self (by rw [xfs_len]; exact hj), hr, xat_wref M _ _ hq]
      simp
    · rw [List.getElem?_set_ne (Ne.symm e), xfs_at hj, xat_wref M _ _ hq]
      simp [e, xwref]
  · rw [List.getElem?_eq_none (by rw [xfs_len]; omega), List.getElem?_eq_none (by rw [List.length_set, xfs_len]; omega)]
theorem xbelow {H H1 : Heap} {a : Nat} (ha : 3 ≤ a) (h : ∀ q, q ≠ xad B a → H1[q]? = H[q]?) : ∀ q, q < xba B → H1[q]? = H[q]? := fun q hq => h q (by rw [xad_ge ha]; omega)
theorem xg13 (C : xCx p R s m meth c mi) (E : xE B s s.heap) {pc : Nat} {k : Nat × Nat} {ls : xL} {st : List xV} {M : xM} {a : Int} {b d : Nat} {q : Nat × (Nat × Nat) × xL × List xV × xM}
    (hok : xokb (xy mi).cls (decide ((xy mi).name = "<init>")) (xmi mi 0) (xb mi) mi pc (13, a, b, d) = true) (hs : xsem 13 a b d mi pc k ls st M = some (.inl q)) (hK : xW B p l e R s m args below meth c mi Q q.1 q.2.1 q.2.2.1 q.2.2.2.1 q.2.2.2.2) : xW B p l e R s m args below meth c mi Q pc k ls st M := by
  simp only [xokb, Bool.and_eq_true, decide_eq_true_eq] at hok
  obtain ⟨hb8, hd, h⟩ := hok
  obtain ⟨t, ht, t1, t2, t3⟩ := xty_at hb8 hd
  simp only [xsem] at hs
  split at hs
  · rename_i x pp r
    split at hs
    · rename_i hc
      obtain ⟨hkd, hrf, hbo⟩ := hc
      simp only [xgo, Option.some.injEq, Sum.inl.injEq] at hs
      subst hs
      intro H locs Ls hR hS hL
      have hlow := hR.low hkd (by omega) (by omega)
      simp only [List.map_cons]
      rw [xr_pos (p := pp) (by omega)]
      have he := xws_at (B := B) hlow
      rw [xce_obj hkd] at he
      have hnf : narrow t (xr B (.inl x)) = xr B (.inl x) ∧ fits t (xr B (.inl x)) = true := by
        cases hbb : xbf b d with
        | false => rw [t3 hrf hbb]; exact ⟨rfl, rfl⟩
        | true =>
          rw [t2 hrf hbb]
          simp only [xr]
          rcases hbo hbb with rfl | rfl <;> exact ⟨by decide, by decide⟩
      refine xput C E hb8 hd h hR.2.2.1 (xws_D B M) hS he ht hnf.1 hnf.2 (by rw [xfs_len]; exact hd) (fun H1 locs1 hP1 hS1 hz ho => ?_)
      refine hK H1 locs1 Ls (hR.upd (M' := xwr M pp d x) hlow rfl (fun _ _ => rfl) (fun z hz => by funext j; simp [xwr, hz]) (xce_obj (M := xwr M pp d x) hkd) (fun z hz => xce_wr_ne B M x hz) (by rw [xfs_wr hrf]; exact hP1) hz (xbelow hlow.1 ho) (by rw [xat_wr, hkd]; omega)) hS1 hL
    · cases hs
  · rename_i v pp r
    split at hs
    · rename_i hc
      obtain ⟨hkd, hrf⟩ := hc
      simp only [xgo, Option.some.injEq, Sum.inl.injEq] at hs
      subst hs
      intro H locs Ls hR hS hL
      have hlow := hR.low hkd (by omega) (by omega)
      simp only [List.map_cons]
      rw [xr_pos (p := pp) (by omega)]
      have he := xws_at (B := B) hlow
      rw [xce_obj hkd] at he
      have hnf : narrow t (xr B (.inr (v + 1))) = xr B (.inr (v + 1)) ∧ fits t (xr B (.inr (v + 1))) = true := by
        have hrt := t1 hrf
        rw [xr_ref]
        cases t <;> first | exact ⟨rfl, rfl⟩ | cases hrt
      refine xput C E hb8 hd h hR.2.2.1 (xws_D B M) hS he ht hnf.1 hnf.2 (by rw [xfs_len]; exact hd) (fun H1 locs1 hP1 hS1 hz ho => ?_)
      have hkd' : (xat (xwref M pp d (v + 1)) pp).1 = 10 + b := by rw [xat_wref M _ _ hlow.2]; exact hkd
      refine hK H1 locs1 Ls (hR.upd (M' := xwref M pp d (v + 1)) hlow (by simp [xwref]) (fun z hz => xat_wref_ne M hz) (fun z hz => rfl) (xce_obj hkd') (fun z hz => xce_wref_ne B M hz) (by rw [xfs_wref hlow.2 hrf]; exact hP1) hz (xbelow hlow.1 ho) (by rw [hkd']; omega)) hS1 hL
    · cases hs
  · cases hs
end XSF
