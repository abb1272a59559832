/-! ===== the model: findLays ===== -/
def NF (g f : xF) : Prop := (∀ c, c ≠ 149 → g c = f c) ∧ ∀ i, i ≠ 20 → i ≠ 21 → g 149 i = f 149 i
def RowN (f : xF) (G : Nat → Int) (k : Nat) : Prop := ∀ v, v < 4096 → f 159 (4096 * k + v) = nv (mn (lev (coG G) (2 * k) v)) ∧ f 160 (4096 * k + v) = ct (lev (coG G) (2 * k) v)
section LL
variable {G : Nat → Int} {k set : Nat}
theorem wsG_f (h : G (4 + k) = -1) : wsG G k = false := decide_eq_false (fun z => z h)
theorem mbG_f1 (h : G (4 + 2 * k) = -1) : mbG G k = false := decide_eq_false (fun z => z.2.1 h)
theorem mbG_f2 (h : G (4 + (2 * k + 1)) = -1) : mbG G k = false := decide_eq_false (fun z => z.2.2 h)
theorem lev00 (hV : VG G) (hk : k < 4) (h1 : G (4 + 2 * k) = -1) (h2 : G (4 + (2 * k + 1)) = -1) : lev (coG G) (2 * k) set = sumL 0 (lev (coG G) (2 * k + 2) set) := by
  have ho := coG_ok hV
  rw [lev_skip ho (by omega) (wsG_f h1), lev_skip ho (by omega) (wsG_f h2)]
  unfold sumL
  rw [if_neg (by omega)]
  simp
theorem lev10 (hV : VG G) (hk : k < 4) (h1 : G (4 + 2 * k) ≠ -1) (h2 : G (4 + (2 * k + 1)) = -1) : lev (coG G) (2 * k) set = pt (slotG (csG G (2 * k)) (lev (coG G) (2 * k + 2)) set) 12 := by
  have ho := coG_ok hV
  rw [lev_slot (o := coG G) (s := 2 * k) (by omega) (decide_eq_true h1 : wsG G (2 * k) = true) (by rw [show 2 * k / 2 = k by omega]; exact mbG_f2 h2)]
  rw [show lev (coG G) (2 * k + 1) = lev (coG G) (2 * k + 2) from funext (fun v => lev_skip ho (by omega) (wsG_f h2))]
  rfl
theorem lev01 (hV : VG G) (hk : k < 4) (h1 : G (4 + 2 * k) = -1) (h2 : G (4 + (2 * k + 1)) ≠ -1) : lev (coG G) (2 * k) set = pt (slotG (csG G (2 * k + 1)) (lev (coG G) (2 * k + 2)) set) 12 := by
  have ho := coG_ok hV
  rw [lev_skip ho (by omega) (wsG_f h1), lev_slot (o := coG G) (s := 2 * k + 1) (by omega) (decide_eq_true h2 : wsG G (2 * k + 1) = true) (by rw [show (2 * k + 1) / 2 = k by omega]; exact mbG_f1 h1)]
  rfl
theorem lev11 (hV : VG G) (hk : k < 4) (h1 : G (4 + 2 * k) ≠ -1) (h2 : G (4 + (2 * k + 1)) ≠ -1) : lev (coG G) (2 * k) set = pt (pairG (cbG G k) (lev (coG G) (2 * k + 2)) set) 144 := by
  have ho := coG_ok hV
  cases hm : mbG G k with
  | true =>
    rw [lev_pair (o := coG G) hk hm, show cbG G k = cpG G k from funext (fun r => funext (fun q => cb_mb hm))]
    rfl
  | false =>
    have hn : ¬ G (12 + k) ≤ G (16 + k) := fun z => by
      have := of_decide_eq_false hm
      exact this ⟨z, h1, h2⟩
    rw [lev_even hk, show (coG G).mb k = false from hm, show cbG G k = c2 (coG G) k from funext (fun r => funext (fun q => cb_no hn))]
    show slotL _ _ _ _ = _
    rw [show lev (coG G) (2 * k + 1) = slotL (coG G) (2 * k + 1) (lev (coG G) (2 * k + 2)) from funext (fun v => lev_odd hm hk)]
    exact pair_two ho hk (decide_eq_true h1 : wsG G (2 * k) = true) (decide_eq_true h2 : wsG G (2 * k + 1) = true)
theorem cbG_b (hV : VG G) {r q : Nat} (hr : r < 12) (hq : q < 12) : cbG G k r q = 268435456 ∨ (0 ≤ cbG G k r q ∧ cbG G k r q ≤ 1000) := by
  unfold cbG
  split
  · exact Or.inl rfl
  · rename_i h
    have a := (csG_b (s := 2 * k) hV hr).resolve_left (by omega)
    have b := (csG_b (s := 2 * k + 1) hV hq).resolve_left (by omega)
    split
    · split
      · exact Or.inl rfl
      · rename_i h3
        have := (pk_b (k := k) hV hr (frG_lt a.2.2.1) hq (frG_lt b.2.2.1)).resolve_left h3
        exact Or.inr (by omega)
    · exact Or.inr (by omega)
end LL
section FL
variable {L : Nat} {f : xF} {Q : List xV → xF → Prop} {G : Nat → Int}
theorem C_119_r10 {k set : Nat} (hV : VG G) (hk : k < 4) (h1 : G (4 + 2 * k) ≠ -1) (h2 : G (4 + (2 * k + 1)) = -1) (hset : set < 4096) (hI : SI f G 96) (hN : RowN f G (k + 1)) (K : ∀ (g : xF) (X6 X7 : Option xV), NF g f → g 149 20 = nv (mn (pt (slotG (csG G (2 * k)) (lev (coG G) (2 * k + 2)) set) 12)) → g 149 21 = ct (pt (slotG (csG G (2 * k)) (lev (coG G) (2 * k + 2)) set) 12) → Rf (SHL L) 119 313 [some (.inr 149), some (.inl (k : Int)), some (.inl 1), some (.inl 0), some (.inl (set : Int)), some (.inl (4096 * ((k : Int) + 1))), X6, X7] [] g Q) : ∀ (n m : Nat) (X7 : Option xV) (g : xF), m + n = 12 → NF g f → g 149 20 = nv (mn (pt (slotG (csG G (2 * k)) (lev (coG G) (2 * k + 2)) set) m)) → g 149 21 = ct (pt (slotG (csG G (2 * k)) (lev (coG G) (2 * k + 2)) set) m) → Rf (SHL L) 119 129 [some (.inr 149), some (.inl (k : Int)), some (.inl 1), some (.inl 0), some (.inl (set : Int)), some (.inl (4096 * ((k : Int) + 1))), some (.inl (m : Int)), X7] [] g Q := by
  have ho := coG_ok hV
  have hlv := lev10 (set := set) hV hk h1 h2
  intro n
  induction n with
  | zero =>
    intro m X7 g hm hF e1 e2
    have hmj : m = 12 := by omega
    subst hmj
    refine R_il fx_119_129 rfl ?_
    refine R_push fx_119_131 ?_
    refine R_icge fx_119_133 (by omega) (fun hc => ?_) (fun hc => by omega)
    exact K g _ _ hF e1 e2
  | succ n ih =>
    intro m X7 g hm hF e1 e2
    have hp2 := p2b m (by omega)
    have hpw := pw12 (show m < 12 by omega)
    have es : g 157 (8 * (m : Int) + 2 * (k : Int)).toNat = nv (csG G (2 * k) m) := by rw [show (8 * (m : Int) + 2 * (k : Int)).toNat = 8 * m + 2 * k by omega, hF.1 157 (by omega), hI _ (by omega), show (8 * m + 2 * k) % 8 = 2 * k by omega, show (8 * m + 2 * k) / 8 = m by omega]
    have hcb := csG_b (s := 2 * k) hV (show m < 12 by omega)
    have hnx := hN (set ||| 2 ^ m) (or_lt hset (by omega))
    refine R_il fx_119_129 rfl ?_
    refine R_push fx_119_131 ?_
    refine R_icge fx_119_133 (by omega) (fun hc => by omega) (fun hc => ?_)
    refine R_il fx_119_136 rfl ?_
    refine R_ifne fx_119_137 (by decide) (fun _ => ?_) (fun h => absurd h (by decide))
    refine R_al fx_119_144 rfl (by omega) ?_
    refine R_il fx_119_145 rfl ?_
    refine R_il fx_119_147 rfl ?_
    refine R_cv fx_119_149 rfl rfl rfl rfl kd_149 ?_
    refine C_122 (by omega) (by omega) (fun hb => ?_) (fun hb => ?_)
    · refine R_ifeq fx_119_152 (by decide) (fun h => absurd h (by decide)) (fun _ => ?_)
      refine R_goto fx_119_155 ?_
      refine R_inc fx_119_307 rfl ?_
      refine R_goto fx_119_310 ?_
      have hsg : slotG (csG G (2 * k)) (lev (coG G) (2 * k + 2)) set m = [] := by unfold slotG; rw [if_pos hb]
      exact ih (m + 1) _ g (by omega) hF (by rw [pt_succ, hsg, List.append_nil]; exact e1) (by rw [pt_succ, hsg, List.append_nil]; exact e2)
    · refine R_ifeq fx_119_152 (by decide) (fun _ => ?_) (fun h => absurd h (by decide))
      refine R_il fx_119_158 rfl ?_
      refine R_ifne fx_119_159 (by decide) (fun h => absurd h (by decide)) (fun _ => ?_)
      refine R_al fx_119_162 rfl (by omega) ?_
      refine R_il fx_119_163 rfl ?_
      refine R_il fx_119_165 rfl ?_
      refine R_push fx_119_167 ?_
      refine R_il fx_119_168 rfl ?_
      refine R_bin fx_119_170 (xb_shl (x := 1) (by omega) (by omega)) ?_
      refine R_bin fx_119_171 (xb_or (by omega) (by omega)) ?_
      rw [Nat.one_mul]
      refine R_add fx_119_172 ?_
      refine R_al fx_119_173 rfl (by omega) ?_
      refine R_gr fx_119_174 kd_149 rfl rr_149_16 ?_
      refine R_push fx_119_177 ?_
      refine R_il fx_119_179 rfl ?_
      refine R_mul fx_119_181 ?_
      refine R_push fx_119_182 ?_
      refine R_il fx_119_183 rfl ?_
      refine R_mul fx_119_184 ?_
      refine R_add fx_119_185 ?_
      refine R_ia fx_119_186 (Or.inl kd_157) (by omega) (by rw [ln_157]; omega) (by omega) ?_
      refine R_cv fx_119_187 rfl rfl rfl rfl kd_149 ?_
      refine C_121 (at' := 4096 * (k + 1) + (set ||| 2 ^ m)) (c := csG G (2 * k) m) (a := pt (slotG (csG G (2 * k)) (lev (coG G) (2 * k + 2)) set) m) (b := lev (coG G) (2 * k + 2) (set ||| 2 ^ m)) (by omega) es (by have := or_lt hset (show m < 12 by omega); omega) (hcb.imp id (fun z => by omega)) (pt_sub (by omega : m ≤ 12) (by rw [← hlv]; exact lev_sml ho (by omega))) (lev_sml ho (by omega)) e1 e2 (by rw [hF.1 159 (by omega)]; exact hnx.1) (by rw [hF.1 160 (by omega)]; exact hnx.2) (fun g2 k1 k2 k3 k4 => ?_)
      have hsg : slotG (csG G (2 * k)) (lev (coG G) (2 * k + 2)) set m = sumL (csG G (2 * k) m) (lev (coG G) (2 * k + 2) (set ||| 2 ^ m)) := by unfold slotG; rw [if_neg hb]
      refine R_il fx_119_190 rfl ?_
      refine R_ifne fx_119_191 (by decide) (fun _ => ?_) (fun h => absurd h (by decide))
      refine R_il fx_119_224 rfl ?_
      refine R_ifeq fx_119_225 (by decide) (fun h => absurd h (by decide)) (fun _ => ?_)
      refine R_il fx_119_228 rfl ?_
      refine R_ifne fx_119_229 (by decide) (fun h => absurd h (by decide)) (fun _ => ?_)
      refine R_goto fx_119_232 ?_
      refine R_inc fx_119_307 rfl ?_
      refine R_goto fx_119_310 ?_
      exact ih (m + 1) _ g2 (by omega) ⟨fun c a => by rw [k1 c a]; exact hF.1 c a, fun i a b => by rw [k2 i a b]; exact hF.2 i a b⟩ (by rw [pt_succ, hsg]; exact k3) (by rw [pt_succ, hsg]; exact k4)
theorem C_119_r01 {k set : Nat} (hV : VG G) (hk : k < 4) (h1 : G (4 + 2 * k) = -1) (h2 : G (4 + (2 * k + 1)) ≠ -1) (hset : set < 4096) (hI : SI f G 96) (hN : RowN f G (k + 1)) (K : ∀ (g : xF) (X6 X7 : Option xV), NF g f → g 149 20 = nv (mn (pt (slotG (csG G (2 * k + 1)) (lev (coG G) (2 * k + 2)) set) 12)) → g 149 21 = ct (pt (slotG (csG G (2 * k + 1)) (lev (coG G) (2 * k + 2)) set) 12) → Rf (SHL L) 119 313 [some (.inr 149), some (.inl (k : Int)), some (.inl 0), some (.inl 1), some (.inl (set : Int)), some (.inl (4096 * ((k : Int) + 1))), X6, X7] [] g Q) : ∀ (n m : Nat) (X7 : Option xV) (g : xF), m + n = 12 → NF g f → g 149 20 = nv (mn (pt (slotG (csG G (2 * k + 1)) (lev (coG G) (2 * k + 2)) set) m)) → g 149 21 = ct (pt (slotG (csG G (2 * k + 1)) (lev (coG G) (2 * k + 2)) set) m) → Rf (SHL L) 119 129 [some (.inr 149), some (.inl (k : Int)), some (.inl 0), some (.inl 1), some (.inl (set : Int)), some (.inl (4096 * ((k : Int) + 1))), some (.inl (m : Int)), X7] [] g Q := by
  have ho := coG_ok hV
  have hlv := lev01 (set := set) hV hk h1 h2
  intro n
  induction n with
  | zero =>
    intro m X7 g hm hF e1 e2
    have hmj : m = 12 := by omega
    subst hmj
    refine R_il fx_119_129 rfl ?_
    refine R_push fx_119_131 ?_
    refine R_icge fx_119_133 (by omega) (fun hc => ?_) (fun hc => by omega)
    exact K g _ _ hF e1 e2
  | succ n ih =>
    intro m X7 g hm hF e1 e2
    have hp2 := p2b m (by omega)
    have hpw := pw12 (show m < 12 by omega)
    have es : g 157 (8 * (m : Int) + 2 * (k : Int) + 1).toNat = nv (csG G (2 * k + 1) m) := by rw [show (8 * (m : Int) + 2 * (k : Int) + 1).toNat = 8 * m + 2 * k + 1 by omega, hF.1 157 (by omega), hI _ (by omega), show (8 * m + 2 * k + 1) % 8 = 2 * k + 1 by omega, show (8 * m + 2 * k + 1) / 8 = m by omega]
    have hcb := csG_b (s := 2 * k + 1) hV (show m < 12 by omega)
    have hnx := hN (set ||| 2 ^ m) (or_lt hset (by omega))
    refine R_il fx_119_129 rfl ?_
    refine R_push fx_119_131 ?_
    refine R_icge fx_119_133 (by omega) (fun hc => by omega) (fun hc => ?_)
    refine R_il fx_119_136 rfl ?_
    refine R_ifne fx_119_137 (by decide) (fun h => absurd h (by decide)) (fun _ => ?_)
    refine R_il fx_119_140 rfl ?_
    refine R_ifeq fx_119_141 (by decide) (fun h => absurd h (by decide)) (fun _ => ?_)
    refine R_al fx_119_144 rfl (by omega) ?_
    refine R_il fx_119_145 rfl ?_
    refine R_il fx_119_147 rfl ?_
    refine R_cv fx_119_149 rfl rfl rfl rfl kd_149 ?_
    refine C_122 (by omega) (by omega) (fun hb => ?_) (fun hb => ?_)
    · refine R_ifeq fx_119_152 (by decide) (fun h => absurd h (by decide)) (fun _ => ?_)
      refine R_goto fx_119_155 ?_
      refine R_inc fx_119_307 rfl ?_
      refine R_goto fx_119_310 ?_
      have hsg : slotG (csG G (2 * k + 1)) (lev (coG G) (2 * k + 2)) set m = [] := by unfold slotG; rw [if_pos hb]
      exact ih (m + 1) _ g (by omega) hF (by rw [pt_succ, hsg, List.append_nil]; exact e1) (by rw [pt_succ, hsg, List.append_nil]; exact e2)
    · refine R_ifeq fx_119_152 (by decide) (fun _ => ?_) (fun h => absurd h (by decide))
      refine R_il fx_119_158 rfl ?_
      refine R_ifne fx_119_159 (by decide) (fun _ => ?_) (fun h => absurd h (by decide))
      refine R_il fx_119_190 rfl ?_
      refine R_ifne fx_119_191 (by decide) (fun h => absurd h (by decide)) (fun _ => ?_)
      refine R_al fx_119_194 rfl (by omega) ?_
      refine R_il fx_119_195 rfl ?_
      refine R_il fx_119_197 rfl ?_
      refine R_push fx_119_199 ?_
      refine R_il fx_119_200 rfl ?_
      refine R_bin fx_119_202 (xb_shl (x := 1) (by omega) (by omega)) ?_
      refine R_bin fx_119_203 (xb_or (by omega) (by omega)) ?_
      rw [Nat.one_mul]
      refine R_add fx_119_204 ?_
      refine R_al fx_119_205 rfl (by omega) ?_
      refine R_gr fx_119_206 kd_149 rfl rr_149_16 ?_
      refine R_push fx_119_209 ?_
      refine R_il fx_119_211 rfl ?_
      refine R_mul fx_119_213 ?_
      refine R_push fx_119_214 ?_
      refine R_il fx_119_215 rfl ?_
      refine R_mul fx_119_216 ?_
      refine R_add fx_119_217 ?_
      refine R_push fx_119_218 ?_
      refine R_add fx_119_219 ?_
      refine R_ia fx_119_220 (Or.inl kd_157) (by omega) (by rw [ln_157]; omega) (by omega) ?_
      refine R_cv fx_119_221 rfl rfl rfl rfl kd_149 ?_
      refine C_121 (at' := 4096 * (k + 1) + (set ||| 2 ^ m)) (c := csG G (2 * k + 1) m) (a := pt (slotG (csG G (2 * k + 1)) (lev (coG G) (2 * k + 2)) set) m) (b := lev (coG G) (2 * k + 2) (set ||| 2 ^ m)) (by omega) es (by have := or_lt hset (show m < 12 by omega); omega) (hcb.imp id (fun z => by omega)) (pt_sub (by omega : m ≤ 12) (by rw [← hlv]; exact lev_sml ho (by omega))) (lev_sml ho (by omega)) e1 e2 (by rw [hF.1 159 (by omega)]; exact hnx.1) (by rw [hF.1 160 (by omega)]; exact hnx.2) (fun g2 k1 k2 k3 k4 => ?_)
      have hsg : slotG (csG G (2 * k + 1)) (lev (coG G) (2 * k + 2)) set m = sumL (csG G (2 * k + 1) m) (lev (coG G) (2 * k + 2) (set ||| 2 ^ m)) := by unfold slotG; rw [if_neg hb]
      refine R_il fx_119_224 rfl ?_
      refine R_ifeq fx_119_225 (by decide) (fun _ => ?_) (fun h => absurd h (by decide))
      refine R_inc fx_119_307 rfl ?_
      refine R_goto fx_119_310 ?_
      exact ih (m + 1) _ g2 (by omega) ⟨fun c a => by rw [k1 c a]; exact hF.1 c a, fun i a b => by rw [k2 i a b]; exact hF.2 i a b⟩ (by rw [pt_succ, hsg]; exact k3) (by rw [pt_succ, hsg]; exact k4)
theorem C_119_q11 {k set : Nat} (hV : VG G) (hk : k < 4) (h1 : G (4 + 2 * k) ≠ -1) (h2 : G (4 + (2 * k + 1)) ≠ -1) (hset : set < 4096) (hB : BO f G 576) (hN : RowN f G (k + 1)) {r : Nat} (hr : r < 12) (hb : ¬ set.testBit r = true) (K : ∀ (g : xF) (X7 : Option xV), NF g f → g 149 20 = nv (mn (pt (pairG (cbG G k) (lev (coG G) (2 * k + 2)) set) (12 * r + 12))) → g 149 21 = ct (pt (pairG (cbG G k) (lev (coG G) (2 * k + 2)) set) (12 * r + 12)) → Rf (SHL L) 119 307 [some (.inr 149), some (.inl (k : Int)), some (.inl 1), some (.inl 1), some (.inl (set : Int)), some (.inl (4096 * ((k : Int) + 1))), some (.inl (r : Int)), X7] [] g Q) : ∀ (n q : Nat) (g : xF), q + n = 12 → NF g f → g 149 20 = nv (mn (pt (pairG (cbG G k) (lev (coG G) (2 * k + 2)) set) (12 * r + q))) → g 149 21 = ct (pt (pairG (cbG G k) (lev (coG G) (2 * k + 2)) set) (12 * r + q)) → Rf (SHL L) 119 238 [some (.inr 149), some (.inl (k : Int)), some (.inl 1), some (.inl 1), some (.inl (set : Int)), some (.inl (4096 * ((k : Int) + 1))), some (.inl (r : Int)), some (.inl (q : Int))] [] g Q := by
  have ho := coG_ok hV
  have hlv := lev11 (set := set) hV hk h1 h2
  have hp2 := p2b r hr
  have hpw := pw12 hr
  have hor := or_lt hset hr
  intro n
  induction n with
  | zero =>
    intro q g hq hF e1 e2
    have hqj : q = 12 := by omega
    subst hqj
    refine R_il fx_119_238 rfl ?_
    refine R_push fx_119_240 ?_
    refine R_icge fx_119_242 (by omega) (fun hc => ?_) (fun hc => by omega)
    exact K g _ hF e1 e2
  | succ n ih =>
    intro q g hq hF e1 e2
    have hp2q := p2b q (by omega)
    have hpwq := pw12 (show q < 12 by omega)
    have d1 : (12 * r + q) / 12 = r := by omega
    have d2 : (12 * r + q) % 12 = q := by omega
    have es : g 158 (144 * (k : Int) + 12 * (r : Int) + (q : Int)).toNat = nv (cbG G k r q) := by rw [show (144 * (k : Int) + 12 * (r : Int) + (q : Int)).toNat = 144 * k + 12 * r + q by omega, hF.1 158 (by omega), hB _ (by omega), show (144 * k + 12 * r + q) / 144 = k by omega, show (144 * k + 12 * r + q) / 12 % 12 = r by omega, show (144 * k + 12 * r + q) % 12 = q by omega]
    have hcb := cbG_b (k := k) hV hr (show q < 12 by omega)
    have hnx := hN (set ||| 2 ^ r ||| 2 ^ q) (or_lt hor (by omega))
    have no : pairG (cbG G k) (lev (coG G) (2 * k + 2)) set (12 * r + q) = [] → Rf (SHL L) 119 238 [some (.inr 149), some (.inl (k : Int)), some (.inl 1), some (.inl 1), some (.inl (set : Int)), some (.inl (4096 * ((k : Int) + 1))), some (.inl (r : Int)), some (.inl ((q : Int) + 1))] [] g Q := fun h => ih (q + 1) g (by omega) hF (by rw [← Nat.add_assoc, pt_succ, h, List.append_nil]; exact e1) (by rw [← Nat.add_assoc, pt_succ, h, List.append_nil]; exact e2)
    refine R_il fx_119_238 rfl ?_
    refine R_push fx_119_240 ?_
    refine R_icge fx_119_242 (by omega) (fun hc => by omega) (fun hc => ?_)
    refine R_al fx_119_245 rfl (by omega) ?_
    refine R_il fx_119_246 rfl ?_
    refine R_il fx_119_248 rfl ?_
    refine R_cv fx_119_250 rfl rfl rfl rfl kd_149 ?_
    refine C_122 (by omega) (by omega) (fun hb2 => ?_) (fun hb2 => ?_)
    · refine R_ifne fx_119_253 (by decide) (fun _ => ?_) (fun h => absurd h (by decide))
      refine R_inc fx_119_301 rfl ?_
      refine R_goto fx_119_304 ?_
      refine no ?_
      unfold pairG
      rw [d1, d2, if_pos (by simp [hb2])]
    · refine R_ifne fx_119_253 (by decide) (fun h => absurd h (by decide)) (fun _ => ?_)
      refine R_il fx_119_256 rfl ?_
      refine R_il fx_119_258 rfl ?_
      refine R_iceq fx_119_260 (by omega) (fun hc => ?_) (fun hc => ?_)
      · refine R_inc fx_119_301 rfl ?_
        refine R_goto fx_119_304 ?_
        refine no ?_
        have hrq : r = q := by omega
        have hz : cbG G k r q = 268435456 := if_pos (Or.inl hrq)
        unfold pairG
        rw [d1, d2, hz]
        unfold sumL
        simp
      · refine R_al fx_119_263 rfl (by omega) ?_
        refine R_il fx_119_264 rfl ?_
        refine R_il fx_119_266 rfl ?_
        refine R_push fx_119_268 ?_
        refine R_il fx_119_269 rfl ?_
        refine R_bin fx_119_271 (xb_shl (x := 1) (by omega) (by omega)) ?_
        refine R_bin fx_119_272 (xb_or (by omega) (by omega)) ?_
        rw [Nat.one_mul]
        refine R_push fx_119_273 ?_
        refine R_il fx_119_274 rfl ?_
        refine R_bin fx_119_276 (xb_shl (x := 1) (by omega) (by omega)) ?_
        refine R_bin fx_119_277 (xb_or (by omega) (by omega)) ?_
        rw [Nat.one_mul]
        refine R_add fx_119_278 ?_
        refine R_al fx_119_279 rfl (by omega) ?_
        refine R_gr fx_119_280 kd_149 rfl rr_149_17 ?_
        refine R_push fx_119_283 ?_
        refine R_il fx_119_286 rfl ?_
        refine R_mul fx_119_287 ?_
        refine R_push fx_119_288 ?_
        refine R_il fx_119_290 rfl ?_
        refine R_mul fx_119_292 ?_
        refine R_add fx_119_293 ?_
        refine R_il fx_119_294 rfl ?_
        refine R_add fx_119_296 ?_
        refine R_ia fx_119_297 (Or.inl kd_158) (by omega) (by rw [ln_158]; omega) (by omega) ?_
        refine R_cv fx_119_298 rfl rfl rfl rfl kd_149 ?_
        refine C_121 (at' := 4096 * (k + 1) + (set ||| 2 ^ r ||| 2 ^ q)) (c := cbG G k r q) (a := pt (pairG (cbG G k) (lev (coG G) (2 * k + 2)) set) (12 * r + q)) (b := lev (coG G) (2 * k + 2) (set ||| 2 ^ r ||| 2 ^ q)) (by omega) es (by have := or_lt hor (show q < 12 by omega); omega) hcb (pt_sub (by omega : 12 * r + q ≤ 144) (by rw [← hlv]; exact lev_sml ho (by omega))) (lev_sml ho (by omega)) e1 e2 (by rw [hF.1 159 (by omega)]; exact hnx.1) (by rw [hF.1 160 (by omega)]; exact hnx.2) (fun g2 k1 k2 k3 k4 => ?_)
        have hsg : pairG (cbG G k) (lev (coG G) (2 * k + 2)) set (12 * r + q) = sumL (cbG G k r q) (lev (coG G) (2 * k + 2) (set ||| 2 ^ r ||| 2 ^ q)) := by unfold pairG; rw [d1, d2, if_neg (by simp; exact ⟨by simpa using hb, by simpa using hb2⟩)]
        refine R_inc fx_119_301 rfl ?_
        refine R_goto fx_119_304 ?_
        exact ih (q + 1) g2 (by omega) ⟨fun c a => by rw [k1 c a]; exact hF.1 c a, fun i a b => by rw [k2 i a b]; exact hF.2 i a b⟩ (by rw [← Nat.add_assoc, pt_succ, hsg]; exact k3) (by rw [← Nat.add_assoc, pt_succ, hsg]; exact k4)
theorem C_119_r11 {k set : Nat} (hV : VG G) (hk : k < 4) (h1 : G (4 + 2 * k) ≠ -1) (h2 : G (4 + (2 * k + 1)) ≠ -1) (hset : set < 4096) (hB : BO f G 576) (hN : RowN f G (k + 1)) (K : ∀ (g : xF) (X6 X7 : Option xV), NF g f → g 149 20 = nv (mn (pt (pairG (cbG G k) (lev (coG G) (2 * k + 2)) set) 144)) → g 149 21 = ct (pt (pairG (cbG G k) (lev (coG G) (2 * k + 2)) set) 144) → Rf (SHL L) 119 313 [some (.inr 149), some (.inl (k : Int)), some (.inl 1), some (.inl 1), some (.inl (set : Int)), some (.inl (4096 * ((k : Int) + 1))), X6, X7] [] g Q) : ∀ (n r : Nat) (X7 : Option xV) (g : xF), r + n = 12 → NF g f → g 149 20 = nv (mn (pt (pairG (cbG G k) (lev (coG G) (2 * k + 2)) set) (12 * r))) → g 149 21 = ct (pt (pairG (cbG G k) (lev (coG G) (2 * k + 2)) set) (12 * r)) → Rf (SHL L) 119 129 [some (.inr 149), some (.inl (k : Int)), some (.inl 1), some (.inl 1), some (.inl (set : Int)), some (.inl (4096 * ((k : Int) + 1))), some (.inl (r : Int)), X7] [] g Q := by
  intro n
  induction n with
  | zero =>
    intro r X7 g hr hF e1 e2
    have hrj : r = 12 := by omega
    subst hrj
    refine R_il fx_119_129 rfl ?_
    refine R_push fx_119_131 ?_
    refine R_icge fx_119_133 (by omega) (fun hc => ?_) (fun hc => by omega)
    exact K g _ _ hF e1 e2
  | succ n ih =>
    intro r X7 g hr hF e1 e2
    refine R_il fx_119_129 rfl ?_
    refine R_push fx_119_131 ?_
    refine R_icge fx_119_133 (by omega) (fun hc => by omega) (fun hc => ?_)
    refine R_il fx_119_136 rfl ?_
    refine R_ifne fx_119_137 (by decide) (fun _ => ?_) (fun h => absurd h (by decide))
    refine R_al fx_119_144 rfl (by omega) ?_
    refine R_il fx_119_145 rfl ?_
    refine R_il fx_119_147 rfl ?_
    refine R_cv fx_119_149 rfl rfl rfl rfl kd_149 ?_
    refine C_122 (by omega) (by omega) (fun hb => ?_) (fun hb => ?_)
    · refine R_ifeq fx_119_152 (by decide) (fun h => absurd h (by decide)) (fun _ => ?_)
      refine R_goto fx_119_155 ?_
      refine R_inc fx_119_307 rfl ?_
      refine R_goto fx_119_310 ?_
      have hsk := pt_skip (g := pairG (cbG G k) (lev (coG G) (2 * k + 2)) set) (n := 12 * r) (m := 12) (fun i a b => by unfold pairG; rw [show i / 12 = r by omega, hb]; rfl)
      rw [show 12 * r + 12 = 12 * (r + 1) by omega] at hsk
      exact ih (r + 1) _ g (by omega) hF (by rw [hsk]; exact e1) (by rw [hsk]; exact e2)
    · refine R_ifeq fx_119_152 (by decide) (fun _ => ?_) (fun h => absurd h (by decide))
      refine R_il fx_119_158 rfl ?_
      refine R_ifne fx_119_159 (by decide) (fun _ => ?_) (fun h => absurd h (by decide))
      refine R_il fx_119_190 rfl ?_
      refine R_ifne fx_119_191 (by decide) (fun _ => ?_) (fun h => absurd h (by decide))
      refine R_il fx_119_224 rfl ?_
      refine R_ifeq fx_119_225 (by decide) (fun h => absurd h (by decide)) (fun _ => ?_)
      refine R_il fx_119_228 rfl ?_
      refine R_ifne fx_119_229 (by decide) (fun _ => ?_) (fun h => absurd h (by decide))
      refine R_push fx_119_235 ?_
      refine R_is fx_119_236 ?_
      refine C_119_q11 hV hk h1 h2 hset hB hN (r := r) (by omega) hb (fun g2 Y7 a b c => ?_) 12 0 g (by omega) hF e1 e2
      refine R_inc fx_119_307 rfl ?_
      refine R_goto fx_119_310 ?_
      exact ih (r + 1) _ g2 (by omega) a b c
end FL
