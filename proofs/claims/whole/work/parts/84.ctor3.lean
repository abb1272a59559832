/-! ===== constructors: the bench, the model ===== -/
def BEc (b : Nat) : List xC := (16, 4, fun i => xnth [b + 1, b + 18, b + 122, b + 138] i 0) :: (STc (b + 1) ++ (HIc (b + 18) ++ (WRc (b + 122) ++ PLc (b + 138))))
theorem ref4b (b : Nat) : (fun i => if i = 3 then b + 138 else if i = 2 then b + 122 else if i = 1 then b + 18 else if i = 0 then b + 1 else (0 : Nat)) = fun i => xnth [b + 1, b + 18, b + 122, b + 138] i 0 := by
  funext i
  match i with
  | 0 => rfl
  | 1 => rfl
  | 2 => rfl
  | 3 => rfl
  | n + 4 => rw [if_neg (by omega), if_neg (by omega), if_neg (by omega), if_neg (by omega)]; rfl
section CW
variable {S e : List xC} {f : xF} {Q : List xV → xM → Prop} {b : Nat}
theorem C_0 (hb : S.length = b) (h0 : 0 < b) (K : ∀ g : xF, (∀ c, c < b → g c = f c) → (g (b + 1) 4 = 0 ∧ g (b + 1) 5 = 6 ∧ g (b + 1) 6 = 5 ∧ g (b + 1) 7 = 0) → (∀ s, s < 8 → g (b + 3) s = -1) → (∀ k, k < 4 → g (b + 4) k = 1) → (∀ k, k < 4 → g (b + 5) k = 0) → (g (b + 18) 1 = 0 ∧ g (b + 18) 2 = 0) → g (b + 138) 8 = 0 → Q [] (S ++ BEc b, g)) : Rg 0 0 (0, 0) (xloc 0 [.inr b]) [] (S ++ [(16, 4, zr)], f) Q := by
  refine G_al fx_0_0 rfl (by omega) ?_
  refine G_oi fx_0_1 (by omega) ⟨by decide, by decide, Nat.le_of_ble_eq_true rfl⟩ ?_
  refine G_al fx_0_4 rfl (by omega) ?_
  refine G_new (p := (b + 1)) fx_0_5 (by rw [hb]; rfl) (by decide) ?_
  refine G_dup fx_0_8 ?_
  refine G_ci fx_0_9 rfl ⟨Nat.le_of_ble_eq_true rfl, Nat.le_of_ble_eq_true rfl, by decide, by decide, by decide, by decide⟩ (by omega) rfl rfl ?_
  refine Rg.cast (S' := (S ++ [(16, 4, zr)]) ++ [(14, 8, zr)]) (by rw [List.append_assoc]; rfl) ?_
  refine C_1 (S := S ++ [(16, 4, zr)]) (b := b + 1) (by rw [List.length_append, hb]; rfl) (by omega) (fun i => xzr_s) (fun g1 a1 a2 a3 a4 a5 => ?_)
  refine Rg.cast (S' := S ++ ([(16, 4, zr)] ++ STc (b + 1))) ?_ ?_
  · rw [List.append_assoc]
  refine G_pfr fx_0_12 (j := 0) (by omega) rfl rfl (by omega) ?_
  refine G_al fx_0_15 rfl (by omega) ?_
  refine G_new (p := (b + 18)) fx_0_16 (by rw [hb]; rfl) (by decide) ?_
  refine G_dup fx_0_19 ?_
  refine G_ci fx_0_20 rfl ⟨Nat.le_of_ble_eq_true rfl, Nat.le_of_ble_eq_true rfl, by decide, by decide, by decide, by decide⟩ (by omega) rfl rfl ?_
  refine Rg.cast (S' := (S ++ ((16, 4, fun i => if i = 0 then b + 1 else (0 : Nat)) :: STc (b + 1))) ++ [(11, 3, zr)]) (by rw [List.append_assoc]; rfl) ?_
  refine C_4 (S := S ++ ((16, 4, fun i => if i = 0 then b + 1 else (0 : Nat)) :: STc (b + 1))) (b := b + 18) (by rw [List.length_append, hb]; rfl) (by omega) (fun i => xzr_s) (fun g2 b1 b2 => ?_)
  refine Rg.cast (S' := S ++ (((16, 4, fun i => if i = 0 then b + 1 else (0 : Nat)) :: (STc (b + 1) ++ HIc (b + 18))))) ?_ ?_
  · rw [List.append_assoc]; rfl
  refine G_pfr fx_0_23 (j := 0) (by omega) rfl rfl (by omega) ?_
  refine G_al fx_0_26 rfl (by omega) ?_
  refine G_new (p := (b + 122)) fx_0_27 (by rw [hb]; rfl) (by decide) ?_
  refine G_dup fx_0_30 ?_
  refine G_ci fx_0_31 rfl ⟨Nat.le_of_ble_eq_true rfl, Nat.le_of_ble_eq_true rfl, by decide, by decide, by decide, by decide⟩ (by omega) rfl rfl ?_
  refine Rg.cast (S' := (S ++ ((16, 4, fun i => if i = 1 then b + 18 else if i = 0 then b + 1 else (0 : Nat)) :: (STc (b + 1) ++ HIc (b + 18)))) ++ [(15, 3, zr)]) (by rw [List.append_assoc]; rfl) ?_
  refine C_5 (S := S ++ ((16, 4, fun i => if i = 1 then b + 18 else if i = 0 then b + 1 else (0 : Nat)) :: (STc (b + 1) ++ HIc (b + 18)))) (b := b + 122) (by rw [List.length_append, hb]; rfl) (by omega) (fun g3 c1 => ?_)
  refine Rg.cast (S' := S ++ (((16, 4, fun i => if i = 1 then b + 18 else if i = 0 then b + 1 else (0 : Nat)) :: (STc (b + 1) ++ (HIc (b + 18) ++ WRc (b + 122)))))) ?_ ?_
  · rw [List.append_assoc, List.cons_append, List.append_assoc]
  refine G_pfr fx_0_34 (j := 0) (by omega) rfl rfl (by omega) ?_
  refine G_al fx_0_37 rfl (by omega) ?_
  refine G_new (p := (b + 138)) fx_0_38 (by rw [hb]; rfl) (by decide) ?_
  refine G_dup fx_0_41 ?_
  refine G_ci fx_0_42 rfl ⟨Nat.le_of_ble_eq_true rfl, Nat.le_of_ble_eq_true rfl, by decide, by decide, by decide, by decide⟩ (by omega) rfl rfl ?_
  refine Rg.cast (S' := (S ++ ((16, 4, fun i => if i = 2 then b + 122 else if i = 1 then b + 18 else if i = 0 then b + 1 else (0 : Nat)) :: (STc (b + 1) ++ (HIc (b + 18) ++ WRc (b + 122))))) ++ [(12, 9, zr)]) (by rw [List.append_assoc]; rfl) ?_
  refine C_6 (S := S ++ ((16, 4, fun i => if i = 2 then b + 122 else if i = 1 then b + 18 else if i = 0 then b + 1 else (0 : Nat)) :: (STc (b + 1) ++ (HIc (b + 18) ++ WRc (b + 122))))) (b := b + 138) (by rw [List.length_append, hb]; rfl) (by omega) (fun i => xzr_s) (fun g4 d1 d2 => ?_)
  refine Rg.cast (S' := S ++ (((16, 4, fun i => if i = 2 then b + 122 else if i = 1 then b + 18 else if i = 0 then b + 1 else (0 : Nat)) :: (STc (b + 1) ++ (HIc (b + 18) ++ (WRc (b + 122) ++ PLc (b + 138))))))) ?_ ?_
  · rw [List.append_assoc, List.cons_append, List.append_assoc, List.append_assoc]
  refine G_pfr fx_0_45 (j := 0) (by omega) rfl rfl (by omega) ?_
  refine G_retv fx_0_48 rfl ?_
  refine Eq.mp (congrArg (fun X => Q [] (X, _)) ?_) (K g4 (fun c hc => ?_) ?_ (fun s hs => ?_) (fun k hk => ?_) (fun k hk => ?_) ?_ d2)
  · unfold BEc; rw [← ref4b]; rfl
  · rw [d1 c (by omega), xzr_n (by omega), c1 c (by omega), xzr_n (by omega), b1 c (by omega), xzr_n (by omega), a1 c (by omega), xzr_n (by omega)]
  · rw [d1 _ (by omega), xzr_n (by omega), c1 _ (by omega), xzr_n (by omega), b1 _ (by omega), xzr_n (by omega)]; exact a2
  · rw [d1 _ (by omega), xzr_n (by omega), c1 _ (by omega), xzr_n (by omega), b1 _ (by omega), xzr_n (by omega)]; exact a3 s hs
  · rw [d1 _ (by omega), xzr_n (by omega), c1 _ (by omega), xzr_n (by omega), b1 _ (by omega), xzr_n (by omega)]; exact a4 k hk
  · rw [d1 _ (by omega), xzr_n (by omega), c1 _ (by omega), xzr_n (by omega), b1 _ (by omega), xzr_n (by omega)]; exact a5 k hk
  · rw [d1 _ (by omega), xzr_n (by omega), c1 _ (by omega), xzr_n (by omega)]; exact b2
theorem refM (b : Nat) : (fun i => if i = 22 then b + 12 else if i = 19 then b + 11 else if i = 18 then b + 10 else if i = 17 then b + 9 else if i = 16 then b + 8 else if i = 9 then b + 7 else if i = 8 then b + 6 else if i = 7 then b + 5 else if i = 6 then b + 4 else if i = 5 then b + 3 else if i = 2 then b + 2 else if i = 1 then b + 1 else (0 : Nat)) = fun i => xnth [0, b + 1, b + 2, 0, 0, b + 3, b + 4, b + 5, b + 6, b + 7, 0, 0, 0, 0, 0, 0, b + 8, b + 9, b + 10, b + 11, 0, 0, b + 12] i 0 := by
  funext i
  match i with
  | 0 => rfl
  | 1 => rfl
  | 2 => rfl
  | 3 => rfl
  | 4 => rfl
  | 5 => rfl
  | 6 => rfl
  | 7 => rfl
  | 8 => rfl
  | 9 => rfl
  | 10 => rfl
  | 11 => rfl
  | 12 => rfl
  | 13 => rfl
  | 14 => rfl
  | 15 => rfl
  | 16 => rfl
  | 17 => rfl
  | 18 => rfl
  | 19 => rfl
  | 20 => rfl
  | 21 => rfl
  | 22 => rfl
  | n + 23 => rw [if_neg (by omega), if_neg (by omega), if_neg (by omega), if_neg (by omega), if_neg (by omega), if_neg (by omega), if_neg (by omega), if_neg (by omega), if_neg (by omega), if_neg (by omega), if_neg (by omega), if_neg (by omega)]; rfl
def MDc (b : Nat) : List xC := (17, 23, fun i => xnth [0, b + 1, b + 2, 0, 0, b + 3, b + 4, b + 5, b + 6, b + 7, 0, 0, 0, 0, 0, 0, b + 8, b + 9, b + 10, b + 11, 0, 0, b + 12] i 0) :: [(1, 112, zr), (1, 672, zr), (1, 8, zr), (1, 8, zr), (1, 8, zr), (1, 202, zr), (1, 202, zr), (1, 96, zr), (1, 576, zr), (1, 20480, zr), (1, 20480, zr), (1, 8, zr)]
theorem C_91 (hb : S.length = b) (h0 : 0 < b) (hz : ∀ i, f b i = 0) (K : ∀ g : xF, (∀ c, c < b → g c = f c) → (∀ i, g b i = 0) → (∀ i, g (b + 1) i = 0) → (∀ i, g (b + 7) i = 0) → (∀ s, s < 8 → g (b + 3) s = xnth xkeys (0 * 8 + s) 0) → (∀ s, s < 8 → g (b + 4) s = xnth xkeys (1 * 8 + s) 0) → (∀ s, s < 8 → g (b + 5) s = xnth xkeys (2 * 8 + s) 0) → Q [] (S ++ MDc b, g)) : Rg 91 0 (0, 0) (xloc 91 [.inr b]) [] (S ++ [(17, 23, zr)], f) Q := by
  refine G_al fx_91_0 rfl (by omega) ?_
  refine G_oi fx_91_1 (by omega) ⟨by decide, by decide, Nat.le_of_ble_eq_true rfl⟩ ?_
  refine G_al fx_91_4 rfl (by omega) ?_
  refine G_push fx_91_5 ?_
  refine G_na (p := (b + 1)) fx_91_7 (by rw [hb]; rfl) (by decide) (by decide) ?_
  refine G_pfr fx_91_9 (j := 0) (by omega) rfl rfl (by omega) ?_
  refine Rg.cast (S' := S ++ ((17, 23, fun i => if i = 1 then b + 1 else (0 : Nat)) :: [(1, 112, zr)])) rfl ?_
  refine G_al fx_91_12 rfl (by omega) ?_
  refine G_push fx_91_13 ?_
  refine G_na (p := (b + 2)) fx_91_16 (by rw [hb]; rfl) (by decide) (by decide) ?_
  refine G_pfr fx_91_18 (j := 0) (by omega) rfl rfl (by omega) ?_
  refine Rg.cast (S' := S ++ ((17, 23, fun i => if i = 2 then b + 2 else if i = 1 then b + 1 else (0 : Nat)) :: [(1, 112, zr), (1, 672, zr)])) rfl ?_
  refine G_al fx_91_21 rfl (by omega) ?_
  refine G_push fx_91_22 ?_
  refine G_na (p := (b + 3)) fx_91_24 (by rw [hb]; rfl) (by decide) (by decide) ?_
  refine G_dup fx_91_26 ?_
  refine G_push fx_91_27 ?_
  refine G_push fx_91_28 ?_
  refine G_ias fx_91_29 (j := 3) (by omega) rfl (by decide) (show ((0 : Int) < ((8 : Nat) : Int)) by decide) (by decide) ?_
  refine G_dup fx_91_30 ?_
  refine G_push fx_91_31 ?_
  refine G_push fx_91_32 ?_
  refine G_ias fx_91_35 (j := 3) (by omega) rfl (by decide) (show ((1 : Int) < ((8 : Nat) : Int)) by decide) (by decide) ?_
  refine G_dup fx_91_36 ?_
  refine G_push fx_91_37 ?_
  refine G_push fx_91_38 ?_
  refine G_ias fx_91_41 (j := 3) (by omega) rfl (by decide) (show ((2 : Int) < ((8 : Nat) : Int)) by decide) (by decide) ?_
  refine G_dup fx_91_42 ?_
  refine G_push fx_91_43 ?_
  refine G_push fx_91_44 ?_
  refine G_ias fx_91_47 (j := 3) (by omega) rfl (by decide) (show ((3 : Int) < ((8 : Nat) : Int)) by decide) (by decide) ?_
  refine G_dup fx_91_48 ?_
  refine G_push fx_91_49 ?_
  refine G_push fx_91_50 ?_
  refine G_ias fx_91_53 (j := 3) (by omega) rfl (by decide) (show ((4 : Int) < ((8 : Nat) : Int)) by decide) (by decide) ?_
  refine G_dup fx_91_54 ?_
  refine G_push fx_91_55 ?_
  refine G_push fx_91_56 ?_
  refine G_ias fx_91_59 (j := 3) (by omega) rfl (by decide) (show ((5 : Int) < ((8 : Nat) : Int)) by decide) (by decide) ?_
  refine G_dup fx_91_60 ?_
  refine G_push fx_91_61 ?_
  refine G_push fx_91_63 ?_
  refine G_ias fx_91_66 (j := 3) (by omega) rfl (by decide) (show ((6 : Int) < ((8 : Nat) : Int)) by decide) (by decide) ?_
  refine G_dup fx_91_67 ?_
  refine G_push fx_91_68 ?_
  refine G_push fx_91_70 ?_
  refine G_ias fx_91_73 (j := 3) (by omega) rfl (by decide) (show ((7 : Int) < ((8 : Nat) : Int)) by decide) (by decide) ?_
  refine G_pfr fx_91_74 (j := 0) (by omega) rfl rfl (by omega) ?_
  refine Rg.cast (S' := S ++ ((17, 23, fun i => if i = 5 then b + 3 else if i = 2 then b + 2 else if i = 1 then b + 1 else (0 : Nat)) :: [(1, 112, zr), (1, 672, zr), (1, 8, zr)])) rfl ?_
  refine G_al fx_91_77 rfl (by omega) ?_
  refine G_push fx_91_78 ?_
  refine G_na (p := (b + 4)) fx_91_80 (by rw [hb]; rfl) (by decide) (by decide) ?_
  refine G_dup fx_91_82 ?_
  refine G_push fx_91_83 ?_
  refine G_push fx_91_84 ?_
  refine G_ias fx_91_85 (j := 4) (by omega) rfl (by decide) (show ((0 : Int) < ((8 : Nat) : Int)) by decide) (by decide) ?_
  refine G_dup fx_91_86 ?_
  refine G_push fx_91_87 ?_
  refine G_push fx_91_88 ?_
  refine G_ias fx_91_91 (j := 4) (by omega) rfl (by decide) (show ((1 : Int) < ((8 : Nat) : Int)) by decide) (by decide) ?_
  refine G_dup fx_91_92 ?_
  refine G_push fx_91_93 ?_
  refine G_push fx_91_94 ?_
  refine G_ias fx_91_97 (j := 4) (by omega) rfl (by decide) (show ((2 : Int) < ((8 : Nat) : Int)) by decide) (by decide) ?_
  refine G_dup fx_91_98 ?_
  refine G_push fx_91_99 ?_
  refine G_push fx_91_100 ?_
  refine G_ias fx_91_103 (j := 4) (by omega) rfl (by decide) (show ((3 : Int) < ((8 : Nat) : Int)) by decide) (by decide) ?_
  refine G_dup fx_91_104 ?_
  refine G_push fx_91_105 ?_
  refine G_push fx_91_106 ?_
  refine G_ias fx_91_109 (j := 4) (by omega) rfl (by decide) (show ((4 : Int) < ((8 : Nat) : Int)) by decide) (by decide) ?_
  refine G_dup fx_91_110 ?_
  refine G_push fx_91_111 ?_
  refine G_push fx_91_112 ?_
  refine G_ias fx_91_115 (j := 4) (by omega) rfl (by decide) (show ((5 : Int) < ((8 : Nat) : Int)) by decide) (by decide) ?_
  refine G_dup fx_91_116 ?_
  refine G_push fx_91_117 ?_
  refine G_push fx_91_119 ?_
  refine G_ias fx_91_122 (j := 4) (by omega) rfl (by decide) (show ((6 : Int) < ((8 : Nat) : Int)) by decide) (by decide) ?_
  refine G_dup fx_91_123 ?_
  refine G_push fx_91_124 ?_
  refine G_push fx_91_126 ?_
  refine G_ias fx_91_129 (j := 4) (by omega) rfl (by decide) (show ((7 : Int) < ((8 : Nat) : Int)) by decide) (by decide) ?_
  refine G_pfr fx_91_130 (j := 0) (by omega) rfl rfl (by omega) ?_
  refine Rg.cast (S' := S ++ ((17, 23, fun i => if i = 6 then b + 4 else if i = 5 then b + 3 else if i = 2 then b + 2 else if i = 1 then b + 1 else (0 : Nat)) :: [(1, 112, zr), (1, 672, zr), (1, 8, zr), (1, 8, zr)])) rfl ?_
  refine G_al fx_91_133 rfl (by omega) ?_
  refine G_push fx_91_134 ?_
  refine G_na (p := (b + 5)) fx_91_136 (by rw [hb]; rfl) (by decide) (by decide) ?_
  refine G_dup fx_91_138 ?_
  refine G_push fx_91_139 ?_
  refine G_push fx_91_140 ?_
  refine G_ias fx_91_141 (j := 5) (by omega) rfl (by decide) (show ((0 : Int) < ((8 : Nat) : Int)) by decide) (by decide) ?_
  refine G_dup fx_91_142 ?_
  refine G_push fx_91_143 ?_
  refine G_push fx_91_144 ?_
  refine G_ias fx_91_145 (j := 5) (by omega) rfl (by decide) (show ((1 : Int) < ((8 : Nat) : Int)) by decide) (by decide) ?_
  refine G_dup fx_91_146 ?_
  refine G_push fx_91_147 ?_
  refine G_push fx_91_148 ?_
  refine G_ias fx_91_151 (j := 5) (by omega) rfl (by decide) (show ((2 : Int) < ((8 : Nat) : Int)) by decide) (by decide) ?_
  refine G_dup fx_91_152 ?_
  refine G_push fx_91_153 ?_
  refine G_push fx_91_154 ?_
  refine G_ias fx_91_157 (j := 5) (by omega) rfl (by decide) (show ((3 : Int) < ((8 : Nat) : Int)) by decide) (by decide) ?_
  refine G_dup fx_91_158 ?_
  refine G_push fx_91_159 ?_
  refine G_push fx_91_160 ?_
  refine G_ias fx_91_163 (j := 5) (by omega) rfl (by decide) (show ((4 : Int) < ((8 : Nat) : Int)) by decide) (by decide) ?_
  refine G_dup fx_91_164 ?_
  refine G_push fx_91_165 ?_
  refine G_push fx_91_166 ?_
  refine G_ias fx_91_169 (j := 5) (by omega) rfl (by decide) (show ((5 : Int) < ((8 : Nat) : Int)) by decide) (by decide) ?_
  refine G_dup fx_91_170 ?_
  refine G_push fx_91_171 ?_
  refine G_push fx_91_173 ?_
  refine G_ias fx_91_176 (j := 5) (by omega) rfl (by decide) (show ((6 : Int) < ((8 : Nat) : Int)) by decide) (by decide) ?_
  refine G_dup fx_91_177 ?_
  refine G_push fx_91_178 ?_
  refine G_push fx_91_180 ?_
  refine G_ias fx_91_183 (j := 5) (by omega) rfl (by decide) (show ((7 : Int) < ((8 : Nat) : Int)) by decide) (by decide) ?_
  refine G_pfr fx_91_184 (j := 0) (by omega) rfl rfl (by omega) ?_
  refine Rg.cast (S' := S ++ ((17, 23, fun i => if i = 7 then b + 5 else if i = 6 then b + 4 else if i = 5 then b + 3 else if i = 2 then b + 2 else if i = 1 then b + 1 else (0 : Nat)) :: [(1, 112, zr), (1, 672, zr), (1, 8, zr), (1, 8, zr), (1, 8, zr)])) rfl ?_
  refine G_al fx_91_187 rfl (by omega) ?_
  refine G_push fx_91_188 ?_
  refine G_na (p := (b + 6)) fx_91_191 (by rw [hb]; rfl) (by decide) (by decide) ?_
  refine G_pfr fx_91_193 (j := 0) (by omega) rfl rfl (by omega) ?_
  refine Rg.cast (S' := S ++ ((17, 23, fun i => if i = 8 then b + 6 else if i = 7 then b + 5 else if i = 6 then b + 4 else if i = 5 then b + 3 else if i = 2 then b + 2 else if i = 1 then b + 1 else (0 : Nat)) :: [(1, 112, zr), (1, 672, zr), (1, 8, zr), (1, 8, zr), (1, 8, zr), (1, 202, zr)])) rfl ?_
  refine G_al fx_91_196 rfl (by omega) ?_
  refine G_push fx_91_197 ?_
  refine G_na (p := (b + 7)) fx_91_200 (by rw [hb]; rfl) (by decide) (by decide) ?_
  refine G_pfr fx_91_202 (j := 0) (by omega) rfl rfl (by omega) ?_
  refine Rg.cast (S' := S ++ ((17, 23, fun i => if i = 9 then b + 7 else if i = 8 then b + 6 else if i = 7 then b + 5 else if i = 6 then b + 4 else if i = 5 then b + 3 else if i = 2 then b + 2 else if i = 1 then b + 1 else (0 : Nat)) :: [(1, 112, zr), (1, 672, zr), (1, 8, zr), (1, 8, zr), (1, 8, zr), (1, 202, zr), (1, 202, zr)])) rfl ?_
  refine G_al fx_91_205 rfl (by omega) ?_
  refine G_push fx_91_206 ?_
  refine G_na (p := (b + 8)) fx_91_208 (by rw [hb]; rfl) (by decide) (by decide) ?_
  refine G_pfr fx_91_210 (j := 0) (by omega) rfl rfl (by omega) ?_
  refine Rg.cast (S' := S ++ ((17, 23, fun i => if i = 16 then b + 8 else if i = 9 then b + 7 else if i = 8 then b + 6 else if i = 7 then b + 5 else if i = 6 then b + 4 else if i = 5 then b + 3 else if i = 2 then b + 2 else if i = 1 then b + 1 else (0 : Nat)) :: [(1, 112, zr), (1, 672, zr), (1, 8, zr), (1, 8, zr), (1, 8, zr), (1, 202, zr), (1, 202, zr), (1, 96, zr)])) rfl ?_
  refine G_al fx_91_213 rfl (by omega) ?_
  refine G_push fx_91_214 ?_
  refine G_na (p := (b + 9)) fx_91_217 (by rw [hb]; rfl) (by decide) (by decide) ?_
  refine G_pfr fx_91_219 (j := 0) (by omega) rfl rfl (by omega) ?_
  refine Rg.cast (S' := S ++ ((17, 23, fun i => if i = 17 then b + 9 else if i = 16 then b + 8 else if i = 9 then b + 7 else if i = 8 then b + 6 else if i = 7 then b + 5 else if i = 6 then b + 4 else if i = 5 then b + 3 else if i = 2 then b + 2 else if i = 1 then b + 1 else (0 : Nat)) :: [(1, 112, zr), (1, 672, zr), (1, 8, zr), (1, 8, zr), (1, 8, zr), (1, 202, zr), (1, 202, zr), (1, 96, zr), (1, 576, zr)])) rfl ?_
  refine G_al fx_91_222 rfl (by omega) ?_
  refine G_push fx_91_223 ?_
  refine G_na (p := (b + 10)) fx_91_226 (by rw [hb]; rfl) (by decide) (by decide) ?_
  refine G_pfr fx_91_228 (j := 0) (by omega) rfl rfl (by omega) ?_
  refine Rg.cast (S' := S ++ ((17, 23, fun i => if i = 18 then b + 10 else if i = 17 then b + 9 else if i = 16 then b + 8 else if i = 9 then b + 7 else if i = 8 then b + 6 else if i = 7 then b + 5 else if i = 6 then b + 4 else if i = 5 then b + 3 else if i = 2 then b + 2 else if i = 1 then b + 1 else (0 : Nat)) :: [(1, 112, zr), (1, 672, zr), (1, 8, zr), (1, 8, zr), (1, 8, zr), (1, 202, zr), (1, 202, zr), (1, 96, zr), (1, 576, zr), (1, 20480, zr)])) rfl ?_
  refine G_al fx_91_231 rfl (by omega) ?_
  refine G_push fx_91_232 ?_
  refine G_na (p := (b + 11)) fx_91_235 (by rw [hb]; rfl) (by decide) (by decide) ?_
  refine G_pfr fx_91_237 (j := 0) (by omega) rfl rfl (by omega) ?_
  refine Rg.cast (S' := S ++ ((17, 23, fun i => if i = 19 then b + 11 else if i = 18 then b + 10 else if i = 17 then b + 9 else if i = 16 then b + 8 else if i = 9 then b + 7 else if i = 8 then b + 6 else if i = 7 then b + 5 else if i = 6 then b + 4 else if i = 5 then b + 3 else if i = 2 then b + 2 else if i = 1 then b + 1 else (0 : Nat)) :: [(1, 112, zr), (1, 672, zr), (1, 8, zr), (1, 8, zr), (1, 8, zr), (1, 202, zr), (1, 202, zr), (1, 96, zr), (1, 576, zr), (1, 20480, zr), (1, 20480, zr)])) rfl ?_
  refine G_al fx_91_240 rfl (by omega) ?_
  refine G_push fx_91_241 ?_
  refine G_na (p := (b + 12)) fx_91_243 (by rw [hb]; rfl) (by decide) (by decide) ?_
  refine G_pfr fx_91_245 (j := 0) (by omega) rfl rfl (by omega) ?_
  refine Rg.cast (S' := S ++ ((17, 23, fun i => if i = 22 then b + 12 else if i = 19 then b + 11 else if i = 18 then b + 10 else if i = 17 then b + 9 else if i = 16 then b + 8 else if i = 9 then b + 7 else if i = 8 then b + 6 else if i = 7 then b + 5 else if i = 6 then b + 4 else if i = 5 then b + 3 else if i = 2 then b + 2 else if i = 1 then b + 1 else (0 : Nat)) :: [(1, 112, zr), (1, 672, zr), (1, 8, zr), (1, 8, zr), (1, 8, zr), (1, 202, zr), (1, 202, zr), (1, 96, zr), (1, 576, zr), (1, 20480, zr), (1, 20480, zr), (1, 8, zr)])) rfl ?_
  refine G_retv fx_91_248 rfl ?_
  refine Eq.mp (congrArg (fun X => Q [] (X, _)) ?_) (K _ (fun c hc => ?_) (fun i => ?_) (fun i => ?_) (fun i => ?_) (fun s hs => ?_) (fun s hs => ?_) (fun s hs => ?_))
  · unfold MDc; rw [← refM]
  · funext y; simp only [xup, xzr]; repeat rw [if_neg (by omega)]
  · simp only [xup, xzr]; (repeat rw [if_neg (by omega)]); exact hz i
  · simp only [xup, xzr]; (repeat (first | rfl | rw [if_neg (by omega)] | rw [if_pos rfl]))
  · simp only [xup, xzr]; (repeat (first | rfl | rw [if_neg (by omega)] | rw [if_pos rfl]))
  · rcases (show s = 0 ∨ s = 1 ∨ s = 2 ∨ s = 3 ∨ s = 4 ∨ s = 5 ∨ s = 6 ∨ s = 7 by omega) with rfl | rfl | rfl | rfl | rfl | rfl | rfl | rfl <;> (simp [xup, xzr, xkeys, xnth])
  · rcases (show s = 0 ∨ s = 1 ∨ s = 2 ∨ s = 3 ∨ s = 4 ∨ s = 5 ∨ s = 6 ∨ s = 7 by omega) with rfl | rfl | rfl | rfl | rfl | rfl | rfl | rfl <;> (simp [xup, xzr, xkeys, xnth])
  · rcases (show s = 0 ∨ s = 1 ∨ s = 2 ∨ s = 3 ∨ s = 4 ∨ s = 5 ∨ s = 6 ∨ s = 7 by omega) with rfl | rfl | rfl | rfl | rfl | rfl | rfl | rfl <;> (simp [xup, xzr, xkeys, xnth])
end CW
