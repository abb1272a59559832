/-! ===== the model: has ===== -/
theorem bit_eq {s r : Nat} : ((s / 2 ^ r &&& 1 : Nat) : Int) = 1 ↔ s.testBit r = true := by
  rw [Nat.testBit_eq_decide_div_mod_eq, decide_eq_true_eq, Nat.and_one_is_mod]
  omega
section HA
variable {L : Nat} {f : xF} {Q : List xV → xF → Prop}
theorem C_122 {s r : Nat} (hs : s < 2 ^ 31) (hr : r < 32) (K1 : s.testBit r = true → Q [.inl 1] f) (K0 : ¬ s.testBit r = true → Q [.inl 0] f) : Rf (SHL L) 122 0 (xloc 122 [.inr 149, .inl (s : Int), .inl (r : Int)]) [] f Q := by
  have hle : s / 2 ^ r ≤ s := Nat.div_le_self _ _
  have hb := bit_eq (s := s) (r := r)
  have hb1 : (s / 2 ^ r &&& 1) ≤ 1 := Nat.and_le_right
  refine R_il fx_122_0 rfl ?_
  refine R_il fx_122_1 rfl ?_
  refine R_bin fx_122_2 (xb_shr hr hs) ?_
  refine R_push fx_122_3 ?_
  refine R_bin fx_122_4 (xb_and (y := 1) (by omega) (by omega)) ?_
  refine R_push fx_122_5 ?_
  refine R_icne fx_122_6 (by omega) (fun hc => ?_) (fun hc => ?_)
  · refine R_push fx_122_13 ?_
    refine R_ret fx_122_14 (by decide) ?_
    first | exact K1 (hb.mp hc) | exact K0 (fun z => hc (hb.mpr z))
  · refine R_push fx_122_9 ?_
    refine R_goto fx_122_10 ?_
    refine R_ret fx_122_14 (by decide) ?_
    first | exact K1 (hb.mp hc) | exact K0 (fun z => hc (hb.mpr z))
end HA
