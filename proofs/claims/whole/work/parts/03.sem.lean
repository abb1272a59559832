/-! ===== what an instruction does ===== -/
def xsem (t : Nat) (a : Int) (b c mi pc : Nat) (k : Nat × Nat) (ls : xL) (st : List xV) (M : xM) : Option xO := match t with
  | 1 => xgo (pc + b) k ls (.inl a :: st) M
  | 2 => match xnth ls b none with
    | some (.inl x) => xgo (pc + c) k ls (.inl x :: st) M
    | _ => none
  | 3 => match xnth ls b none with
    | some (.inr (x + 1)) => xgo (pc + c) k ls (.inr (x + 1) :: st) M
    | _ => none
  | 4 => match st with
    | .inl x :: r => xgo (pc + c) k (ls.set b (some (.inl x))) r M
    | _ => none
  | 5 => match st with
    | .inr (x + 1) :: r => xgo (pc + c) k (ls.set b (some (.inr (x + 1)))) r M
    | _ => none
  | 6 => match xnth ls b none with
    | some (.inl x) => xgo (pc + 3) k (ls.set b (some (.inl (x + a)))) st M
    | _ => none
  | 7 => match st with
    | .inl y :: .inl x :: r => match xbin b x y with
      | some z => xgo (pc + 1) k ls (.inl z :: r) M
      | none => none
    | _ => none
  | 8 => match st with
    | .inl x :: r => xgo (pc + 1) k ls (.inl (-x) :: r) M
    | _ => none
  | 9 => match st with
    | .inl x :: r => if xok x ∨ (b ≤ 1 ∧ x = 0) then xgo (if xcmp b x 0 then c else pc + 3) k ls r M else none
    | _ => none
  | 10 => match st with
    | .inl y :: .inl x :: r => if (xok x ∧ xok y) ∨ (b ≤ 1 ∧ x = y) then xgo (if xcmp b x y then c else pc + 3) k ls r M else none
    | _ => none
  | 11 => xgo c k ls st M
  | 12 => match st with
    | .inr p :: r => if (xat M p).1 = 10 + b then xgo (pc + 3) k ls ((if xrf b c then .inr ((xat M p).2.2 c) else .inl (M.2 p c)) :: r) M else none
    | _ => none
  | 13 => match st with
    | .inl x :: .inr p :: r => if (xat M p).1 = 10 + b ∧ xrf b c = false ∧ (xbf b c = true → x = 0 ∨ x = 1) then xgo (pc + 3) k ls r (xwr M p c x) else none
    | .inr (v + 1) :: .inr p :: r => if (xat M p).1 = 10 + b ∧ xrf b c = true then xgo (pc + 3) k ls r (xwref M p c (v + 1)) else none
    | _ => none
  | 14 => match st with
    | .inl i :: .inr p :: r => if ((xat M p).1 = 1 ∨ (xat M p).1 = 5) ∧ 0 ≤ i ∧ i < (xat M p).2.1 ∧ xok i then xgo (pc + 1) k ls (.inl (M.2 p i.toNat) :: r) M else none
    | _ => none
  | 15 => match st with
    | .inl x :: .inl i :: .inr p :: r => if (xat M p).1 = 1 ∧ 0 ≤ i ∧ i < (xat M p).2.1 ∧ xok i then xgo (pc + 1) k ls r (xwr M p i.toNat x) else none
    | _ => none
  | 16 => match st with
    | .inl i :: .inr p :: r => if ((xat M p).1 = 2 ∨ (xat M p).1 = 3 ∨ (xat M p).1 = 4) ∧ 0 ≤ i ∧ i < (xat M p).2.1 ∧ xok i then xgo (pc + 1) k ls (.inr ((xat M p).2.2 i.toNat) :: r) M else none
    | _ => none
  | 17 => match st with
    | .inr (v + 1) :: .inl i :: .inr p :: r => if ((xat M p).1 = 2 ∧ (xat M (v + 1)).1 = 13 ∨ (xat M p).1 = 3 ∧ (xat M (v + 1)).1 = 14) ∧ 0 ≤ i ∧ i < (xat M p).2.1 ∧ xok i then xgo (pc + 1) k ls r (xwref M p i.toNat (v + 1)) else none
    | _ => none
  | 18 => match st with
    | .inr p :: r => if (xat M p).1 = 1 ∨ (xat M p).1 = 5 then xgo (pc + 1) k ls (.inl (xat M p).2.1 :: r) M else none
    | _ => none
  | 19 => if k.1 + 1 ≤ xmi mi 7 ∧ k.2 + xN b ≤ xmi mi 8 then xgo (pc + 3) (k.1 + 1, k.2 + xN b) ls (.inr M.1.length :: st) (xnew M (10 + b) (xN b)) else none
  | 20 => match st with
    | .inl n :: r => if 0 ≤ n ∧ n ≤ 134217728 ∧ k.1 + 1 ≤ xmi mi 7 ∧ k.2 + n.toNat ≤ xmi mi 8 then xgo (pc + 2) (k.1 + 1, k.2 + n.toNat) ls (.inr M.1.length :: r) (xnew M 1 n.toNat) else none
    | _ => none
  | 21 => match st with
    | .inl n :: r => if 0 ≤ n ∧ n ≤ 134217728 ∧ k.1 + 1 ≤ xmi mi 7 ∧ k.2 + n.toNat ≤ xmi mi 8 then xgo (pc + 3) (k.1 + 1, k.2 + n.toNat) ls (.inr M.1.length :: r) (xnew M b n.toNat) else none
    | _ => none
  | 22 => match st with
    | .inl q :: .inl n :: r => if (0 ≤ n ∧ n ≤ 134217728) ∧ (0 ≤ q ∧ q ≤ 134217728) ∧ k.1 + (1 + n.toNat) ≤ xmi mi 7 ∧ k.2 + (n.toNat + n.toNat * q.toNat) ≤ xmi mi 8 then xgo (pc + 4) (k.1 + 1 + n.toNat, k.2 + n.toNat + n.toNat * q.toNat) ls (.inr M.1.length :: r) (xnew2 M n.toNat q.toNat) else none
    | _ => none
  | 23 => match st with
    | v :: r => xgo (pc + 1) k ls (v :: v :: r) M
    | _ => none
  | 24 => match st with
    | _ :: r => xgo (pc + 1) k ls r M
    | _ => none
  | 25 => match st with
    | v :: w :: r => xgo (pc + 1) k ls (v :: w :: v :: w :: r) M
    | _ => none
  | 26 => match st with
    | .inr (_ + 1) :: r => if 1 ≤ xmi mi 5 ∧ 20 ≤ xmi mi 6 ∧ r.length ≤ 8 then xgo (pc + 3) k ls r M else none
    | _ => none
  | 27 => match st with
    | .inl n :: .inl dp :: .inr d :: .inl sp :: .inr s :: r => if ((xat M s).1 = 1 ∧ (xat M d).1 = 1) ∧ (0 ≤ sp ∧ xok sp) ∧ (0 ≤ dp ∧ xok dp) ∧ (0 ≤ n ∧ xok n) ∧ sp + n ≤ (xat M s).2.1 ∧ dp + n ≤ (xat M d).2.1 ∧ 1 ≤ xmi mi 5 ∧ 38 ≤ xmi mi 6 ∧ r.length ≤ 8 then xgo (pc + 3) k ls r (xcpy M s sp.toNat d dp.toNat n.toNat) else none
    | _ => none
  | 28 => if c ≤ st.length ∧ st.length ≤ c + 8 ∧ xmi b 5 + 1 ≤ xmi mi 5 ∧ 8 + (xmi b 0 + 11) + xmi b 6 ≤ xmi mi 6 ∧ k.1 + xmi b 7 ≤ xmi mi 7 ∧ k.2 + xmi b 8 ≤ xmi mi 8 then
      (match xmi b 3, (st.take c).reverse with
        | 0, as => some (.inr (.inl (b, as, st.drop c)))
        | 1, .inr p :: as => if (xat M p).1 = 10 + xmi b 4 then some (.inr (.inl (b, .inr p :: as, st.drop c))) else none
        | 2, .inr (p + 1) :: as => some (.inr (.inl (b, .inr (p + 1) :: as, st.drop c)))
        | _, _ => none)
    else none
  | 29 => match st with
    | [.inl x] => if xmi mi 1 = 1 ∨ (xmi mi 1 = 2 ∧ (x = 0 ∨ x = 1)) then some (.inr (.inr [.inl x])) else none
    | _ => none
  | 30 => match st with
    | [] => if xmi mi 1 = 0 then some (.inr (.inr [])) else none
    | _ => none
  | 31 => xgo (pc + 3) k ls (.inr 2 :: st) M
  | 32 => match st with
    | .inl x :: r => if xok x then xgo (if x < a ∨ a + (xsw mi pc).length ≤ x then b else xnth (xsw mi pc) (x - a).toNat 0) k ls r M else none
    | _ => none
  | 33 => match st with
    | .inl y :: .inl x :: r => if xok x ∧ xok y ∧ 1 ≤ xmi mi 5 ∧ 21 ≤ xmi mi 6 ∧ r.length ≤ 8 then xgo (pc + 3) k ls (.inl (if y < x then y else x) :: r) M else none
    | _ => none
  | 34 => match st with
    | .inl y :: .inl x :: r => if xok x ∧ xok y ∧ 1 ≤ xmi mi 5 ∧ 21 ≤ xmi mi 6 ∧ r.length ≤ 8 then xgo (pc + 3) k ls (.inl (if x < y then y else x) :: r) M else none
    | _ => none
  | _ => none
def xstep (mi pc : Nat) (k : Nat × Nat) (ls : xL) (st : List xV) (M : xM) : Option xO := xsem (xins mi pc).1 (xins mi pc).2.1 (xins mi pc).2.2.1 (xins mi pc).2.2.2 mi pc k ls st M
def xloc (mi : Nat) (as : List xV) : xL := as.map some ++ List.replicate (xmi mi 0 - as.length) none
def xrun : Nat → Nat → Nat → Nat × Nat → xL → List xV → xM → Option (List xV × xM)
  | 0, _, _, _, _, _, _ => none
  | n + 1, mi, pc, k, ls, st, M => match xstep mi pc k ls st M with
    | none => none
    | some (.inl (pc', k', ls', st', M')) => xrun n mi pc' k' ls' st' M'
    | some (.inr (.inl (j, as, r))) => match xrun n j 0 (0, 0) (xloc j as) [] M with
      | none => none
      | some (v, M') => xrun n mi (pc + 3) (k.1 + xmi j 7, k.2 + xmi j 8) ls (v ++ r) M'
    | some (.inr (.inr v)) => some (v, M)
theorem xrun_mono : ∀ (n : Nat) (mi pc : Nat) (k : Nat × Nat) (ls : xL) (st : List xV) (M : xM) (r : List xV × xM), xrun n mi pc k ls st M = some r → ∀ m, n ≤ m → xrun m mi pc k ls st M = some r
  | 0, _, _, _, _, _, _, _, h, _, _ => by simp [xrun] at h
  | n + 1, mi, pc, k, ls, st, M, r, h, m, hm => by
    obtain ⟨m', rfl⟩ : ∃ m', m = m' + 1 := ⟨m - 1, by omega⟩
    have hm' : n ≤ m' := by omega
    unfold xrun at h ⊢
    cases hs : xstep mi pc k ls st M with
    | none => rw [hs] at h; cases h
    | some o =>
      rw [hs] at h
      rcases o with ⟨pc', k', ls', st', M'⟩ | ⟨j, as, r'⟩ | v
      · exact xrun_mono n _ _ _ _ _ _ _ h m' hm'
      · dsimp only at h ⊢
        cases hc : xrun n j 0 (0, 0) (xloc j as) [] M with
        | none => rw [hc] at h; cases h
        | some q =>
          obtain ⟨v, M'⟩ := q
          rw [hc] at h
          rw [xrun_mono n _ _ _ _ _ _ _ hc m' hm']
          exact xrun_mono n _ _ _ _ _ _ _ h m' hm'
      · exact h
