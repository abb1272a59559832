/-! ===== every entry of the pure code is what the bytes say ===== -/
def xcd (b : Nat) : Jvm.ClassFile.Cond := match b with
  | 0 => .eq
  | 1 => .ne
  | 2 => .lt
  | 3 => .ge
  | 4 => .gt
  | _ => .le
def xT (ci : Nat) : u_T := (xnth xcl ci (RX0, TX0, 2)).2.1
def xCn (ci : Nat) : String := (xnth xcl ci (RX0, TX0, 2)).1
def xdc (cc : ByteArray) (pc : Nat) (i : Instr) (n : Nat) : Bool := decide (decode cc pc = .ok (i, n))
def xbi (b : Nat) : Instr := match b with
  | 0 => .iadd
  | 1 => .isub
  | 2 => .imul
  | 3 => .idiv
  | 4 => .irem
  | 5 => .iand
  | 6 => .ior
  | 7 => .ixor
  | 8 => .ishl
  | 9 => .ishr
  | _ => .iushr
def xfl (own : String) (cc : ByteArray) (pc : Nat) (put fin ini : Bool) (ref nm ds : String) : Option Jvm.Cond → Bool
  | some (.fieldLink o i r n d) => decide (o = own) && (decide (r = ref) && (decide (n = nm) && (decide (d = ds) && (xdc cc pc (if put then .putfield i else .getfield i) 3 && (!put || (!fin || (ini && decide (ref = own))))))))
  | some (.fieldLinkNest o i r n d _) => decide (o = own) && (decide (r = ref) && (decide (n = nm) && (decide (d = ds) && (xdc cc pc (if put then .putfield i else .getfield i) 3 && (!put || !fin)))))
  | _ => false
def xiv (kd i : Nat) : Instr := match kd with
  | 0 => .invokestatic i
  | 1 => .invokevirtual i
  | _ => .invokespecial i
def xlk (own : String) (cc : ByteArray) (pc kd : Nat) (y : MethodName) : Option Jvm.Cond → Bool
  | some (.methodLink o i z) => decide (o = own) && (decide (z = y) && xdc cc pc (xiv kd i) 3)
  | some (.methodLinkNest o i z _) => decide (o = own) && (decide (z = y) && xdc cc pc (xiv kd i) 3)
  | _ => false
def xlk0 (own : String) (cc : ByteArray) (pc kd : Nat) (y : MethodName) : Option Jvm.Cond → Bool
  | some (.methodLink o i z) => decide (o = own) && (decide (z = y) && xdc cc pc (xiv kd i) 3)
  | _ => false
def xcl1 (own C : String) (cc : ByteArray) (pc : Nat) (f : Nat → Instr) (n : Nat) : Option Jvm.Cond → Bool
  | some (.classLink o i c) => decide (o = own) && (decide (c = C) && xdc cc pc (f i) n)
  | _ => false
def xkc (own : String) (cc : ByteArray) (pc : Nat) (a : Int) (b : Nat) : Option Jvm.Cond → Bool
  | some (.constant o i v) => decide (o = own) && (decide (v = Int32.ofInt a) && (decide (b = 2) && xdc cc pc (.ldc i) 2 || decide (b = 3) && xdc cc pc (.ldc_w i) 3))
  | _ => false
def xgs (own : String) (cc : ByteArray) (pc : Nat) : Option Jvm.Cond → Bool
  | some (.fieldLink o i r n d) => decide (o = own) && (decide (r = "ReedBench") && (decide (n = "ABOVE_KEY") && (decide (d = "[I") && xdc cc pc (.getstatic i) 3)))
  | _ => false
def xwd (i : Nat) : Option Jvm.Cond := lw_tbl[i]?
def xokb (own : String) (ini : Bool) (mL : Nat) (cc : ByteArray) (mi pc : Nat) (i : xI) : Bool := match i with
  | (0, _, _, _) => true
  | (1, a, b, c) => (decide (b = 1) && xdc cc pc (.iconst a) 1) || ((decide (b = 2) && (decide ((Int8.ofInt a).toInt32 = Int32.ofInt a) && xdc cc pc (.bipush a) 2)) || ((decide (b = 3) && (decide ((Int16.ofInt a).toInt32 = Int32.ofInt a) && xdc cc pc (.sipush a) 3)) || xkc own cc pc a b (xwd c)))
  | (2, _, b, c) => (decide (c = 1) && (decide (b < 4) && xdc cc pc (.iload_n (Fin.ofNat 4 b)) 1)) || (decide (c = 2) && xdc cc pc (.iload b) 2)
  | (3, _, b, c) => (decide (c = 1) && (decide (b < 4) && xdc cc pc (.aload_n (Fin.ofNat 4 b)) 1)) || (decide (c = 2) && xdc cc pc (.aload b) 2)
  | (4, _, b, c) => decide (b < mL) && ((decide (c = 1) && (decide (b < 4) && xdc cc pc (.istore_n (Fin.ofNat 4 b)) 1)) || (decide (c = 2) && xdc cc pc (.istore b) 2))
  | (5, _, b, c) => decide (b < mL) && ((decide (c = 1) && (decide (b < 4) && xdc cc pc (.astore_n (Fin.ofNat 4 b)) 1)) || (decide (c = 2) && xdc cc pc (.astore b) 2))
  | (6, a, b, _) => decide (b < mL) && xdc cc pc (.iinc b a) 3
  | (7, _, b, _) => decide (b < 11) && xdc cc pc (xbi b) 1
  | (8, _, _, _) => xdc cc pc .ineg 1
  | (9, _, b, c) => decide (b < 6) && xdc cc pc (.ifCond (xcd b) ((c : Int) - pc)) 3
  | (10, _, b, c) => decide (b < 6) && xdc cc pc (.if_icmp (xcd b) ((c : Int) - pc)) 3
  | (11, _, _, c) => xdc cc pc (.goto ((c : Int) - pc)) 3
  | (12, a, b, c) => decide (b < 8) && (decide (c < xN b) && xfl own cc pc false (xT b c).2.2.2 ini (xT b c).1 (xT b c).2.1 (xT b c).2.2.1 (xwd a.toNat))
  | (13, a, b, c) => decide (b < 8) && (decide (c < xN b) && xfl own cc pc true (xT b c).2.2.2 ini (xT b c).1 (xT b c).2.1 (xT b c).2.2.1 (xwd a.toNat))
  | (14, _, _, _) => xdc cc pc .iaload 1
  | (15, _, _, _) => xdc cc pc .iastore 1
  | (16, _, _, _) => xdc cc pc .aaload 1
  | (17, _, _, _) => xdc cc pc .aastore 1
  | (18, _, _, _) => xdc cc pc .arraylength 1
  | (19, a, b, _) => decide (b < 8) && xcl1 own (xCn b) cc pc .new 3 (xwd a.toNat)
  | (20, _, _, _) => xdc cc pc (.newarray .int) 2
  | (21, a, b, _) => (decide (b = 2) && xcl1 own "ReedBench$Reed" cc pc .anewarray 3 (xwd a.toNat)) || (decide (b = 3) && xcl1 own "ReedBench$State" cc pc .anewarray 3 (xwd a.toNat))
  | (22, a, _, _) => xcl1 own "[[I" cc pc (fun i => .multianewarray i 2) 4 (xwd a.toNat)
  | (23, _, _, _) => xdc cc pc .dup 1
  | (24, _, _, _) => xdc cc pc .pop 1
  | (25, _, _, _) => xdc cc pc .dup2 1
  | (26, a, _, _) => xlk0 own cc pc 2 objectInit (xwd a.toNat)
  | (27, a, _, _) => xlk0 own cc pc 0 arraycopyName (xwd a.toNat)
  | (28, a, b, c) => (decide (b < 128) && (decide (b ≠ 14) && decide (b ≠ 47))) && (decide (c = xmi b 2) && xlk own cc pc (xmi b 3) (xy b) (xwd a.toNat))
  | (29, _, _, _) => xdc cc pc .ireturn 1
  | (30, _, _, _) => xdc cc pc .return_ 1
  | (31, a, _, _) => xgs own cc pc (xwd a.toNat)
  | (32, a, b, c) => xdc cc pc (.tableswitch ((b : Int) - pc) a (a + (xsw mi pc).length - 1) ((xsw mi pc).map (fun (t : Nat) => (t : Int) - (pc : Int))).toArray) c
  | (33, a, _, _) => xlk0 own cc pc 0 Lib.Math.min.name (xwd a.toNat)
  | (34, a, _, _) => xlk0 own cc pc 0 Lib.Math.max.name (xwd a.toNat)
  | _ => false
def xokm (mi : Nat) : Bool := (List.range (xmi mi 9)).all (fun pc => xokb (xy mi).cls (decide ((xy mi).name = "<init>")) (xmi mi 0) (xb mi) mi pc (xins mi pc))
