/-! AM: an abstract machine that the kernel can run: values known, or known by a range; cells by their numbers. Its laws over the machine itself come in later parts. -/
section AMDEF
/-- a value: tag, two numbers. 0 int n; 1 int of a range (both ends moved by 2^31); 2 long n; 3 long of a range (moved by 2^63); 4 some double; 5 null; 6 cell k; 7 null or some cell that isn't ours; 8 String constant k; 9 the script; 10 an int whose last six bits are n; 11 nothing (half of a long, or never set); 12 the row NO_CELLS -/
abbrev XV : Type := Nat × Nat × Nat
/-- places: so many of one value, then so many of the next -/
abbrev XG : Type := List (Nat × XV)
/-- a cell: 0 an object of class a; else an array of kind t -/
abbrev XC : Type := Nat × Nat × XG
/-- cells by their numbers, 32 a row -/
abbrev XH : Type := List (List XC)
/-- an instruction: what it does, two numbers, a table -/
abbrev XI : Type := Nat × Nat × Nat × List (Nat × Nat)
/-- how a method ended: 0 nothing, 1 a value, 2 thrown; the cells, how many, their slots -/
abbrev XR : Type := Option (Nat × XV × XH × Nat × Nat)
abbrev XF : Type := List XI → Nat → List XV → List XV → XH → Nat → Nat → XR
/-- a call: method, locals, cells -/
abbrev XK : Type := Nat → List XV → XH → Nat → Nat → XR
abbrev XO : Type := XK → XF → List XI → XI → Nat → List XV → List XV → XH → Nat → Nat → XR
noncomputable def x_if {α : Type} (b : Bool) (x y : α) : α := Bool.rec (motive := fun _ => α) y x b
noncomputable def x_force {α : Type} (n : Nat) (k : Nat → α) : α := Nat.rec (motive := fun _ => α) (k 0) (fun m _ => k (Nat.succ m)) n
noncomputable def x_nth {α : Type} (l : List α) : Nat → Option α := List.rec (motive := fun _ => Nat → Option α) (fun _ => none) (fun a _ ih i => Nat.rec (motive := fun _ => Option α) (some a) (fun m _ => ih m) i) l
noncomputable def x_upd {α : Type} (l : List α) : Nat → α → List α := List.rec (motive := fun _ => Nat → α → List α) (fun _ _ => []) (fun a t ih i x => Nat.rec (motive := fun _ => List α) (x :: t) (fun m _ => a :: ih m x) i) l
noncomputable def x_len {α : Type} (l : List α) : Nat := List.rec (motive := fun _ => Nat) 0 (fun _ _ ih => Nat.succ ih) l
noncomputable def x_hd (l : List (Nat × Nat)) : Nat := List.rec (motive := fun _ => Nat) 0 (fun q _ _ => q.1) l
noncomputable def x_bind {α β : Type} (o : Option α) (k : α → Option β) : Option β := Option.rec (motive := fun _ => Option β) none k o
noncomputable def x_hget (h : XH) (k : Nat) : Option XC := x_bind (x_nth h (Nat.div k 32)) (fun r => x_nth r (Nat.mod k 32))
noncomputable def x_hset (h : XH) (k : Nat) (c : XC) : Option XH := x_bind (x_nth h (Nat.div k 32)) (fun r => some (x_upd h (Nat.div k 32) (x_upd r (Nat.mod k 32) c)))
noncomputable def x_hpush (h : XH) (n : Nat) (c : XC) : Option XH :=
  x_if (Nat.beq (Nat.mod n 32) 0) (x_if (Nat.beq (x_len h) (Nat.div n 32)) (some (h ++ [[c]])) none)
    (x_bind (x_nth h (Nat.div n 32)) (fun r => x_if (Nat.beq (x_len r) (Nat.mod n 32)) (some (x_upd h (Nat.div n 32) (r ++ [c]))) none))
noncomputable def x_veq (a b : XV) : Bool := x_if (Nat.beq a.1 b.1) (x_if (Nat.beq a.2.1 b.2.1) (Nat.beq a.2.2 b.2.2) false) false
noncomputable def x_gget (g : XG) : Nat → Option XV := List.rec (motive := fun _ => Nat → Option XV) (fun _ => none) (fun s _ ih i => x_if (Nat.ble (Nat.succ i) s.1) (some s.2) (ih (Nat.sub i s.1))) g
noncomputable def x_gcons (n : Nat) (v : XV) (r : XG) : XG := x_if (Nat.beq n 0) r (List.rec (motive := fun _ => XG) [(n, v)] (fun s t _ => x_if (x_veq v s.2) (x_force (Nat.add n s.1) (fun m => (m, v) :: t)) ((n, v) :: s :: t)) r)
noncomputable def x_gset (g : XG) : Nat → XV → XG := List.rec (motive := fun _ => Nat → XV → XG) (fun _ _ => []) (fun s t ih i x => x_if (Nat.ble (Nat.succ i) s.1) (x_gcons i s.2 (x_gcons 1 x (x_force (Nat.sub (Nat.sub s.1 1) i) (fun q => x_gcons q s.2 t)))) (x_gcons s.1 s.2 (ih (Nat.sub i s.1) x))) g
noncomputable def x_glen (g : XG) : Nat := List.rec (motive := fun _ => Nat) 0 (fun s _ ih => Nat.add s.1 ih) g
/-- the range of an int, moved by 2^31 -/
noncomputable def x_rng (v : XV) : Option (Nat × Nat) := x_if (Nat.beq v.1 0) (x_force (Nat.mod (Nat.add v.2.1 2147483648) 4294967296) (fun s => some (s, s))) (x_if (Nat.beq v.1 1) (some v.2) none)
noncomputable def x_rngL (v : XV) : Option (Nat × Nat) := x_if (Nat.beq v.1 2) (x_force (Nat.mod (Nat.add v.2.1 9223372036854775808) 18446744073709551616) (fun s => some (s, s))) (x_if (Nat.beq v.1 3) (some v.2) none)
noncomputable def x_lt (a b : Nat × Nat) : Option Bool := x_if (Nat.ble (Nat.succ a.2) b.1) (some true) (x_if (Nat.ble b.2 a.1) (some false) none)
noncomputable def x_eq (a b : Nat × Nat) : Option Bool := x_if (Nat.ble (Nat.succ a.2) b.1) (some false) (x_if (Nat.ble (Nat.succ b.2) a.1) (some false) (x_if (Nat.beq a.1 a.2) (x_if (Nat.beq b.1 b.2) (some (Nat.beq a.1 b.1)) none) none))
noncomputable def x_not (o : Option Bool) : Option Bool := x_bind o (fun b => some (x_if b false true))
/-- 0 eq, 1 ne, 2 lt, 3 ge, 4 gt, 5 le -/
noncomputable def x_cmp (c : Nat) (a b : Nat × Nat) : Option Bool := x_if (Nat.ble c 1) (x_if (Nat.beq c 0) (x_eq a b) (x_not (x_eq a b))) (x_if (Nat.ble c 3) (x_if (Nat.beq c 2) (x_lt a b) (x_not (x_lt a b))) (x_if (Nat.beq c 4) (x_lt b a) (x_not (x_lt b a))))
noncomputable def x_I (n : Nat) (k : XV → XR) : XR := x_force (Nat.mod n 4294967296) (fun r => k (0, r, 0))
noncomputable def x_L (n : Nat) (k : XV → XR) : XR := x_force (Nat.mod n 18446744073709551616) (fun r => k (2, r, 0))
noncomputable def x_sgn (n : Nat) : Bool := Nat.ble 2147483648 n
/-- 0 int, 1 long, 2 a reference, 3 double, 9 nothing -/
noncomputable def x_kd (t : Nat) : Nat := x_if (Nat.ble t 1) 0 (x_if (Nat.ble t 3) 1 (x_if (Nat.beq t 4) 3 (x_if (Nat.beq t 10) 0 (x_if (Nat.beq t 11) 9 2))))
noncomputable def xo_none : XO := fun _ _ _ _ _ _ _ _ _ _ => none
/-- 0: the value of local a, of kind b -/
noncomputable def xo_load : XO := fun _ ih code i pc stk loc h n sl => x_bind (x_nth loc i.2.1) (fun v => x_if (Nat.beq (x_kd v.1) i.2.2.1) (x_force (Nat.succ pc) (fun p => ih code p (v :: stk) loc h n sl)) none)
/-- 1: a field -/
noncomputable def xo_getf : XO := fun _ ih code i pc stk loc h n sl => List.rec (motive := fun _ => XR) none (fun r t _ => x_if (Nat.beq r.1 6) (Option.rec (motive := fun _ => XR) none (fun c => x_if (Nat.beq c.1 0) (x_if (Nat.beq c.2.1 i.2.1) (Option.rec (motive := fun _ => XR) none (fun v => x_force (Nat.succ pc) (fun p => ih code p (v :: t) loc h n sl)) (x_gget c.2.2 i.2.2.1)) none) none) (x_hget h r.2.1)) none) stk
/-- 2: a constant: its tag a, its number b -/
noncomputable def xo_const : XO := fun _ ih code i pc stk loc h n sl => x_force (Nat.succ pc) (fun p => ih code p ((i.2.1, i.2.2.1, 0) :: stk) loc h n sl)
noncomputable def x_goif (o : Option Bool) (tgt pc : Nat) (k : Nat → XR) : XR := Option.rec (motive := fun _ => XR) none (fun b => x_if b (x_force tgt k) (x_force (Nat.succ pc) k)) o
/-- 3: if_icmp -/
noncomputable def xo_icmp : XO := fun _ ih code i pc stk loc h n sl => match stk with
  | y :: x :: t => x_goif (x_bind (x_rng x) (fun a => x_bind (x_rng y) (fun b => x_cmp i.2.1 a b))) i.2.2.1 pc (fun p => ih code p t loc h n sl)
  | _ => none
/-- 4: if against 0 -/
noncomputable def xo_if0 : XO := fun _ ih code i pc stk loc h n sl => match stk with
  | x :: t => x_goif (x_bind (x_rng x) (fun a => x_cmp i.2.1 a (2147483648, 2147483648))) i.2.2.1 pc (fun p => ih code p t loc h n sl)
  | _ => none
/-- 5: goto -/
noncomputable def xo_goto : XO := fun _ ih code i _ stk loc h n sl => x_force i.2.1 (fun p => ih code p stk loc h n sl)
/-- is a long or a double -/
noncomputable def x_cat2 (v : XV) : Bool := x_if (Nat.ble 2 v.1) (Nat.ble v.1 4) false
/-- the words of a stack -/
noncomputable def x_cats (l : List XV) : Nat := List.rec (motive := fun _ => Nat) 0 (fun v _ ih => Nat.add (x_if (x_cat2 v) 2 1) ih) l
/-- a long that ends at i loses its second half -/
noncomputable def x_clean (loc : List XV) (i : Nat) : List XV := Nat.rec (motive := fun _ => List XV) loc (fun m _ => Option.rec (motive := fun _ => List XV) loc (fun v => x_if (x_cat2 v) (x_upd loc m (11, 0, 0)) loc) (x_nth loc m)) i
/-- 6: iinc -/
noncomputable def xo_iinc : XO := fun _ ih code i pc stk loc h n sl => x_bind (x_nth loc i.2.1) (fun v => x_if (Nat.beq v.1 0) (x_I (Nat.add v.2.1 i.2.2.1) (fun w => x_force (Nat.succ pc) (fun p => ih code p stk (x_upd (x_clean loc i.2.1) i.2.1 w) h n sl))) none)
/-- 7: store of one slot -/
noncomputable def xo_store : XO := fun _ ih code i pc stk loc h n sl => match stk with
  | v :: t => x_if (Nat.beq (x_kd v.1) i.2.2.1) (x_if (Nat.ble (Nat.succ i.2.1) (x_len loc)) (x_force (Nat.succ pc) (fun p => ih code p t (x_upd (x_clean loc i.2.1) i.2.1 v) h n sl)) none) none
  | _ => none
/-- 21: store of two slots -/
noncomputable def xo_store2 : XO := fun _ ih code i pc stk loc h n sl => match stk with
  | v :: t => x_if (Nat.beq (x_kd v.1) i.2.2.1) (x_if (Nat.ble (Nat.succ (Nat.succ i.2.1)) (x_len loc)) (x_force (Nat.succ pc) (fun p => ih code p t (x_upd (x_upd (x_clean loc i.2.1) i.2.1 v) (Nat.succ i.2.1) (11, 0, 0)) h n sl)) none) none
  | _ => none
/-- the kind of value that an array of kind t takes -/
noncomputable def x_akd (t : Nat) : Nat := x_if (Nat.ble t 5) 0 (x_if (Nat.beq t 6) 1 (x_if (Nat.beq t 7) 3 2))
/-- what a byte, a boolean, a char, a short holds of an int: kinds 2, 3, 4, 5 -/
noncomputable def x_nar (t : Nat) (v : XV) (k : XV → XR) : XR :=
  x_if (Nat.beq (x_kd v.1) (x_akd t)) (x_if (x_if (Nat.beq t 1) true (Nat.ble 6 t)) (k v) (x_if (Nat.beq v.1 0)
    (x_if (Nat.beq t 2) (x_I (Nat.add (Nat.mod v.2.1 256) (x_if (Nat.ble 128 (Nat.mod v.2.1 256)) 4294967040 0)) k)
      (x_if (Nat.beq t 3) (x_I (Nat.mod v.2.1 2) k) (x_if (Nat.beq t 4) (x_I (Nat.mod v.2.1 65536) k) none)))
    (x_if (Nat.beq t 2) (k (1, 2147483520, 2147483775)) none))) none
/-- may v stand in an array of references of type b? x_rob: b's that are classes; x_rcs: the b of an object's class -/
noncomputable def x_okref (h : XH) (v : XV) (b : Nat) : Bool := x_if (Nat.beq v.1 5) (Option.rec (motive := fun _ => Bool) false (fun q => Nat.beq q 1) (x_nth x_rob b))
  (x_if (Nat.beq v.1 6) (Option.rec (motive := fun _ => Bool) false (fun c => x_if (Nat.beq c.1 0) (Option.rec (motive := fun _ => Bool) false (fun q => Nat.beq q b) (x_nth x_rcs c.2.1)) false) (x_hget h v.2.1)) false)
/-- 8: store into an array of kind a -/
noncomputable def xo_ast : XO := fun _ ih code i pc stk loc h n sl => match stk with
  | v :: j :: r :: t => x_if (Nat.beq r.1 6) (x_if (Nat.beq j.1 0) (x_if (x_sgn j.2.1) none (x_bind (x_hget h r.2.1) (fun c => x_if (Nat.beq c.1 i.2.1) (x_if (Nat.ble (Nat.succ j.2.1) (x_glen c.2.2)) (x_if (x_if (Nat.beq c.1 8) (x_okref h v c.2.1) true)
      (x_nar c.1 v (fun w => x_bind (x_hset h r.2.1 (c.1, c.2.1, x_gset c.2.2 j.2.1 w)) (fun h2 => x_force (Nat.succ pc) (fun p => ih code p t loc h2 n sl)))) none) none) none))) none) none
  | _ => none
/-- 9: arraylength -/
noncomputable def xo_alen : XO := fun _ ih code _ pc stk loc h n sl => match stk with
  | r :: t => x_if (Nat.beq r.1 6) (x_bind (x_hget h r.2.1) (fun c => x_if (Nat.beq c.1 0) none (x_I (x_glen c.2.2) (fun w => x_force (Nat.succ pc) (fun p => ih code p (w :: t) loc h n sl)))))
      (x_if (Nat.beq r.1 12) (x_force (Nat.succ pc) (fun p => ih code p ((0, 0, 0) :: t) loc h n sl)) none)
  | _ => none
/-- may v stand in a field of kind t (kinds as those of arrays)? -/
noncomputable def x_fitv (t : Nat) (v : XV) : Bool := x_if (Nat.beq (x_kd v.1) (x_akd t)) (x_if (Nat.beq t 1) true (x_if (Nat.ble 6 t) true (x_if (Nat.beq v.1 0)
  (x_if (Nat.beq t 2) (Nat.ble v.2.1 127) (x_if (Nat.beq t 3) (Nat.ble v.2.1 1) (x_if (Nat.beq t 4) (Nat.ble v.2.1 65535) (Nat.ble v.2.1 32767)))) false))) false
/-- 10: putfield; table: the field's kind -/
noncomputable def xo_putf : XO := fun _ ih code i pc stk loc h n sl => match stk with
  | v :: r :: t => x_if (Nat.beq r.1 6) (x_if (x_fitv (x_hd i.2.2.2) v) (x_bind (x_hget h r.2.1) (fun c => x_if (Nat.beq c.1 0) (x_if (Nat.beq c.2.1 i.2.1) (x_bind (x_gget c.2.2 i.2.2.1) (fun _ => x_bind (x_hset h r.2.1 (0, c.2.1, x_gset c.2.2 i.2.2.1 v)) (fun h2 => x_force (Nat.succ pc) (fun p => ih code p t loc h2 n sl)))) none) none)) none) none
  | _ => none
/-- locals of a callee out of its arguments, last first -/
noncomputable def x_take (m : Nat) : List XV → List XV → (List XV → List XV → XR) → XR := Nat.rec (motive := fun _ => List XV → List XV → (List XV → List XV → XR) → XR) (fun stk acc k => k acc stk)
  (fun _ ih stk acc k => List.rec (motive := fun _ => XR) none (fun v t _ => ih t (x_if (x_cat2 v) (v :: (11, 0, 0) :: acc) (v :: acc)) k) stk) m
noncomputable def x_pad (l : List XV) (m : Nat) : List XV := l ++ List.replicate (Nat.sub m (x_len l)) (11, 0, 0)
noncomputable def x_hd2 (l : List (Nat × Nat)) : Nat := List.rec (motive := fun _ => Nat) 0 (fun q _ _ => q.2) l
/-- is the receiver an object of class k - 1? (k = 0: none is wanted) -/
noncomputable def x_rcv (h : XH) (args : List XV) (k : Nat) : Bool := x_if (Nat.beq k 0) true (List.rec (motive := fun _ => Bool) false (fun v _ _ => x_if (Nat.beq v.1 6) (Option.rec (motive := fun _ => Bool) false (fun c => x_if (Nat.beq c.1 0) (Nat.beq (Nat.succ c.2.1) k) false) (x_hget h v.2.1)) false) args)
/-- 11: a call of method a with b arguments (the receiver among them); table: its locals, and the receiver's class and 1, or 0 -/
noncomputable def xo_call : XO := fun P ih code i pc stk loc h n sl => x_take i.2.2.1 stk [] (fun args t => x_if (Nat.ble (x_cats t) 8) (x_if (Nat.ble (x_len args) (x_hd i.2.2.2)) (x_if (x_rcv h args (x_hd2 i.2.2.2)) (x_bind (P i.2.1 (x_pad args (x_hd i.2.2.2)) h n sl) (fun r =>
  x_if (Nat.ble n r.2.2.2.1) (x_if (Nat.ble sl r.2.2.2.2) (x_if (Nat.beq r.1 0) (x_force (Nat.succ pc) (fun p => ih code p t loc r.2.2.1 r.2.2.2.1 r.2.2.2.2)) (x_if (Nat.beq r.1 1) (x_force (Nat.succ pc) (fun p => ih code p (r.2.1 :: t) loc r.2.2.1 r.2.2.2.1 r.2.2.2.2)) none)) none) none)) none) none) none)
/-- 12: return -/
noncomputable def xo_ret : XO := fun _ _ _ _ _ stk _ h n sl => match stk with
  | [] => some (0, (5, 0, 0), h, n, sl)
  | _ => none
/-- 13: a value of kind a is returned -/
noncomputable def xo_retv : XO := fun _ _ _ i _ stk _ h n sl => match stk with
  | [v] => x_if (x_fitv i.2.1 v) (some (1, v, h, n, sl)) none
  | _ => none
/-- 14: dup -/
noncomputable def xo_dup : XO := fun _ ih code _ pc stk loc h n sl => match stk with
  | v :: t => x_if (x_cat2 v) none (x_force (Nat.succ pc) (fun p => ih code p (v :: v :: t) loc h n sl))
  | _ => none
/-- int arithmetic: 0 add, 1 sub, 2 mul, 3 and, 4 or, 5 xor, 6 shl, 7 shr of one that is not below 0, 9 div, 10 rem of two that are not below 0 -/
noncomputable def x_iop (a x y : Nat) : Option Nat :=
  x_if (Nat.ble a 2) (some (x_if (Nat.beq a 0) (Nat.add x y) (x_if (Nat.beq a 1) (Nat.add x (Nat.sub 4294967296 (Nat.mod y 4294967296))) (Nat.mul x y))))
   (x_if (Nat.ble a 5) (some (x_if (Nat.beq a 3) (Nat.land x y) (x_if (Nat.beq a 4) (Nat.lor x y) (Nat.xor x y))))
    (x_if (Nat.beq a 6) (some (Nat.shiftLeft x (Nat.mod y 32)))
     (x_if (x_sgn x) none (x_if (Nat.beq a 7) (some (Nat.shiftRight x (Nat.mod y 32)))
       (x_if (x_sgn y) none (x_if (Nat.beq y 0) none (some (x_if (Nat.beq a 9) (Nat.div x y) (Nat.mod x y)))))))))
/-- 15: int arithmetic -/
noncomputable def xo_iop : XO := fun _ ih code i pc stk loc h n sl => match stk with
  | y :: x :: t => x_if (Nat.beq x.1 0) (x_if (Nat.beq y.1 0) (x_bind (x_iop i.2.1 x.2.1 y.2.1) (fun r => x_I r (fun w => x_force (Nat.succ pc) (fun p => ih code p (w :: t) loc h n sl)))) none) none
  | _ => none
/-- 16: out of an array of kind a -/
noncomputable def xo_ald : XO := fun _ ih code i pc stk loc h n sl => match stk with
  | j :: r :: t => x_if (Nat.beq r.1 6) (x_if (Nat.beq j.1 0) (x_if (x_sgn j.2.1) none (x_bind (x_hget h r.2.1) (fun c => x_if (Nat.beq c.1 i.2.1) (x_bind (x_gget c.2.2 j.2.1) (fun v => x_force (Nat.succ pc) (fun p => ih code p (v :: t) loc h n sl))) none))) none) none
  | _ => none
noncomputable def x_new (h : XH) (n : Nat) (c : XC) (k : XV → XH → Nat → XR) : XR := x_bind (x_hpush h n c) (fun h2 => x_force (Nat.succ n) (fun m => k (6, n, 0) h2 m))
/-- 17: new object of class a; its fields' defaults are the table's (so many, tag) -/
noncomputable def xo_new : XO := fun _ ih code i pc stk loc h n sl => x_new h n (0, i.2.1, i.2.2.2.map (fun q => (q.1, (q.2, 0, 0)))) (fun r h2 m => x_force (Nat.succ pc) (fun p => ih code p (r :: stk) loc h2 m (Nat.add sl i.2.2.1)))
/-- 18: new array of kind a, class b, of one dimension; table: the default's tag -/
noncomputable def xo_newa : XO := fun _ ih code i pc stk loc h n sl => match stk with
  | v :: t => x_if (Nat.beq v.1 0) (x_if (Nat.ble v.2.1 67108864) (x_new h n (i.2.1, i.2.2.1, x_gcons v.2.1 (x_hd i.2.2.2, 0, 0) []) (fun r h2 m => x_force (Nat.succ pc) (fun p => ih code p (r :: t) loc h2 m (Nat.add sl v.2.1)))) none) none
  | _ => none
/-- m cells more, all alike -/
noncomputable def x_pushs (c : XC) (m : Nat) : XH → Nat → Option XH := Nat.rec (motive := fun _ => XH → Nat → Option XH) (fun h _ => some h) (fun _ ih h n => x_bind (x_hpush h n c) (fun h2 => x_force (Nat.succ n) (fun n2 => ih h2 n2))) m
/-- references to m cells in a row, from k on -/
noncomputable def x_refs (m : Nat) : Nat → XG := Nat.rec (motive := fun _ => Nat → XG) (fun _ => []) (fun _ ih k => (1, (6, k, 0)) :: x_force (Nat.succ k) ih) m
/-- 20: new array of arrays: inner kind a, class b; table: the default's tag, the outer one's class -/
noncomputable def xo_mna : XO := fun _ ih code i pc stk loc h n sl => match stk with
  | k :: v :: t => x_if (Nat.beq v.1 0) (x_if (Nat.beq k.1 0) (x_if (Nat.ble v.2.1 67108864) (x_if (Nat.ble k.2.1 67108864)
      (x_bind (x_hpush h n (8, x_hd2 i.2.2.2, x_refs v.2.1 (Nat.succ n))) (fun h2 => x_bind (x_pushs (i.2.1, i.2.2.1, x_gcons k.2.1 (x_hd i.2.2.2, 0, 0) []) v.2.1 h2 (Nat.succ n)) (fun h3 => x_force (Nat.add (Nat.succ n) v.2.1) (fun m => x_force (Nat.succ pc) (fun p => ih code p ((6, n, 0) :: t) loc h3 m (Nat.add sl (Nat.add v.2.1 (Nat.mul v.2.1 k.2.1)))))))) none) none) none) none
  | _ => none
/-- places from i on -/
noncomputable def x_gdrop (g : XG) : Nat → XG := List.rec (motive := fun _ => Nat → XG) (fun _ => []) (fun s t ih i => x_if (Nat.ble (Nat.succ i) s.1) (x_gcons (Nat.sub s.1 i) s.2 t) (ih (Nat.sub i s.1))) g
/-- the first n places -/
noncomputable def x_gtake (g : XG) : Nat → XG := List.rec (motive := fun _ => Nat → XG) (fun _ => []) (fun s _ ih i => x_if (Nat.ble i s.1) (x_gcons i s.2 []) (x_gcons s.1 s.2 (ih (Nat.sub i s.1)))) g
noncomputable def x_gcat (a b : XG) : XG := List.rec (motive := fun _ => XG) b (fun s _ ih => x_gcons s.1 s.2 ih) a
noncomputable def x_gall (p : XV → Bool) (g : XG) : Bool := List.rec (motive := fun _ => Bool) true (fun s _ ih => x_if (x_if (Nat.beq s.1 0) true (p s.2)) ih false) g
/-- 30: System.arraycopy between two of one kind -/
noncomputable def xo_copy : XO := fun _ ih code _ pc stk loc h n sl => match stk with
  | m :: dp :: d :: sp :: s :: t => x_if (Nat.beq m.1 0) (x_if (Nat.beq dp.1 0) (x_if (Nat.beq d.1 6) (x_if (Nat.beq sp.1 0) (x_if (Nat.beq s.1 6) (x_if (Nat.ble (x_cats t) 8)
      (x_bind (x_hget h s.2.1) (fun cs => x_bind (x_hget h d.2.1) (fun cd => x_if (Nat.beq cs.1 cd.1) (x_if (Nat.beq cs.2.1 cd.2.1) (x_if (Nat.ble (Nat.add sp.2.1 m.2.1) (x_glen cs.2.2)) (x_if (Nat.ble (Nat.add dp.2.1 m.2.1) (x_glen cd.2.2)) (x_if (Nat.ble (x_glen cs.2.2) 67108864) (x_if (Nat.ble (x_glen cd.2.2) 67108864)
        (x_if (x_if (Nat.beq cs.1 8) (x_if (Option.rec (motive := fun _ => Bool) false (fun q => Nat.beq q 1) (x_nth x_rob cs.2.1)) (x_gall (fun v => x_okref h v cs.2.1) (x_gtake (x_gdrop cs.2.2 sp.2.1) m.2.1)) false) (x_if (Nat.beq cs.1 1) true (Nat.beq cs.1 6)))
          (x_bind (x_hset h d.2.1 (cd.1, cd.2.1, x_gcat (x_gtake cd.2.2 dp.2.1) (x_gcat (x_gtake (x_gdrop cs.2.2 sp.2.1) m.2.1) (x_gdrop cd.2.2 (Nat.add dp.2.1 m.2.1))))) (fun h2 => x_force (Nat.succ pc) (fun p => ih code p t loc h2 n sl))) none) none) none) none) none) none) none))) none) none) none) none) none) none
  | _ => none
/-- 34: clone of a row of longs -/
noncomputable def xo_clone : XO := fun _ ih code _ pc stk loc h n sl => match stk with
  | s :: t => x_if (Nat.beq s.1 6) (x_if (Nat.ble (x_cats t) 8) (x_bind (x_hget h s.2.1) (fun cs => x_if (Nat.beq cs.1 6) (x_bind (x_hpush h n cs) (fun h2 => x_force (Nat.succ n) (fun m => x_force (Nat.succ pc) (fun p => ih code p ((6, n, 0) :: t) loc h2 m (Nat.add sl (x_glen cs.2.2)))))) none)) none) none
  | _ => none
/-- 35: a cast of a row of longs to its own type -/
noncomputable def xo_cast : XO := fun _ ih code _ pc stk loc h n sl => match stk with
  | s :: t => x_if (Nat.beq s.1 6) (x_bind (x_hget h s.2.1) (fun cs => x_if (Nat.beq cs.1 6) (x_force (Nat.succ pc) (fun p => ih code p (s :: t) loc h n sl)) none)) none
  | _ => none
/-- 19: ineg -/
noncomputable def xo_ineg : XO := fun _ ih code _ pc stk loc h n sl => match stk with
  | x :: t => x_if (Nat.beq x.1 0) (x_I (Nat.sub 4294967296 (Nat.mod x.2.1 4294967296)) (fun w => x_force (Nat.succ pc) (fun p => ih code p (w :: t) loc h n sl))) none
  | _ => none
/-- 36: Math.min (a = 0), Math.max (a = 1) of two ints -/
noncomputable def xo_imm : XO := fun _ ih code i pc stk loc h n sl => match stk with
  | y :: x :: t => x_if (Nat.beq x.1 0) (x_if (Nat.beq y.1 0) (x_if (Nat.ble (x_cats t) 8) (x_force (x_if (x_if (Nat.beq i.2.1 0) (Nat.ble (Nat.succ (Nat.mod (Nat.add y.2.1 2147483648) 4294967296)) (Nat.mod (Nat.add x.2.1 2147483648) 4294967296)) (Nat.ble (Nat.succ (Nat.mod (Nat.add x.2.1 2147483648) 4294967296)) (Nat.mod (Nat.add y.2.1 2147483648) 4294967296))) y.2.1 x.2.1)
      (fun w => x_force (Nat.succ pc) (fun p => ih code p ((0, w, 0) :: t) loc h n sl))) none) none) none
  | _ => none
/-- 26: iushr -/
noncomputable def xo_iushr : XO := fun _ ih code _ pc stk loc h n sl => match stk with
  | y :: x :: t => x_if (Nat.beq x.1 0) (x_if (Nat.beq y.1 0) (x_I (Nat.shiftRight (Nat.mod x.2.1 4294967296) (Nat.mod y.2.1 32)) (fun w => x_force (Nat.succ pc) (fun p => ih code p (w :: t) loc h n sl))) none) none
  | _ => none
/-- long arithmetic: 0 add, 1 sub, 2 mul, 3 and, 4 or, 5 xor, 6 shl (by an int), 9 div, 10 rem of two that are not below 0 -/
noncomputable def x_lop (a x y : Nat) : Option Nat :=
  x_if (Nat.ble a 2) (some (x_if (Nat.beq a 0) (Nat.add x y) (x_if (Nat.beq a 1) (Nat.add x (Nat.sub 18446744073709551616 (Nat.mod y 18446744073709551616))) (Nat.mul x y))))
   (x_if (Nat.ble a 5) (some (x_if (Nat.beq a 3) (Nat.land x y) (x_if (Nat.beq a 4) (Nat.lor x y) (Nat.xor x y))))
    (x_if (Nat.beq a 6) (x_if (x_sgn y) none (some (Nat.shiftLeft x (Nat.mod y 64))))
      (x_if (Nat.ble 9223372036854775808 x) none (x_if (Nat.ble 9223372036854775808 y) none (x_if (Nat.beq y 0) none (some (x_if (Nat.beq a 9) (Nat.div x y) (Nat.mod x y))))))))
/-- 22: long arithmetic -/
noncomputable def xo_lop : XO := fun _ ih code i pc stk loc h n sl => match stk with
  | y :: x :: t => x_if (Nat.beq x.1 2) (x_if (Nat.beq y.1 (x_if (Nat.beq i.2.1 6) 0 2)) (x_bind (x_lop i.2.1 x.2.1 y.2.1) (fun r => x_L r (fun w => x_force (Nat.succ pc) (fun p => ih code p (w :: t) loc h n sl)))) none) none
  | _ => none
/-- 23: i2l -/
noncomputable def xo_i2l : XO := fun _ ih code _ pc stk loc h n sl => match stk with
  | x :: t => x_if (Nat.beq x.1 0) (x_force (Nat.mod x.2.1 4294967296) (fun y => x_force (Nat.add y (x_if (x_sgn y) 18446744069414584320 0)) (fun q => x_force (Nat.succ pc) (fun p => ih code p ((2, q, 0) :: t) loc h n sl)))) none
  | _ => none
/-- 24: l2i -/
noncomputable def xo_l2i : XO := fun _ ih code _ pc stk loc h n sl => match stk with
  | x :: t => x_if (Nat.beq x.1 2) (x_I x.2.1 (fun w => x_force (Nat.succ pc) (fun p => ih code p (w :: t) loc h n sl))) none
  | _ => none
/-- 25: i2b, i2c, i2s (kind a) -/
noncomputable def xo_i2n : XO := fun _ ih code i pc stk loc h n sl => match stk with
  | x :: t => x_nar i.2.1 x (fun w => x_force (Nat.succ pc) (fun p => ih code p (w :: t) loc h n sl))
  | _ => none
/-- 27: lcmp -/
noncomputable def xo_lcmp : XO := fun _ ih code _ pc stk loc h n sl => match stk with
  | y :: x :: t => x_bind (x_rngL x) (fun a => x_bind (x_rngL y) (fun b => x_bind (x_if (Nat.ble (Nat.succ a.2) b.1) (some 4294967295) (x_if (Nat.ble (Nat.succ b.2) a.1) (some 1) (x_bind (x_eq a b) (fun q => x_if q (some 0) none)))) (fun r => x_force (Nat.succ pc) (fun p => ih code p ((0, r, 0) :: t) loc h n sl))))
  | _ => none
/-- 28: pop -/
noncomputable def xo_pop : XO := fun _ ih code _ pc stk loc h n sl => match stk with
  | v :: t => x_if (x_cat2 v) none (x_force (Nat.succ pc) (fun p => ih code p t loc h n sl))
  | _ => none
/-- 29: dup2 of two of one slot -/
noncomputable def xo_dup2 : XO := fun _ ih code _ pc stk loc h n sl => match stk with
  | v :: w :: t => x_if (x_cat2 v) (x_force (Nat.succ pc) (fun p => ih code p (v :: v :: w :: t) loc h n sl)) (x_if (x_cat2 w) none (x_force (Nat.succ pc) (fun p => ih code p (v :: w :: v :: w :: t) loc h n sl)))
  | _ => none
/-- 31: getstatic: what isn't written (tag a) -/
noncomputable def xo_gets : XO := fun _ ih code i pc stk loc h n sl => x_force (Nat.succ pc) (fun p => ih code p ((i.2.1, 0, 0) :: stk) loc h n sl)
/-- 32: ifnull (a = 0), ifnonnull (a = 1) -/
noncomputable def xo_ifnull : XO := fun _ ih code i pc stk loc h n sl => match stk with
  | v :: t => x_goif (x_if (Nat.beq v.1 5) (some (Nat.beq i.2.1 0)) (x_if (Nat.beq v.1 6) (some (Nat.beq i.2.1 1)) none)) i.2.2.1 pc (fun p => ih code p t loc h n sl)
  | _ => none
noncomputable def x_assoc (l : List (Nat × Nat)) (x d : Nat) : Nat := List.rec (motive := fun _ => Nat) d (fun q _ ih => x_if (Nat.beq q.1 x) q.2 ih) l
/-- 33: a switch on a known int: table (value, target), else b -/
noncomputable def xo_switch : XO := fun _ ih code i _ stk loc h n sl => match stk with
  | v :: t => x_if (Nat.beq v.1 0) (x_force (Nat.mod v.2.1 4294967296) (fun w => x_force (x_assoc i.2.2.2 w i.2.2.1) (fun p => ih code p t loc h n sl))) none
  | _ => none
/-- 40: Object.<init> -/
noncomputable def xo_objinit : XO := fun _ ih code _ pc stk loc h n sl => match stk with
  | v :: t => x_if (Nat.beq v.1 6) (x_bind (x_hget h v.2.1) (fun c => x_if (Nat.beq c.1 0) (x_if (Nat.ble (x_cats t) 8) (x_force (Nat.succ pc) (fun p => ih code p t loc h n sl)) none) none)) none
  | _ => none
/-- 41: the length of a String constant -/
noncomputable def xo_slen : XO := fun _ ih code _ pc stk loc h n sl => match stk with
  | v :: t => x_if (Nat.beq v.1 8) (x_if (Nat.ble (x_cats t) 8) (x_bind (x_nth x_strs v.2.1) (fun c => x_force (x_len c) (fun q => x_force (Nat.succ pc) (fun p => ih code p ((0, q, 0) :: t) loc h n sl)))) none) none
  | _ => none
/-- 42: a sign of a String constant -/
noncomputable def xo_sat : XO := fun _ ih code _ pc stk loc h n sl => match stk with
  | j :: v :: t => x_if (Nat.beq v.1 8) (x_if (Nat.beq j.1 0) (x_if (Nat.ble (x_cats t) 8) (x_bind (x_nth x_strs v.2.1) (fun c => x_bind (x_nth c j.2.1) (fun q => x_force (Nat.succ pc) (fun p => ih code p ((0, q, 0) :: t) loc h n sl)))) none) none) none
  | _ => none
noncomputable def x_ops : List XO := [xo_load, xo_getf, xo_const, xo_icmp, xo_if0, xo_goto, xo_iinc, xo_store, xo_ast, xo_alen, xo_putf, xo_call, xo_ret, xo_retv, xo_dup, xo_iop, xo_ald, xo_new, xo_newa, xo_ineg, xo_mna, xo_store2, xo_lop, xo_i2l, xo_l2i, xo_i2n, xo_iushr, xo_lcmp, xo_pop, xo_dup2, xo_copy, xo_gets, xo_ifnull, xo_switch, xo_clone, xo_cast, xo_imm, xo_none, xo_none, xo_none, xo_objinit, xo_slen, xo_sat]
/-- a method runs: so many instructions -/
noncomputable def x_run (P : XK) (fuel : Nat) : XF := Nat.rec (motive := fun _ => XF) (fun _ _ _ _ _ _ _ => none) (fun _ ih code pc stk loc h n sl => Option.rec (motive := fun _ => XR) none (fun i => Option.rec (motive := fun _ => XR) none (fun f => f P ih code i pc stk loc h n sl) (x_nth x_ops i.1)) (x_nth code pc)) fuel
/-- methods call each other: so many deep -/
noncomputable def x_dep (P : List (List XI)) (fuel d : Nat) : XK := Nat.rec (motive := fun _ => XK) (fun _ _ _ _ _ => none) (fun _ K M loc h n sl => x_bind (x_nth P M) (fun cd => x_run K fuel cd 0 [] loc h n sl)) d
end AMDEF
