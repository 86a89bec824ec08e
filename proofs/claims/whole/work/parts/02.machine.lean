/-! THE ABSTRACT MACHINE: numbers are mathematical, cells are numbered from 0, a cell's shape (skeleton) stands apart from its numbers (memory) -/
/-- a value: an int, a long, null or the number of a cell -/
abbrev mv_V : Type := Int ⊕ (Int ⊕ Option Nat)
abbrev mI (x : Int) : mv_V := .inl x
abbrev mL (x : Int) : mv_V := .inr (.inl x)
abbrev mR (a : Nat) : mv_V := .inr (.inr (some a))
abbrev mN : mv_V := .inr (.inr none)
/-- a cell's shape: an array of numbers (its type, its length); an array of references; an object (its class, its fields: 0 an int, 1 a long, 2 null, k + 3 the cell k) -/
abbrev mv_K : Type := (Nat × Nat) ⊕ ((Nat × List (Option Nat)) ⊕ (Nat × List Nat))
abbrev mv_M : Type := Nat → Nat → Int
abbrev mv_H : Type := List mv_K × mv_M
abbrev mv_L : Type := List (Option mv_V)
abbrev mv_F : Type := Nat × (mv_L × (List mv_V × mv_H))
/-- an instruction with its length and what it is linked to -/
abbrev mv_E : Type := Instr × (Nat × (Nat × (Nat × Int)))
abbrev mv_O : Type := Option (mv_F ⊕ (Option mv_V × mv_H))
/-- a method: its name, bytes, locals, what it returns; the number of its class; its instructions -/
abbrev mv_Y : Type := (MethodName × (ByteArray × (Nat × Option FieldType))) × (Nat × List (Nat × mv_E))
def mv_up (M : mv_M) (a i : Nat) (v : Int) : mv_M := fun b j => if b = a ∧ j = i then v else M b j
def mv_row (M : mv_M) (a : Nat) (f : Nat → Int) : mv_M := fun b => if b = a then f else M b
def mv_new (M : mv_M) (n : Nat) : mv_M := fun b j => if n ≤ b then 0 else M b j
abbrev mv_in (x : Int) : Prop := -2147483648 ≤ x ∧ x ≤ 2147483647
abbrev mv_in8 (x : Int) : Prop := -9223372036854775808 ≤ x ∧ x ≤ 9223372036854775807
def mv_cmp (c : Jvm.ClassFile.Cond) (x y : Int) : Bool := match c with
  | .eq => decide (x = y)
  | .ne => decide (¬ x = y)
  | .lt => decide (x < y)
  | .ge => decide (y ≤ x)
  | .gt => decide (y < x)
  | .le => decide (x ≤ y)
def mv_c1 : mv_V → Bool
  | .inr (.inl _) => false
  | _ => true
def mv_fld (M : mv_M) (a k : Nat) : Nat → mv_V
  | 0 => mI (M a k)
  | 1 => mL (M a k)
  | 2 => mN
  | r + 3 => mR r
def mv_nx (pc : Nat) (L : mv_L) (S : List mv_V) (h : mv_H) : mv_O := some (.inl (pc, L, S, h))
def mv_tg (pc : Nat) (off : Int) : Nat := ((pc : Int) + off).toNat
/-- the fields of a new object of each class -/
def mv_ldi (L : mv_L) (k : Nat) (pc : Nat) (S : List mv_V) (h : mv_H) : mv_O := match L[k]? with
  | some (some (.inl x)) => mv_nx pc L (mI x :: S) h
  | _ => none
def mv_lda (L : mv_L) (k : Nat) (pc : Nat) (S : List mv_V) (h : mv_H) : mv_O := match L[k]? with
  | some (some (.inr (.inr (some a)))) => mv_nx pc L (mR a :: S) h
  | _ => none
def mv_sti (L : mv_L) (k : Nat) (pc : Nat) (S : List mv_V) (h : mv_H) : mv_O := match S with
  | .inl x :: S => if k < L.length then mv_nx pc (L.set k (some (mI x))) S h else none
  | _ => none
def mv_sta (L : mv_L) (k : Nat) (pc : Nat) (S : List mv_V) (h : mv_H) : mv_O := match S with
  | .inr (.inr (some a)) :: S => if k < L.length then mv_nx pc (L.set k (some (mR a))) S h else none
  | _ => none
/-- an int array's place read: of the program's own cells, or (the number 9999) of the script -/
def mv_ald (sc : Nat × (Nat → Int)) (t : Nat) (pc : Nat) (L : mv_L) (S : List mv_V) (h : mv_H) : mv_O := match S with
  | .inl i :: .inr (.inr (some r)) :: S => match h.1[r]? with
    | some (.inl (t', n)) => if t' = t ∧ 0 ≤ i ∧ i < n ∧ mv_in i then mv_nx pc L (mI (h.2 r i.toNat) :: S) h else none
    | some _ => none
    | none => if t = 0 ∧ r = 9999 ∧ 0 ≤ i ∧ i < sc.1 ∧ mv_in i then mv_nx pc L (mI (sc.2 i.toNat) :: S) h else none
  | _ => none
/-- a number that may stand in an array of a type: 0 int, 1 char, 2 boolean -/
def mv_fit (t : Nat) (x : Int) : Prop := match t with
  | 0 => True
  | 1 => 0 ≤ x ∧ x ≤ 65535
  | _ => x = 0 ∨ x = 1
def mv_fitB (t : Nat) (x : Int) : Bool := match t with
  | 0 => true
  | 1 => decide (0 ≤ x ∧ x ≤ 65535)
  | _ => decide (x = 0 ∨ x = 1)
def mv_ast (t : Nat) (pc : Nat) (L : mv_L) (S : List mv_V) (h : mv_H) : mv_O := match S with
  | .inl x :: .inl i :: .inr (.inr (some r)) :: S => match h.1[r]? with
    | some (.inl (t', n)) => if t' = t ∧ 0 ≤ i ∧ i < n ∧ mv_in i ∧ mv_fitB t x = true then mv_nx pc L S (h.1, mv_up h.2 r i.toNat x) else none
    | _ => none
  | _ => none
def mv_bin (f : Int → Int → Int) (pc : Nat) (L : mv_L) (S : List mv_V) (h : mv_H) : mv_O := match S with
  | .inl y :: .inl x :: S => mv_nx pc L (mI (f x y) :: S) h
  | _ => none
/-- Math.max, Math.min -/
def mv_mm (f : Int → Int → Int) (pc : Nat) (L : mv_L) (S : List mv_V) (h : mv_H) : mv_O := match S with
  | .inl y :: .inl x :: S => if mv_in x ∧ mv_in y ∧ S.length ≤ 4 then mv_nx pc L (mI (f x y) :: S) h else none
  | _ => none
def mv_getf (a b : Nat) (pc : Nat) (L : mv_L) (S : List mv_V) (h : mv_H) : mv_O := match S with
  | .inr (.inr (some r)) :: S => match h.1[r]? with
    | some (.inr (.inr (ci, fs))) => if ci = a then match fs[b]? with
      | some x => mv_nx pc L (mv_fld h.2 r b x :: S) h
      | none => none
      else none
    | _ => none
  | _ => none
/-- a field written; z: 0 int, 1 long, 2 boolean, 3 a reference -/
def mv_putf (a b : Nat) (z : Int) (pc : Nat) (L : mv_L) (S : List mv_V) (h : mv_H) : mv_O := match S with
  | v :: .inr (.inr (some r)) :: S => match h.1[r]? with
    | some (.inr (.inr (ci, fs))) => if ci = a then match v with
      | .inl x => if fs[b]? = some 0 ∧ (z = 0 ∨ (z = 2 ∧ (x = 0 ∨ x = 1))) then mv_nx pc L S (h.1, mv_up h.2 r b x) else none
      | .inr (.inl x) => if fs[b]? = some 1 ∧ z = 1 then mv_nx pc L S (h.1, mv_up h.2 r b x) else none
      | .inr (.inr (some q)) => if z = 3 ∧ b < fs.length ∧ ¬ fs[b]? = some 0 ∧ ¬ fs[b]? = some 1 then mv_nx pc L S (h.1.set r (.inr (.inr (ci, fs.set b (q + 3)))), h.2) else none
      | .inr (.inr none) => none
      else none
    | _ => none
  | _ => none
def mv_alen (sc : Nat × (Nat → Int)) (pc : Nat) (L : mv_L) (S : List mv_V) (h : mv_H) : mv_O := match S with
  | .inr (.inr (some r)) :: S => match h.1[r]? with
    | some (.inl (t, n)) => if t = 0 then mv_nx pc L (mI n :: S) h else none
    | some _ => none
    | none => if r = 9999 then mv_nx pc L (mI sc.1 :: S) h else none
  | _ => none
/-- System.arraycopy of int arrays -/
def mv_copy (pc : Nat) (L : mv_L) (S : List mv_V) (h : mv_H) : mv_O := match S with
  | .inl n :: .inl dp :: .inr (.inr (some r)) :: .inl sp :: .inr (.inr (some q)) :: S => match h.1[q]?, h.1[r]? with
    | some (.inl (t0, n0)), some (.inl (t1, n1)) =>
      if t0 = 0 ∧ t1 = 0 ∧ 0 ≤ n ∧ 0 ≤ dp ∧ 0 ≤ sp ∧ sp + n ≤ n0 ∧ dp + n ≤ n1 ∧ n0 ≤ 100000 ∧ n1 ≤ 100000 ∧ S.length ≤ 4 then
        mv_nx pc L S (h.1, mv_row h.2 r (fun i => if dp.toNat ≤ i ∧ i < dp.toNat + n.toNat then h.2 q (sp.toNat + (i - dp.toNat)) else h.2 r i)) else none
    | _, _ => none
  | _ => none
/-- a call: the arguments (the receiver first), what it answers on top -/
def mv_call (call : Nat → List mv_V → mv_H → Option (Option mv_V × mv_H)) (y n : Nat) (pc : Nat) (L : mv_L) (S : List mv_V) (h : mv_H) : mv_O :=
  if n ≤ S.length ∧ ((S.drop n).length ≤ 4 ∨ ((S.drop n).length ≤ 8 ∧ (S.drop n).all mv_c1 = true)) then match call y (S.take n).reverse h with
    | some (r, h') => mv_nx pc L (r.toList ++ S.drop n) h'
    | none => none
  else none
/-- the receiver, below n arguments, is an object of the class ci -/
def mv_recv (ci n : Nat) (S : List mv_V) (h : mv_H) : Bool := match S[n]? with
  | some (.inr (.inr (some r))) => match h.1[r]? with
    | some (.inr (.inr (c, _))) => decide (c = ci)
    | _ => false
  | _ => false
def mv_aald (pc : Nat) (L : mv_L) (S : List mv_V) (h : mv_H) : mv_O := match S with
  | .inl i :: .inr (.inr (some r)) :: S => match h.1[r]? with
    | some (.inr (.inl (t, fs))) => if (t = 3 ∨ t = 4) ∧ 0 ≤ i ∧ mv_in i then match fs[i.toNat]? with
      | some (some q) => mv_nx pc L (mR q :: S) h
      | _ => none
      else none
    | _ => none
  | _ => none
/-- a reference to an object of the class ci into an array of the type 3 -/
def mv_aast (ci : Nat) (pc : Nat) (L : mv_L) (S : List mv_V) (h : mv_H) : mv_O := match S with
  | .inr (.inr (some q)) :: .inl i :: .inr (.inr (some r)) :: S => match h.1[r]?, h.1[q]? with
    | some (.inr (.inl (t, fs))), some (.inr (.inr (c, _))) =>
      if t = 3 ∧ c = ci ∧ 0 ≤ i ∧ mv_in i ∧ i.toNat < fs.length then mv_nx pc L S (h.1.set r (.inr (.inl (t, fs.set i.toNat (some q)))), h.2) else none
    | _, _ => none
  | _ => none
/-- n rows of k ints, and the array of them ahead -/
def mv_grid (pc : Nat) (L : mv_L) (S : List mv_V) (h : mv_H) : mv_O := match S with
  | .inl k :: .inl n :: S => if 0 ≤ k ∧ 0 ≤ n ∧ k ≤ 1000 ∧ n ≤ 1000 ∧ h.1.length ≤ 5000 then
      mv_nx pc L (mR h.1.length :: S) (h.1 ++ (.inr (.inl (4, (List.range n.toNat).map (fun j => some (h.1.length + 1 + j)))) :: List.replicate n.toNat (.inl (0, k.toNat))), mv_new h.2 h.1.length) else none
  | _ => none
def mv_newa (t : Nat) (pc : Nat) (L : mv_L) (S : List mv_V) (h : mv_H) : mv_O := match S with
  | .inl n :: S => if 0 ≤ n ∧ n ≤ 1000 ∧ h.1.length ≤ 5000 then mv_nx pc L (mR h.1.length :: S) (h.1 ++ [.inl (t, n.toNat)], mv_new h.2 h.1.length) else none
  | _ => none
def mv_newq (pc : Nat) (L : mv_L) (S : List mv_V) (h : mv_H) : mv_O := match S with
  | .inl n :: S => if 0 ≤ n ∧ n ≤ 1000 ∧ h.1.length ≤ 5000 then mv_nx pc L (mR h.1.length :: S) (h.1 ++ [.inr (.inl (3, List.replicate n.toNat none))], mv_new h.2 h.1.length) else none
  | _ => none
def mv_br (c : Jvm.ClassFile.Cond) (a : Nat) (x y : Int) (pc : Nat) (L : mv_L) (S : List mv_V) (h : mv_H) : mv_O :=
  if mv_in x ∧ mv_in y then mv_nx (if mv_cmp c x y = true then a else pc) L S h else none
/-- ONE STEP. a, b, z: what the instruction is linked to; df: the fields of a new object of a class -/
def mv_stp (df : Nat → List Nat) (sc : Nat × (Nat → Int)) (call : Nat → List mv_V → mv_H → Option (Option mv_V × mv_H)) (e : mv_E) (f : mv_F) : mv_O :=
  match e, f with
  | (i, len, a, b, z), (pc, L, S, h) => match i with
    | .iconst n => mv_nx (pc + len) L (mI n :: S) h
    | .bipush n => mv_nx (pc + len) L (mI n :: S) h
    | .sipush n => mv_nx (pc + len) L (mI n :: S) h
    | .ldc _ => mv_nx (pc + len) L (mI z :: S) h
    | .ldc2_w _ => mv_nx (pc + len) L (mL z :: S) h
    | .lconst k => mv_nx (pc + len) L (mL (k.val : Int) :: S) h
    | .iload_n k => mv_ldi L k.val (pc + len) S h
    | .iload k => mv_ldi L k (pc + len) S h
    | .aload_n k => mv_lda L k.val (pc + len) S h
    | .aload k => mv_lda L k (pc + len) S h
    | .istore_n k => mv_sti L k.val (pc + len) S h
    | .istore k => mv_sti L k (pc + len) S h
    | .astore_n k => mv_sta L k.val (pc + len) S h
    | .astore k => mv_sta L k (pc + len) S h
    | .iinc k n => match L[k]? with
      | some (some (.inl x)) => mv_nx (pc + len) (L.set k (some (mI (x + n)))) S h
      | _ => none
    | .iadd => mv_bin (fun x y => x + y) (pc + len) L S h
    | .isub => mv_bin (fun x y => x - y) (pc + len) L S h
    | .imul => mv_bin (fun x y => x * y) (pc + len) L S h
    | .ineg => match S with
      | .inl x :: S => mv_nx (pc + len) L (mI (-x) :: S) h
      | _ => none
    | .idiv => match S with
      | .inl y :: .inl x :: S => if ¬ y = 0 ∧ mv_in x ∧ mv_in y ∧ ¬ x = -2147483648 then mv_nx (pc + len) L (mI (x.tdiv y) :: S) h else none
      | _ => none
    | .irem => match S with
      | .inl y :: .inl x :: S => if ¬ y = 0 ∧ mv_in x ∧ mv_in y then mv_nx (pc + len) L (mI (x.tmod y) :: S) h else none
      | _ => none
    | .iand => match S with
      | .inl y :: .inl x :: S => if y = 1 ∨ y = 31 then mv_nx (pc + len) L (mI (x % (y + 1)) :: S) h else none
      | _ => none
    | .ishl => match S with
      | .inl y :: .inl x :: S => if 0 ≤ y ∧ y ≤ 30 then mv_nx (pc + len) L (mI (x * 2 ^ y.toNat) :: S) h else none
      | _ => none
    | .ishr => match S with
      | .inl y :: .inl x :: S => if 0 ≤ y ∧ y ≤ 30 ∧ 0 ≤ x ∧ mv_in x then mv_nx (pc + len) L (mI (x / 2 ^ y.toNat) :: S) h else none
      | _ => none
    | .i2c => match S with
      | .inl x :: S => if 0 ≤ x ∧ x ≤ 65535 then mv_nx (pc + len) L (mI x :: S) h else none
      | _ => none
    | .ladd => match S with
      | .inr (.inl y) :: .inr (.inl x) :: S => mv_nx (pc + len) L (mL (x + y) :: S) h
      | _ => none
    | .lcmp => match S with
      | .inr (.inl y) :: .inr (.inl x) :: S => if mv_in8 x ∧ mv_in8 y then mv_nx (pc + len) L (mI (if y < x then 1 else if x = y then 0 else -1) :: S) h else none
      | _ => none
    | .dup => match S with
      | v :: S => if mv_c1 v = true then mv_nx (pc + len) L (v :: v :: S) h else none
      | _ => none
    | .dup2 => match S with
      | v :: w :: S => if mv_c1 v = true ∧ mv_c1 w = true then mv_nx (pc + len) L (v :: w :: v :: w :: S) h else none
      | _ => none
    | .pop => match S with
      | v :: S => if mv_c1 v = true then mv_nx (pc + len) L S h else none
      | _ => none
    | .goto _ => mv_nx a L S h
    | .ifCond c _ => match S with
      | .inl x :: S => mv_br c a x 0 (pc + len) L S h
      | _ => none
    | .if_icmp c _ => match S with
      | .inl y :: .inl x :: S => mv_br c a x y (pc + len) L S h
      | _ => none
    | .tableswitch d lo hi os => match S with
      | .inl x :: S => if mv_in x then (if x < lo ∨ hi < x then mv_nx (mv_tg pc d) L S h else match os[(x - lo).toNat]? with
        | some o => mv_nx (mv_tg pc o) L S h
        | none => none) else none
      | _ => none
    | .lookupswitch d ps => match S with
      | .inl x :: S => if mv_in x then mv_nx (mv_tg pc (Op.lookupswitch.offset ps.toList d x)) L S h else none
      | _ => none
    | .getfield _ => mv_getf a b (pc + len) L S h
    | .putfield _ => mv_putf a b z (pc + len) L S h
    | .iaload => mv_ald sc 0 (pc + len) L S h
    | .caload => mv_ald sc 1 (pc + len) L S h
    | .baload => mv_ald sc 2 (pc + len) L S h
    | .iastore => mv_ast 0 (pc + len) L S h
    | .castore => mv_ast 1 (pc + len) L S h
    | .bastore => mv_ast 2 (pc + len) L S h
    | .aaload => mv_aald (pc + len) L S h
    | .aastore => mv_aast a (pc + len) L S h
    | .arraylength => mv_alen sc (pc + len) L S h
    | .new _ => if h.1.length ≤ 5000 then mv_nx (pc + len) L (mR h.1.length :: S) (h.1 ++ [.inr (.inr (a, df a))], mv_new h.2 h.1.length) else none
    | .newarray _ => mv_newa a (pc + len) L S h
    | .anewarray _ => mv_newq (pc + len) L S h
    | .multianewarray _ _ => mv_grid (pc + len) L S h
    | .invokestatic _ => if a = 998 then mv_copy (pc + len) L S h else if a = 997 then mv_mm (fun x y => if x < y then y else x) (pc + len) L S h else if a = 996 then mv_mm (fun x y => if y < x then y else x) (pc + len) L S h else mv_call call a b (pc + len) L S h
    | .invokevirtual _ => if mv_recv z.toNat b S h = true then mv_call call a (b + 1) (pc + len) L S h else none
    | .invokespecial _ => if a = 999 then (match S with
        | .inr (.inr (some _)) :: S => if S.length ≤ 4 then mv_nx (pc + len) L S h else none
        | _ => none) else (if mv_recv z.toNat b S h = true then mv_call call a (b + 1) (pc + len) L S h else none)
    | .ireturn => match S with
      | [.inl x] => if a = 0 ∨ x = 0 ∨ x = 1 then some (.inr (some (mI x), h)) else none
      | _ => none
    | .lreturn => match S with
      | [.inr (.inl x)] => some (.inr (some (mL x), h))
      | _ => none
    | .return_ => match S with
      | [] => some (.inr (none, h))
      | _ => none
    | _ => none
def mv_find : List (Nat × mv_E) → Nat → Option mv_E
  | [], _ => none
  | (k, e) :: l, pc => if k = pc then some e else mv_find l pc
def mv_run (st : mv_F → mv_O) : Nat → mv_F → Option (Option mv_V × mv_H)
  | 0, _ => none
  | n + 1, f => match st f with
    | none => none
    | some (.inr r) => some r
    | some (.inl f') => mv_run st n f'
def mv_at (df : Nat → List Nat) (sc : Nat × (Nat → Int)) (call : Nat → List mv_V → mv_H → Option (Option mv_V × mv_H)) (y : mv_Y) (f : mv_F) : mv_O := match mv_find y.2.2 f.1 with
  | some e => mv_stp df sc call e f
  | none => none
def mv_ent (y : mv_Y) (args : List mv_V) (h : mv_H) : mv_F := (0, args.map some ++ List.replicate (y.1.2.2.1 - args.length) none, [], h)
/-- a method's run, with d calls open at most, n steps in each -/
def mv_ev (df : Nat → List Nat) (mt : Nat → Option mv_Y) (sc : Nat × (Nat → Int)) (n : Nat) : Nat → Nat → List mv_V → mv_H → Option (Option mv_V × mv_H)
  | 0, _, _, _ => none
  | d + 1, y, args, h => match mt y with
    | none => none
    | some r => if args.all mv_c1 = true ∧ args.length ≤ r.1.2.2.1 then mv_run (mv_at df sc (mv_ev df mt sc n d) r) n (mv_ent r args h) else none
