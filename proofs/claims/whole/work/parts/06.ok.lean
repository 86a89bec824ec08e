/-! WHAT AN INSTRUCTION OF THE TABLES MUST BE, so that the machine does what the abstract machine does -/
def mv_TB : List Jvm.Cond := lw_tbl.filter goodWord
def mv_okF (own idx ci k : Nat) : Bool := mv_fl.any (fun q => decide (q.1 = own ∧ q.2.1 = idx ∧ q.2.2.1 = ci ∧ q.2.2.2.1 = k))
def mv_okM (own idx y kind : Nat) : Bool := mv_ml.any (fun q => decide (q.1 = own ∧ q.2.1 = idx ∧ q.2.2.1 = y ∧ q.2.2.2.1 = kind))
def mv_ok3 (l : List (Nat × Nat × Nat)) (own idx : Nat) : Bool := l.any (fun q => decide (q.1 = own ∧ q.2.1 = idx))
def mv_ok4 (l : List (Nat × Nat × Int × Nat)) (own idx : Nat) (z : Int) : Bool := l.any (fun q => decide (q.1 = own ∧ q.2.1 = idx ∧ q.2.2.1 = z))
def mv_okS (own idx a b : Nat) : Bool := mv_okM own idx a 0 && match mv_mt a, mv_mw[a]? with
  | some _, some q => decide (q.2.1 = 1 ∧ q.2.2.2.2.2 = b)
  | _, _ => false
def mv_okV (own idx a b z : Nat) : Bool := mv_okM own idx a 0 && match mv_mt a, mv_mw[a]?, mv_cl[z]? with
  | some y, some q, some c => decide (q.2.1 = 0 ∧ q.2.2.2.1 ≠ 5000 ∧ q.2.2.2.2.2 = b ∧ c.1 = y.1.1.cls)
  | _, _, _ => false
def mv_okI (own idx a b : Nat) : Bool := (mv_okM own idx a 0 || mv_okM own idx a 1) && match mv_mt a, mv_mw[a]? with
  | some y, some q => decide (q.2.1 = 0 ∧ q.2.2.2.2.2 = b ∧ y.1.1.name = "<init>" ∧ y.1.2.2.2 = none)
  | _, _ => false
/-- a field's type, and what is written to it -/
def mv_okT (ty : FieldType) (z : Int) : Bool := match ty with
  | .int => decide (z = 0)
  | .long => decide (z = 1)
  | .boolean => decide (z = 2)
  | .object _ => decide (z = 3)
  | .array _ => decide (z = 3)
  | _ => false
def mv_okP (own ci k : Nat) (z : Int) (init : Bool) : Bool := match mv_cl[ci]? with
  | some (_, T, _) => mv_okT (mv_ty ci k) z && (if (T k).2.2.2 = true then init && decide ((T k).1 = mv_ow own) else true)
  | none => false
def mv_okE (own : Nat) (ret : Option FieldType) (init : Bool) (e : Nat × mv_E) : Bool := match e with
  | (pc, i, len, a, b, z) => match i with
    | .iconst _ => decide (len = 1)
    | .bipush n => decide (len = 2 ∧ (Int8.ofInt n).toInt32 = Int32.ofInt n)
    | .sipush n => decide (len = 3 ∧ (Int16.ofInt n).toInt32 = Int32.ofInt n)
    | .ldc idx => decide (len = 2) && mv_ok4 mv_kc own idx z
    | .ldc2_w idx => decide (len = 3) && mv_ok4 mv_kl own idx z
    | .lconst _ => decide (len = 1)
    | .iload_n _ => decide (len = 1)
    | .iload _ => decide (len = 2)
    | .aload_n _ => decide (len = 1)
    | .aload _ => decide (len = 2)
    | .istore_n _ => decide (len = 1)
    | .istore _ => decide (len = 2)
    | .astore_n _ => decide (len = 1)
    | .astore _ => decide (len = 2)
    | .iinc _ _ => decide (len = 3)
    | .iadd => decide (len = 1)
    | .isub => decide (len = 1)
    | .imul => decide (len = 1)
    | .ineg => decide (len = 1)
    | .idiv => decide (len = 1)
    | .irem => decide (len = 1)
    | .iand => decide (len = 1)
    | .ishl => decide (len = 1)
    | .ishr => decide (len = 1)
    | .i2c => decide (len = 1)
    | .ladd => decide (len = 1)
    | .lcmp => decide (len = 1)
    | .dup => decide (len = 1)
    | .dup2 => decide (len = 1)
    | .pop => decide (len = 1)
    | .goto o => decide (len = 3 ∧ (pc : Int) + o = a)
    | .ifCond _ o => decide (len = 3 ∧ (pc : Int) + o = a)
    | .if_icmp _ o => decide (len = 3 ∧ (pc : Int) + o = a)
    | .tableswitch d _ _ os => decide (0 ≤ (pc : Int) + d) && os.toList.all (fun o => decide (0 ≤ (pc : Int) + o))
    | .lookupswitch d ps => decide (0 ≤ (pc : Int) + d) && ps.toList.all (fun o => decide (0 ≤ (pc : Int) + o.2)) && (ps.toList.zip (ps.toList.drop 1)).all (fun q => decide (q.1.1 < q.2.1))
    | .getfield idx => decide (len = 3) && mv_okF own idx a b
    | .putfield idx => decide (len = 3) && mv_okF own idx a b && mv_okP own a b z init
    | .iaload => decide (len = 1)
    | .caload => decide (len = 1)
    | .baload => decide (len = 1)
    | .iastore => decide (len = 1)
    | .castore => decide (len = 1)
    | .bastore => decide (len = 1)
    | .aaload => decide (len = 1)
    | .aastore => decide (len = 1 ∧ a = 1)
    | .arraylength => decide (len = 1)
    | .new idx => decide (len = 3) && mv_nl.any (fun q => decide (q.1 = own ∧ q.2.1 = idx ∧ q.2.2.1 = a))
    | .newarray t => decide (len = 2 ∧ ((t = .int ∧ a = 0) ∨ (t = .char ∧ a = 1) ∨ (t = .boolean ∧ a = 2)))
    | .anewarray idx => decide (len = 3) && mv_ok3 mv_al own idx
    | .multianewarray idx d => decide (len = 4 ∧ d = 2) && mv_ok3 mv_gl own idx
    | .invokestatic idx => decide (len = 3) && (if a = 998 then mv_ok3 mv_cp own idx else if a = 997 then mv_ok3 mv_mx own idx else if a = 996 then mv_ok3 mv_mi own idx else mv_okS own idx a b)
    | .invokevirtual idx => decide (len = 3) && mv_okV own idx a b z.toNat
    | .invokespecial idx => decide (len = 3) && (if a = 999 then mv_ok3 mv_oi own idx else mv_okI own idx a b)
    | .ireturn => decide (len = 1 ∧ ((a = 0 ∧ ret = some .int) ∨ (a = 1 ∧ ret = some .boolean)))
    | .lreturn => decide (len = 1 ∧ ret = some .long)
    | .return_ => decide (len = 1 ∧ ret = none)
    | _ => false
def mv_okY (y : mv_Y) : Bool := y.2.2.all (mv_okE y.2.1 y.1.2.2.2 (decide (y.1.1.name = "<init>")))
