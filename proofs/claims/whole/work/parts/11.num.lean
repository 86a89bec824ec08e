/-! INSTRUCTIONS ON NUMBERS, LOCALS AND THE STACK -/
theorem fb_bm {z : Int} (h1 : -2147483648 ≤ z) (h2 : z < 2147483648) : z.bmod (2 ^ 32) = z := by
  rw [Int.bmod_def]
  split <;> omega
theorem mv_Lr.lt {B b : Nat} {ls : Array Slot} {nL k : Nat} {L : mv_L} (h : mv_Lr B b ls nL L) (hk : k < L.length) : k < nL := by rw [← h.2.2.1]; exact hk
section MVN
variable {p : Program} {l : Launch} {e : Env} {R : Room} {s : State} {m : MethodId} {args : Array Value} {below : List Frame} {meth : Method} {c : Code} {Q : State → Prop} {D : va_G} {dA : Nat → ClassId} {B b nL n0 s0 : Nat}
variable {cc : ByteArray} {pc : Nat} {L : mv_L} {S : List mv_V} {h : mv_H}
theorem mv_iload_n (hx : p.tables.exec = Jvm.exec) (hb : c.code = cc) {k : Fin 4} {x : Int} (hd : decode cc pc = .ok (.iload_n k, 1)) (hk : L[k.val]? = some (some (mI x))) (kk : mv_G p l e R s m args below meth c Q D dA B b nL n0 s0 (pc + 1, L, mI x :: S, h)) : mv_G p l e R s m args below meth c Q D dA B b nL n0 s0 (pc, L, S, h) :=
  fun H locs cells slots ls h1 h2 h3 h4 => lv_iload_n hx hb hd rfl (h2.2.2.2 _ _ hk).2 (kk H locs cells slots ls h1 h2 h3 h4)
theorem mv_iload (hx : p.tables.exec = Jvm.exec) (hb : c.code = cc) {k : Nat} {x : Int} (hd : decode cc pc = .ok (.iload k, 2)) (hk : L[k]? = some (some (mI x))) (kk : mv_G p l e R s m args below meth c Q D dA B b nL n0 s0 (pc + 2, L, mI x :: S, h)) : mv_G p l e R s m args below meth c Q D dA B b nL n0 s0 (pc, L, S, h) :=
  fun H locs cells slots ls h1 h2 h3 h4 => lv_iload hx hb hd (h2.2.2.2 _ _ hk).2 (kk H locs cells slots ls h1 h2 h3 h4)
theorem mv_aload_n (hx : p.tables.exec = Jvm.exec) (hb : c.code = cc) {k : Fin 4} {x : Nat} (hd : decode cc pc = .ok (.aload_n k, 1)) (hk : L[k.val]? = some (some (mR x))) (kk : mv_G p l e R s m args below meth c Q D dA B b nL n0 s0 (pc + 1, L, mR x :: S, h)) : mv_G p l e R s m args below meth c Q D dA B b nL n0 s0 (pc, L, S, h) :=
  fun H locs cells slots ls h1 h2 h3 h4 => lv_aload_n hx hb hd rfl (h2.2.2.2 _ _ hk).2 (kk H locs cells slots ls h1 h2 h3 h4)
theorem mv_aload (hx : p.tables.exec = Jvm.exec) (hb : c.code = cc) {k : Nat} {x : Nat} (hd : decode cc pc = .ok (.aload k, 2)) (hk : L[k]? = some (some (mR x))) (kk : mv_G p l e R s m args below meth c Q D dA B b nL n0 s0 (pc + 2, L, mR x :: S, h)) : mv_G p l e R s m args below meth c Q D dA B b nL n0 s0 (pc, L, S, h) :=
  fun H locs cells slots ls h1 h2 h3 h4 => lv_aload hx hb hd (h2.2.2.2 _ _ hk).2 (kk H locs cells slots ls h1 h2 h3 h4)
theorem mv_istore_n (hx : p.tables.exec = Jvm.exec) (hb : c.code = cc) {k : Fin 4} {x : Int} (hd : decode cc pc = .ok (.istore_n k, 1)) (hk : k.val < L.length) (kk : mv_G p l e R s m args below meth c Q D dA B b nL n0 s0 (pc + 1, L.set k.val (some (mI x)), S, h)) : mv_G p l e R s m args below meth c Q D dA B b nL n0 s0 (pc, L, mI x :: S, h) :=
  fun H locs cells slots ls h1 h2 h3 h4 => lv_istore_n hx hb hd rfl h2.has (h2.lt hk) rfl (fun ls' h' => kk H locs cells slots ls' h1 (h2.store hk rfl h') h3 h4)
theorem mv_istore (hx : p.tables.exec = Jvm.exec) (hb : c.code = cc) {k : Nat} {x : Int} (hd : decode cc pc = .ok (.istore k, 2)) (hk : k < L.length) (kk : mv_G p l e R s m args below meth c Q D dA B b nL n0 s0 (pc + 2, L.set k (some (mI x)), S, h)) : mv_G p l e R s m args below meth c Q D dA B b nL n0 s0 (pc, L, mI x :: S, h) :=
  fun H locs cells slots ls h1 h2 h3 h4 => lv_istore hx hb hd h2.has (h2.lt hk) rfl (fun ls' h' => kk H locs cells slots ls' h1 (h2.store hk rfl h') h3 h4)
theorem mv_astore_n (hx : p.tables.exec = Jvm.exec) (hb : c.code = cc) {k : Fin 4} {x : Nat} (hd : decode cc pc = .ok (.astore_n k, 1)) (hk : k.val < L.length) (kk : mv_G p l e R s m args below meth c Q D dA B b nL n0 s0 (pc + 1, L.set k.val (some (mR x)), S, h)) : mv_G p l e R s m args below meth c Q D dA B b nL n0 s0 (pc, L, mR x :: S, h) :=
  fun H locs cells slots ls h1 h2 h3 h4 => lv_astore_n hx hb hd rfl h2.has (h2.lt hk) rfl (fun ls' h' => kk H locs cells slots ls' h1 (h2.store (v := mR x) hk rfl h') h3 h4)
theorem mv_astore (hx : p.tables.exec = Jvm.exec) (hb : c.code = cc) {k : Nat} {x : Nat} (hd : decode cc pc = .ok (.astore k, 2)) (hk : k < L.length) (kk : mv_G p l e R s m args below meth c Q D dA B b nL n0 s0 (pc + 2, L.set k (some (mR x)), S, h)) : mv_G p l e R s m args below meth c Q D dA B b nL n0 s0 (pc, L, mR x :: S, h) :=
  fun H locs cells slots ls h1 h2 h3 h4 => lv_astore hx hb hd h2.has (h2.lt hk) rfl (fun ls' h' => kk H locs cells slots ls' h1 (h2.store (v := mR x) hk rfl h') h3 h4)
theorem mv_iinc (hx : p.tables.exec = Jvm.exec) (hb : c.code = cc) {k : Nat} {n x : Int} (hd : decode cc pc = .ok (.iinc k n, 3)) (hk : L[k]? = some (some (mI x))) (kk : mv_G p l e R s m args below meth c Q D dA B b nL n0 s0 (pc + 3, L.set k (some (mI (x + n))), S, h)) : mv_G p l e R s m args below meth c Q D dA B b nL n0 s0 (pc, L, S, h) := by
  intro H locs cells slots ls h1 h2 h3 h4
  have hl : k < L.length := (List.getElem?_eq_some_iff.mp hk).1
  obtain ⟨j, hj⟩ := List.getElem?_of_mem (mv_pairs_mem (B := B) (b := b) (q := (k, mv_cv B b (mI x))).mpr ⟨mI x, hk, rfl⟩)
  exact lv_iinc hx hb hd h2.has hj (v := Int32.ofInt (x + n)) (by rw [Int32.ofInt_add]) (h2.lt hl) rfl (fun ls' h' => kk H locs cells slots ls' h1 (h2.store (v := mI (x + n)) hl rfl h') h3 h4)
theorem mv_div (x y : Int) (hy : ¬ y = 0) (h1 : mv_in x) (h2 : mv_in y) (h3 : ¬ x = -2147483648) : Int32.ofInt x / Int32.ofInt y = Int32.ofInt (x.tdiv y) ∧ ¬ Int32.ofInt y = 0 := by
  refine ⟨?_, fun q => hy (by rw [mv_o0] at q; exact (mv_eq h2 mv_in0).mp q)⟩
  have hr : mv_in (x.tdiv y) := by
    have h4 := Int.natAbs_tdiv_le_natAbs x y
    have h5 := h1.1
    have h6 := h1.2
    constructor <;> omega
  apply Int32.toInt_inj.mp
  rw [Int32.toInt_div, mv_toInt h1, mv_toInt h2, mv_toInt hr]
  exact fb_bm hr.1 (by have := hr.2; omega)
theorem mv_rem (x y : Int) (hy : ¬ y = 0) (h1 : mv_in x) (h2 : mv_in y) : Int32.ofInt x - Int32.ofInt x / Int32.ofInt y * Int32.ofInt y = Int32.ofInt (x.tmod y) ∧ ¬ Int32.ofInt y = 0 := by
  refine ⟨?_, fun q => hy (by rw [mv_o0] at q; exact (mv_eq h2 mv_in0).mp q)⟩
  have hr : mv_in (x.tmod y) := by
    have h5 := h1.1
    have h6 := h1.2
    have h7 := h2.1
    have h8 := h2.2
    rcases Int.le_total 0 x with h0 | h0
    · rw [Int.tmod_eq_emod_of_nonneg h0]
      have := Int.emod_nonneg x hy
      have := Int.emod_lt x hy
      constructor <;> omega
    · have e : x.tmod y = -((-x).tmod y) := by rw [Int.neg_tmod, Int.neg_neg]
      rw [e, Int.tmod_eq_emod_of_nonneg (by omega)]
      have := Int.emod_nonneg (-x) hy
      have := Int.emod_lt (-x) hy
      constructor <;> omega
  apply Int32.toInt_inj.mp
  rw [rem_toInt, mv_toInt h1, mv_toInt h2, mv_toInt hr]
theorem mv_bv (x : Int) : (Int32.ofInt x).toBitVec.toNat = (x % 4294967296).toNat := by
  rw [Int32.toBitVec_ofInt, BitVec.toNat_ofInt]
  rfl
theorem mv_and1 (x : Int) : Int32.ofInt x &&& Int32.ofInt 1 = Int32.ofInt (x % 2) := by
  have h := pk_and (Int32.ofInt x) (m := Int32.ofInt 1) 1 (by decide +kernel)
  rw [h, mv_bv]
  have e : ((x % 4294967296).toNat % 2 ^ 1 : Nat) = (x % 2).toNat := by omega
  rw [e]
  show Int32.ofNat _ = _
  rw [← Int32.ofInt_eq_ofNat]
  congr 1
  omega
theorem mv_and31 (x : Int) : Int32.ofInt x &&& Int32.ofInt 31 = Int32.ofInt (x % 32) := by
  have h := pk_and (Int32.ofInt x) (m := Int32.ofInt 31) 5 (by decide +kernel)
  rw [h, mv_bv]
  have e : ((x % 4294967296).toNat % 2 ^ 5 : Nat) = (x % 32).toNat := by omega
  rw [e]
  show Int32.ofNat _ = _
  rw [← Int32.ofInt_eq_ofNat]
  congr 1
  omega
theorem mv_sh : ∀ k : Nat, k < 31 → ((Int32.ofInt (k : Int) &&& 31).toBitVec.smod 32).toNat = k := by decide +kernel
theorem mv_shl (x y : Int) (h0 : 0 ≤ y) (h1 : y ≤ 30) : Int32.ofInt x <<< (Int32.ofInt y &&& 31) = Int32.ofInt (x * 2 ^ y.toNat) := by
  obtain ⟨k, rfl⟩ := Int.eq_ofNat_of_zero_le h0
  have h := pk_shl (Int32.ofInt x) (Int32.ofInt (k : Int) &&& 31) k (mv_sh k (by omega))
  apply Int32.toBitVec_inj.mp
  apply BitVec.eq_of_toNat_eq
  rw [h, mv_bv, mv_bv, Int.toNat_natCast]
  have e : ((x % 4294967296).toNat : Int) = x % 4294967296 := by omega
  have h2 : (((x % 4294967296).toNat * 2 ^ k % 2 ^ 32 : Nat) : Int) = x * 2 ^ k % 4294967296 := by
    rw [Int.natCast_emod, Int.natCast_mul, e]
    rw [show ((2 ^ 32 : Nat) : Int) = 4294967296 from rfl, Int.natCast_pow]
    rw [Int.mul_emod, Int.emod_emod, ← Int.mul_emod]
    rfl
  have h3 : 0 ≤ x * 2 ^ k % 4294967296 := by omega
  omega
theorem mv_shr (x y : Int) (h0 : 0 ≤ y) (h1 : y ≤ 30) (hx : 0 ≤ x) (h2 : mv_in x) : Int32.ofInt x >>> (Int32.ofInt y &&& 31) = Int32.ofInt (x / 2 ^ y.toNat) := by
  obtain ⟨k, rfl⟩ := Int.eq_ofNat_of_zero_le h0
  have h := pk_shr (Int32.ofInt x) (Int32.ofInt (k : Int) &&& 31) k (mv_sh k (by omega))
  apply Int32.toInt_inj.mp
  have hp : (0 : Int) < 2 ^ k := Int.pow_pos (by decide)
  have h4 : x / 2 ^ k ≤ x := Int.ediv_le_self _ hx
  have h5 : 0 ≤ x / 2 ^ k := Int.ediv_nonneg hx (by omega)
  have hr : mv_in (x / 2 ^ k) := by
    have := h2.2
    constructor <;> omega
  rw [h, mv_toInt h2, Int.toNat_natCast, mv_toInt hr, Int.shiftRight_eq_div_pow]
  rfl
theorem mv_i2c (x : Int) (h0 : 0 ≤ x) (h1 : x ≤ 65535) : ((Int32.ofInt x).toUInt32 % 65536).toInt32 = Int32.ofInt x := by
  obtain ⟨k, rfl⟩ := Int.eq_ofNat_of_zero_le h0
  have h := pk_char (Int32.ofInt (k : Int))
  rw [h, mv_bv]
  have e : (((k : Int) % 4294967296).toNat % 65536) = k := by omega
  rw [e]
  show Int32.ofNat k = _
  rw [← Int32.ofInt_eq_ofNat]
theorem mv_in8t {x : Int} (h : mv_in8 x) : (Int64.ofInt x).toInt = x := Int64.toInt_ofInt_of_le (by have := h.1; omega) (by have := h.2; omega)
theorem mv_lcmp (x y : Int) (h1 : mv_in8 x) (h2 : mv_in8 y) : lg_cmp (Int64.ofInt x) (Int64.ofInt y) = Int32.ofInt (if y < x then 1 else if x = y then 0 else -1) := by
  unfold lg_cmp
  have e1 : (Int64.ofInt x > Int64.ofInt y) ↔ y < x := by rw [gt_iff_lt, Int64.lt_iff_toInt_lt, mv_in8t h1, mv_in8t h2]
  have e2 : (Int64.ofInt x = Int64.ofInt y) ↔ x = y := ⟨fun q => by rw [← mv_in8t h1, q, mv_in8t h2], fun q => by rw [q]⟩
  by_cases c1 : y < x
  · rw [if_pos (e1.mpr c1), if_pos c1]; rfl
  · rw [if_neg (fun q => c1 (e1.mp q)), if_neg c1]
    by_cases c2 : x = y
    · rw [if_pos (e2.mpr c2), if_pos c2]; rfl
    · rw [if_neg (fun q => c2 (e2.mp q)), if_neg c2]; rfl
/-- the numbers' instructions, the locals', the stack's -/
theorem mv_snd_num (hx : p.tables.exec = Jvm.exec) (hb : c.code = cc) {own : Nat} (hown : s.vm.findClass (mv_ow own) = some m.cls) (hts : ∀ w ∈ mv_TB, w.before args s = true) {ret : Option FieldType} {init : Bool} {df : Nat → List Nat} {sc : Nat × (Nat → Int)} {call : Nat → List mv_V → mv_H → Option (Option mv_V × mv_H)}
    {i : Instr} {len a b' : Nat} {z : Int} {f' : mv_F} (hi : match i with | .iconst _ | .bipush _ | .sipush _ | .ldc _ | .ldc2_w _ | .lconst _ | .iload_n _ | .iload _ | .aload_n _ | .aload _ | .istore_n _ | .istore _ | .astore_n _ | .astore _ | .iinc _ _ | .iadd | .isub | .imul | .ineg | .idiv | .irem | .iand | .ishl | .ishr | .i2c | .ladd | .lcmp | .dup | .dup2 | .pop => True | _ => False)
    (hd : decode cc pc = .ok (i, len)) (hok : mv_okE own ret init (pc, i, len, a, b', z) = true) (hst : mv_stp df sc call (i, len, a, b', z) (pc, L, S, h) = some (.inl f'))
    (kk : mv_G p l e R s m args below meth c Q D dA B b nL n0 s0 f') : mv_G p l e R s m args below meth c Q D dA B b nL n0 s0 (pc, L, S, h) := by
  cases i with
  | iconst n =>
    simp only [mv_okE, decide_eq_true_eq] at hok
    subst hok
    have e := mv_nx_inv hst
    subst e
    exact mv_st (fun H locs cells slots ls k => lv_iconst hx hb hd rfl k) kk
  | bipush n =>
    simp only [mv_okE, decide_eq_true_eq] at hok
    obtain ⟨rfl, hv⟩ := hok
    have e := mv_nx_inv hst
    subst e
    exact mv_st (fun H locs cells slots ls k => lv_bipush hx hb hd hv k) kk
  | sipush n =>
    simp only [mv_okE, decide_eq_true_eq] at hok
    obtain ⟨rfl, hv⟩ := hok
    have e := mv_nx_inv hst
    subst e
    exact mv_st (fun H locs cells slots ls k => lv_sipush hx hb hd hv k) kk
  | ldc idx =>
    simp only [mv_okE, decide_eq_true_eq, Bool.and_eq_true] at hok
    obtain ⟨rfl, hv⟩ := hok
    obtain ⟨q, hq, rfl, rfl, rfl⟩ := mv_ok4_spec hv
    have hw := hts _ (mv_inTB (mv_tb_mem (List.all_eq_true.mp mv_kc_ok q hq)) rfl)
    have e := mv_nx_inv hst
    subst e
    exact mv_st (fun H locs cells slots ls k => lv_ldc hx hb hown hw hd k) kk
  | ldc2_w idx =>
    simp only [mv_okE, decide_eq_true_eq, Bool.and_eq_true] at hok
    obtain ⟨rfl, hv⟩ := hok
    obtain ⟨q, hq, rfl, rfl, rfl⟩ := mv_ok4_spec hv
    have hw := hts _ (mv_inTB (mv_tb_mem (List.all_eq_true.mp mv_kl_ok q hq)) rfl)
    have e := mv_nx_inv hst
    subst e
    exact mv_st (fun H locs cells slots ls k => lv_ldc2 hx hb hown hw hd k) kk
  | lconst k =>
    simp only [mv_okE, decide_eq_true_eq] at hok
    subst hok
    have e := mv_nx_inv hst
    subst e
    exact mv_st (fun H locs cells slots ls q => lv_lconst hx hb hd (by rw [← Int64.ofInt_eq_ofNat]) q) kk
  | iload_n k =>
    simp only [mv_okE, decide_eq_true_eq] at hok
    subst hok
    obtain ⟨x, h1, rfl⟩ := mv_ldi_inv hst
    exact mv_iload_n hx hb hd h1 kk
  | iload k =>
    simp only [mv_okE, decide_eq_true_eq] at hok
    subst hok
    obtain ⟨x, h1, rfl⟩ := mv_ldi_inv hst
    exact mv_iload hx hb hd h1 kk
  | aload_n k =>
    simp only [mv_okE, decide_eq_true_eq] at hok
    subst hok
    obtain ⟨x, h1, rfl⟩ := mv_lda_inv hst
    exact mv_aload_n hx hb hd h1 kk
  | aload k =>
    simp only [mv_okE, decide_eq_true_eq] at hok
    subst hok
    obtain ⟨x, h1, rfl⟩ := mv_lda_inv hst
    exact mv_aload hx hb hd h1 kk
  | istore_n k =>
    simp only [mv_okE, decide_eq_true_eq] at hok
    subst hok
    obtain ⟨x, S', rfl, h1, rfl⟩ := mv_sti_inv hst
    exact mv_istore_n hx hb hd h1 kk
  | istore k =>
    simp only [mv_okE, decide_eq_true_eq] at hok
    subst hok
    obtain ⟨x, S', rfl, h1, rfl⟩ := mv_sti_inv hst
    exact mv_istore hx hb hd h1 kk
  | astore_n k =>
    simp only [mv_okE, decide_eq_true_eq] at hok
    subst hok
    obtain ⟨x, S', rfl, h1, rfl⟩ := mv_sta_inv hst
    exact mv_astore_n hx hb hd h1 kk
  | astore k =>
    simp only [mv_okE, decide_eq_true_eq] at hok
    subst hok
    obtain ⟨x, S', rfl, h1, rfl⟩ := mv_sta_inv hst
    exact mv_astore hx hb hd h1 kk
  | iinc k n =>
    simp only [mv_okE, decide_eq_true_eq] at hok
    subst hok
    simp only [mv_stp] at hst
    split at hst
    · rename_i x h1
      have e := mv_nx_inv hst
      subst e
      exact mv_iinc hx hb hd h1 kk
    · cases hst
  | iadd =>
    simp only [mv_okE, decide_eq_true_eq] at hok
    subst hok
    obtain ⟨x, y, S', rfl, rfl⟩ := mv_bin_inv hst
    exact mv_st (fun H locs cells slots ls k => lv_iadd hx hb hd (by rw [← Int32.ofInt_add]; exact k)) kk
  | isub =>
    simp only [mv_okE, decide_eq_true_eq] at hok
    subst hok
    obtain ⟨x, y, S', rfl, rfl⟩ := mv_bin_inv hst
    exact mv_st (fun H locs cells slots ls k => lv_isub hx hb hd (by rw [← Int32.ofInt_sub]; exact k)) kk
  | imul =>
    simp only [mv_okE, decide_eq_true_eq] at hok
    subst hok
    obtain ⟨x, y, S', rfl, rfl⟩ := mv_bin_inv hst
    exact mv_st (fun H locs cells slots ls k => lv_imul hx hb hd (by rw [← Int32.ofInt_mul]; exact k)) kk
  | ineg =>
    simp only [mv_okE, decide_eq_true_eq] at hok
    subst hok
    simp only [mv_stp] at hst
    split at hst
    · rename_i x S'
      have e := mv_nx_inv hst
      subst e
      exact mv_st (fun H locs cells slots ls k => lv_ineg hx hb hd (by rw [← Int32.ofInt_neg]; exact k)) kk
    · cases hst
  | idiv =>
    simp only [mv_okE, decide_eq_true_eq] at hok
    subst hok
    simp only [mv_stp] at hst
    split at hst
    · rename_i y x S'
      split at hst
      · rename_i hc
        have e := mv_nx_inv hst
        subst e
        obtain ⟨g1, g2⟩ := mv_div x y hc.1 hc.2.1 hc.2.2.1 hc.2.2.2
        exact mv_st (fun H locs cells slots ls k => lv_idiv hx hb hd g2 (by rw [g1]; exact k)) kk
      · cases hst
    · cases hst
  | irem =>
    simp only [mv_okE, decide_eq_true_eq] at hok
    subst hok
    simp only [mv_stp] at hst
    split at hst
    · rename_i y x S'
      split at hst
      · rename_i hc
        have e := mv_nx_inv hst
        subst e
        obtain ⟨g1, g2⟩ := mv_rem x y hc.1 hc.2.1 hc.2.2
        exact mv_st (fun H locs cells slots ls k => lv_irem hx hb hd g2 (by rw [g1]; exact k)) kk
      · cases hst
    · cases hst
  | iand =>
    simp only [mv_okE, decide_eq_true_eq] at hok
    subst hok
    simp only [mv_stp] at hst
    split at hst
    · rename_i y x S'
      split at hst
      · rename_i hc
        have e := mv_nx_inv hst
        subst e
        rcases hc with rfl | rfl
        · exact mv_st (fun H locs cells slots ls k => lv_iand hx hb hd (by rw [mv_and1]; exact k)) kk
        · exact mv_st (fun H locs cells slots ls k => lv_iand hx hb hd (by rw [mv_and31]; exact k)) kk
      · cases hst
    · cases hst
  | ishl =>
    simp only [mv_okE, decide_eq_true_eq] at hok
    subst hok
    simp only [mv_stp] at hst
    split at hst
    · rename_i y x S'
      split at hst
      · rename_i hc
        have e := mv_nx_inv hst
        subst e
        exact mv_st (fun H locs cells slots ls k => lv_ishl hx hb hd (by rw [mv_shl x y hc.1 hc.2]; exact k)) kk
      · cases hst
    · cases hst
  | ishr =>
    simp only [mv_okE, decide_eq_true_eq] at hok
    subst hok
    simp only [mv_stp] at hst
    split at hst
    · rename_i y x S'
      split at hst
      · rename_i hc
        have e := mv_nx_inv hst
        subst e
        exact mv_st (fun H locs cells slots ls k => lv_ishr hx hb hd (by rw [mv_shr x y hc.1 hc.2.1 hc.2.2.1 hc.2.2.2]; exact k)) kk
      · cases hst
    · cases hst
  | i2c =>
    simp only [mv_okE, decide_eq_true_eq] at hok
    subst hok
    simp only [mv_stp] at hst
    split at hst
    · rename_i x S'
      split at hst
      · rename_i hc
        have e := mv_nx_inv hst
        subst e
        exact mv_st (fun H locs cells slots ls k => lv_i2c hx hb hd (mv_i2c x hc.1 hc.2) k) kk
      · cases hst
    · cases hst
  | ladd =>
    simp only [mv_okE, decide_eq_true_eq] at hok
    subst hok
    simp only [mv_stp] at hst
    split at hst
    · rename_i y x S'
      have e := mv_nx_inv hst
      subst e
      exact mv_st (fun H locs cells slots ls k => lv_ladd hx hb hd (by rw [← Int64.ofInt_add]; exact k)) kk
    · cases hst
  | lcmp =>
    simp only [mv_okE, decide_eq_true_eq] at hok
    subst hok
    simp only [mv_stp] at hst
    split at hst
    · rename_i y x S'
      split at hst
      · rename_i hc
        have e := mv_nx_inv hst
        subst e
        exact mv_st (fun H locs cells slots ls k => W.lcmp hx hb hd (by rw [mv_lcmp x y hc.1 hc.2]; exact k)) kk
      · cases hst
    · cases hst
  | dup =>
    simp only [mv_okE, decide_eq_true_eq] at hok
    subst hok
    simp only [mv_stp] at hst
    split at hst
    · rename_i v S'
      split at hst
      · rename_i hc
        have e := mv_nx_inv hst
        subst e
        exact mv_st (fun H locs cells slots ls k => lv_dup hx hb hd (mv_cat hc) k) kk
      · cases hst
    · cases hst
  | dup2 =>
    simp only [mv_okE, decide_eq_true_eq] at hok
    subst hok
    simp only [mv_stp] at hst
    split at hst
    · rename_i v w S'
      split at hst
      · rename_i hc
        have e := mv_nx_inv hst
        subst e
        exact mv_st (fun H locs cells slots ls k => lv_dup2_11 hx hb hd (mv_cat hc.1) (mv_cat hc.2) k) kk
      · cases hst
    · cases hst
  | pop =>
    simp only [mv_okE, decide_eq_true_eq] at hok
    subst hok
    simp only [mv_stp] at hst
    split at hst
    · rename_i v S'
      split at hst
      · rename_i hc
        have e := mv_nx_inv hst
        subst e
        exact mv_st (fun H locs cells slots ls k => lv_pop hx hb hd (mv_cat hc) k) kk
      · cases hst
    · cases hst
  | _ => exact absurd hi (by simp)
end MVN
