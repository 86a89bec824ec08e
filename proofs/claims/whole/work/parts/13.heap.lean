/-! FIELDS AND ARRAYS -/
theorem mv_b0 : narrow .boolean (.int (Int32.ofInt 0)) = .int (Int32.ofInt 0) ∧ fits .boolean (.int (Int32.ofInt 0)) = true := by decide +kernel
theorem mv_b1 : narrow .boolean (.int (Int32.ofInt 1)) = .int (Int32.ofInt 1) ∧ fits .boolean (.int (Int32.ofInt 1)) = true := by decide +kernel
section MVH
variable {p : Program} {l : Launch} {e : Env} {R : Room} {s : State} {m : MethodId} {args : Array Value} {below : List Frame} {meth : Method} {c : Code} {Q : State → Prop} {D : va_G} {dA : Nat → ClassId} {B b nL n0 s0 : Nat}
variable {cc : ByteArray} {pc : Nat} {L : mv_L} {S : List mv_V} {h : mv_H}
theorem mv_adr {r : Nat} {k : mv_K} (hl : h.1.length ≤ 9000) (e : h.1[r]? = some k) : mv_ad B b r = B + r := mv_ad_in (by have := mv_lt_of e; omega)
theorem mv_fs_get {fs : List Nat} {M : mv_M} {r k x : Nat} (hx : fs[k]? = some x) : (fs.mapIdx (fun k x => mv_cv B b (mv_fld M r k x)))[k]? = some (mv_cv B b (mv_fld M r k x)) := by
  simp [List.getElem?_mapIdx, hx]
theorem mv_snd_getf {own idx a b' : Nat} (hx : p.tables.exec = Jvm.exec) (hb : c.code = cc) (hown : s.vm.findClass (mv_ow own) = some m.cls) (hts : ∀ w ∈ mv_TB, w.before args s = true) (hK : va_K D mv_cl (mv_tys dA) s)
    (hok : mv_okF own idx a b' = true) {r : Nat} {fs : List Nat} {x : Nat} (hr : h.1[r]? = some (.inr (.inr (a, fs)))) (hv : fs[b']? = some x) (hd : decode cc pc = .ok (.getfield idx, 3))
    (kk : mv_G p l e R s m args below meth c Q D dA B b nL n0 s0 (pc + 3, L, mv_fld h.2 r b' x :: S, h)) : mv_G p l e R s m args below meth c Q D dA B b nL n0 s0 (pc, L, mR r :: S, h) := by
  intro H locs cells slots ls h1 h2 h3 h4
  obtain ⟨C, T, N, hc, hk, hl⟩ := mv_okF_spec hok
  have hcl := mv_cls hc
  show W p l e R s m args below meth c H locs cells slots Q (F0 m pc ls (Value.ref (mv_ad B b r) :: S.map (mv_cv B b)))
  rw [mv_adr h1.2.1 hr]
  exact va_get hx hb hts hcl.1 hown hK h1.1 r (mv_ws_get hr) hc b' hk (hts _ hl) (fun _ q => q) (mv_fs_get hv) hd (kk H locs cells slots ls h1 h2 h3 h4)
/-- what a field is written with: the type's own words -/
theorem mv_okT_spec {ty : FieldType} {z : Int} (h : mv_okT ty z = true) : (z = 0 ∧ ty = .int) ∨ (z = 1 ∧ ty = .long) ∨ (z = 2 ∧ ty = .boolean) ∨ (z = 3 ∧ ((∃ C, ty = .object C) ∨ ∃ t, ty = .array t)) := by
  cases ty <;> simp [mv_okT] at h <;> simp [h]
theorem mv_snd_putf {own idx a b' : Nat} {z : Int} {init : Bool} (hx : p.tables.exec = Jvm.exec) (hb : c.code = cc) (hown : s.vm.findClass (mv_ow own) = some m.cls) (hts : ∀ w ∈ mv_TB, w.before args s = true) (hK : va_K D mv_cl (mv_tys dA) s) (hinit : init = true → meth.name = "<init>")
    (hok : mv_okF own idx a b' = true) (hokP : mv_okP own a b' z init = true) {v : mv_V} {r : Nat} {fs : List Nat} (hr : h.1[r]? = some (.inr (.inr (a, fs)))) (hd : decode cc pc = .ok (.putfield idx, 3)) {h' : mv_H}
    (hv : (∃ x, v = mI x ∧ fs[b']? = some 0 ∧ (z = 0 ∨ (z = 2 ∧ (x = 0 ∨ x = 1))) ∧ h' = (h.1, mv_up h.2 r b' x)) ∨ (∃ x, v = mL x ∧ fs[b']? = some 1 ∧ z = 1 ∧ h' = (h.1, mv_up h.2 r b' x)) ∨ (∃ q, v = mR q ∧ z = 3 ∧ b' < fs.length ∧ ¬ fs[b']? = some 0 ∧ ¬ fs[b']? = some 1 ∧ h' = (h.1.set r (.inr (.inr (a, fs.set b' (q + 3)))), h.2)))
    (kk : mv_G p l e R s m args below meth c Q D dA B b nL n0 s0 (pc + 3, L, S, h')) : mv_G p l e R s m args below meth c Q D dA B b nL n0 s0 (pc, L, v :: mR r :: S, h) := by
  intro H locs cells slots ls h1 h2 h3 h4
  obtain ⟨C, T, N, hc, hk, hl⟩ := mv_okF_spec hok
  have hcl := mv_cls hc
  simp only [mv_okP, hc, Bool.and_eq_true] at hokP
  have hty := mv_okT_spec hokP.1
  have hb' : b' < fs.length := by
    rcases hv with ⟨x, -, q, -⟩ | ⟨x, -, q, -⟩ | ⟨q, -, -, g, -⟩
    · exact (List.getElem?_eq_some_iff.mp q).1
    · exact (List.getElem?_eq_some_iff.mp q).1
    · exact g
  have hpd := hcl.2.1 b' hk
  have hnf : narrow (mv_ty a b') (mv_cv B b v) = mv_cv B b v ∧ fits (mv_ty a b') (mv_cv B b v) = true := by
    rcases hv with ⟨x, rfl, -, hz, -⟩ | ⟨x, rfl, -, hz, -⟩ | ⟨q, rfl, hz, -⟩
    · rcases hz with rfl | ⟨rfl, hz⟩
      · rcases hty with ⟨-, e⟩ | ⟨e, -⟩ | ⟨e, -⟩ | ⟨e, -⟩
        · rw [e]; exact ⟨rfl, rfl⟩
        · cases e
        · cases e
        · cases e
      · rcases hty with ⟨e, -⟩ | ⟨e, -⟩ | ⟨-, e⟩ | ⟨e, -⟩
        · cases e
        · cases e
        · rw [e]
          rcases hz with rfl | rfl
          · exact mv_b0
          · exact mv_b1
        · cases e
    · subst hz
      rcases hty with ⟨e, -⟩ | ⟨-, e⟩ | ⟨e, -⟩ | ⟨e, -⟩
      · cases e
      · rw [e]; exact ⟨rfl, rfl⟩
      · cases e
      · cases e
    · subst hz
      rcases hty with ⟨e, -⟩ | ⟨e, -⟩ | ⟨e, -⟩ | ⟨-, ⟨C, e⟩ | ⟨t, e⟩⟩
      · cases e
      · cases e
      · cases e
      · rw [e]; exact ⟨rfl, rfl⟩
      · rw [e]; exact ⟨rfl, rfl⟩
  have hcell := mv_ws_get (B := B) (b := b) (dA := dA) hr
  have hlen : b' < (fs.mapIdx (fun k x => mv_cv B b (mv_fld h.2 r k x))).length := by rw [List.length_mapIdx]; exact hb'
  have hsl : ∀ {M' : mv_M} {fs' : List Nat}, fs'.length = fs.length → (∀ k, k ≠ b' → fs'[k]? = fs[k]?) → (∀ k, k ≠ b' → M' r k = h.2 r k) → (∀ x, fs'[b']? = some x → mv_cv B b (mv_fld M' r b' x) = mv_cv B b v) →
      (fs.mapIdx (fun k x => mv_cv B b (mv_fld h.2 r k x))).set b' (mv_cv B b v) = fs'.mapIdx (fun k x => mv_cv B b (mv_fld M' r k x)) := by
    intro M' fs' e1 e2 e3 e4
    apply List.ext_getElem?
    intro k
    by_cases q : k = b'
    · subst q
      rw [List.getElem?_set_self hlen, List.getElem?_mapIdx]
      have hq : k < fs'.length := by omega
      rw [List.getElem?_eq_getElem hq, Option.map_some]
      rw [e4 _ (List.getElem?_eq_getElem hq)]
    · rw [List.getElem?_set_ne (Ne.symm q), List.getElem?_mapIdx, List.getElem?_mapIdx, e2 k q]
      cases fs[k]? with
      | none => rfl
      | some x =>
        rw [Option.map_some, Option.map_some]
        congr 2
        rcases x with _ | _ | _ | x <;> simp [mv_fld, e3 k q]
  have key : (mv_ws B b dA h).set r (B + r, .inr (a, (fs.mapIdx (fun k x => mv_cv B b (mv_fld h.2 r k x))).set b' (mv_cv B b v))) = mv_ws B b dA h' ∧ h'.1.length = h.1.length ∧ mv_sl h'.1 = mv_sl h.1 := by
    rcases hv with ⟨x, rfl, g1, -, rfl⟩ | ⟨x, rfl, g1, -, rfl⟩ | ⟨q, rfl, -, -, g1, g2, rfl⟩
    · refine ⟨mv_ws_mem (M := h.2) hr (fun k hk => by funext j; simp [mv_up, hk]) ?_, rfl, rfl⟩
      show _ = Sum.inr (a, _)
      congr 2
      exact hsl rfl (fun _ _ => rfl) (fun k hk => by simp [mv_up, hk]) (fun y hy => by rw [g1] at hy; cases hy; simp [mv_fld, mv_up])
    · refine ⟨mv_ws_mem (M := h.2) hr (fun k hk => by funext j; simp [mv_up, hk]) ?_, rfl, rfl⟩
      show _ = Sum.inr (a, _)
      congr 2
      exact hsl rfl (fun _ _ => rfl) (fun k hk => by simp [mv_up, hk]) (fun y hy => by rw [g1] at hy; cases hy; simp [mv_fld, mv_up])
    · refine ⟨mv_ws_set (M := h.2) hr ?_, by simp, mv_sl_set _ _ _ _ hr (by simp [mv_sz])⟩
      show _ = Sum.inr (a, _)
      congr 2
      exact hsl (by simp) (fun k hk => by rw [List.getElem?_set_ne (Ne.symm hk)]) (fun _ _ => rfl) (fun y hy => by rw [List.getElem?_set_self hb'] at hy; cases hy; simp [mv_fld, mv_cv])
  obtain ⟨k1, k2, k3⟩ := key
  have fin : ∀ (H1 : Heap) (locs1 : List Loc), va_P D mv_cl ((mv_ws B b dA h).set r (B + r, .inr (a, (fs.mapIdx (fun k x => mv_cv B b (mv_fld h.2 r k x))).set b' (mv_cv B b v)))) H1 → va_D (mv_A B) ((mv_ws B b dA h).set r (B + r, .inr (a, (fs.mapIdx (fun k x => mv_cv B b (mv_fld h.2 r k x))).set b' (mv_cv B b v)))) → va_S (mv_A B) s.heap H1 locs1 →
      W p l e R s m args below meth c H1 locs1 cells slots Q (F0 m (pc + 3) ls (S.map (mv_cv B b))) := fun H1 locs1 hP1 _ hS1 =>
    kk H1 locs1 cells slots ls ⟨by show va_P D mv_cl (mv_ws B b dA h') H1; rw [← k1]; exact hP1, by show h'.1.length ≤ 9000; rw [k2]; exact h1.2.1, hS1, h1.2.2.2⟩ h2 (by show cells + n0 = h'.1.length; rw [k2]; exact h3) (by show slots + s0 = mv_sl h'.1; rw [k3]; exact h4)
  show W p l e R s m args below meth c H locs cells slots Q (F0 m pc ls (mv_cv B b v :: Value.ref (mv_ad B b r) :: S.map (mv_cv B b)))
  rw [mv_adr h1.2.1 hr]
  by_cases hf : (T b').2.2.2 = true
  · rw [if_pos hf, Bool.and_eq_true, decide_eq_true_eq] at hokP
    exact va_putF hx hb hts hcl.1 (mv_ty a) hcl.2.1 hcl.2.2.1 hown hK h1.1 mv_D h1.2.2.1 r hcell hc b' hk (hts _ hl) (fun _ q => q) hf (hinit hokP.2.1) hokP.2.2 hpd hnf.1 hnf.2 hlen hd fin
  · exact va_put hx hb hts hcl.1 (mv_ty a) hcl.2.1 hcl.2.2.1 hown hK h1.1 mv_D h1.2.2.1 r hcell hc b' hk (hts _ hl) (fun _ q => q) (by simpa using hf) hpd hnf.1 hnf.2 hlen hd fin
/-- behind a write of numbers into the cell r -/
theorem mv_wrote {H H1 : Heap} {locs locs1 : List Loc} {cells slots : Nat} {ls : Array Slot} {pc' r : Nat} {k : mv_K} {M' : mv_M} {x : va_E} (hr : h.1[r]? = some k) (hM : ∀ q, q ≠ r → M' q = h.2 q) (hx : x = mv_ce B b dA M' r k) (h1 : mv_R D dA B b s h H locs) (h2 : mv_Lr B b ls nL L) (h3 : cells + n0 = h.1.length) (h4 : slots + s0 = mv_sl h.1)
    (kk : mv_G p l e R s m args below meth c Q D dA B b nL n0 s0 (pc', L, S, (h.1, M'))) (hP1 : va_P D mv_cl ((mv_ws B b dA h).set r (B + r, x)) H1) (hS1 : va_S (mv_A B) s.heap H1 locs1) : W p l e R s m args below meth c H1 locs1 cells slots Q (F0 m pc' ls (S.map (mv_cv B b))) := by
  have e := mv_ws_mem (B := B) (b := b) (dA := dA) (M := h.2) hr hM hx
  exact kk H1 locs1 cells slots ls ⟨by show va_P D mv_cl (mv_ws B b dA (h.1, M')) H1; rw [← e]; exact hP1, h1.2.1, hS1, h1.2.2.2⟩ h2 h3 h4
theorem mv_updI {M : mv_M} {r : Nat} {i : Int} (hi : mv_in i) {x : Int} {y : Int32} (hy : y = Int32.ofInt x) : upd (fun j => Int32.ofInt (M r j)) (Int32.ofInt i).toNatClampNeg y = fun j => Int32.ofInt (mv_up M r i.toNat x r j) := by
  funext j
  subst hy
  rw [mv_clamp hi]
  unfold upd mv_up
  by_cases q : j = i.toNat
  · rw [if_pos q, if_pos ⟨rfl, q⟩]
  · rw [if_neg q, if_neg (fun z => q z.2)]
theorem mv_up_ne {M : mv_M} {r i q : Nat} {x : Int} (hq : q ≠ r) : mv_up M r i x q = M q := by
  funext j
  unfold mv_up
  rw [if_neg (fun z => hq z.1)]
theorem mv_narC {x : Int} (h0 : 0 ≤ x) (h1 : x ≤ 65535) : vp_nar .char (Int32.ofInt x) = Int32.ofInt x := by
  obtain ⟨k, rfl⟩ := Int.eq_ofNat_of_zero_le h0
  have h := (pk_charN (q := k) (by omega)).1
  unfold vp_nar
  have e : Int32.ofInt (k : Int) = nI k := by unfold nI; rw [← Int32.ofInt_eq_ofNat]
  rw [e, h]
theorem mv_narZ {x : Int} (h : x = 0 ∨ x = 1) : vp_nar .boolean (Int32.ofInt x) = Int32.ofInt x := by
  rcases h with rfl | rfl
  · unfold vp_nar; rw [mv_b0.1]
  · unfold vp_nar; rw [mv_b1.1]
theorem mv_snd_arr {own : Nat} {Ls : Nat} {xs : Nat → Int32} (hx : p.tables.exec = Jvm.exec) (hb : c.code = cc) (hKx : mv_Kx D dA b Ls xs s) {ret : Option FieldType} {init : Bool} {df : Nat → List Nat} {call : Nat → List mv_V → mv_H → Option (Option mv_V × mv_H)}
    {i : Instr} {len a b' : Nat} {z : Int} {f' : mv_F} (hi : match i with | .iaload | .baload | .caload | .iastore | .bastore | .castore | .arraylength | .aaload | .aastore => True | _ => False)
    (hd : decode cc pc = .ok (i, len)) (hok : mv_okE own ret init (pc, i, len, a, b', z) = true) (hst : mv_stp df (Ls, fun j => (xs j).toInt) call (i, len, a, b', z) (pc, L, S, h) = some (.inl f'))
    (kk : mv_G p l e R s m args below meth c Q D dA B b nL n0 s0 f') : mv_G p l e R s m args below meth c Q D dA B b nL n0 s0 (pc, L, S, h) := by
  have hK := hKx.1
  cases i with
  | iaload =>
    simp only [mv_okE, decide_eq_true_eq] at hok
    subst hok
    obtain ⟨i, r, S', rfl, g1, g2, ⟨n, g3, g4, rfl⟩ | ⟨-, rfl, g4, rfl⟩⟩ := mv_ald_inv hst
    · intro H locs cells slots ls h1 h2 h3 h4
      show W p l e R s m args below meth c H locs cells slots Q (F0 m pc ls (.int (Int32.ofInt i) :: Value.ref (mv_ad B b r) :: S'.map (mv_cv B b)))
      rw [mv_adr h1.2.1 g3]
      refine va_iald hx hb hK h1.1 r 0 (mv_ws_get g3) rfl (mv_vin g1 g4 g2) hd ?_
      rw [mv_clamp g2]
      exact kk H locs cells slots ls h1 h2 h3 h4
    · intro H locs cells slots ls h1 h2 h3 h4
      refine va_sld (b := b) hx hb hKx.2.1 (by have := h1.2.2.2.1; have := h1.2.2.2.2; omega) (by show ¬ B ≤ b; have := h1.2.2.2.2; omega) h1.2.2.1 (mv_vin g1 g4 g2) hd ?_
      rw [mv_clamp g2]
      have k := kk H locs cells slots ls h1 h2 h3 h4
      simp only [List.map_cons, mv_cv, Int32.ofInt_toInt] at k
      exact k
  | baload =>
    simp only [mv_okE, decide_eq_true_eq] at hok
    subst hok
    obtain ⟨i, r, S', rfl, g1, g2, ⟨n, g3, g4, rfl⟩ | ⟨q, -⟩⟩ := mv_ald_inv hst
    · intro H locs cells slots ls h1 h2 h3 h4
      show W p l e R s m args below meth c H locs cells slots Q (F0 m pc ls (.int (Int32.ofInt i) :: Value.ref (mv_ad B b r) :: S'.map (mv_cv B b)))
      rw [mv_adr h1.2.1 g3]
      refine va_zald hx hb hK h1.1 r 2 (mv_ws_get g3) rfl (mv_vin g1 g4 g2) hd ?_
      rw [mv_clamp g2]
      exact kk H locs cells slots ls h1 h2 h3 h4
    · cases q
  | caload =>
    simp only [mv_okE, decide_eq_true_eq] at hok
    subst hok
    obtain ⟨i, r, S', rfl, g1, g2, ⟨n, g3, g4, rfl⟩ | ⟨q, -⟩⟩ := mv_ald_inv hst
    · intro H locs cells slots ls h1 h2 h3 h4
      show W p l e R s m args below meth c H locs cells slots Q (F0 m pc ls (.int (Int32.ofInt i) :: Value.ref (mv_ad B b r) :: S'.map (mv_cv B b)))
      rw [mv_adr h1.2.1 g3]
      refine va_cald hx hb hK h1.1 r 1 (mv_ws_get g3) rfl (mv_vin g1 g4 g2) hd ?_
      rw [mv_clamp g2]
      exact kk H locs cells slots ls h1 h2 h3 h4
    · cases q
  | iastore =>
    simp only [mv_okE, decide_eq_true_eq] at hok
    subst hok
    obtain ⟨x, i, r, S', n, rfl, g1, g2, g3, g4, g5, rfl⟩ := mv_ast_inv hst
    intro H locs cells slots ls h1 h2 h3 h4
    show W p l e R s m args below meth c H locs cells slots Q (F0 m pc ls (.int (Int32.ofInt x) :: .int (Int32.ofInt i) :: Value.ref (mv_ad B b r) :: S'.map (mv_cv B b)))
    rw [mv_adr h1.2.1 g3]
    exact va_iast hx hb hK h1.1 mv_D h1.2.2.1 r 0 (mv_ws_get g3) rfl (mv_vin g1 g4 g2) hd (fun H1 locs1 hP1 _ hS1 => mv_wrote g3 (fun q hq => mv_up_ne hq) (by show Sum.inl _ = Sum.inl _; rw [mv_updI g2 rfl]) h1 h2 h3 h4 kk hP1 hS1)
  | bastore =>
    simp only [mv_okE, decide_eq_true_eq] at hok
    subst hok
    obtain ⟨x, i, r, S', n, rfl, g1, g2, g3, g4, g5, rfl⟩ := mv_ast_inv hst
    intro H locs cells slots ls h1 h2 h3 h4
    show W p l e R s m args below meth c H locs cells slots Q (F0 m pc ls (.int (Int32.ofInt x) :: .int (Int32.ofInt i) :: Value.ref (mv_ad B b r) :: S'.map (mv_cv B b)))
    rw [mv_adr h1.2.1 g3]
    exact va_zast hx hb hK h1.1 mv_D h1.2.2.1 r 2 (mv_ws_get g3) rfl (mv_vin g1 g4 g2) hd (fun H1 locs1 hP1 _ hS1 => mv_wrote g3 (fun q hq => mv_up_ne hq) (by show Sum.inl _ = Sum.inl _; rw [mv_updI g2 (mv_narZ (of_decide_eq_true g5))]) h1 h2 h3 h4 kk hP1 hS1)
  | castore =>
    simp only [mv_okE, decide_eq_true_eq] at hok
    subst hok
    obtain ⟨x, i, r, S', n, rfl, g1, g2, g3, g4, g5, rfl⟩ := mv_ast_inv hst
    have g6 : 0 ≤ x ∧ x ≤ 65535 := of_decide_eq_true g5
    intro H locs cells slots ls h1 h2 h3 h4
    show W p l e R s m args below meth c H locs cells slots Q (F0 m pc ls (.int (Int32.ofInt x) :: .int (Int32.ofInt i) :: Value.ref (mv_ad B b r) :: S'.map (mv_cv B b)))
    rw [mv_adr h1.2.1 g3]
    exact va_cast hx hb hK h1.1 mv_D h1.2.2.1 r 1 (mv_ws_get g3) rfl (mv_vin g1 g4 g2) hd (fun H1 locs1 hP1 _ hS1 => mv_wrote g3 (fun q hq => mv_up_ne hq) (by show Sum.inl _ = Sum.inl _; rw [mv_updI g2 (mv_narC g6.1 g6.2)]) h1 h2 h3 h4 kk hP1 hS1)
  | arraylength =>
    simp only [mv_okE, decide_eq_true_eq] at hok
    subst hok
    obtain ⟨r, S', rfl, ⟨n, g3, rfl⟩ | ⟨rfl, rfl⟩⟩ := mv_alen_inv hst
    · intro H locs cells slots ls h1 h2 h3 h4
      show W p l e R s m args below meth c H locs cells slots Q (F0 m pc ls (Value.ref (mv_ad B b r) :: S'.map (mv_cv B b)))
      rw [mv_adr h1.2.1 g3]
      exact va_alen hx hb hK h1.1 r 0 (mv_ws_get g3) rfl (Int32.ofInt_eq_ofNat).symm hd (kk H locs cells slots ls h1 h2 h3 h4)
    · intro H locs cells slots ls h1 h2 h3 h4
      refine va_slen (b := b) hx hb hKx.2.1 (by have := h1.2.2.2.1; have := h1.2.2.2.2; omega) (by show ¬ B ≤ b; have := h1.2.2.2.2; omega) h1.2.2.1 hd ?_
      have k := kk H locs cells slots ls h1 h2 h3 h4
      simp only [List.map_cons, mv_cv, Int32.ofInt_eq_ofNat] at k
      exact k
  | aaload =>
    simp only [mv_okE, decide_eq_true_eq] at hok
    subst hok
    obtain ⟨i, r, S', t, fs, q, rfl, g3, gt, g1, g2, g4, rfl⟩ := mv_aald_inv hst
    intro H locs cells slots ls h1 h2 h3 h4
    have hil := (List.getElem?_eq_some_iff.mp g4).1
    have hv : va_rf ((fs.getD i.toNat none).map (mv_ad B b)) = .ref (mv_ad B b q) := by
      rw [List.getD_eq_getElem?_getD, g4]
      rfl
    show W p l e R s m args below meth c H locs cells slots Q (F0 m pc ls (.int (Int32.ofInt i) :: Value.ref (mv_ad B b r) :: S'.map (mv_cv B b)))
    rw [mv_adr h1.2.1 g3]
    rcases gt with rfl | rfl
    · refine va_aldq hx hb hK h1.1 r 3 (mv_ws_get g3) rfl (mv_vin g1 (by omega) g2) hd ?_
      rw [mv_clamp g2, hv]
      exact kk H locs cells slots ls h1 h2 h3 h4
    · have hin := mv_vin (n := fs.length) g1 (by omega) g2
      have hlt : (Int32.ofInt i).toNatClampNeg < fs.length := Nat.not_le.mp fun z => hin (Or.inr z)
      refine W.aald (v := va_rf ((fs.getD (Int32.ofInt i).toNatClampNeg none).map (mv_ad B b))) (ty := .array .int) hx hb (h1.1 r _ (mv_ws_get g3)) ((hK.2 4 _ rfl).1 fs.length (fun j => va_rf ((fs.getD j none).map (mv_ad B b)))) rfl (fun z => by cases z) (by show ¬ (_ ∨ (arrV _ _ _).slots.size ≤ _); rw [arrV_size]; exact hin) (by show (arrV _ _ _).slots[_]? = _; rw [arrV_read _ _ hlt]) rfl rfl hd ?_
      rw [mv_clamp g2, hv]
      exact kk H locs cells slots ls h1 h2 h3 h4
  | aastore =>
    simp only [mv_okE, decide_eq_true_eq] at hok
    obtain ⟨rfl, rfl⟩ := hok
    obtain ⟨q, i, r, S', fs, gs, rfl, g3, g4, g1, g2, g5, rfl⟩ := mv_aast_inv hst
    intro H locs cells slots ls h1 h2 h3 h4
    show W p l e R s m args below meth c H locs cells slots Q (F0 m pc ls (Value.ref (mv_ad B b q) :: .int (Int32.ofInt i) :: Value.ref (mv_ad B b r) :: S'.map (mv_cv B b)))
    rw [mv_adr h1.2.1 g3, mv_adr h1.2.1 g4]
    refine va_astq hx hb hK h1.1 mv_D h1.2.2.1 r 3 q 1 (r := (RX1, TX1, 8)) (mv_ws_get g3) rfl (mv_ws_get g4) rfl (mv_vin g1 (by omega) g2) hd (fun H1 locs1 hP1 _ hS1 => ?_)
    have e := mv_ws_set (B := B) (b := b) (dA := dA) (M := h.2) (k' := .inr (.inl (3, fs.set i.toNat (some q)))) g3 (x := .inl (dA 3, fs.length, .inr (.inr (.inr (.inr (va_up (fun i => (fs.getD i none).map (mv_ad B b)) (Int32.ofInt i).toNatClampNeg (some (B + q)))))))) (by
      show Sum.inl _ = Sum.inl _
      rw [mv_clamp g2, List.length_set]
      congr 7
      funext j
      unfold va_up
      by_cases z : j = i.toNat
      · subst z
        rw [if_pos rfl, List.getD_eq_getElem?_getD, List.getElem?_set_self g5]
        show some (B + q) = some (mv_ad B b q)
        rw [mv_adr h1.2.1 g4]
      · rw [if_neg z]
        show Option.map (mv_ad B b) (fs.getD j none) = _
        rw [List.getD_eq_getElem?_getD, List.getD_eq_getElem?_getD, List.getElem?_set_ne (Ne.symm z)])
    refine kk H1 locs1 cells slots ls ⟨by show va_P D mv_cl (mv_ws B b dA (h.1.set r (.inr (.inl (3, fs.set i.toNat (some q)))), h.2)) H1; rw [← e]; exact hP1, by show (h.1.set _ _).length ≤ _; rw [List.length_set]; exact h1.2.1, hS1, h1.2.2.2⟩ h2 (by show cells + n0 = (h.1.set _ _).length; rw [List.length_set]; exact h3) (by show slots + s0 = mv_sl (h.1.set _ _); rw [mv_sl_set _ _ _ _ g3 (by simp [mv_sz])]; exact h4)
  | _ => exact absurd hi (by simp)
end MVH
