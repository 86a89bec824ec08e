/-! THE ABSTRACT MACHINE'S ANSWERS ARE THE MACHINE'S -/
/-- where a method begins -/
def mv_Pc (D : va_G) (dA : Nat → ClassId) (B b Ls : Nat) (xs : Nat → Int32) (h : mv_H) (U : State) : Prop := va_P D mv_cl (mv_ws B b dA h) U.heap ∧ U.heap.size = B + h.1.length ∧ h.1.length ≤ 9000 ∧ b < B ∧ mv_Kx D dA b Ls xs U
/-- where it ends -/
def mv_Qc (D : va_G) (dA : Nat → ClassId) (B b : Nat) (r : Option mv_V) (h' : mv_H) (st : State) (o : Outcome) (t : State) : Prop := o = .returned (r.map (mv_cv B b)) ∧ va_P D mv_cl (mv_ws B b dA h') t.heap ∧ h'.1.length ≤ 9000 ∧ va_F (mv_A B) st t
/-- a method's contract: with these arguments and this heap it answers r and leaves h' -/
def mv_Met (l : Launch) (D : va_G) (dA : Nat → ClassId) (B b Ls : Nat) (xs : Nat → Int32) (d : Nat) (y : mv_Y) (args : List mv_V) (h : mv_H) (r : Option mv_V) (h' : mv_H) : Prop :=
  Met l y.1.1 (.code y.1.1 y.1.2.1 y.1.2.2.1 y.1.2.2.2 :: mv_TB) { frames := d, cells := h'.1.length - h.1.length, slots := mv_sl h'.1 - mv_sl h.1, locals := 40 * d } (va_Pc (args.map (mv_cv B b)) (mv_Pc D dA B b Ls xs h)) (fun _ => mv_Qc D dA B b r h') (h'.1.length - h.1.length) (mv_sl h'.1 - mv_sl h.1) (mv_A B)
section MVS
variable {p : Program} {l : Launch} {e : Env} {R : Room} {s : State} {m : MethodId} {args : Array Value} {below : List Frame} {meth : Method} {c : Code} {Q : State → Prop} {D : va_G} {dA : Nat → ClassId} {B b nL n0 s0 : Nat}
variable {cc : ByteArray} {pc : Nat} {L : mv_L} {S : List mv_V} {h : mv_H}
/-- behind a call -/
theorem mv_go {H : Heap} {locs : List Loc} {cells slots : Nat} {ls : Array Slot} {S' : List mv_V} {st0 : List Value} {r : Option mv_V} {h' : mv_H} (hle : mv_Le h h')
    (hr : va_Run p l e R s m args below meth c H locs cells slots (h'.1.length - h.1.length) (mv_sl h'.1 - mv_sl h.1) (F0 m pc ls st0) (S'.map (mv_cv B b)) (mv_Qc D dA B b r h') (mv_A B))
    (h1 : mv_R D dA B b s h H locs) (h2 : mv_Lr B b ls nL L) (h3 : cells + n0 = h.1.length) (h4 : slots + s0 = mv_sl h.1)
    (kk : mv_G p l e R s m args below meth c Q D dA B b nL n0 s0 (pc + 3, L, r.toList ++ S', h')) : W p l e R s m args below meth c H locs cells slots Q (F0 m pc ls st0) := by
  intro T hT X
  obtain ⟨v, st₀, t, T', Lc, g0, X', hL, e1, e2, ⟨hv, hP', hlen, hF⟩, st⟩ := hr T hT X
  have hv' : v = r.map (mv_cv B b) := by
    have := hv
    simp only [Outcome.returned.injEq] at this
    exact this
  subst hv'
  obtain ⟨hz, hk⟩ := hF
  rw [g0] at hz hk
  have hR' : mv_R D dA B b s h' T'.heap (locs ++ Lc) := by
    refine ⟨by rw [e1]; exact hP', hlen, ⟨Nat.le_trans h1.2.2.1.1 (by rw [e1]; exact hz), fun q g1 g2 => ?_, fun q hq => ?_⟩, h1.2.2.2⟩
    · rw [e1, hk q (Nat.lt_of_lt_of_le g1 h1.2.2.1.1) g2]
      exact h1.2.2.1.2.1 q g1 g2
    · rcases List.mem_append.mp hq with z | z
      · exact h1.2.2.1.2.2 q z
      · exact hL q z
  obtain ⟨t2, a1, b1⟩ := kk T'.heap (locs ++ Lc) (cells + (h'.1.length - h.1.length)) (slots + (mv_sl h'.1 - mv_sl h.1)) ls hR' h2 (by show _ = h'.1.length; have := hle.1; omega) (by show _ = mv_sl h'.1; have := hle.2; omega) T' rfl X'
  refine ⟨t2, st t2 ?_, b1⟩
  have es : (r.toList ++ S').map (mv_cv B b) = (r.map (mv_cv B b)).toList ++ S'.map (mv_cv B b) := by cases r <;> rfl
  rw [show (pc + 3, L, r.toList ++ S', h').2.2.1 = r.toList ++ S' from rfl, es] at a1
  exact a1
theorem mv_blind {d : Nat} {dA : Nat → ClassId} {Ls : Nat} {xs : Nat → Int32} {av : List Value} : FrameBlind (va_Pc av (mv_Pc D dA B b Ls xs h)) := by
  intro a U g mk q
  obtain ⟨q0, q1, q2, q3, q4, q5⟩ := q
  exact ⟨q0, q1, q2, q3, q4, mv_Kx.moved (s := U) (U := U.calling g mk a) (State.WarmedH.refl _) rfl q5⟩
/-- a callee's start, out of the caller's heap -/
theorem mv_start {H : Heap} {locs : List Loc} {Ls : Nat} {xs : Nat → Int32} (hKx : mv_Kx D dA b Ls xs s) (h1 : mv_R D dA B b s h H locs) (hz : H.size = B + h.1.length) (av : List Value) : ∀ U : State, U.heap = H → s.WarmedH U.vm → va_Pc av (mv_Pc D dA B b Ls xs h) av.toArray U := by
  intro U hU hW
  have hb : U.heap[b]? = s.heap[b]? := by
    rw [hU]
    exact h1.2.2.1.2.1 b (by have := h1.2.2.2.1; have := h1.2.2.2.2; omega) (by show ¬ B ≤ b; have := h1.2.2.2.2; omega)
  exact ⟨rfl, by rw [hU]; exact h1.1, by rw [hU]; exact hz, h1.2.1, h1.2.2.2.2, mv_Kx.moved hW hb hKx⟩
theorem mv_goodTB {y : mv_Y} (hc : Jvm.Cond.code y.1.1 y.1.2.1 y.1.2.2.1 y.1.2.2.2 ∈ mv_TB) : GoodIn mv_TB (.code y.1.1 y.1.2.1 y.1.2.2.1 y.1.2.2.2 :: mv_TB) := by
  intro w hw
  rcases List.mem_cons.mp hw with rfl | hw
  · exact ⟨hc, good_of_word (mv_TBg hc)⟩
  · exact ⟨hw, good_of_word (mv_TBg hw)⟩
theorem mv_pairs3 {n : Nat} (hn : n ≤ S.length) : S.map (mv_cv B b) = ((S.take n).reverse.map (mv_cv B b)).reverse ++ (S.drop n).map (mv_cv B b) := by
  rw [← List.map_reverse, List.reverse_reverse, ← List.map_append, List.take_append_drop]
theorem mv_split {n : Nat} {v : mv_V} (hv : S[n]? = some v) : (S.take (n + 1)).reverse = v :: (S.take n).reverse := by
  have h1 : S.take (n + 1) = S.take n ++ [v] := by
    rw [List.take_add_one, hv]
    rfl
  rw [h1, List.reverse_append]
  rfl
theorem mv_room4 {S' : List mv_V} {ls : Array Slot} {rest : List Value} (h : S'.length ≤ 4) : 2 * (F0 m pc ls rest).monitorRoom + ((S'.map (mv_cv B b)).map fun v => v.category).sum ≤ 8 := lv_room (by have := mv_catS (B := B) (b := b) S'; omega)
theorem mv_cat1 {S : List mv_V} (h : S.all mv_c1 = true) : ((S.map (mv_cv B b)).map fun v => v.category).sum ≤ S.length := by
  induction S with
  | nil => simp
  | cons v S ih =>
    simp only [List.all_cons, Bool.and_eq_true] at h
    have h1 := ih h.2
    have h2 : (mv_cv B b v).category ≤ 1 := by
      rcases v with x | x | x
      · exact Nat.le_refl 1
      · exact absurd h.1 (by simp [mv_c1])
      · cases x <;> exact Nat.le_refl 1
    simp only [List.map_cons, List.sum_cons, List.length_cons]
    omega
theorem mv_room5 {S' : List mv_V} {ls : Array Slot} {rest : List Value} (h : S'.length ≤ 4 ∨ (S'.length ≤ 8 ∧ S'.all mv_c1 = true)) : 2 * (F0 m pc ls rest).monitorRoom + ((S'.map (mv_cv B b)).map fun v => v.category).sum ≤ 8 := by
  rcases h with h | h
  · exact mv_room4 h
  · exact lv_room (by have := mv_cat1 (B := B) (b := b) h.2; omega)
theorem mv_snd_static {own idx a b' : Nat} {d : Nat} {Ls : Nat} {xs : Nat → Int32} {call : Nat → List mv_V → mv_H → Option (Option mv_V × mv_H)} (hx : p.tables.exec = Jvm.exec) (hb : c.code = cc) (hml : c.maxLocals = nL) (hown : s.vm.findClass (mv_ow own) = some m.cls) (hts : ∀ w ∈ mv_TB, w.before args s = true) (hKx : mv_Kx D dA b Ls xs s) (hn : s.heap.size = B + n0)
    (hcall : ∀ k as h r h', call k as h = some (r, h') → mv_Le h h' ∧ ∀ y q, mv_mt k = some y → mv_mw[k]? = some q → q.2.1 ≠ 2 → mv_Met l D dA B b Ls xs d y as h r h') (hRf : d + 1 ≤ R.frames) (hRl : 40 * (d + 1) ≤ R.locals)
    (hok : mv_okS own idx a b' = true) {f' : mv_F} (hst : mv_call call a b' (pc + 3) L S h = some (.inl f')) (hd : decode cc pc = .ok (.invokestatic idx, 3)) (hRc : f'.2.2.2.1.length ≤ R.cells + n0) (hRs : mv_sl f'.2.2.2.1 ≤ R.slots + s0)
    (kk : mv_G p l e R s m args below meth c Q D dA B b nL n0 s0 f') : mv_G p l e R s m args below meth c Q D dA B b nL n0 s0 (pc, L, S, h) := by
  obtain ⟨g1, g2, r, h', g3, rfl⟩ := mv_call_inv hst
  simp only [mv_okS, Bool.and_eq_true] at hok
  obtain ⟨hokM, hok2⟩ := hok
  obtain ⟨y, hy, hlink⟩ := mv_okM_spec hokM
  rw [hy] at hok2
  split at hok2
  · rename_i y' q ey hq
    cases ey
    obtain ⟨o1, o2⟩ := of_decide_eq_true hok2
    obtain ⟨hle, hmet⟩ := hcall _ _ _ _ _ g3
    have hM := hmet y q hy hq (by omega)
    obtain ⟨w1, w2, w3, w4, w5, -, -⟩ := mv_mw_spec hy hq (by omega)
    have hcode : Jvm.Cond.code y.1.1 y.1.2.1 y.1.2.2.1 y.1.2.2.2 ∈ mv_TB := mv_inTB (mv_code_k hy hq (by omega)) rfl
    intro H locs cells slots ls h1 h2 h3 h4
    refine mv_wsz (fun hz => ?_)
    have hsz := mv_size h1 hn h3 hz
    have hcb : CallB R s args (mv_ow own) idx y.1.1 y.1.2.1 y.1.2.2.1 y.1.2.2.2 (.code y.1.1 y.1.2.1 y.1.2.2.1 y.1.2.2.2 :: mv_TB) { frames := d, cells := h'.1.length - h.1.length, slots := mv_sl h'.1 - mv_sl h.1, locals := 40 * d } (h'.1.length - h.1.length) (mv_sl h'.1 - mv_sl h.1) b' :=
      callB_of b' hts (mv_goodTB hcode) rfl rfl rfl (hts _ w1) (hts _ hlink) (by rw [← o2]; exact w2) ⟨hRf, by show 8 + (y.1.2.2.1 + 11) + 40 * d ≤ R.locals; omega⟩
    rw [show (pc, L, S, h).2.2.1.map (mv_cv B b) = S.map (mv_cv B b) from rfl, mv_pairs3 (B := B) (b := b) g1]
    exact mv_go hle (va_runS (S := ⟨hx, hb, hml, hown, hts⟩) hM ⟨hcb, hts _ (w5 o1)⟩ ⟨mv_blind (d := d), mv_start hKx h1 hsz _⟩ rfl (by simp [g1]) h2.1 rfl (mv_room5 g2) hd ⟨by show _ ≤ _; have := hle.1; simp only at hRc h3; omega, by have := hle.2; simp only at hRs h4; omega⟩) h1 h2 h3 h4 kk
  · cases hok2
theorem mv_snd_virtual {own idx a b' z : Nat} {d : Nat} {Ls : Nat} {xs : Nat → Int32} {call : Nat → List mv_V → mv_H → Option (Option mv_V × mv_H)} (hx : p.tables.exec = Jvm.exec) (hb : c.code = cc) (hml : c.maxLocals = nL) (hown : s.vm.findClass (mv_ow own) = some m.cls) (hts : ∀ w ∈ mv_TB, w.before args s = true) (hKx : mv_Kx D dA b Ls xs s) (hn : s.heap.size = B + n0)
    (hcall : ∀ k as h r h', call k as h = some (r, h') → mv_Le h h' ∧ ∀ y q, mv_mt k = some y → mv_mw[k]? = some q → q.2.1 ≠ 2 → mv_Met l D dA B b Ls xs d y as h r h') (hRf : d + 1 ≤ R.frames) (hRl : 40 * (d + 1) ≤ R.locals)
    (hok : mv_okV own idx a b' z = true) (hrv : mv_recv z b' S h = true) {f' : mv_F} (hst : mv_call call a (b' + 1) (pc + 3) L S h = some (.inl f')) (hd : decode cc pc = .ok (.invokevirtual idx, 3)) (hRc : f'.2.2.2.1.length ≤ R.cells + n0) (hRs : mv_sl f'.2.2.2.1 ≤ R.slots + s0)
    (kk : mv_G p l e R s m args below meth c Q D dA B b nL n0 s0 f') : mv_G p l e R s m args below meth c Q D dA B b nL n0 s0 (pc, L, S, h) := by
  obtain ⟨g1, g2, r, h', g3, rfl⟩ := mv_call_inv hst
  obtain ⟨rv, fs, v1, v2⟩ := mv_recv_inv hrv
  simp only [mv_okV, Bool.and_eq_true] at hok
  obtain ⟨hokM, hok2⟩ := hok
  obtain ⟨y, hy, hlink⟩ := mv_okM_spec hokM
  rw [hy] at hok2
  split at hok2
  · rename_i y' q cz ey hq hcz
    cases ey
    obtain ⟨o1, o2, o3, o4⟩ := of_decide_eq_true hok2
    obtain ⟨hle, hmet⟩ := hcall _ _ _ _ _ g3
    have hM := hmet y q hy hq (by omega)
    obtain ⟨w1, w2, w3, w4, -, w6, w7⟩ := mv_mw_spec hy hq (by omega)
    have hcode : Jvm.Cond.code y.1.1 y.1.2.1 y.1.2.2.1 y.1.2.2.2 ∈ mv_TB := mv_inTB (mv_code_k hy hq (by omega)) rfl
    intro H locs cells slots ls h1 h2 h3 h4
    refine mv_wsz (fun hz => ?_)
    have hsz := mv_size h1 hn h3 hz
    have hcb : CallB R s args (mv_ow own) idx y.1.1 y.1.2.1 y.1.2.2.1 y.1.2.2.2 (.code y.1.1 y.1.2.1 y.1.2.2.1 y.1.2.2.2 :: mv_TB) { frames := d, cells := h'.1.length - h.1.length, slots := mv_sl h'.1 - mv_sl h.1, locals := 40 * d } (h'.1.length - h.1.length) (mv_sl h'.1 - mv_sl h.1) b' :=
      callB_of b' hts (mv_goodTB hcode) rfl rfl rfl (hts _ w1) (hts _ hlink) (by rw [← o3]; exact w2) ⟨hRf, by show 8 + (y.1.2.2.1 + 11) + 40 * d ≤ R.locals; omega⟩
    rw [mv_split v1] at hM
    rw [show (pc, L, S, h).2.2.1.map (mv_cv B b) = S.map (mv_cv B b) from rfl, mv_pairs3 (B := B) (b := b) g1, mv_split v1]
    have hst0 : (((mR rv :: (S.take b').reverse).map (mv_cv B b)).reverse ++ (S.drop (b' + 1)).map (mv_cv B b)) = ((S.take b').reverse.map (mv_cv B b)).reverse ++ Value.ref (mv_ad B b rv) :: (S.drop (b' + 1)).map (mv_cv B b) := by
      rw [List.map_cons, List.reverse_cons, List.append_assoc]
      rfl
    rw [hst0]
    have hrecv := va_recv hKx.1 h1.1 (ci := z) (q0 := rv) hcz (mv_ws_get v2)
    rw [← mv_adr (b := b) h1.2.1 v2, o4] at hrecv
    exact mv_go hle (va_runV (S := ⟨hx, hb, hml, hown, hts⟩) (C := y.1.1.cls) (b := mv_ad B b rv) hM ⟨hcb, hts _ (w6 o1), hts _ (w7 o2)⟩ ⟨mv_blind (d := d), hrecv, mv_start hKx h1 hsz _⟩ rfl (by simp; omega) h2.1 rfl (mv_room5 g2) hd ⟨by show _ ≤ _; have := hle.1; simp only at hRc h3; omega, by have := hle.2; simp only at hRs h4; omega⟩) h1 h2 h3 h4 kk
  · cases hok2
theorem mv_snd_special {own idx a b' z : Nat} {d : Nat} {Ls : Nat} {xs : Nat → Int32} {call : Nat → List mv_V → mv_H → Option (Option mv_V × mv_H)} (hx : p.tables.exec = Jvm.exec) (hb : c.code = cc) (hml : c.maxLocals = nL) (hown : s.vm.findClass (mv_ow own) = some m.cls) (hts : ∀ w ∈ mv_TB, w.before args s = true) (hKx : mv_Kx D dA b Ls xs s) (hn : s.heap.size = B + n0)
    (hcall : ∀ k as h r h', call k as h = some (r, h') → mv_Le h h' ∧ ∀ y q, mv_mt k = some y → mv_mw[k]? = some q → q.2.1 ≠ 2 → mv_Met l D dA B b Ls xs d y as h r h') (hRf : d + 1 ≤ R.frames) (hRl : 40 * (d + 1) ≤ R.locals)
    (hok : mv_okI own idx a b' = true) (hrv : mv_recv z b' S h = true) {f' : mv_F} (hst : mv_call call a (b' + 1) (pc + 3) L S h = some (.inl f')) (hd : decode cc pc = .ok (.invokespecial idx, 3)) (hRc : f'.2.2.2.1.length ≤ R.cells + n0) (hRs : mv_sl f'.2.2.2.1 ≤ R.slots + s0)
    (kk : mv_G p l e R s m args below meth c Q D dA B b nL n0 s0 f') : mv_G p l e R s m args below meth c Q D dA B b nL n0 s0 (pc, L, S, h) := by
  obtain ⟨g1, g2, r, h', g3, rfl⟩ := mv_call_inv hst
  obtain ⟨rv, fs, v1, v2⟩ := mv_recv_inv hrv
  simp only [mv_okI, Bool.and_eq_true] at hok
  obtain ⟨hokM, hok2⟩ := hok
  split at hok2
  · rename_i y q hy hq
    obtain ⟨o1, o2, o3, o4⟩ := of_decide_eq_true hok2
    obtain ⟨hle, hmet⟩ := hcall _ _ _ _ _ g3
    have hM := hmet y q hy hq (by omega)
    obtain ⟨w1, w2, w3, w4, -, w6, -⟩ := mv_mw_spec hy hq (by omega)
    have hcode : Jvm.Cond.code y.1.1 y.1.2.1 y.1.2.2.1 y.1.2.2.2 ∈ mv_TB := mv_inTB (mv_code_k hy hq (by omega)) rfl
    intro H locs cells slots ls h1 h2 h3 h4
    refine mv_wsz (fun hz => ?_)
    have hsz := mv_size h1 hn h3 hz
    rw [mv_split v1] at hM
    rw [show (pc, L, S, h).2.2.1.map (mv_cv B b) = S.map (mv_cv B b) from rfl, mv_pairs3 (B := B) (b := b) g1, mv_split v1]
    have hst0 : (((mR rv :: (S.take b').reverse).map (mv_cv B b)).reverse ++ (S.drop (b' + 1)).map (mv_cv B b)) = ((S.take b').reverse.map (mv_cv B b)).reverse ++ Value.ref (mv_ad B b rv) :: (S.drop (b' + 1)).map (mv_cv B b) := by
      rw [List.map_cons, List.reverse_cons, List.append_assoc]
      rfl
    rw [hst0]
    have hrm : d + 1 ≤ R.frames ∧ 8 + (y.1.2.2.1 + 11) + 40 * d ≤ R.locals := ⟨hRf, by omega⟩
    have hM2 : Met l y.1.1 (.code y.1.1 y.1.2.1 y.1.2.2.1 none :: mv_TB) { frames := d, cells := h'.1.length - h.1.length, slots := mv_sl h'.1 - mv_sl h.1, locals := 40 * d } (va_Pc ((mR rv :: (S.take b').reverse).map (mv_cv B b)) (mv_Pc D dA B b Ls xs h)) (fun _ => mv_Qc D dA B b r h') (h'.1.length - h.1.length) (mv_sl h'.1 - mv_sl h.1) (mv_A B) := by
      have := hM
      unfold mv_Met at this
      rw [o4] at this
      exact this
    have hgood : GoodIn mv_TB (.code y.1.1 y.1.2.1 y.1.2.2.1 none :: mv_TB) := by rw [← o4]; exact mv_goodTB hcode
    rcases (Bool.or_eq_true _ _).mp hokM with hM0 | hM1
    · obtain ⟨y2, hy2, hlink⟩ := mv_okM_spec hM0
      have e2 : y2 = y := Option.some.inj (hy2.symm.trans hy)
      subst e2
      have hcb : CallB R s args (mv_ow own) idx y2.1.1 y2.1.2.1 y2.1.2.2.1 none (.code y2.1.1 y2.1.2.1 y2.1.2.2.1 none :: mv_TB) { frames := d, cells := h'.1.length - h.1.length, slots := mv_sl h'.1 - mv_sl h.1, locals := 40 * d } (h'.1.length - h.1.length) (mv_sl h'.1 - mv_sl h.1) b' :=
        callB_of b' hts hgood rfl rfl rfl (hts _ w1) (hts _ hlink) (by rw [← o2]; exact w2) hrm
      exact mv_go hle (va_runI (S := ⟨hx, hb, hml, hown, hts⟩) (b := mv_ad B b rv) hM2 ⟨hcb, o3, hts _ (w6 o1)⟩ ⟨mv_blind (d := d), mv_start hKx h1 hsz _⟩ rfl (by simp; omega) h2.1 rfl (mv_room5 g2) hd ⟨by show _ ≤ _; have := hle.1; simp only at hRc h3; omega, by have := hle.2; simp only at hRs h4; omega⟩) h1 h2 h3 h4 kk
    · obtain ⟨qq, hqq, e1, e2, e3, e4⟩ := mv_okM1_spec hM1
      have hnest := hKx.2.2.2.2 qq hqq e4 y (by rw [e3]; exact hy)
      rw [e1, e2] at hnest
      have hcn := va_cnB (R := R) (own := mv_ow own) (host := "MonkeyVotes") (index := idx) (rm := { frames := d, cells := h'.1.length - h.1.length, slots := mv_sl h'.1 - mv_sl h.1, locals := 40 * d }) b' hts hgood rfl rfl rfl hnest (hts _ w1) (by rw [← o2]; exact w2) hrm
      exact mv_go hle (va_runIN (S := ⟨hx, hb, hml, hown, hts⟩) (b := mv_ad B b rv) hM2 ⟨hcn, o3, hts _ (w6 o1)⟩ ⟨mv_blind (d := d), mv_start hKx h1 hsz _⟩ rfl (by simp; omega) h2.1 rfl (mv_room5 g2) hd ⟨by show _ ≤ _; have := hle.1; simp only at hRc h3; omega, by have := hle.2; simp only at hRs h4; omega⟩) h1 h2 h3 h4 kk
  · cases hok2
/-- Object.<init> -/
theorem mv_snd_obj {own idx : Nat} (hx : p.tables.exec = Jvm.exec) (hb : c.code = cc) (hml : c.maxLocals = nL) (hown : s.vm.findClass (mv_ow own) = some m.cls) (hts : ∀ w ∈ mv_TB, w.before args s = true) (hRf : 1 ≤ R.frames) (hRl : 40 ≤ R.locals)
    (hok : mv_ok3 mv_oi own idx = true) {r : Nat} (hS : S.length ≤ 4) (hd : decode cc pc = .ok (.invokespecial idx, 3))
    (kk : mv_G p l e R s m args below meth c Q D dA B b nL n0 s0 (pc + 3, L, S, h)) : mv_G p l e R s m args below meth c Q D dA B b nL n0 s0 (pc, L, mR r :: S, h) := by
  obtain ⟨w, hw, rfl, rfl⟩ := mv_ok3_spec hok
  have hlink := hts _ (mv_inTB (mv_tb_mem (List.all_eq_true.mp mv_oi_ok w hw)) rfl)
  intro H locs cells slots ls h1 h2 h3 h4
  refine W.objInit hx hb hown hlink (hts _ (mv_inTB (mv_tb_mem mv_t4) rfl)) (hts _ (mv_inTB (mv_tb_mem mv_t5) rfl)) rfl (by rw [hml]; exact h2.1) rfl hd hRf ?_ (kk H locs cells slots ls h1 h2 h3 h4)
  have := mv_room4 (m := m) (pc := pc) (B := B) (b := b) (ls := ls) (rest := mv_cv B b (mR r) :: S.map (mv_cv B b)) hS
  show 2 * (F0 m pc ls (mv_cv B b (mR r) :: S.map (mv_cv B b))).monitorRoom + ((S.map (mv_cv B b)).map fun v => v.category).sum + 12 ≤ R.locals
  omega
/-- ONE STEP OF THE MACHINE -/
theorem mv_snd_step {own d : Nat} {Ls : Nat} {xs : Nat → Int32} {ret : Option FieldType} {init : Bool} {call : Nat → List mv_V → mv_H → Option (Option mv_V × mv_H)} (C0 : mv_Cx p s m args c (mv_ow own) cc nL D dA b Ls xs) (hn : s.heap.size = B + n0) (hinit : init = true → meth.name = "<init>")
    (hcall : ∀ k as h r h', call k as h = some (r, h') → mv_Le h h' ∧ ∀ y q, mv_mt k = some y → mv_mw[k]? = some q → q.2.1 ≠ 2 → mv_Met l D dA B b Ls xs d y as h r h') (hRf : d + 1 ≤ R.frames) (hRl : 40 * (d + 1) ≤ R.locals)
    {i : Instr} {len a b' : Nat} {z : Int} {f' : mv_F} (hd : decode cc pc = .ok (i, len)) (hok : mv_okE own ret init (pc, i, len, a, b', z) = true) (hst : mv_stp mv_df (Ls, fun j => (xs j).toInt) call (i, len, a, b', z) (pc, L, S, h) = some (.inl f'))
    (hRc : f'.2.2.2.1.length ≤ R.cells + n0) (hRs : mv_sl f'.2.2.2.1 ≤ R.slots + s0) (kk : mv_G p l e R s m args below meth c Q D dA B b nL n0 s0 f') : mv_G p l e R s m args below meth c Q D dA B b nL n0 s0 (pc, L, S, h) := by
  obtain ⟨hx, hb, hml, hown, hts, hKx⟩ := C0
  have hK := hKx.1
  have hRf1 : 1 ≤ R.frames := by omega
  have hRl1 : 40 ≤ R.locals := by omega
  cases i with
  | getfield idx =>
    simp only [mv_okE, decide_eq_true_eq, Bool.and_eq_true] at hok
    obtain ⟨rfl, h1⟩ := hok
    obtain ⟨r, S', fs, x, rfl, g1, g2, rfl⟩ := mv_getf_inv hst
    exact mv_snd_getf hx hb hown hts hK h1 g1 g2 hd kk
  | putfield idx =>
    simp only [mv_okE, decide_eq_true_eq, Bool.and_eq_true] at hok
    obtain ⟨⟨rfl, h1⟩, h2⟩ := hok
    obtain ⟨v, r, S', fs, rfl, g1, hv⟩ := mv_putf_inv hst
    have hf : ∃ h', f' = (pc + 3, L, S', h') := by
      rcases hv with ⟨x, -, -, -, q⟩ | ⟨x, -, -, -, q⟩ | ⟨x, -, -, -, -, -, q⟩
      · exact ⟨_, q⟩
      · exact ⟨_, q⟩
      · exact ⟨_, q⟩
    obtain ⟨h', rfl⟩ := hf
    simp only [Prod.mk.injEq, true_and] at hv
    exact mv_snd_putf hx hb hown hts hK hinit h1 h2 g1 hd (h' := h') hv kk
  | new idx =>
    simp only [mv_okE, decide_eq_true_eq, Bool.and_eq_true] at hok
    obtain ⟨rfl, h1⟩ := hok
    simp only [mv_stp] at hst
    split at hst
    · rename_i hl
      have e1 := mv_nx_inv hst
      subst e1
      exact mv_snd_new hx hb hown hts hK hn h1 hl hd hRc hRs kk
    · cases hst
  | newarray t =>
    simp only [mv_okE, decide_eq_true_eq] at hok
    obtain ⟨rfl, h1⟩ := hok
    exact mv_snd_newa hx hb hts hK hn h1 hd hst hRc hRs kk
  | anewarray idx =>
    simp only [mv_okE, decide_eq_true_eq, Bool.and_eq_true] at hok
    obtain ⟨rfl, h1⟩ := hok
    exact mv_snd_newq hx hb hown hts hKx hn h1 hd hst hRc hRs kk
  | multianewarray idx q =>
    simp only [mv_okE, decide_eq_true_eq, Bool.and_eq_true] at hok
    obtain ⟨⟨rfl, rfl⟩, h1⟩ := hok
    exact mv_snd_grid hx hb hown hts hKx hn h1 hd hst hRc hRs kk
  | invokestatic idx =>
    simp only [mv_okE, decide_eq_true_eq, Bool.and_eq_true] at hok
    obtain ⟨rfl, h1⟩ := hok
    simp only [mv_stp] at hst
    by_cases q1 : a = 998
    · rw [if_pos q1] at hst h1
      exact mv_snd_copy hx hb hml hown hts hK hRf1 hRl1 h1 hst hd kk
    · rw [if_neg q1] at hst h1
      by_cases q2 : a = 997
      · rw [if_pos q2] at hst h1
        exact mv_snd_mx hx hb hml hown hts hRf1 hRl1 h1 hst hd hRc hRs kk
      · rw [if_neg q2] at hst h1
        by_cases q3 : a = 996
        · rw [if_pos q3] at hst h1
          exact mv_snd_mi hx hb hml hown hts hRf1 hRl1 h1 hst hd hRc hRs kk
        · rw [if_neg q3] at hst h1
          exact mv_snd_static hx hb hml hown hts hKx hn hcall hRf hRl h1 hst hd hRc hRs kk
  | invokevirtual idx =>
    simp only [mv_okE, decide_eq_true_eq, Bool.and_eq_true] at hok
    obtain ⟨rfl, h1⟩ := hok
    simp only [mv_stp] at hst
    split at hst
    · rename_i hrv
      exact mv_snd_virtual hx hb hml hown hts hKx hn hcall hRf hRl h1 hrv hst hd hRc hRs kk
    · cases hst
  | invokespecial idx =>
    simp only [mv_okE, decide_eq_true_eq, Bool.and_eq_true] at hok
    obtain ⟨rfl, h1⟩ := hok
    simp only [mv_stp] at hst
    by_cases q1 : a = 999
    · rw [if_pos q1] at hst h1
      split at hst
      · rename_i r S'
        split at hst
        · rename_i hS
          have e1 := mv_nx_inv hst
          subst e1
          exact mv_snd_obj hx hb hml hown hts hRf1 hRl1 h1 hS hd kk
        · cases hst
      · cases hst
    · rw [if_neg q1] at hst h1
      split at hst
      · rename_i hrv
        exact mv_snd_special hx hb hml hown hts hKx hn hcall hRf hRl h1 hrv hst hd hRc hRs kk
      · cases hst
  | _ =>
    first
      | exact mv_snd_num hx hb hown hts trivial hd hok hst kk
      | exact mv_snd_br hx hb trivial hd hok hst kk
      | exact mv_snd_arr hx hb hKx trivial hd hok hst kk
      | (exfalso; simp [mv_okE] at hok; done)
      | (exfalso; simp only [mv_stp] at hst; split at hst <;> first | (cases hst; done) | (split at hst <;> (cases hst; done)))
      | (exfalso; simp [mv_stp] at hst; done)
end MVS
