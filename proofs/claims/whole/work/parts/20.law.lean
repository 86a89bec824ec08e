/-! THE CLAIM OUT OF ONE WALK OF THE LAW'S BODY. Your part is whole_start (and what it stands on); all else here is the same for every law, but numbers. -/
def R_law : String := "MonkeyVotesLaw"
def lw_P (b : Addr) (xs : List Int32) (args : Array Value) (s : State) : Prop := args = #[.ref b] ∧ s.IntsAt b xs ∧ xs.length ≤ 2048 ∧ (Jvm.Cond.and given_1 narrow_1).before args s = true
def lw_Q (_ : Array Value) (s : State) (o : Outcome) (t : State) : Prop := o = .returned (some (.int 1)) ∧ Framed s o t [] 600000 7302250
def lw_Z (below : List Frame) (a : Array Value) (s : State) : State → Prop := fun t => ∃ o, t.status = .running ∧ Ended t below o ∧ lw_Q a s o t
/-- the law's own end, with 1 on the stack, nothing written that was there before, its room as the claim has it -/
theorem lw_ret {p : Program} {l : Launch} {e : Env} {s : State} {m : MethodId} {below : List Frame} {meth : Method} {c : Code} {b : Nat} (hx : p.tables.exec = Jvm.exec) (hb : c.code = code) (hr : meth.sig.returnType = ret) (hlocks : meth.locks = false) {pc : Nat} {H : Heap} {ls : Array Slot} (hdg : decode code pc = .ok (.ireturn, 1)) : W p l e room_1 s m #[Value.ref b] below meth c H [] 600000 7302250 (lw_Z below #[Value.ref b] s) (F0 m pc ls [.int 1]) := by
  intro T hT X
  obtain ⟨fs, hret, hrun, hended, hW, hframe⟩ := X.leave (v := some (.int 1)) (hlocks := hlocks) (fun h => by rw [hr] at h; cases h)
  have hmeth' : T.vm.method? m = some meth := X.method'
  refine ⟨T.setFrames fs, ?_, .returned (some (.int 1)), hrun, hended, rfl, ⟨_, rfl⟩, hW, hframe⟩
  jvm_step X.here [X.here.top, hx, hb, hdg, hmeth', hr, ret, narrow_b1]
  (try refine ⟨rfl, ?_⟩); (try refine ⟨rfl, ?_⟩)
  first | (intro acts; rw [hret _ acts rfl rfl rfl]) | rw [hret _ _ rfl rfl rfl]
  exact Steps.refl _
/-- what holds at the law's entry: the machine, the code, the tables' words (any of lw_tbl by 'hts w (by decide +kernel)'), the script of L ints xs at the cell b, what the Statement gives of the start (any of its parts by flat_of_before) -/
def lw_At (p : Program) (s : State) (m : MethodId) (meth : Method) (c : Code) (b L : Nat) (xs : Nat → Int32) : Prop :=
  p.tables.exec = Jvm.exec ∧ c.code = code ∧ meth.sig.returnType = ret ∧ c.maxLocals = 4 ∧ s.vm.findClass R_law = some m.cls ∧ (∀ w ∈ lw_tbl, w.before #[Value.ref b] s = true) ∧ va_X b L xs s s.heap ∧ b < s.heap.size ∧ meth.locks = false ∧ (Jvm.Cond.and given_1 narrow_1).before #[Value.ref b] s = true
/-- the number of the law among the methods -/
theorem mv_law_at : mv_mt 157 = some y_Law_law := rfl
theorem mv_arrOf {s : State} {cA : ClassId} {k : Class} {comp : ClassId} {ty : FieldType} (hk : s.vm.classes[cA]? = some k) (hkind : k.kind = .array comp ty) : ArrOfT s cA ty := fun n z => ⟨(fun q hq => by cases hq), k, hk, comp, hkind⟩
theorem mv_overA {s : State} {A : Array Value} (h : (Jvm.Cond.arrayOver (.array .int)).before A s = true) : ∃ comp c k, s.vm.findClass (FieldType.array .int).toString = some comp ∧ s.vm.classes[c]? = some k ∧ k.kind = .array comp (.array .int) ∧ s.vm.findClass ("[" ++ (FieldType.array .int).toString) = some c := by
  unfold Cond.before at h
  simp only [Cond.holds, Cond.value, beq_iff_eq] at h
  cases hc : s.vm.findClass (FieldType.array .int).toString with
  | none => simp [hc] at h
  | some comp =>
    simp only [hc, Option.bind_some, Option.bind_eq_some_iff, Option.map_eq_some_iff] at h
    obtain ⟨c, hi, k, hk, hb⟩ := h
    obtain ⟨hlt, hp, -⟩ := Array.findIdx?_eq_some_iff_getElem.mp hi
    have hkk : s.vm.classes[c] = k := (Array.getElem?_eq_some_iff.mp hk).2
    rw [hkk] at hp
    cases hkind : k.kind with
    | array component ty =>
      rw [hkind] at hb hp
      simp at hb hp
      exact ⟨comp, c, k, rfl, hk, by rw [hkind, hp, hb.1], hb.2⟩
    | _ => rw [hkind] at hb; simp at hb
/-- the world at the law's entry -/
theorem mv_world {s : State} {args : Array Value} {b Ls : Nat} {xs : Nat → Int32} (hts : ∀ w ∈ lw_tbl, w.before args s = true) (hX : va_X b Ls xs s s.heap) : ∃ (D : va_G) (dA : Nat → ClassId), mv_Kx D dA b Ls xs s := by
  have hc : ∀ c : Nat, ∃ q : ClassId × (Nat → Nat), ∀ r, mv_cl[c]? = some r → u_Kn s r.1 r.2.1 r.2.2 q.1 q.2 := by
    intro c
    cases h : mv_cl[c]? with
    | none => exact ⟨(0, fun _ => 0), fun r hr => by cases hr⟩
    | some r =>
      obtain ⟨C, T, N⟩ := r
      have hcl := mv_cls h
      obtain ⟨cC, iS, hk⟩ := u_known (C := C) (T := T) (N := N) (n := N) hts (fun w hw => (List.mem_filter.mp (hcl.1 w hw)).1) (hts _ (List.mem_filter.mp hcl.2.2.2.1).1)
      exact ⟨(cC, iS), fun r hr => by cases hr; exact hk⟩
  obtain ⟨a0, k0, m0, f0, g0, i0⟩ := Cond.arrayClass_spec (hts _ (mv_tb_mem mv_ta0))
  obtain ⟨a1, k1, m1, f1, g1, i1⟩ := Cond.arrayClass_spec (hts _ (mv_tb_mem mv_ta1))
  obtain ⟨a2, k2, m2, f2, g2, i2⟩ := Cond.arrayClass_spec (hts _ (mv_tb_mem mv_ta2))
  obtain ⟨m3, a3, k3, j3, -, g3, i3, f3⟩ := Cond.arrayOver_spec (hts _ (mv_tb_mem mv_ta3))
  obtain ⟨m4, a4, k4, j4, g4, i4, f4⟩ := mv_overA (hts _ (mv_tb_mem mv_ta4))
  have e4 : m4 = a0 := Option.some.inj (j4.symm.trans f0)
  subst e4
  refine ⟨(fun c => (Classical.choose (hc c)).1, fun c => (Classical.choose (hc c)).2), fun t => match t with | 0 => m4 | 1 => a1 | 2 => a2 | 3 => a3 | _ => a4, ⟨fun c r hr => Classical.choose_spec (hc c) r hr, fun k q hk => ?_⟩, hX, va_AO.of (hts _ (mv_tb_mem mv_ta3)), ⟨k4, g4, i4⟩, fun q hq hk y hy => ?_⟩
  · match k, hk with
    | 0, hk => cases hk; exact ⟨mv_arrOf g0 i0, f0⟩
    | 1, hk => cases hk; exact ⟨mv_arrOf g1 i1, f1⟩
    | 2, hk => cases hk; exact ⟨mv_arrOf g2 i2, f2⟩
    | 3, hk => cases hk; exact ⟨mv_arrOf g3 i3, k3, m3, g3, i3, j3, f3⟩
    | 4, hk => cases hk; exact ⟨mv_arrOf g4 i4, f4⟩
    | k + 5, hk => simp [mv_tys] at hk
  · have h2 := List.all_eq_true.mp mv_ml_ok q hq
    unfold mv_mlB at h2
    rw [hy] at h2
    simp only at h2
    rw [if_neg (by omega)] at h2
    exact va_Nw.of rfl (hts _ (mv_tb_mem h2))
theorem mv_law_name : ¬ y_Law_law.1.1.name = "<init>" := by decide +kernel
theorem mv_one : Int32.ofInt 1 = 1 := by decide +kernel
/-- THE LAW, by the abstract machine's answer -/
theorem mv_whole {p : Program} {e : Env} {s : State} {m : MethodId} {below : List Frame} {meth : Method} {c : Code} (l : Launch) {b L : Nat} {xs : Nat → Int32} (C0 : lw_At p s m meth c b L xs) {n : Nat} {h' : mv_H} (hev : mv_ev mv_df mv_mt (L, fun j => (xs j).toInt) n 31 157 [mR 9999] ([], fun _ _ => 0) = some (some (mI 1), h')) (hc : h'.1.length ≤ 600000) (hs : mv_sl h'.1 ≤ 7302250) :
    W p l e room_1 s m #[Value.ref b] below meth c s.heap [] 0 0 (lw_Z below #[Value.ref b] s) (entryFrame m ([Value.ref b] : List Value).toArray 4) := by
  obtain ⟨hx, hb, hr, hml, hown, hts, hX, hbl, hlocks, hgv⟩ := C0
  obtain ⟨D, dA, hKx⟩ := mv_world hts hX
  unfold mv_ev at hev
  rw [mv_law_at] at hev
  simp only at hev
  split at hev
  · rename_i hca
    obtain ⟨hyd, hyo⟩ := mv_all_ok y_Law_law (mv_mt_mem mv_law_at)
    have hts2 : ∀ w ∈ mv_TB, w.before #[Value.ref b] s = true := fun w hw => hts w (List.mem_filter.mp hw).1
    have hR0 : mv_R D dA s.heap.size b s ([], fun _ _ => 0) s.heap [] := ⟨fun k q hk => by simp [mv_ws] at hk, by simp, va_S.rf, Nat.le_refl _, hbl⟩
    have hent := mv_entry (B := s.heap.size) (b := b) (n := 4) (as := [mR 9999]) rfl (by decide)
    rw [lg_entry_eq]
    have run := mv_snd_run (p := p) (l := l) (e := e) (R := room_1) (s := s) (m := m) (args := #[Value.ref b]) (below := below) (meth := meth) (c := c) (Q := lw_Z below #[Value.ref b] s) (D := D) (dA := dA) (B := s.heap.size) (b := b) (nL := 4) (n0 := 0) (s0 := 0) (y := y_Law_law) (d := 30) (Ls := L) (xs := xs)
      ⟨hx, hb, hml, hown, hts2, hKx⟩ rfl (fun z => absurd (of_decide_eq_true z) mv_law_name) hyd hyo (fun k as h r h' e1 => ⟨mv_ev_le 30 k as h r h' e1, mv_sound l D dA s.heap.size b L xs n 30 k as h r h' e1⟩) (by decide) (by decide) hc hs
      (fun pc L S i len a b' z hd ho hst => by
        intro H locs cells slots ls h1 h2 h3 h4
        rcases (mv_stp_end hst).2 with ⟨rfl, x, rfl, hxr, -⟩ | ⟨rfl, x, rfl, hxr⟩ | ⟨rfl, rfl, hxr⟩
        · cases hxr
          simp only [mv_okE, decide_eq_true_eq] at ho
          obtain ⟨rfl, -⟩ := ho
          refine va_forget (fun q hq => h1.2.2.1.2.2 q hq) ?_
          refine W.widen (k := 600000) (n := 7302250) (by simp only at h3; omega) (by simp only at h4; omega) ?_
          show W p l e room_1 s m #[Value.ref b] below meth c H [] 600000 7302250 (lw_Z below #[Value.ref b] s) (F0 m pc ls [.int (Int32.ofInt 1)])
          rw [mv_one]
          exact lw_ret hx hb hr hlocks hd
        · cases hxr
        · cases hxr)
      n (mv_ent y_Law_law [mR 9999] ([], fun _ _ => 0)) hev s.heap [] 0 0 _ hR0 hent rfl rfl
    exact run
  · cases hev
