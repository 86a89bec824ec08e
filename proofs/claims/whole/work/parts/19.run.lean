/-! A METHOD'S RUN, AND EVERY METHOD -/
theorem mv_find_mem : ∀ {l : List (Nat × mv_E)} {pc : Nat} {en : mv_E}, mv_find l pc = some en → (pc, en) ∈ l
  | [], pc, en, h => by cases h
  | (k, e0) :: l, pc, en, h => by
    unfold mv_find at h
    split at h
    · rename_i hk
      subst hk
      cases h
      exact List.mem_cons_self
    · exact List.mem_cons_of_mem _ (mv_find_mem h)
theorem mv_dec_at {bs : ByteArray} {l : List (Nat × mv_E)} (h : mv_dec bs l = true) {pc : Nat} {en : mv_E} (hm : (pc, en) ∈ l) : decode bs pc = .ok (en.1, en.2.1) := by
  have := List.all_eq_true.mp h _ hm
  exact of_decide_eq_true this
section MVQ
variable {p : Program} {l : Launch} {e : Env} {R : Room} {s : State} {m : MethodId} {args : Array Value} {below : List Frame} {meth : Method} {c : Code} {Q : State → Prop} {D : va_G} {dA : Nat → ClassId} {B b nL n0 s0 : Nat}
/-- a run that ends with r and h', when the end itself comes to Q -/
theorem mv_snd_run {y : mv_Y} {d : Nat} {Ls : Nat} {xs : Nat → Int32} {call : Nat → List mv_V → mv_H → Option (Option mv_V × mv_H)} (C0 : mv_Cx p s m args c (mv_ow y.2.1) y.1.2.1 nL D dA b Ls xs) (hn : s.heap.size = B + n0) (hinit : decide (y.1.1.name = "<init>") = true → meth.name = "<init>") (hyd : mv_dec y.1.2.1 y.2.2 = true) (hyo : mv_okY y = true)
    (hcall : ∀ k as h r h', call k as h = some (r, h') → mv_Le h h' ∧ ∀ y q, mv_mt k = some y → mv_mw[k]? = some q → q.2.1 ≠ 2 → mv_Met l D dA B b Ls xs d y as h r h') (hRf : d + 1 ≤ R.frames) (hRl : 40 * (d + 1) ≤ R.locals) {r : Option mv_V} {h' : mv_H} (hRc : h'.1.length ≤ R.cells + n0) (hRs : mv_sl h'.1 ≤ R.slots + s0)
    (hend : ∀ (pc : Nat) (L : mv_L) (S : List mv_V) (i : Instr) (len a b' : Nat) (z : Int), decode y.1.2.1 pc = .ok (i, len) → mv_okE y.2.1 y.1.2.2.2 (decide (y.1.1.name = "<init>")) (pc, i, len, a, b', z) = true → mv_stp mv_df (Ls, fun j => (xs j).toInt) call (i, len, a, b', z) (pc, L, S, h') = some (.inr (r, h')) → mv_G p l e R s m args below meth c Q D dA B b nL n0 s0 (pc, L, S, h')) :
    ∀ (n : Nat) (f : mv_F), mv_run (mv_at mv_df (Ls, fun j => (xs j).toInt) call y) n f = some (r, h') → mv_G p l e R s m args below meth c Q D dA B b nL n0 s0 f
  | 0, f, e0 => by cases e0
  | n + 1, f, e0 => by
    obtain ⟨pc, L, S, h⟩ := f
    unfold mv_run at e0
    split at e0
    · cases e0
    · rename_i r0 e1
      unfold mv_at at e1
      split at e1
      · rename_i en hen
        obtain ⟨i, len, a, b', z⟩ := en
        have hm := mv_find_mem hen
        have hd := mv_dec_at hyd hm
        have ho := List.all_eq_true.mp hyo _ hm
        cases e0
        have eh := (mv_stp_end e1).1
        subst eh
        exact hend pc L S i len a b' z hd ho e1
      · cases e1
    · rename_i f' e1
      have ih := mv_snd_run C0 hn hinit hyd hyo hcall hRf hRl hRc hRs hend n f' e0
      have hle := mv_run_le (fun k as h r h' q => (hcall k as h r h' q).1) n f' r h' e0
      unfold mv_at at e1
      split at e1
      · rename_i en hen
        obtain ⟨i, len, a, b', z⟩ := en
        have hm := mv_find_mem hen
        have hd := mv_dec_at hyd hm
        have ho := List.all_eq_true.mp hyo _ hm
        exact mv_snd_step C0 hn hinit hcall hRf hRl hd ho e1 (Nat.le_trans hle.1 hRc) (Nat.le_trans hle.2 hRs) ih
      · cases e1
/-- a method's end: its return -/
theorem mv_snd_ret {own : Nat} {cc : ByteArray} {ret : Option FieldType} {init : Bool} (hx : p.tables.exec = Jvm.exec) (hb : c.code = cc) (hr : meth.sig.returnType = ret) (hlocks : meth.locks = false) {sc : Nat × (Nat → Int)} {call : Nat → List mv_V → mv_H → Option (Option mv_V × mv_H)} {pc : Nat} {L : mv_L} {S : List mv_V} {r : Option mv_V} {h' : mv_H}
    {i : Instr} {len a b' : Nat} {z : Int} (hd : decode cc pc = .ok (i, len)) (hok : mv_okE own ret init (pc, i, len, a, b', z) = true) (hst : mv_stp mv_df sc call (i, len, a, b', z) (pc, L, S, h') = some (.inr (r, h'))) :
    mv_G p l e R s m args below meth c (MQ below (fun _ => mv_Qc D dA B b r h') args s (h'.1.length - n0) (mv_sl h'.1 - s0) (mv_A B)) D dA B b nL n0 s0 (pc, L, S, h') := by
  intro H locs cells slots ls h1 h2 h3 h4
  have ec : cells = h'.1.length - n0 := by simp only at h3; omega
  have es : slots = mv_sl h'.1 - s0 := by simp only at h4; omega
  subst ec
  subst es
  have hq : ∀ (v : Option Value), v = r.map (mv_cv B b) → ∀ t : State, t.heap = H → s.WarmedH t.vm → mv_Qc D dA B b r h' s (.returned v) t := fun v hv t ht _ => ⟨by rw [hv], by rw [ht]; exact h1.1, h1.2.1, h1.2.2.1.F ht⟩
  have hloc : ∀ q ∈ locs, mv_A B q.base := h1.2.2.1.2.2
  rcases (mv_stp_end hst).2 with ⟨rfl, x, rfl, rfl, hx01⟩ | ⟨rfl, x, rfl, rfl⟩ | ⟨rfl, rfl, rfl⟩
  · simp only [mv_okE, decide_eq_true_eq] at hok
    obtain ⟨rfl, ⟨rfl, hret⟩ | ⟨rfl, hret⟩⟩ := hok
    · exact W.iret hx hb (hr.trans hret) (hq _ rfl) hloc hd hlocks
    · refine W.zret (ty := .boolean) hx hb (hr.trans hret) ?_ (hq _ rfl) hloc hd hlocks
      rcases hx01 with q | rfl | rfl
      · cases q
      · exact mv_b0.1
      · exact mv_b1.1
  · simp only [mv_okE, decide_eq_true_eq] at hok
    obtain ⟨rfl, hret⟩ := hok
    exact W.lret hx hb (hr.trans hret) (hq _ rfl) hloc hd hlocks
  · simp only [mv_okE, decide_eq_true_eq] at hok
    obtain ⟨rfl, hret⟩ := hok
    exact W.vret hx hb (hr.trans hret) (hq _ rfl) hloc hd hlocks
end MVQ
/-- the locals at a method's entry -/
theorem mv_entry_sl : ∀ {B b : Nat} (as : List mv_V), as.all mv_c1 = true → lg_sl (as.map (mv_cv B b)) = (as.map (mv_cv B b)).map Slot.val
  | B, b, [], _ => rfl
  | B, b, v :: as, h => by
    simp only [List.all_cons, Bool.and_eq_true] at h
    have ih := mv_entry_sl (B := B) (b := b) as h.2
    have hc := mv_cat (B := B) (b := b) h.1
    unfold lg_sl at ih ⊢
    simp only [List.map_cons, List.flatMap_cons, ih]
    rw [if_neg (by omega)]
    rfl
theorem mv_entry_args : ∀ {B b : Nat} (as : List mv_V) (k : Nat), as.all mv_c1 = true → ∀ (i : Nat) (v : mv_V), as[i]? = some v → (k + i, mv_cv B b v) ∈ lv_args k (as.map (mv_cv B b))
  | B, b, [], k, _, i, v, h => by simp at h
  | B, b, w :: as, k, ha, i, v, h => by
    simp only [List.all_cons, Bool.and_eq_true] at ha
    have hc := mv_cat (B := B) (b := b) ha.1
    simp only [List.map_cons, lv_args]
    rw [if_neg (by omega)]
    cases i with
    | zero =>
      simp only [List.getElem?_cons_zero, Option.some.injEq] at h
      subst h
      exact List.mem_cons_self
    | succ i =>
      simp only [List.getElem?_cons_succ] at h
      have := mv_entry_args (B := B) (b := b) as (k + 1) ha.2 i v h
      rw [show k + 1 + i = k + (i + 1) by omega] at this
      exact List.mem_cons_of_mem _ this
theorem mv_entry {B b n : Nat} {as : List mv_V} (ha : as.all mv_c1 = true) (hl : as.length ≤ n) : mv_Lr B b ((lg_sl (as.map (mv_cv B b)) ++ List.replicate (n - (lg_sl (as.map (mv_cv B b))).length) Slot.unset).toArray) n (as.map some ++ List.replicate (n - as.length) none) := by
  have hsl := mv_entry_sl (B := B) (b := b) as ha
  have hlen : (lg_sl (as.map (mv_cv B b))).length = as.length := by rw [hsl]; simp
  obtain ⟨g1, g2, g3⟩ := lv_entry (as.map (mv_cv B b)) (n := n) (by omega)
  refine ⟨g1, g2, by simp; omega, fun i v hi => ?_⟩
  have hi' : as[i]? = some v := by
    by_cases q : i < as.length
    · rw [List.getElem?_append_left (by simp; exact q), List.getElem?_map] at hi
      cases hc : as[i]? with
      | none => rw [hc] at hi; cases hi
      | some w => rw [hc] at hi; simp at hi; rw [hi]
    · rw [List.getElem?_append_right (by simp; omega), List.getElem?_replicate] at hi
      split at hi
      · cases hi
      · cases hi
  have hm := mv_entry_args (B := B) (b := b) as 0 ha i v hi'
  rw [Nat.zero_add] at hm
  exact ⟨List.all_eq_true.mp ha v (List.mem_of_getElem? hi'), g3 _ hm⟩
theorem mv_plain : mv_mtl.all (fun y => plainName y.1.1.cls) = true := by decide +kernel
/-- EVERY METHOD BUT THE LAW: what the abstract machine answers, the machine answers -/
theorem mv_sound (l : Launch) (D : va_G) (dA : Nat → ClassId) (B b Ls : Nat) (xs : Nat → Int32) (n : Nat) : ∀ (d k : Nat) (as : List mv_V) (h : mv_H) (r : Option mv_V) (h' : mv_H), mv_ev mv_df mv_mt (Ls, fun j => (xs j).toInt) n d k as h = some (r, h') → ∀ y q, mv_mt k = some y → mv_mw[k]? = some q → q.2.1 ≠ 2 → mv_Met l D dA B b Ls xs d y as h r h'
  | 0, k, as, h, r, h', e0 => by cases e0
  | d + 1, k, as, h, r, h', e0 => by
    intro y q hy hq hq2
    have hle := mv_ev_le (d + 1) k as h r h' e0
    unfold mv_ev at e0
    rw [hy] at e0
    simp only at e0
    split at e0
    · rename_i hc
      obtain ⟨hyd, hyo⟩ := mv_all_ok y (mv_mt_mem hy)
      obtain ⟨w1, w2, w3, w4, -, -, -⟩ := mv_mw_spec hy hq hq2
      have hpl : plainName y.1.1.cls = true := List.all_eq_true.mp mv_plain y (mv_mt_mem hy)
      have hcode := mv_code_k hy hq hq2
      refine Met.ofW (cc := y.1.2.1) (maxL := y.1.2.2.1) (ret := y.1.2.2.2) hpl rfl ?_
      intro p e s m args below meth c s₁ Bd hml hv
      obtain ⟨rfl, v1, v2, v3, v4, v5⟩ := hv
      have hts0 := atoms_spec (ws := .code y.1.1 y.1.2.1 y.1.2.2.1 y.1.2.2.2 :: mv_TB) Bd.pre
      have hts : ∀ w ∈ mv_TB, w.before (as.map (mv_cv B b)).toArray s = true := fun w hw => hts0 w (List.mem_cons_of_mem _ hw)
      have hown : s.vm.findClass (mv_ow y.2.1) = some m.cls := by rw [← w3]; exact findClass_of_methodNamed Bd.named
      have hin : decide (y.1.1.name = "<init>") = true → meth.name = "<init>" := fun z => by
        rw [(name_of_methodNamed Bd.named Bd.method).1]
        exact of_decide_eq_true z
      have hR0 : mv_R D dA B b s h s.heap [] := ⟨v1, v3, va_S.rf, by omega, v4⟩
      rw [lg_entry_eq]
      exact mv_snd_run (n0 := h.1.length) (s0 := mv_sl h.1) (d := d) ⟨Bd.exec, Bd.bytes, hml, hown, hts, v5⟩ v2 hin hyd hyo (fun k as h r h' e1 => ⟨mv_ev_le d k as h r h' e1, mv_sound l D dA B b Ls xs n d k as h r h' e1⟩) (Nat.le_refl _) (Nat.le_refl _) (by show _ ≤ (h'.1.length - h.1.length) + _; have := hle.1; omega) (by show _ ≤ (mv_sl h'.1 - mv_sl h.1) + _; have := hle.2; omega)
        (fun pc L S i len a b' z hd ho hst => mv_snd_ret Bd.exec Bd.bytes Bd.returns Bd.notSynchronized hd ho hst) n (mv_ent y as h) e0 s.heap [] 0 0 _ hR0 (mv_entry hc.1 hc.2) (by simp [mv_ent]) (by simp [mv_ent])
    · cases e0
