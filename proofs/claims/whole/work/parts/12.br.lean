/-! BRANCHES -/
section MVB
variable {p : Program} {l : Launch} {e : Env} {R : Room} {s : State} {m : MethodId} {args : Array Value} {below : List Frame} {meth : Method} {c : Code} {Q : State → Prop} {D : va_G} {dA : Nat → ClassId} {B b nL n0 s0 : Nat}
variable {cc : ByteArray} {pc : Nat} {L : mv_L} {S : List mv_V} {h : mv_H}
theorem mv_snd_icmp (hx : p.tables.exec = Jvm.exec) (hb : c.code = cc) {cd : Jvm.ClassFile.Cond} {o : Int} {a : Nat} {x y : Int} (hd : decode cc pc = .ok (.if_icmp cd o, 3)) (ht : (pc : Int) + o = a) (h1 : mv_in x) (h2 : mv_in y)
    (kk : mv_G p l e R s m args below meth c Q D dA B b nL n0 s0 (if mv_cmp cd x y = true then a else pc + 3, L, S, h)) : mv_G p l e R s m args below meth c Q D dA B b nL n0 s0 (pc, L, mI y :: mI x :: S, h) := by
  intro H locs cells slots ls g1 g2 g3 g4
  have kt : mv_cmp cd x y = true → W p l e R s m args below meth c H locs cells slots Q (F0 m a ls (S.map (mv_cv B b))) := fun q => by
    rw [if_pos q] at kk
    exact kk H locs cells slots ls g1 g2 g3 g4
  have kf : ¬ mv_cmp cd x y = true → W p l e R s m args below meth c H locs cells slots Q (F0 m (pc + 3) ls (S.map (mv_cv B b))) := fun q => by
    rw [if_neg q] at kk
    exact kk H locs cells slots ls g1 g2 g3 g4
  cases cd with
  | eq => exact lv_icmp_eq hx hb hd ht (fun q => kt (by simpa [mv_cmp] using (mv_eq h1 h2).mp q)) (fun q => kf (by simpa [mv_cmp] using fun z => q ((mv_eq h1 h2).mpr z)))
  | ne => exact lv_icmp_ne hx hb hd ht (fun q => kt (by simpa [mv_cmp] using fun z => q ((mv_eq h1 h2).mpr z))) (fun q => kf (by simpa [mv_cmp] using (mv_eq h1 h2).mp q))
  | lt => exact lv_icmp_lt hx hb hd ht (fun q => kt (by simpa [mv_cmp] using (mv_lt h1 h2).mp q)) (fun q => kf (by have := fun z => q ((mv_lt h1 h2).mpr z); simpa [mv_cmp] using this))
  | ge => exact lv_icmp_ge hx hb hd ht (fun q => kt (by simpa [mv_cmp] using (mv_le h2 h1).mp q)) (fun q => kf (by have := fun z => q ((mv_le h2 h1).mpr z); simpa [mv_cmp] using this))
  | gt => exact lv_icmp_gt hx hb hd ht (fun q => kt (by simpa [mv_cmp] using (mv_lt h2 h1).mp q)) (fun q => kf (by have := fun z => q ((mv_lt h2 h1).mpr z); simpa [mv_cmp] using this))
  | le => exact lv_icmp_le hx hb hd ht (fun q => kt (by simpa [mv_cmp] using (mv_le h1 h2).mp q)) (fun q => kf (by have := fun z => q ((mv_le h1 h2).mpr z); simpa [mv_cmp] using this))
theorem mv_snd_if (hx : p.tables.exec = Jvm.exec) (hb : c.code = cc) {cd : Jvm.ClassFile.Cond} {o : Int} {a : Nat} {x : Int} (hd : decode cc pc = .ok (.ifCond cd o, 3)) (ht : (pc : Int) + o = a) (h1 : mv_in x)
    (kk : mv_G p l e R s m args below meth c Q D dA B b nL n0 s0 (if mv_cmp cd x 0 = true then a else pc + 3, L, S, h)) : mv_G p l e R s m args below meth c Q D dA B b nL n0 s0 (pc, L, mI x :: S, h) := by
  intro H locs cells slots ls g1 g2 g3 g4
  have h2 := mv_in0
  have kt : mv_cmp cd x 0 = true → W p l e R s m args below meth c H locs cells slots Q (F0 m a ls (S.map (mv_cv B b))) := fun q => by
    rw [if_pos q] at kk
    exact kk H locs cells slots ls g1 g2 g3 g4
  have kf : ¬ mv_cmp cd x 0 = true → W p l e R s m args below meth c H locs cells slots Q (F0 m (pc + 3) ls (S.map (mv_cv B b))) := fun q => by
    rw [if_neg q] at kk
    exact kk H locs cells slots ls g1 g2 g3 g4
  have e1 : (Int32.ofInt x = 0) ↔ x = 0 := by rw [mv_o0]; exact mv_eq h1 h2
  have e2 : (Int32.ofInt x < 0) ↔ x < 0 := by rw [mv_o0]; exact mv_lt h1 h2
  have e3 : (0 < Int32.ofInt x) ↔ 0 < x := by rw [mv_o0]; exact mv_lt h2 h1
  have e4 : (Int32.ofInt x ≤ 0) ↔ x ≤ 0 := by rw [mv_o0]; exact mv_le h1 h2
  have e5 : (0 ≤ Int32.ofInt x) ↔ 0 ≤ x := by rw [mv_o0]; exact mv_le h2 h1
  cases cd with
  | eq => exact lv_if_eq hx hb hd ht (fun q => kt (by simpa [mv_cmp] using e1.mp q)) (fun q => kf (by have := fun z => q (e1.mpr z); simpa [mv_cmp] using this))
  | ne => exact lv_if_ne hx hb hd ht (fun q => kt (by have := fun z => q (e1.mpr z); simpa [mv_cmp] using this)) (fun q => kf (by simpa [mv_cmp] using e1.mp q))
  | lt => exact lv_if_lt hx hb hd ht (fun q => kt (by simpa [mv_cmp] using e2.mp q)) (fun q => kf (by have := fun z => q (e2.mpr z); simpa [mv_cmp] using this))
  | ge => exact lv_if_ge hx hb hd ht (fun q => kt (by simpa [mv_cmp] using e5.mp q)) (fun q => kf (by have := fun z => q (e5.mpr z); simpa [mv_cmp] using this))
  | gt => exact lv_if_gt hx hb hd ht (fun q => kt (by simpa [mv_cmp] using e3.mp q)) (fun q => kf (by have := fun z => q (e3.mpr z); simpa [mv_cmp] using this))
  | le => exact lv_if_le hx hb hd ht (fun q => kt (by simpa [mv_cmp] using e4.mp q)) (fun q => kf (by have := fun z => q (e4.mpr z); simpa [mv_cmp] using this))
theorem mv_tg_of {pc : Nat} {o : Int} (h : 0 ≤ (pc : Int) + o) : (pc : Int) + o = (mv_tg pc o : Int) := by
  unfold mv_tg
  omega
theorem mv_lookup_in {d x : Int} : ∀ (ps : List (Int × Int)), Op.lookupswitch.offset ps d x = d ∨ ∃ q ∈ ps, Op.lookupswitch.offset ps d x = q.2
  | [] => Or.inl rfl
  | (k, o) :: ps => by
    unfold Op.lookupswitch.offset
    split
    · exact Or.inr ⟨_, List.mem_cons_self, rfl⟩
    · rcases mv_lookup_in (d := d) (x := x) ps with h | ⟨q, h1, h2⟩
      · exact Or.inl h
      · exact Or.inr ⟨q, List.mem_cons_of_mem _ h1, h2⟩
theorem mv_snd_br (hx : p.tables.exec = Jvm.exec) (hb : c.code = cc) {own : Nat} {ret : Option FieldType} {init : Bool} {df : Nat → List Nat} {sc : Nat × (Nat → Int)} {call : Nat → List mv_V → mv_H → Option (Option mv_V × mv_H)}
    {i : Instr} {len a b' : Nat} {z : Int} {f' : mv_F} (hi : match i with | .goto _ | .ifCond _ _ | .if_icmp _ _ | .tableswitch _ _ _ _ | .lookupswitch _ _ => True | _ => False)
    (hd : decode cc pc = .ok (i, len)) (hok : mv_okE own ret init (pc, i, len, a, b', z) = true) (hst : mv_stp df sc call (i, len, a, b', z) (pc, L, S, h) = some (.inl f'))
    (kk : mv_G p l e R s m args below meth c Q D dA B b nL n0 s0 f') : mv_G p l e R s m args below meth c Q D dA B b nL n0 s0 (pc, L, S, h) := by
  cases i with
  | goto o =>
    simp only [mv_okE, decide_eq_true_eq] at hok
    obtain ⟨rfl, ht⟩ := hok
    have e := mv_nx_inv hst
    subst e
    exact mv_st (fun H locs cells slots ls k => lv_goto hx hb hd ht k) kk
  | ifCond cd o =>
    simp only [mv_okE, decide_eq_true_eq] at hok
    obtain ⟨rfl, ht⟩ := hok
    simp only [mv_stp] at hst
    split at hst
    · rename_i x S'
      obtain ⟨h1, -, rfl⟩ := mv_br_inv hst
      exact mv_snd_if hx hb hd ht h1 kk
    · cases hst
  | if_icmp cd o =>
    simp only [mv_okE, decide_eq_true_eq] at hok
    obtain ⟨rfl, ht⟩ := hok
    simp only [mv_stp] at hst
    split at hst
    · rename_i y x S'
      obtain ⟨h1, h2, rfl⟩ := mv_br_inv hst
      exact mv_snd_icmp hx hb hd ht h1 h2 kk
    · cases hst
  | tableswitch d lo hi os =>
    simp only [mv_okE, decide_eq_true_eq, Bool.and_eq_true, List.all_eq_true] at hok
    simp only [mv_stp] at hst
    split at hst
    · rename_i x S'
      split at hst
      · rename_i hin
        split at hst
        · rename_i hout
          have e := mv_nx_inv hst
          subst e
          exact mv_st (fun H locs cells slots ls k => lv_tableOut hx hb hd (by rw [mv_toInt hin]; exact hout) (mv_tg_of hok.1) k) kk
        · rename_i hout
          split at hst
          · rename_i o ho
            have e := mv_nx_inv hst
            subst e
            have hm : o ∈ os.toList := Array.mem_toList_iff.mpr (Array.mem_of_getElem? ho)
            exact mv_st (fun H locs cells slots ls k => lv_tableIn hx hb hd (by rw [mv_toInt hin]; exact fun q => hout (Or.inl q)) (by rw [mv_toInt hin]; exact fun q => hout (Or.inr q)) (by rw [mv_toInt hin]; exact ho) (mv_tg_of (hok.2 o hm)) k) kk
          · cases hst
      · cases hst
    · cases hst
  | lookupswitch d ps =>
    simp only [mv_okE, decide_eq_true_eq, Bool.and_eq_true, List.all_eq_true] at hok
    obtain ⟨⟨h1, h2⟩, h3⟩ := hok
    simp only [mv_stp] at hst
    split at hst
    · rename_i x S'
      split at hst
      · rename_i hin
        have e := mv_nx_inv hst
        subst e
        have hs : (ps.toList.zip (ps.toList.drop 1)).all (fun (a, next) => a.1 < next.1) = true := by
          rw [List.all_eq_true]
          intro q hq
          have := h3 q hq
          simpa using this
        have ht : 0 ≤ (pc : Int) + Op.lookupswitch.offset ps.toList d x := by
          rcases mv_lookup_in (d := d) (x := x) ps.toList with q | ⟨q, g1, g2⟩
          · rw [q]; exact h1
          · rw [g2]; exact h2 q g1
        exact mv_st (fun H locs cells slots ls k => lv_lookup hx hb hd hs (by rw [mv_toInt hin]) (mv_tg_of ht) k) kk
      · cases hst
    · cases hst
  | _ => exact absurd hi (by simp)
end MVB
