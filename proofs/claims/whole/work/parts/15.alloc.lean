/-! NEW CELLS -/
section MVW
variable {p : Program} {l : Launch} {e : Env} {R : Room} {s : State} {m : MethodId} {args : Array Value} {below : List Frame} {meth : Method} {c : Code} {Q : State → Prop} {D : va_G} {dA : Nat → ClassId} {B b nL n0 s0 : Nat}
variable {cc : ByteArray} {pc : Nat} {L : mv_L} {S : List mv_V} {h : mv_H}
theorem mv_new0 {M : mv_M} {n j : Nat} : mv_new M n n j = 0 := by simp [mv_new]
theorem mv_ad_len (hl : h.1.length ≤ 5000) : mv_ad B b h.1.length = B + h.1.length := mv_ad_in (by omega)
theorem mv_snd_new {own idx a : Nat} (hx : p.tables.exec = Jvm.exec) (hb : c.code = cc) (hown : s.vm.findClass (mv_ow own) = some m.cls) (hts : ∀ w ∈ mv_TB, w.before args s = true) (hK : va_K D mv_cl (mv_tys dA) s) (hn : s.heap.size = B + n0)
    (hok : mv_nl.any (fun q => decide (q.1 = own ∧ q.2.1 = idx ∧ q.2.2.1 = a)) = true) (hl : h.1.length ≤ 5000) (hd : decode cc pc = .ok (.new idx, 3)) (hRc : (h.1 ++ [(.inr (.inr (a, mv_df a)) : mv_K)]).length ≤ R.cells + n0) (hRs : mv_sl (h.1 ++ [.inr (.inr (a, mv_df a))]) ≤ R.slots + s0)
    (kk : mv_G p l e R s m args below meth c Q D dA B b nL n0 s0 (pc + 3, L, mR h.1.length :: S, (h.1 ++ [.inr (.inr (a, mv_df a))], mv_new h.2 h.1.length))) : mv_G p l e R s m args below meth c Q D dA B b nL n0 s0 (pc, L, S, h) := by
  obtain ⟨q, hq, e1⟩ := List.any_eq_true.mp hok
  obtain ⟨rfl, rfl, rfl⟩ := of_decide_eq_true e1
  have hw := List.all_eq_true.mp mv_nl_ok q hq
  split at hw
  · rename_i C T N hc
    have hlink := hts _ (mv_inTB (mv_tb_mem hw) rfl)
    have hcl := mv_cls hc
    intro H locs cells slots ls h1 h2 h3 h4
    refine mv_wsz (fun hz => ?_)
    have hsz := mv_size h1 hn h3 hz
    obtain ⟨hKs, hfc, kC0, hkC0, hkind⟩ := hK.1 _ _ hc
    have e2 : mv_sl (h.1 ++ [(.inr (.inr (q.2.2.1, mv_df q.2.2.1)) : mv_K)]) = mv_sl h.1 + N := by
      rw [mv_sl_app, ← hcl.2.2.2.2.2.1]
      simp [mv_sl, mv_sz]
    refine W.newcK hx hb hown hlink (hts _ hcl.2.2.2.1) (hts _ hcl.2.2.2.2.1) rfl hd (by simp only [List.length_append, List.length_singleton] at hRc; simp only at h3; omega) (by rw [e2] at hRs; simp only at h4; omega) hfc hsz (fun H' kC hkC hcell hs' hold => ?_)
    have hob := u_born (iS := D.2 q.2.2.1) (mv_ty q.2.2.1) hts hcl.1 (hK.1 _ _ hc) hkC hcell hcl.2.1
    have hR1 : mv_R D dA B b s (h.1 ++ [.inr (.inr (q.2.2.1, mv_df q.2.2.1))], mv_new h.2 h.1.length) H' locs := by
      refine mv_grew h1 hsz (by simp; omega) (fun z hz => hold z (by rw [hsz] at hz; exact hz)) (by rw [hs', hsz]; omega) (fun j k hj => ?_)
      have hj0 : j = 0 := by
        have := (List.getElem?_eq_some_iff.mp hj).1
        simp at this
        exact this
      subst hj0
      cases hj
      refine ⟨(C, T, N), hc, ?_⟩
      refine t_OB.to hob (fun j hj => ?_)
      obtain ⟨g1, g2⟩ := hcl.2.2.2.2.2.2 j hj
      have e3 : vp_V (List.mapIdx (fun k x => mv_cv B b (mv_fld (mv_new h.2 h.1.length) (h.1.length + 0) k x)) (mv_df q.2.2.1)) j = mv_cv B b (mv_fld (mv_new h.2 h.1.length) (h.1.length + 0) j (mv_dfs q.2.2.1 (mv_ty q.2.2.1 j))) := by
        unfold vp_V
        rw [List.getD_eq_getElem?_getD, List.getElem?_mapIdx, g2]
        rfl
      show defaultValue (mv_ty q.2.2.1 j) = vp_V (List.mapIdx (fun k x => mv_cv B b (mv_fld (mv_new h.2 h.1.length) (h.1.length + 0) k x)) (mv_df q.2.2.1)) j
      rw [e3]
      exact mv_dflt (mv_tyB_spec g1) mv_new0
    have k := kk H' locs (cells + 1) (slots + N) ls hR1 h2 (by simp only [List.length_append, List.length_singleton]; simp only at h3; omega) (by show _ = mv_sl _; rw [e2]; simp only at h4; omega)
    rw [show (pc + 3, L, mR h.1.length :: S, (h.1 ++ [(.inr (.inr (q.2.2.1, mv_df q.2.2.1)) : mv_K)], mv_new h.2 h.1.length)).2.2.1.map (mv_cv B b) = Value.ref (mv_ad B b h.1.length) :: S.map (mv_cv B b) from rfl, mv_ad_len hl] at k
    exact k
  · cases hw
theorem mv_zero : Int32.ofInt 0 = 0 := by decide +kernel
theorem mv_snd_newa {a : Nat} {t : ArrayType} (hx : p.tables.exec = Jvm.exec) (hb : c.code = cc) (hts : ∀ w ∈ mv_TB, w.before args s = true) (hK : va_K D mv_cl (mv_tys dA) s) (hn : s.heap.size = B + n0)
    (hok : (t = .int ∧ a = 0) ∨ (t = .char ∧ a = 1) ∨ (t = .boolean ∧ a = 2)) (hd : decode cc pc = .ok (.newarray t, 2)) {f' : mv_F} (hst : mv_newa a (pc + 2) L S h = some (.inl f')) (hRc : f'.2.2.2.1.length ≤ R.cells + n0) (hRs : mv_sl f'.2.2.2.1 ≤ R.slots + s0)
    (kk : mv_G p l e R s m args below meth c Q D dA B b nL n0 s0 f') : mv_G p l e R s m args below meth c Q D dA B b nL n0 s0 (pc, L, S, h) := by
  obtain ⟨n, S', rfl, c1, c2, c3, rfl⟩ := mv_newa_inv hst
  have hin : mv_in n := by constructor <;> omega
  intro H locs cells slots ls h1 h2 h3 h4
  refine mv_wsz (fun hz => ?_)
  have hsz := mv_size h1 hn h3 hz
  have e2 : mv_sl (h.1 ++ [(.inl (a, n.toNat) : mv_K)]) = mv_sl h.1 + n.toNat := by
    rw [mv_sl_app]
    simp [mv_sl, mv_sz]
  obtain ⟨ty, hty, harr, hra, hdv, hcb⟩ : ∃ ty : FieldType, newarray.typeOf t = ty ∧ (Cond.arrayClass ty).before args s = true ∧ s.vm.findClass ("[" ++ ty.toString) = some (dA a) ∧ defaultValue ty = .int 0 ∧ n.toNat * componentBytes ty ≤ 536870912 := by
    rcases hok with ⟨rfl, rfl⟩ | ⟨rfl, rfl⟩ | ⟨rfl, rfl⟩
    · exact ⟨.int, rfl, hts _ (mv_inTB (mv_tb_mem mv_ta0) rfl), (hK.2 0 _ rfl).2, rfl, by show n.toNat * 4 ≤ _; omega⟩
    · exact ⟨.char, rfl, hts _ (mv_inTB (mv_tb_mem mv_ta1) rfl), (hK.2 1 _ rfl).2, rfl, by show n.toNat * 2 ≤ _; omega⟩
    · exact ⟨.boolean, rfl, hts _ (mv_inTB (mv_tb_mem mv_ta2) rfl), (hK.2 2 _ rfl).2, rfl, by show n.toNat * 1 ≤ _; omega⟩
  subst hty
  refine va_newaK hx hb harr rfl hd rfl (mv_nneg hin c1) (mv_clamp hin) hcb (by simp only [List.length_append, List.length_singleton] at hRc; simp only at h3; omega) (by simp only at hRs h4; rw [e2] at hRs; omega) hsz (fun H' cA hcell hs' hold hA hfc => ?_)
  have ec : cA = dA a := Option.some.inj (hfc.symm.trans hra)
  subst ec
  have hR1 : mv_R D dA B b s (h.1 ++ [.inl (a, n.toNat)], mv_new h.2 h.1.length) H' locs := by
    refine mv_grew h1 hsz (by simp; omega) (fun z hz => hold z (by rw [hsz] at hz; exact hz)) (by rw [hs', hsz]; omega) (fun j k hj => ?_)
    have hj0 : j = 0 := by
      have := (List.getElem?_eq_some_iff.mp hj).1
      simp at this
      exact this
    subst hj0
    cases hj
    show H'[B + (h.1.length + 0)]? = some (vp_cell _ _)
    rw [Nat.add_zero, hcell, vp_cell_i]
    congr 2
    funext i
    rw [hdv, mv_new0, mv_zero]
  have k := kk H' locs (cells + 1) (slots + n.toNat) ls hR1 h2 (by simp only [List.length_append, List.length_singleton]; simp only at h3; omega) (by show _ = mv_sl _; rw [e2]; simp only at h4; omega)
  simp only [List.map_cons, mv_cv, mv_ad_len c3] at k
  exact k
theorem mv_snd_newq {own idx : Nat} {Ls : Nat} {xs : Nat → Int32} (hx : p.tables.exec = Jvm.exec) (hb : c.code = cc) (hown : s.vm.findClass (mv_ow own) = some m.cls) (hts : ∀ w ∈ mv_TB, w.before args s = true) (hKx : mv_Kx D dA b Ls xs s) (hn : s.heap.size = B + n0)
    (hok : mv_ok3 mv_al own idx = true) (hd : decode cc pc = .ok (.anewarray idx, 3)) {f' : mv_F} (hst : mv_newq (pc + 3) L S h = some (.inl f')) (hRc : f'.2.2.2.1.length ≤ R.cells + n0) (hRs : mv_sl f'.2.2.2.1 ≤ R.slots + s0)
    (kk : mv_G p l e R s m args below meth c Q D dA B b nL n0 s0 f') : mv_G p l e R s m args below meth c Q D dA B b nL n0 s0 (pc, L, S, h) := by
  obtain ⟨n, S', rfl, c1, c2, c3, rfl⟩ := mv_newq_inv hst
  obtain ⟨w, hw, rfl, rfl⟩ := mv_ok3_spec hok
  have hlink := hts _ (mv_inTB (mv_tb_mem (List.all_eq_true.mp mv_al_ok w hw)) rfl)
  have hin : mv_in n := by constructor <;> omega
  intro H locs cells slots ls h1 h2 h3 h4
  refine mv_wsz (fun hz => ?_)
  have hsz := mv_size h1 hn h3 hz
  have e2 : mv_sl (h.1 ++ [(.inr (.inl (3, List.replicate n.toNat none)) : mv_K)]) = mv_sl h.1 + n.toNat := by
    rw [mv_sl_app]
    simp [mv_sl, mv_sz]
  obtain ⟨kA0, comp0, z1, z2, z3, z4⟩ := (hKx.1.2 3 _ rfl).2
  refine W.anew hx hb hown hlink (va_AO.use hKx.2.2.1) rfl hd rfl (mv_nneg hin c1) (by rw [mv_clamp hin]; omega) (by simp only [List.length_append, List.length_singleton] at hRc; simp only at h3; omega) (by simp only at hRs h4; rw [e2] at hRs; rw [mv_clamp hin]; omega) (fun cA kA comp f1 f2 f3 f4 => ?_)
  have ec : cA = dA 3 := Option.some.inj (f1.symm.trans z4)
  subst ec
  rw [mv_clamp hin]
  have hR1 : mv_R D dA B b s (h.1 ++ [.inr (.inl (3, List.replicate n.toNat none))], mv_new h.2 h.1.length) (H.push { cls := dA 3, slots := Array.replicate n.toNat .null, vm := .none }) locs := by
    refine mv_grew h1 hsz (by simp; omega) (fun z hz => by rw [Array.getElem?_push_lt hz, Array.getElem?_eq_getElem hz]) (by rw [Array.size_push]; omega) (fun j k hj => ?_)
    have hj0 : j = 0 := by
      have := (List.getElem?_eq_some_iff.mp hj).1
      simp at this
      exact this
    subst hj0
    cases hj
    show (H.push _)[B + (h.1.length + 0)]? = some (vp_cell _ _)
    rw [Nat.add_zero, ← hsz, Array.getElem?_push_size, vp_cell_q, arrV_new]
    simp only [List.length_replicate]
    congr 2
    funext i
    by_cases z : i < n.toNat
    · simp [List.getD_eq_getElem?_getD, z, va_rf]
    · simp [List.getD_eq_getElem?_getD, z, va_rf]
  have k := kk _ locs (cells + 1) (slots + n.toNat) ls hR1 h2 (by simp only [List.length_append, List.length_singleton]; simp only at h3; omega) (by show _ = mv_sl _; rw [e2]; simp only at h4; omega)
  simp only [List.map_cons, mv_cv, mv_ad_len c3] at k
  rw [hsz]
  exact k
end MVW
