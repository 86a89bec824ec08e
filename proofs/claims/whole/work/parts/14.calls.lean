/-! ARRAYCOPY, MAX AND MIN, NEW CELLS, CALLS -/
section MVA
variable {p : Program} {l : Launch} {e : Env} {R : Room} {s : State} {m : MethodId} {args : Array Value} {below : List Frame} {meth : Method} {c : Code} {Q : State → Prop} {D : va_G} {dA : Nat → ClassId} {B b nL n0 s0 : Nat}
variable {cc : ByteArray} {pc : Nat} {L : mv_L} {S : List mv_V} {h : mv_H}
theorem mv_wsz {H : Heap} {locs : List Loc} {cells slots : Nat} {g : JFrame} (k : H.size ≤ s.heap.size + cells → W p l e R s m args below meth c H locs cells slots Q g) : W p l e R s m args below meth c H locs cells slots Q g := fun T hT X => k (by rw [← hT]; exact X.heapSize) T hT X
/-- the real heap's size: the cells of the abstract heap stand at its end -/
theorem mv_size {H : Heap} {locs : List Loc} {cells : Nat} (h1 : mv_R D dA B b s h H locs) (hn : s.heap.size = B + n0) (h3 : cells + n0 = h.1.length) (hz : H.size ≤ s.heap.size + cells) : H.size = B + h.1.length := by
  have hge : B + h.1.length ≤ H.size := by
    rcases Nat.eq_zero_or_pos h.1.length with q | q
    · have := h1.2.2.1.1
      omega
    · have hk : h.1[h.1.length - 1]? = some h.1[h.1.length - 1] := List.getElem?_eq_getElem (by omega)
      have := (h1.1 _ _ (mv_ws_get hk)).lt
      simp only at this
      omega
  omega
theorem mv_in_of {x : Int} {n : Nat} (h0 : 0 ≤ x) (h1 : x ≤ n) (hn : n ≤ 100000) : mv_in x := by constructor <;> omega
theorem mv_nneg {x : Int} (h : mv_in x) (h0 : 0 ≤ x) : ¬ Int32.ofInt x < 0 := by
  rw [mv_o0, mv_lt h mv_in0]
  omega
theorem mv_snd_copy {own idx : Nat} (hx : p.tables.exec = Jvm.exec) (hb : c.code = cc) (hml : c.maxLocals = nL) (hown : s.vm.findClass (mv_ow own) = some m.cls) (hts : ∀ w ∈ mv_TB, w.before args s = true) (hK : va_K D mv_cl (mv_tys dA) s) (hf : 1 ≤ R.frames) (hlo : 40 ≤ R.locals)
    (hok : mv_ok3 mv_cp own idx = true) {f' : mv_F} (hst : mv_copy (pc + 3) L S h = some (.inl f')) (hd : decode cc pc = .ok (.invokestatic idx, 3))
    (kk : mv_G p l e R s m args below meth c Q D dA B b nL n0 s0 f') : mv_G p l e R s m args below meth c Q D dA B b nL n0 s0 (pc, L, S, h) := by
  obtain ⟨n, dp, r, sp, q, S', k0, k1, rfl, g0, g1, c1, c2, c3, c4, c5, c6, c7, c8, rfl⟩ := mv_copy_inv hst
  obtain ⟨w, hw, rfl, rfl⟩ := mv_ok3_spec hok
  have hlink := hts _ (mv_inTB (mv_tb_mem (List.all_eq_true.mp mv_cp_ok w hw)) rfl)
  have i1 : mv_in n := mv_in_of (n := k0) c1 (by omega) c6
  have i2 : mv_in dp := mv_in_of (n := k1) c2 (by omega) c7
  have i3 : mv_in sp := mv_in_of (n := k0) c3 (by omega) c6
  intro H locs cells slots ls h1 h2 h3 h4
  show W p l e R s m args below meth c H locs cells slots Q (F0 m pc ls (.int (Int32.ofInt n) :: .int (Int32.ofInt dp) :: Value.ref (mv_ad B b r) :: .int (Int32.ofInt sp) :: Value.ref (mv_ad B b q) :: S'.map (mv_cv B b)))
  rw [mv_adr h1.2.1 g0, mv_adr h1.2.1 g1]
  refine va_copyi hx hb (hml.trans h2.1.symm) hown hlink (hts _ (mv_inTB (mv_tb_mem mv_t1) rfl)) (hts _ (mv_inTB (mv_tb_mem mv_t2) rfl)) (hts _ (mv_inTB (mv_tb_mem mv_t3) rfl)) hK h1.1 mv_D h1.2.2.1 q r 0 0 (ty := .int) (mv_ws_get g0) (mv_ws_get g1) rfl rfl rfl (mv_nneg i3 c3) (mv_nneg i2 c2) (mv_nneg i1 c1)
    (by rw [mv_clamp i3, mv_clamp i1]; omega) (by rw [mv_clamp i2, mv_clamp i1]; omega) (fun _ _ => rfl) hf ?_ hd (fun H1 locs1 hP1 _ hS1 => ?_)
  · have := mv_catS (B := B) (b := b) S'
    have hn : nativeFrameWords "java/lang/System" "arraycopy" 5 ≤ 20 := by decide +kernel
    omega
  · refine mv_wrote (k := .inl (0, k1)) g1 (fun z hz => ?_) ?_ h1 h2 h3 h4 kk hP1 hS1
    · unfold mv_row
      rw [if_neg hz]
    · show Sum.inl _ = Sum.inl _
      congr 4
      funext j
      rw [mv_clamp i1, mv_clamp i2, mv_clamp i3]
      unfold va_cpy mv_row
      rw [if_pos rfl]
      by_cases z : dp.toNat ≤ j ∧ j < dp.toNat + n.toNat
      · rw [if_pos z, if_pos z]
      · rw [if_neg z, if_neg z]
theorem mv_snd_mx {own idx : Nat} (hx : p.tables.exec = Jvm.exec) (hb : c.code = cc) (hml : c.maxLocals = nL) (hown : s.vm.findClass (mv_ow own) = some m.cls) (hts : ∀ w ∈ mv_TB, w.before args s = true) (hf : 1 ≤ R.frames) (hlo : 40 ≤ R.locals)
    (hok : mv_ok3 mv_mx own idx = true) {f' : mv_F} (hst : mv_mm (fun x y => if x < y then y else x) (pc + 3) L S h = some (.inl f')) (hd : decode cc pc = .ok (.invokestatic idx, 3)) (hRc : f'.2.2.2.1.length ≤ R.cells + n0) (hRs : mv_sl f'.2.2.2.1 ≤ R.slots + s0)
    (kk : mv_G p l e R s m args below meth c Q D dA B b nL n0 s0 f') : mv_G p l e R s m args below meth c Q D dA B b nL n0 s0 (pc, L, S, h) := by
  obtain ⟨x, y, S', rfl, c1, c2, c3, rfl⟩ := mv_mm_inv hst
  obtain ⟨w, hw, rfl, rfl⟩ := mv_ok3_spec hok
  have hlink := hts _ (mv_inTB (mv_tb_mem (List.all_eq_true.mp mv_mx_ok w hw)) rfl)
  intro H locs cells slots ls h1 h2 h3 h4
  refine va_mmax hx hb (hml.trans h2.1.symm) hown hlink (hts _ (mv_inTB (mv_tb_mem mv_tm_max.1) rfl)) (hts _ (mv_inTB (mv_tb_mem mv_tm) rfl)) (hts _ (mv_inTB (mv_tb_mem mv_tm_max.2) rfl)) hf (by have := mv_catS (B := B) (b := b) S'; omega) (by simp only at hRc h3; omega) (by simp only at hRs h4; omega) hd ?_
  have k := kk H locs cells slots ls h1 h2 h3 h4
  simp only [List.map_cons, mv_cv] at k
  by_cases z : x < y
  · rw [if_pos ((mv_lt c1 c2).mpr z)]
    rw [if_pos z] at k
    exact k
  · rw [if_neg (fun q => z ((mv_lt c1 c2).mp q))]
    rw [if_neg z] at k
    exact k
theorem mv_snd_mi {own idx : Nat} (hx : p.tables.exec = Jvm.exec) (hb : c.code = cc) (hml : c.maxLocals = nL) (hown : s.vm.findClass (mv_ow own) = some m.cls) (hts : ∀ w ∈ mv_TB, w.before args s = true) (hf : 1 ≤ R.frames) (hlo : 40 ≤ R.locals)
    (hok : mv_ok3 mv_mi own idx = true) {f' : mv_F} (hst : mv_mm (fun x y => if y < x then y else x) (pc + 3) L S h = some (.inl f')) (hd : decode cc pc = .ok (.invokestatic idx, 3)) (hRc : f'.2.2.2.1.length ≤ R.cells + n0) (hRs : mv_sl f'.2.2.2.1 ≤ R.slots + s0)
    (kk : mv_G p l e R s m args below meth c Q D dA B b nL n0 s0 f') : mv_G p l e R s m args below meth c Q D dA B b nL n0 s0 (pc, L, S, h) := by
  obtain ⟨x, y, S', rfl, c1, c2, c3, rfl⟩ := mv_mm_inv hst
  obtain ⟨w, hw, rfl, rfl⟩ := mv_ok3_spec hok
  have hlink := hts _ (mv_inTB (mv_tb_mem (List.all_eq_true.mp mv_mi_ok w hw)) rfl)
  intro H locs cells slots ls h1 h2 h3 h4
  refine va_mmin hx hb (hml.trans h2.1.symm) hown hlink (hts _ (mv_inTB (mv_tb_mem mv_tm_min.1) rfl)) (hts _ (mv_inTB (mv_tb_mem mv_tm) rfl)) (hts _ (mv_inTB (mv_tb_mem mv_tm_min.2) rfl)) hf (by have := mv_catS (B := B) (b := b) S'; omega) (by simp only at hRc h3; omega) (by simp only at hRs h4; omega) hd ?_
  have k := kk H locs cells slots ls h1 h2 h3 h4
  simp only [List.map_cons, mv_cv] at k
  by_cases z : y < x
  · rw [if_pos ((mv_lt c2 c1).mpr z)]
    rw [if_pos z] at k
    exact k
  · rw [if_neg (fun q => z ((mv_lt c2 c1).mp q))]
    rw [if_neg z] at k
    exact k
/-- cells that came: the new heap's relation -/
theorem mv_grew {H H1 : Heap} {locs : List Loc} {ks : List mv_K} (h1 : mv_R D dA B b s h H locs) (hz : H.size = B + h.1.length) (hl : h.1.length + ks.length ≤ 9000) (hold : ∀ q, q < H.size → H1[q]? = H[q]?) (hsz : H.size ≤ H1.size)
    (hnew : ∀ (j : Nat) (k : mv_K), ks[j]? = some k → va_at D mv_cl (B + (h.1.length + j), mv_ce B b dA (mv_new h.2 h.1.length) (h.1.length + j) k) H1) : mv_R D dA B b s (h.1 ++ ks, mv_new h.2 h.1.length) H1 locs := by
  refine ⟨?_, by simp; exact hl, ⟨Nat.le_trans h1.2.2.1.1 hsz, fun q g1 g2 => (hold q (Nat.lt_of_lt_of_le g1 h1.2.2.1.1)).trans (h1.2.2.1.2.1 q g1 g2), h1.2.2.1.2.2⟩, h1.2.2.2⟩
  rw [mv_ws_app]
  refine va_P.app (h1.1.kept (fun k q hk => hold q.1 ((h1.1 k q hk).lt))) (fun j q hj => ?_)
  rw [List.getElem?_mapIdx] at hj
  obtain ⟨k, hk, rfl⟩ := Option.map_eq_some_iff.mp hj
  exact hnew j k hk
end MVA
