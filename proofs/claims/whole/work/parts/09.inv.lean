/-! WHAT A STEP THAT GOES ON TELLS OF THE FRAME AHEAD OF IT -/
theorem mv_nx_inv {pc : Nat} {L : mv_L} {S : List mv_V} {h : mv_H} {f : mv_F} (e : mv_nx pc L S h = some (.inl f)) : f = (pc, L, S, h) := by
  simp only [mv_nx, Option.some.injEq, Sum.inl.injEq] at e
  exact e.symm
theorem mv_ldi_inv {L : mv_L} {k pc : Nat} {S : List mv_V} {h : mv_H} {f : mv_F} (e : mv_ldi L k pc S h = some (.inl f)) : ∃ x, L[k]? = some (some (mI x)) ∧ f = (pc, L, mI x :: S, h) := by
  unfold mv_ldi at e
  split at e
  · rename_i x hx
    exact ⟨x, hx, mv_nx_inv e⟩
  · cases e
theorem mv_lda_inv {L : mv_L} {k pc : Nat} {S : List mv_V} {h : mv_H} {f : mv_F} (e : mv_lda L k pc S h = some (.inl f)) : ∃ x, L[k]? = some (some (mR x)) ∧ f = (pc, L, mR x :: S, h) := by
  unfold mv_lda at e
  split at e
  · rename_i x hx
    exact ⟨x, hx, mv_nx_inv e⟩
  · cases e
theorem mv_sti_inv {L : mv_L} {k pc : Nat} {S : List mv_V} {h : mv_H} {f : mv_F} (e : mv_sti L k pc S h = some (.inl f)) : ∃ x S', S = mI x :: S' ∧ k < L.length ∧ f = (pc, L.set k (some (mI x)), S', h) := by
  unfold mv_sti at e
  split at e
  · rename_i x S'
    split at e
    · rename_i hk
      exact ⟨x, S', rfl, hk, mv_nx_inv e⟩
    · cases e
  · cases e
theorem mv_sta_inv {L : mv_L} {k pc : Nat} {S : List mv_V} {h : mv_H} {f : mv_F} (e : mv_sta L k pc S h = some (.inl f)) : ∃ x S', S = mR x :: S' ∧ k < L.length ∧ f = (pc, L.set k (some (mR x)), S', h) := by
  unfold mv_sta at e
  split at e
  · rename_i x S'
    split at e
    · rename_i hk
      exact ⟨x, S', rfl, hk, mv_nx_inv e⟩
    · cases e
  · cases e
theorem mv_bin_inv {g : Int → Int → Int} {pc : Nat} {L : mv_L} {S : List mv_V} {h : mv_H} {f : mv_F} (e : mv_bin g pc L S h = some (.inl f)) : ∃ x y S', S = mI y :: mI x :: S' ∧ f = (pc, L, mI (g x y) :: S', h) := by
  unfold mv_bin at e
  split at e
  · rename_i y x S'
    exact ⟨x, y, S', rfl, mv_nx_inv e⟩
  · cases e
theorem mv_mm_inv {g : Int → Int → Int} {pc : Nat} {L : mv_L} {S : List mv_V} {h : mv_H} {f : mv_F} (e : mv_mm g pc L S h = some (.inl f)) : ∃ x y S', S = mI y :: mI x :: S' ∧ mv_in x ∧ mv_in y ∧ S'.length ≤ 4 ∧ f = (pc, L, mI (g x y) :: S', h) := by
  unfold mv_mm at e
  split at e
  · rename_i y x S'
    split at e
    · rename_i hc
      exact ⟨x, y, S', rfl, hc.1, hc.2.1, hc.2.2, mv_nx_inv e⟩
    · cases e
  · cases e
theorem mv_br_inv {cd : Jvm.ClassFile.Cond} {a : Nat} {x y : Int} {pc : Nat} {L : mv_L} {S : List mv_V} {h : mv_H} {f : mv_F} (e : mv_br cd a x y pc L S h = some (.inl f)) : mv_in x ∧ mv_in y ∧ f = (if mv_cmp cd x y = true then a else pc, L, S, h) := by
  unfold mv_br at e
  split at e
  · rename_i hc
    exact ⟨hc.1, hc.2, mv_nx_inv e⟩
  · cases e
theorem mv_ald_inv {sc : Nat × (Nat → Int)} {t pc : Nat} {L : mv_L} {S : List mv_V} {h : mv_H} {f : mv_F} (e : mv_ald sc t pc L S h = some (.inl f)) : ∃ i r S', S = mI i :: mR r :: S' ∧ 0 ≤ i ∧ mv_in i ∧
    ((∃ n, h.1[r]? = some (.inl (t, n)) ∧ i < n ∧ f = (pc, L, mI (h.2 r i.toNat) :: S', h)) ∨ (t = 0 ∧ r = 9999 ∧ i < sc.1 ∧ f = (pc, L, mI (sc.2 i.toNat) :: S', h))) := by
  unfold mv_ald at e
  split at e
  · rename_i i r S'
    refine ⟨i, r, S', rfl, ?_⟩
    split at e
    · rename_i t' n hk
      split at e
      · rename_i hc
        obtain ⟨c1, c2, c3, c4⟩ := hc
        subst c1
        exact ⟨c2, c4, Or.inl ⟨n, hk, c3, mv_nx_inv e⟩⟩
      · cases e
    · cases e
    · split at e
      · rename_i hc
        obtain ⟨c1, c2, c3, c4, c5⟩ := hc
        exact ⟨c3, c5, Or.inr ⟨c1, c2, c4, mv_nx_inv e⟩⟩
      · cases e
  · cases e
theorem mv_ast_inv {t pc : Nat} {L : mv_L} {S : List mv_V} {h : mv_H} {f : mv_F} (e : mv_ast t pc L S h = some (.inl f)) : ∃ x i r S' n, S = mI x :: mI i :: mR r :: S' ∧ 0 ≤ i ∧ mv_in i ∧ h.1[r]? = some (.inl (t, n)) ∧ i < n ∧ mv_fitB t x = true ∧ f = (pc, L, S', (h.1, mv_up h.2 r i.toNat x)) := by
  unfold mv_ast at e
  split at e
  · rename_i x i r S'
    split at e
    · rename_i t' n hk
      split at e
      · rename_i hc
        obtain ⟨c1, c2, c3, c4, c5⟩ := hc
        subst c1
        exact ⟨x, i, r, S', n, rfl, c2, c4, hk, c3, c5, mv_nx_inv e⟩
      · cases e
    · cases e
  · cases e
theorem mv_getf_inv {a b pc : Nat} {L : mv_L} {S : List mv_V} {h : mv_H} {f : mv_F} (e : mv_getf a b pc L S h = some (.inl f)) : ∃ r S' fs x, S = mR r :: S' ∧ h.1[r]? = some (.inr (.inr (a, fs))) ∧ fs[b]? = some x ∧ f = (pc, L, mv_fld h.2 r b x :: S', h) := by
  unfold mv_getf at e
  split at e
  · rename_i r S'
    split at e
    · rename_i ci fs hk
      split at e
      · rename_i hc
        subst hc
        split at e
        · rename_i x hx
          exact ⟨r, S', fs, x, rfl, hk, hx, mv_nx_inv e⟩
        · cases e
      · cases e
    · cases e
  · cases e
theorem mv_putf_inv {a b pc : Nat} {z : Int} {L : mv_L} {S : List mv_V} {h : mv_H} {f : mv_F} (e : mv_putf a b z pc L S h = some (.inl f)) : ∃ v r S' fs, S = v :: mR r :: S' ∧ h.1[r]? = some (.inr (.inr (a, fs))) ∧
    ((∃ x, v = mI x ∧ fs[b]? = some 0 ∧ (z = 0 ∨ (z = 2 ∧ (x = 0 ∨ x = 1))) ∧ f = (pc, L, S', (h.1, mv_up h.2 r b x))) ∨
     (∃ x, v = mL x ∧ fs[b]? = some 1 ∧ z = 1 ∧ f = (pc, L, S', (h.1, mv_up h.2 r b x))) ∨
     (∃ q, v = mR q ∧ z = 3 ∧ b < fs.length ∧ ¬ fs[b]? = some 0 ∧ ¬ fs[b]? = some 1 ∧ f = (pc, L, S', (h.1.set r (.inr (.inr (a, fs.set b (q + 3)))), h.2)))) := by
  unfold mv_putf at e
  split at e
  · rename_i v r S'
    split at e
    · rename_i ci fs hk
      split at e
      · rename_i hc
        subst hc
        split at e
        · rename_i x
          split at e
          · rename_i hc
            exact ⟨_, r, S', fs, rfl, hk, Or.inl ⟨x, rfl, hc.1, hc.2, mv_nx_inv e⟩⟩
          · cases e
        · rename_i x
          split at e
          · rename_i hc
            exact ⟨_, r, S', fs, rfl, hk, Or.inr (Or.inl ⟨x, rfl, hc.1, hc.2, mv_nx_inv e⟩)⟩
          · cases e
        · rename_i q
          split at e
          · rename_i hc
            exact ⟨_, r, S', fs, rfl, hk, Or.inr (Or.inr ⟨q, rfl, hc.1, hc.2.1, hc.2.2.1, hc.2.2.2, mv_nx_inv e⟩)⟩
          · cases e
        · cases e
      · cases e
    · cases e
  · cases e
theorem mv_alen_inv {sc : Nat × (Nat → Int)} {pc : Nat} {L : mv_L} {S : List mv_V} {h : mv_H} {f : mv_F} (e : mv_alen sc pc L S h = some (.inl f)) : ∃ r S', S = mR r :: S' ∧
    ((∃ n : Nat, h.1[r]? = some (.inl (0, n)) ∧ f = (pc, L, mI n :: S', h)) ∨ (r = 9999 ∧ f = (pc, L, mI sc.1 :: S', h))) := by
  unfold mv_alen at e
  split at e
  · rename_i r S'
    refine ⟨r, S', rfl, ?_⟩
    split at e
    · rename_i t n hk
      split at e
      · rename_i hc
        subst hc
        exact Or.inl ⟨n, hk, mv_nx_inv e⟩
      · cases e
    · cases e
    · split at e
      · rename_i hc
        exact Or.inr ⟨hc, mv_nx_inv e⟩
      · cases e
  · cases e
theorem mv_copy_inv {pc : Nat} {L : mv_L} {S : List mv_V} {h : mv_H} {f : mv_F} (e : mv_copy pc L S h = some (.inl f)) : ∃ n dp r sp q S' n0 n1, S = mI n :: mI dp :: mR r :: mI sp :: mR q :: S' ∧ h.1[q]? = some (.inl (0, n0)) ∧ h.1[r]? = some (.inl (0, n1)) ∧
    0 ≤ n ∧ 0 ≤ dp ∧ 0 ≤ sp ∧ sp + n ≤ n0 ∧ dp + n ≤ n1 ∧ n0 ≤ 100000 ∧ n1 ≤ 100000 ∧ S'.length ≤ 4 ∧ f = (pc, L, S', (h.1, mv_row h.2 r (fun i => if dp.toNat ≤ i ∧ i < dp.toNat + n.toNat then h.2 q (sp.toNat + (i - dp.toNat)) else h.2 r i))) := by
  unfold mv_copy at e
  split at e
  · rename_i n dp r sp q S'
    split at e
    · rename_i t0 n0 t1 n1 k0 k1
      split at e
      · rename_i hc
        obtain ⟨c1, c2, c3, c4, c5, c6, c7, c8, c9, c10⟩ := hc
        subst c1
        subst c2
        exact ⟨n, dp, r, sp, q, S', n0, n1, rfl, k0, k1, c3, c4, c5, c6, c7, c8, c9, c10, mv_nx_inv e⟩
      · cases e
    · cases e
  · cases e
theorem mv_call_inv {call : Nat → List mv_V → mv_H → Option (Option mv_V × mv_H)} {y n pc : Nat} {L : mv_L} {S : List mv_V} {h : mv_H} {f : mv_F} (e : mv_call call y n pc L S h = some (.inl f)) : n ≤ S.length ∧ ((S.drop n).length ≤ 4 ∨ ((S.drop n).length ≤ 8 ∧ (S.drop n).all mv_c1 = true)) ∧ ∃ r h', call y (S.take n).reverse h = some (r, h') ∧ f = (pc, L, r.toList ++ S.drop n, h') := by
  unfold mv_call at e
  split at e
  · rename_i hc
    split at e
    · rename_i r h' hk
      exact ⟨hc.1, hc.2, r, h', hk, mv_nx_inv e⟩
    · cases e
  · cases e
theorem mv_recv_inv {ci n : Nat} {S : List mv_V} {h : mv_H} (e : mv_recv ci n S h = true) : ∃ r fs, S[n]? = some (mR r) ∧ h.1[r]? = some (.inr (.inr (ci, fs))) := by
  unfold mv_recv at e
  split at e
  · rename_i r hr
    split at e
    · rename_i c0 fs hk
      have hc := of_decide_eq_true e
      subst hc
      exact ⟨r, fs, hr, hk⟩
    · cases e
  · cases e
theorem mv_aald_inv {pc : Nat} {L : mv_L} {S : List mv_V} {h : mv_H} {f : mv_F} (e : mv_aald pc L S h = some (.inl f)) : ∃ i r S' t fs q, S = mI i :: mR r :: S' ∧ h.1[r]? = some (.inr (.inl (t, fs))) ∧ (t = 3 ∨ t = 4) ∧ 0 ≤ i ∧ mv_in i ∧ fs[i.toNat]? = some (some q) ∧ f = (pc, L, mR q :: S', h) := by
  unfold mv_aald at e
  split at e
  · rename_i i r S'
    split at e
    · rename_i t fs hk
      split at e
      · rename_i hc
        split at e
        · rename_i q hq
          exact ⟨i, r, S', t, fs, q, rfl, hk, hc.1, hc.2.1, hc.2.2, hq, mv_nx_inv e⟩
        · cases e
      · cases e
    · cases e
  · cases e
theorem mv_aast_inv {ci pc : Nat} {L : mv_L} {S : List mv_V} {h : mv_H} {f : mv_F} (e : mv_aast ci pc L S h = some (.inl f)) : ∃ q i r S' fs gs, S = mR q :: mI i :: mR r :: S' ∧ h.1[r]? = some (.inr (.inl (3, fs))) ∧ h.1[q]? = some (.inr (.inr (ci, gs))) ∧ 0 ≤ i ∧ mv_in i ∧ i.toNat < fs.length ∧ f = (pc, L, S', (h.1.set r (.inr (.inl (3, fs.set i.toNat (some q)))), h.2)) := by
  unfold mv_aast at e
  split at e
  · rename_i q i r S'
    split at e
    · rename_i t fs c0 gs k0 k1
      split at e
      · rename_i hc
        obtain ⟨c1, c2, c3, c4, c5⟩ := hc
        subst c1
        subst c2
        exact ⟨q, i, r, S', fs, gs, rfl, k0, k1, c3, c4, c5, mv_nx_inv e⟩
      · cases e
    · cases e
  · cases e
theorem mv_grid_inv {pc : Nat} {L : mv_L} {S : List mv_V} {h : mv_H} {f : mv_F} (e : mv_grid pc L S h = some (.inl f)) : ∃ k n S', S = mI k :: mI n :: S' ∧ 0 ≤ k ∧ 0 ≤ n ∧ k ≤ 1000 ∧ n ≤ 1000 ∧ h.1.length ≤ 5000 ∧
    f = (pc, L, mR h.1.length :: S', (h.1 ++ (.inr (.inl (4, (List.range n.toNat).map (fun j => some (h.1.length + 1 + j)))) :: List.replicate n.toNat (.inl (0, k.toNat))), mv_new h.2 h.1.length)) := by
  unfold mv_grid at e
  split at e
  · rename_i k n S'
    split at e
    · rename_i hc
      exact ⟨k, n, S', rfl, hc.1, hc.2.1, hc.2.2.1, hc.2.2.2.1, hc.2.2.2.2, mv_nx_inv e⟩
    · cases e
  · cases e
theorem mv_newa_inv {t pc : Nat} {L : mv_L} {S : List mv_V} {h : mv_H} {f : mv_F} (e : mv_newa t pc L S h = some (.inl f)) : ∃ n S', S = mI n :: S' ∧ 0 ≤ n ∧ n ≤ 1000 ∧ h.1.length ≤ 5000 ∧ f = (pc, L, mR h.1.length :: S', (h.1 ++ [.inl (t, n.toNat)], mv_new h.2 h.1.length)) := by
  unfold mv_newa at e
  split at e
  · rename_i n S'
    split at e
    · rename_i hc
      exact ⟨n, S', rfl, hc.1, hc.2.1, hc.2.2, mv_nx_inv e⟩
    · cases e
  · cases e
theorem mv_newq_inv {pc : Nat} {L : mv_L} {S : List mv_V} {h : mv_H} {f : mv_F} (e : mv_newq pc L S h = some (.inl f)) : ∃ n S', S = mI n :: S' ∧ 0 ≤ n ∧ n ≤ 1000 ∧ h.1.length ≤ 5000 ∧ f = (pc, L, mR h.1.length :: S', (h.1 ++ [.inr (.inl (3, List.replicate n.toNat none))], mv_new h.2 h.1.length)) := by
  unfold mv_newq at e
  split at e
  · rename_i n S'
    split at e
    · rename_i hc
      exact ⟨n, S', rfl, hc.1, hc.2.1, hc.2.2, mv_nx_inv e⟩
    · cases e
  · cases e
