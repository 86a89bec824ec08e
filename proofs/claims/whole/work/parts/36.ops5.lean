/-! THE CALLS: trace, knows -/
section YE
variable {sc : Nat × (Nat → Int)} {d c : Nat} {M : mv_M}
theorem b_trace (h : R c M) : xC sc 30 n_MV_trace [mR 0] M (fun r1 M1 => xC sc 30 n_Mod_trace [mR 143] M1 (fun r2 M2 => (r1 = some (mL (M 132 2)) ∧ r2 = some (mL (M 132 2))) ∧ R (c + 1) M2)) := by
  refine xC_in rfl rfl (by simp; decide) ?_
  iterate 2 (first | refine xG_getI rfl (by exact rfl) (by exact rfl) ?_ | refine xG_getR rfl (by exact rfl) (by exact rfl) ?_ | refine xG_add rfl ?_ | refine xG_sub rfl ?_ | refine xG_mul rfl ?_ | refine xG_putI rfl (by exact rfl) (by exact rfl) ?_ | refine xG_go (fun _ => rfl) ?_)
  refine xG_getL rfl (by exact rfl) (by exact rfl) ?_
  refine xG_ret (fun _ => rfl) ?_
  refine xC_in rfl rfl (by simp; decide) ?_
  iterate 1 (first | refine xG_getI rfl (by exact rfl) (by exact rfl) ?_ | refine xG_getR rfl (by exact rfl) (by exact rfl) ?_ | refine xG_add rfl ?_ | refine xG_sub rfl ?_ | refine xG_mul rfl ?_ | refine xG_putI rfl (by exact rfl) (by exact rfl) ?_ | refine xG_go (fun _ => rfl) ?_)
  refine xG_getL rfl (by exact rfl) (by exact rfl) ?_
  exact xG_ret (fun _ => rfl) ⟨⟨rfl, by rw [h.2.2.2.2.2.2.1.1]⟩, Sc_R Sc_refl h⟩
theorem c_learns {a b v : Int} {n : Nat} (hn : n < 6) (en : M 120 4 = n) : xC sc (d + 1) n_Likings_learns [mR 120, mI a, mI b, mI v] M (fun r M' => r = none ∧ M' = mv_up (mv_up (mv_up (mv_up M 121 n a) 122 n b) 123 n v) 120 4 (n + 1)) := by
  refine xC_in rfl rfl (by simp; decide) ?_
  iterate 5 (first | refine xG_getI rfl (by exact rfl) (by exact rfl) ?_ | refine xG_getR rfl (by exact rfl) (by exact rfl) ?_ | refine xG_add rfl ?_ | refine xG_sub rfl ?_ | refine xG_mul rfl ?_ | refine xG_putI rfl (by exact rfl) (by exact rfl) ?_ | refine xG_go (fun _ => rfl) ?_)
  rw [en]
  refine xG_ast rfl (by exact rfl) (by omega) ?_
  iterate 5 (first | refine xG_getI rfl (by exact rfl) (by exact rfl) ?_ | refine xG_getR rfl (by exact rfl) (by exact rfl) ?_ | refine xG_add rfl ?_ | refine xG_sub rfl ?_ | refine xG_mul rfl ?_ | refine xG_putI rfl (by exact rfl) (by exact rfl) ?_ | refine xG_go (fun _ => rfl) ?_)
  rw [mv_upne (by decide), en]
  refine xG_ast rfl (by exact rfl) (by omega) ?_
  iterate 5 (first | refine xG_getI rfl (by exact rfl) (by exact rfl) ?_ | refine xG_getR rfl (by exact rfl) (by exact rfl) ?_ | refine xG_add rfl ?_ | refine xG_sub rfl ?_ | refine xG_mul rfl ?_ | refine xG_putI rfl (by exact rfl) (by exact rfl) ?_ | refine xG_go (fun _ => rfl) ?_)
  rw [mv_upne (by decide), mv_upne (by decide), en]
  refine xG_ast rfl (by exact rfl) (by omega) ?_
  iterate 6 (first | refine xG_getI rfl (by exact rfl) (by exact rfl) ?_ | refine xG_getR rfl (by exact rfl) (by exact rfl) ?_ | refine xG_add rfl ?_ | refine xG_sub rfl ?_ | refine xG_mul rfl ?_ | refine xG_putI rfl (by exact rfl) (by exact rfl) ?_ | refine xG_go (fun _ => rfl) ?_)
  refine xG_ret (fun _ => rfl) ⟨rfl, ?_⟩
  rw [Int.toNat_natCast]
  rw [show mv_up (mv_up (mv_up M 121 n a) 122 n b) 123 n v 120 4 = n by rw [mv_upne (by decide), mv_upne (by decide), mv_upne (by decide), en]]
theorem R_know {M' : mv_M} (h : R c M) (s : ∀ a, a ≠ 120 → a ≠ 121 → a ≠ 122 → a ≠ 123 → a ≠ 143 → a ≠ 151 → M' a = M a) (s3 : ∀ j, j ≠ 12 → M' 143 j = M 143 j) (t : Rk M') : R (c + 1) M' := by
  obtain ⟨h1, h2, h3, h4, h5, h6, h7, h8⟩ := h
  have e : ∀ a, a ≠ 120 ∧ a ≠ 121 ∧ a ≠ 122 ∧ a ≠ 123 ∧ a ≠ 143 ∧ a ≠ 151 → M' a = M a := fun a ha => s a ha.1 ha.2.1 ha.2.2.1 ha.2.2.2.1 ha.2.2.2.2.1 ha.2.2.2.2.2
  exact ⟨Sl_Rl ⟨fun a _ _ => e a (by omega), fun a _ _ => e a (by omega), s3 _ (by omega), s3 _ (by omega), s3 _ (by omega), s3 _ (by omega)⟩ h1, S_Rd (e _ (by omega)) (fun a _ _ => e a (by omega)) (e _ (by omega)) h2, S_Rh (e _ (by omega)) (e _ (by omega)) (fun a _ _ => e a (by omega)) (e _ (by omega)) (s3 _ (by omega)) h3, S_Ri (e _ (by omega)) (e _ (by omega)) (fun a _ _ => e a (by omega)) (e _ (by omega)) (e _ (by omega)) h4, t, S_Rt (e _ (by omega)) (e _ (by omega)) (by rw [e 0 (by omega)]) (s3 _ (by omega)) h6, S_Rc (s3 _ (by omega)) (by rw [e 132 (by omega)]) h7, S_Rs (fun a _ _ => e a (by omega)) (fun a _ _ => e a (by omega)) h8⟩
theorem b_knows {a b v : Int} (ha : mv_in a) (hb : mv_in b) (hv : mv_in v) (h : R c M) : both sc 30 n_MV_knows n_Mod_knows [mI a, mI b, mI v] M c := by
  have hl := h.1.1
  obtain ⟨_, hk, e0, e1, e2, e3, e4⟩ := h.1
  have ht := hl.2.1
  obtain ⟨n, hn, f1, f2, f3⟩ := h.2.2.2.2.1
  by_cases p : (0 ≤ a ∧ a < M 4 1) ∧ (0 ≤ b ∧ b < M 4 1) ∧ (-1 ≤ v ∧ v ≤ 1)
  · obtain ⟨pa, pb, pv⟩ := p
    have b1 : ∀ {Q : Option mv_V → mv_M → Prop}, xG sc 29 y_MV_knows 34 [some (mR 0), some (mI a), some (mI b), some (mI v)] [] M Q → xC sc 30 n_MV_knows [mR 0, mI a, mI b, mI v] M Q := by
      intro Q kk
      refine xC_in rfl rfl (by simp; decide) ?_
      iterate 3 (first | refine xG_getI rfl (by exact rfl) (by exact rfl) ?_ | refine xG_getR rfl (by exact rfl) (by exact rfl) ?_ | refine xG_add rfl ?_ | refine xG_sub rfl ?_ | refine xG_mul rfl ?_ | refine xG_putI rfl (by exact rfl) (by exact rfl) ?_ | refine xG_go (fun _ => rfl) ?_)
      refine xV2 rfl (by exact rfl) (by simp) (c_hasTune ha hl) (fun r M' hq => ?_)
      obtain ⟨rfl, rfl⟩ := hq
      rw [if_pos pa]
      refine xe1 rfl ?_
      iterate 3 (first | refine xG_getI rfl (by exact rfl) (by exact rfl) ?_ | refine xG_getR rfl (by exact rfl) (by exact rfl) ?_ | refine xG_add rfl ?_ | refine xG_sub rfl ?_ | refine xG_mul rfl ?_ | refine xG_putI rfl (by exact rfl) (by exact rfl) ?_ | refine xG_go (fun _ => rfl) ?_)
      refine xV2 rfl (by exact rfl) (by simp) (c_hasTune hb hl) (fun r M' hq => ?_)
      obtain ⟨rfl, rfl⟩ := hq
      rw [if_pos pb]
      refine xe1 rfl ?_
      iterate 2 (first | refine xG_getI rfl (by exact rfl) (by exact rfl) ?_ | refine xG_getR rfl (by exact rfl) (by exact rfl) ?_ | refine xG_add rfl ?_ | refine xG_sub rfl ?_ | refine xG_mul rfl ?_ | refine xG_putI rfl (by exact rfl) (by exact rfl) ?_ | refine xG_go (fun _ => rfl) ?_)
      refine xb_lt rfl hv (by decide) (fun c1 => absurd c1 (by omega)) (fun _ => ?_)
      iterate 2 (first | refine xG_getI rfl (by exact rfl) (by exact rfl) ?_ | refine xG_getR rfl (by exact rfl) (by exact rfl) ?_ | refine xG_add rfl ?_ | refine xG_sub rfl ?_ | refine xG_mul rfl ?_ | refine xG_putI rfl (by exact rfl) (by exact rfl) ?_ | refine xG_go (fun _ => rfl) ?_)
      refine xb_le rfl hv (by decide) (fun _ => ?_) (fun c1 => absurd pv.2 (by omega))
      exact kk
    have b2 : ∀ {N : mv_M} {Q : Option mv_V → mv_M → Prop}, mok N → N 143 1 = M 4 1 → xG sc 29 y_Mod_knows 27 [some (mR 143), some (mI a), some (mI b), some (mI v)] [] N Q → xC sc 30 n_Mod_knows [mR 143, mI a, mI b, mI v] N Q := by
      intro N Q hN eN kk
      refine xC_in rfl rfl (by simp; decide) ?_
      iterate 2 (first | refine xG_getI rfl (by exact rfl) (by exact rfl) ?_ | refine xG_getR rfl (by exact rfl) (by exact rfl) ?_ | refine xG_add rfl ?_ | refine xG_sub rfl ?_ | refine xG_mul rfl ?_ | refine xG_putI rfl (by exact rfl) (by exact rfl) ?_ | refine xG_go (fun _ => rfl) ?_)
      refine xV2 rfl (by exact rfl) (by simp) (m_isTune ha hN) (fun r M' hq => ?_)
      obtain ⟨rfl, rfl⟩ := hq
      rw [b01_t (by omega)]
      refine xe1 rfl ?_
      iterate 2 (first | refine xG_getI rfl (by exact rfl) (by exact rfl) ?_ | refine xG_getR rfl (by exact rfl) (by exact rfl) ?_ | refine xG_add rfl ?_ | refine xG_sub rfl ?_ | refine xG_mul rfl ?_ | refine xG_putI rfl (by exact rfl) (by exact rfl) ?_ | refine xG_go (fun _ => rfl) ?_)
      refine xV2 rfl (by exact rfl) (by simp) (m_isTune hb hN) (fun r M' hq => ?_)
      obtain ⟨rfl, rfl⟩ := hq
      rw [b01_t (by omega)]
      refine xe1 rfl ?_
      iterate 3 (first | refine xG_getI rfl (by exact rfl) (by exact rfl) ?_ | refine xG_getR rfl (by exact rfl) (by exact rfl) ?_ | refine xG_add rfl ?_ | refine xG_sub rfl ?_ | refine xG_mul rfl ?_ | refine xG_putI rfl (by exact rfl) (by exact rfl) ?_ | refine xG_go (fun _ => rfl) ?_)
      refine xS3 rfl (by decide) (by simp) (m_in hv (by decide) (by decide)) (fun r M' hq => ?_)
      obtain ⟨rfl, rfl⟩ := hq
      rw [b01_t pv]
      refine xn1 rfl ?_
      exact kk
    by_cases q : n < 6
    · have k1 : xC sc 30 n_MV_knows [mR 0, mI a, mI b, mI v] M (fun r M' => r = some (mI (n + 1)) ∧ M' = mv_up (mv_up (mv_up (mv_up M 121 n a) 122 n b) 123 n v) 120 4 (n + 1)) := by
        refine b1 ?_
        iterate 4 (first | refine xG_getI rfl (by exact rfl) (by exact rfl) ?_ | refine xG_getR rfl (by exact rfl) (by exact rfl) ?_ | refine xG_add rfl ?_ | refine xG_sub rfl ?_ | refine xG_mul rfl ?_ | refine xG_putI rfl (by exact rfl) (by exact rfl) ?_ | refine xG_go (fun _ => rfl) ?_)
        rw [f1]
        refine xb_lt rfl (by omega) (by decide) (fun _ => ?_) (fun c1 => absurd c1 (by omega))
        iterate 5 (first | refine xG_getI rfl (by exact rfl) (by exact rfl) ?_ | refine xG_getR rfl (by exact rfl) (by exact rfl) ?_ | refine xG_add rfl ?_ | refine xG_sub rfl ?_ | refine xG_mul rfl ?_ | refine xG_putI rfl (by exact rfl) (by exact rfl) ?_ | refine xG_go (fun _ => rfl) ?_)
        refine xV4 rfl (by exact rfl) (by simp) (c_learns q f1) (fun r M' hq => ?_)
        obtain ⟨rfl, rfl⟩ := hq
        iterate 3 (first | refine xG_getI rfl (by exact rfl) (by exact rfl) ?_ | refine xG_getR rfl (by exact rfl) (by exact rfl) ?_ | refine xG_add rfl ?_ | refine xG_sub rfl ?_ | refine xG_mul rfl ?_ | refine xG_putI rfl (by exact rfl) (by exact rfl) ?_ | refine xG_go (fun _ => rfl) ?_)
        exact xG_ret (fun _ => rfl) ⟨by rw [mv_up_at], rfl⟩
      refine xC_mono k1 (fun r1 M1 hq => ?_)
      obtain ⟨rfl, e⟩ := hq
      have s1 : ∀ a, a ≠ 120 ∧ a ≠ 121 ∧ a ≠ 122 ∧ a ≠ 123 → M1 a = M a := fun a ha => by rw [e, mv_upne ha.1, mv_upne ha.2.2.2, mv_upne ha.2.2.1, mv_upne ha.2.1]
      have g2 : M1 143 12 = n := by rw [s1 143 (by decide), f2]
      have hk1 : mok M1 := Sl_mok ⟨fun a _ _ => s1 a (by omega), fun a _ _ => s1 a (by omega), by rw [s1 143 (by decide)], by rw [s1 143 (by decide)], by rw [s1 143 (by decide)], by rw [s1 143 (by decide)]⟩ hk
      have k2 : xC sc 30 n_Mod_knows [mR 143, mI a, mI b, mI v] M1 (fun r M' => r = some (mI (n + 1)) ∧ M' = mv_up (mv_up (mv_up (mv_up M1 151 (3 * n) a) 151 (3 * n + 1) b) 151 (3 * n + 2) v) 143 12 (n + 1)) := by
        refine b2 hk1 (by rw [s1 143 (by decide), e1]) ?_
        iterate 3 (first | refine xG_getI rfl (by exact rfl) (by exact rfl) ?_ | refine xG_getR rfl (by exact rfl) (by exact rfl) ?_ | refine xG_add rfl ?_ | refine xG_sub rfl ?_ | refine xG_mul rfl ?_ | refine xG_putI rfl (by exact rfl) (by exact rfl) ?_ | refine xG_go (fun _ => rfl) ?_)
        rw [g2]
        refine xb_ne rfl (by omega) (by decide) (fun _ => ?_) (fun c1 => absurd c1 (by omega))
        iterate 7 (first | refine xG_getI rfl (by exact rfl) (by exact rfl) ?_ | refine xG_getR rfl (by exact rfl) (by exact rfl) ?_ | refine xG_add rfl ?_ | refine xG_sub rfl ?_ | refine xG_mul rfl ?_ | refine xG_putI rfl (by exact rfl) (by exact rfl) ?_ | refine xG_go (fun _ => rfl) ?_)
        rw [g2]
        refine xG_ast rfl (by exact rfl) (by omega) ?_
        iterate 9 (first | refine xG_getI rfl (by exact rfl) (by exact rfl) ?_ | refine xG_getR rfl (by exact rfl) (by exact rfl) ?_ | refine xG_add rfl ?_ | refine xG_sub rfl ?_ | refine xG_mul rfl ?_ | refine xG_putI rfl (by exact rfl) (by exact rfl) ?_ | refine xG_go (fun _ => rfl) ?_)
        rw [mv_upne (show 143 ≠ 151 by decide), g2]
        refine xG_ast rfl (by exact rfl) (by omega) ?_
        iterate 9 (first | refine xG_getI rfl (by exact rfl) (by exact rfl) ?_ | refine xG_getR rfl (by exact rfl) (by exact rfl) ?_ | refine xG_add rfl ?_ | refine xG_sub rfl ?_ | refine xG_mul rfl ?_ | refine xG_putI rfl (by exact rfl) (by exact rfl) ?_ | refine xG_go (fun _ => rfl) ?_)
        rw [mv_upne (show 143 ≠ 151 by decide), mv_upne (show 143 ≠ 151 by decide), g2]
        refine xG_ast rfl (by exact rfl) (by omega) ?_
        rw [show ((3 : Int) * (n : Int)).toNat = 3 * n by omega, show ((3 : Int) * (n : Int) + 1).toNat = 3 * n + 1 by omega, show ((3 : Int) * (n : Int) + 2).toNat = 3 * n + 2 by omega]
        iterate 8 (first | refine xG_getI rfl (by exact rfl) (by exact rfl) ?_ | refine xG_getR rfl (by exact rfl) (by exact rfl) ?_ | refine xG_add rfl ?_ | refine xG_sub rfl ?_ | refine xG_mul rfl ?_ | refine xG_putI rfl (by exact rfl) (by exact rfl) ?_ | refine xG_go (fun _ => rfl) ?_)
        refine xG_ret (fun _ => rfl) ?_
        rw [mv_up_at, mv_upne (show 143 ≠ 151 by decide), mv_upne (show 143 ≠ 151 by decide), mv_upne (show 143 ≠ 151 by decide), g2]
        exact ⟨rfl, rfl⟩
      refine xC_mono k2 (fun r2 M2 hq => ?_)
      obtain ⟨rfl, ee⟩ := hq
      have s2 : ∀ a, a ≠ 143 ∧ a ≠ 151 → M2 a = M1 a := fun a ha => by rw [ee, mv_upne ha.1, mv_upne ha.2, mv_upne ha.2, mv_upne ha.2]
      have t1 : ∀ i, M2 121 i = if i = n then a else M 121 i := fun i => by
        rw [s2 121 (by decide), e, mv_upne (by decide), mv_upne (by decide), mv_upne (by decide)]
        by_cases w : i = n
        · rw [w, mv_up_at, if_pos rfl]
        · rw [mv_up_j w, if_neg w]
      have t2 : ∀ i, M2 122 i = if i = n then b else M 122 i := fun i => by
        rw [s2 122 (by decide), e, mv_upne (by decide), mv_upne (by decide)]
        by_cases w : i = n
        · rw [w, mv_up_at, if_pos rfl]
        · rw [mv_up_j w, if_neg w, mv_upne (by decide)]
      have t3 : ∀ i, M2 123 i = if i = n then v else M 123 i := fun i => by
        rw [s2 123 (by decide), e, mv_upne (by decide)]
        by_cases w : i = n
        · rw [w, mv_up_at, if_pos rfl]
        · rw [mv_up_j w, if_neg w, mv_upne (by decide), mv_upne (by decide)]
      have t4 : ∀ k, M2 151 k = if k = 3 * n + 2 then v else if k = 3 * n + 1 then b else if k = 3 * n then a else M 151 k := fun k => by
        rw [ee, mv_upne (by decide)]
        by_cases w : k = 3 * n + 2
        · rw [w, mv_up_at, if_pos rfl]
        · rw [mv_up_j w, if_neg w]
          by_cases w : k = 3 * n + 1
          · rw [w, mv_up_at, if_pos rfl]
          · rw [mv_up_j w, if_neg w]
            by_cases w : k = 3 * n
            · rw [w, mv_up_at, if_pos rfl]
            · rw [mv_up_j w, if_neg w, s1 151 (by decide)]
      refine ⟨⟨_, by omega, rfl, rfl⟩, R_know h (fun a h1 h2 h3 h4 h5 h6 => ?_) (fun j hj => ?_) ⟨n + 1, by omega, ?_, ?_, fun i hi => ?_⟩⟩
      · rw [s2 a ⟨h5, h6⟩, s1 a ⟨h1, h2, h3, h4⟩]
      · rw [ee, mv_up_j hj, mv_upne (by decide), mv_upne (by decide), mv_upne (by decide), s1 143 (by decide)]
      · rw [s2 120 (by decide), e, mv_up_at]; rfl
      · rw [ee, mv_up_at]; rfl
      · rw [t1, t2, t3, t4, t4, t4, s2 4 (by decide), s1 4 (by decide)]
        by_cases w : i = n
        · subst w
          rw [if_pos rfl, if_pos rfl, if_pos rfl, if_neg (show ¬ 3 * i = 3 * i + 2 by omega), if_neg (show ¬ 3 * i = 3 * i + 1 by omega), if_pos rfl, if_neg (show ¬ 3 * i + 1 = 3 * i + 2 by omega), if_pos rfl, if_pos rfl]
          exact ⟨pa, pb, pv, rfl, rfl, rfl⟩
        · rw [if_neg w, if_neg w, if_neg w, if_neg (by omega), if_neg (by omega), if_neg (by omega), if_neg (by omega), if_neg (by omega), if_neg (by omega), if_neg (by omega), if_neg (by omega), if_neg (by omega)]
          exact f3 i (by omega)
    · refine both_of (z := -3) (by decide) h (b1 ?_) (b2 hk e1 ?_)
      · iterate 4 (first | refine xG_getI rfl (by exact rfl) (by exact rfl) ?_ | refine xG_getR rfl (by exact rfl) (by exact rfl) ?_ | refine xG_add rfl ?_ | refine xG_sub rfl ?_ | refine xG_mul rfl ?_ | refine xG_putI rfl (by exact rfl) (by exact rfl) ?_ | refine xG_go (fun _ => rfl) ?_)
        rw [f1]
        refine xb_lt rfl (by omega) (by decide) (fun c1 => absurd c1 (by omega)) (fun _ => ?_)
        iterate 1 (first | refine xG_getI rfl (by exact rfl) (by exact rfl) ?_ | refine xG_getR rfl (by exact rfl) (by exact rfl) ?_ | refine xG_add rfl ?_ | refine xG_sub rfl ?_ | refine xG_mul rfl ?_ | refine xG_putI rfl (by exact rfl) (by exact rfl) ?_ | refine xG_go (fun _ => rfl) ?_)
        exact xG_ret (fun _ => rfl) ⟨rfl, rfl⟩
      · iterate 3 (first | refine xG_getI rfl (by exact rfl) (by exact rfl) ?_ | refine xG_getR rfl (by exact rfl) (by exact rfl) ?_ | refine xG_add rfl ?_ | refine xG_sub rfl ?_ | refine xG_mul rfl ?_ | refine xG_putI rfl (by exact rfl) (by exact rfl) ?_ | refine xG_go (fun _ => rfl) ?_)
        rw [f2]
        refine xb_ne rfl (by omega) (by decide) (fun c1 => absurd c1 (by omega)) (fun _ => ?_)
        iterate 1 (first | refine xG_getI rfl (by exact rfl) (by exact rfl) ?_ | refine xG_getR rfl (by exact rfl) (by exact rfl) ?_ | refine xG_add rfl ?_ | refine xG_sub rfl ?_ | refine xG_mul rfl ?_ | refine xG_putI rfl (by exact rfl) (by exact rfl) ?_ | refine xG_go (fun _ => rfl) ?_)
        exact xG_ret (fun _ => rfl) ⟨Sc_refl, rfl⟩
  · refine both_of (z := -1) (by decide) h ?_ ?_
    · refine xC_in rfl rfl (by simp; decide) ?_
      iterate 3 (first | refine xG_getI rfl (by exact rfl) (by exact rfl) ?_ | refine xG_getR rfl (by exact rfl) (by exact rfl) ?_ | refine xG_add rfl ?_ | refine xG_sub rfl ?_ | refine xG_mul rfl ?_ | refine xG_putI rfl (by exact rfl) (by exact rfl) ?_ | refine xG_go (fun _ => rfl) ?_)
      refine xV2 rfl (by exact rfl) (by simp) (c_hasTune ha hl) (fun r M' hq => ?_)
      obtain ⟨rfl, rfl⟩ := hq
      by_cases pa : 0 ≤ a ∧ a < M 4 1
      · rw [if_pos pa]
        refine xe1 rfl ?_
        iterate 3 (first | refine xG_getI rfl (by exact rfl) (by exact rfl) ?_ | refine xG_getR rfl (by exact rfl) (by exact rfl) ?_ | refine xG_add rfl ?_ | refine xG_sub rfl ?_ | refine xG_mul rfl ?_ | refine xG_putI rfl (by exact rfl) (by exact rfl) ?_ | refine xG_go (fun _ => rfl) ?_)
        refine xV2 rfl (by exact rfl) (by simp) (c_hasTune hb hl) (fun r M' hq => ?_)
        obtain ⟨rfl, rfl⟩ := hq
        by_cases pb : 0 ≤ b ∧ b < M 4 1
        · rw [if_pos pb]
          refine xe1 rfl ?_
          iterate 2 (first | refine xG_getI rfl (by exact rfl) (by exact rfl) ?_ | refine xG_getR rfl (by exact rfl) (by exact rfl) ?_ | refine xG_add rfl ?_ | refine xG_sub rfl ?_ | refine xG_mul rfl ?_ | refine xG_putI rfl (by exact rfl) (by exact rfl) ?_ | refine xG_go (fun _ => rfl) ?_)
          refine xb_lt rfl hv (by decide) (fun c1 => ?_) (fun c1 => ?_)
          · iterate 1 (first | refine xG_getI rfl (by exact rfl) (by exact rfl) ?_ | refine xG_getR rfl (by exact rfl) (by exact rfl) ?_ | refine xG_add rfl ?_ | refine xG_sub rfl ?_ | refine xG_mul rfl ?_ | refine xG_putI rfl (by exact rfl) (by exact rfl) ?_ | refine xG_go (fun _ => rfl) ?_)
            exact xG_ret (fun _ => rfl) ⟨rfl, rfl⟩
          · iterate 2 (first | refine xG_getI rfl (by exact rfl) (by exact rfl) ?_ | refine xG_getR rfl (by exact rfl) (by exact rfl) ?_ | refine xG_add rfl ?_ | refine xG_sub rfl ?_ | refine xG_mul rfl ?_ | refine xG_putI rfl (by exact rfl) (by exact rfl) ?_ | refine xG_go (fun _ => rfl) ?_)
            refine xb_le rfl hv (by decide) (fun c2 => absurd c2 (by omega)) (fun c2 => ?_)
            iterate 1 (first | refine xG_getI rfl (by exact rfl) (by exact rfl) ?_ | refine xG_getR rfl (by exact rfl) (by exact rfl) ?_ | refine xG_add rfl ?_ | refine xG_sub rfl ?_ | refine xG_mul rfl ?_ | refine xG_putI rfl (by exact rfl) (by exact rfl) ?_ | refine xG_go (fun _ => rfl) ?_)
            exact xG_ret (fun _ => rfl) ⟨rfl, rfl⟩
        · rw [if_neg pb]
          refine xe0 rfl ?_
          iterate 1 (first | refine xG_getI rfl (by exact rfl) (by exact rfl) ?_ | refine xG_getR rfl (by exact rfl) (by exact rfl) ?_ | refine xG_add rfl ?_ | refine xG_sub rfl ?_ | refine xG_mul rfl ?_ | refine xG_putI rfl (by exact rfl) (by exact rfl) ?_ | refine xG_go (fun _ => rfl) ?_)
          exact xG_ret (fun _ => rfl) ⟨rfl, rfl⟩
      · rw [if_neg pa]
        refine xe0 rfl ?_
        iterate 1 (first | refine xG_getI rfl (by exact rfl) (by exact rfl) ?_ | refine xG_getR rfl (by exact rfl) (by exact rfl) ?_ | refine xG_add rfl ?_ | refine xG_sub rfl ?_ | refine xG_mul rfl ?_ | refine xG_putI rfl (by exact rfl) (by exact rfl) ?_ | refine xG_go (fun _ => rfl) ?_)
        exact xG_ret (fun _ => rfl) ⟨rfl, rfl⟩
    · refine xC_in rfl rfl (by simp; decide) ?_
      iterate 2 (first | refine xG_getI rfl (by exact rfl) (by exact rfl) ?_ | refine xG_getR rfl (by exact rfl) (by exact rfl) ?_ | refine xG_add rfl ?_ | refine xG_sub rfl ?_ | refine xG_mul rfl ?_ | refine xG_putI rfl (by exact rfl) (by exact rfl) ?_ | refine xG_go (fun _ => rfl) ?_)
      refine xV2 rfl (by exact rfl) (by simp) (m_isTune ha hk) (fun r M' hq => ?_)
      obtain ⟨rfl, rfl⟩ := hq
      by_cases pa : 0 ≤ a ∧ a ≤ M 143 1 - 1
      · rw [b01_t pa]
        refine xe1 rfl ?_
        iterate 2 (first | refine xG_getI rfl (by exact rfl) (by exact rfl) ?_ | refine xG_getR rfl (by exact rfl) (by exact rfl) ?_ | refine xG_add rfl ?_ | refine xG_sub rfl ?_ | refine xG_mul rfl ?_ | refine xG_putI rfl (by exact rfl) (by exact rfl) ?_ | refine xG_go (fun _ => rfl) ?_)
        refine xV2 rfl (by exact rfl) (by simp) (m_isTune hb hk) (fun r M' hq => ?_)
        obtain ⟨rfl, rfl⟩ := hq
        by_cases pb : 0 ≤ b ∧ b ≤ M 143 1 - 1
        · rw [b01_t pb]
          refine xe1 rfl ?_
          iterate 3 (first | refine xG_getI rfl (by exact rfl) (by exact rfl) ?_ | refine xG_getR rfl (by exact rfl) (by exact rfl) ?_ | refine xG_add rfl ?_ | refine xG_sub rfl ?_ | refine xG_mul rfl ?_ | refine xG_putI rfl (by exact rfl) (by exact rfl) ?_ | refine xG_go (fun _ => rfl) ?_)
          refine xS3 rfl (by decide) (by simp) (m_in hv (by decide) (by decide)) (fun r M' hq => ?_)
          obtain ⟨rfl, rfl⟩ := hq
          rw [b01_f (by omega)]
          refine xn0 rfl ?_
          iterate 1 (first | refine xG_getI rfl (by exact rfl) (by exact rfl) ?_ | refine xG_getR rfl (by exact rfl) (by exact rfl) ?_ | refine xG_add rfl ?_ | refine xG_sub rfl ?_ | refine xG_mul rfl ?_ | refine xG_putI rfl (by exact rfl) (by exact rfl) ?_ | refine xG_go (fun _ => rfl) ?_)
          exact xG_ret (fun _ => rfl) ⟨Sc_refl, rfl⟩
        · rw [b01_f pb]
          refine xe0 rfl ?_
          iterate 1 (first | refine xG_getI rfl (by exact rfl) (by exact rfl) ?_ | refine xG_getR rfl (by exact rfl) (by exact rfl) ?_ | refine xG_add rfl ?_ | refine xG_sub rfl ?_ | refine xG_mul rfl ?_ | refine xG_putI rfl (by exact rfl) (by exact rfl) ?_ | refine xG_go (fun _ => rfl) ?_)
          exact xG_ret (fun _ => rfl) ⟨Sc_refl, rfl⟩
      · rw [b01_f pa]
        refine xe0 rfl ?_
        iterate 1 (first | refine xG_getI rfl (by exact rfl) (by exact rfl) ?_ | refine xG_getR rfl (by exact rfl) (by exact rfl) ?_ | refine xG_add rfl ?_ | refine xG_sub rfl ?_ | refine xG_mul rfl ?_ | refine xG_putI rfl (by exact rfl) (by exact rfl) ?_ | refine xG_go (fun _ => rfl) ?_)
        exact xG_ret (fun _ => rfl) ⟨Sc_refl, rfl⟩
end YE
