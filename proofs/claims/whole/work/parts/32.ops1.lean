/-! THE CALLS, one by one: type, clear, like, organ, count, forget -/
section YA
variable {sc : Nat × (Nat → Int)} {d c : Nat} {M : mv_M}
theorem xG_i2c {y : mv_Y} {pc : Nat} {L : mv_L} {S : List mv_V} {Q : Option mv_V → mv_M → Prop} {a b len : Nat} {z0 x : Int} (hf : mv_find y.2.2 pc = some (.i2c, len, a, b, z0)) (hx : 0 ≤ x ∧ x ≤ 65535) (kk : xG sc d y (pc + len) L (mI x :: S) M Q) : xG sc d y pc L (mI x :: S) M Q := by
  refine xG_by hf (fun call => ?_) kk
  simp only [mv_stp]
  rw [if_pos hx]
  rfl
theorem xe1 {y : mv_Y} {pc : Nat} {L : mv_L} {S : List mv_V} {Q : Option mv_V → mv_M → Prop} {o : Int} {a b len : Nat} {z0 : Int} (hf : mv_find y.2.2 pc = some (.ifCond .eq o, len, a, b, z0)) (k : xG sc d y (pc + len) L S M Q) : xG sc d y pc L (mI 1 :: S) M Q := xi_eq hf (by decide) (fun c => absurd c (by decide)) (fun _ => k)
theorem xe0 {y : mv_Y} {pc : Nat} {L : mv_L} {S : List mv_V} {Q : Option mv_V → mv_M → Prop} {o : Int} {a b len : Nat} {z0 : Int} (hf : mv_find y.2.2 pc = some (.ifCond .eq o, len, a, b, z0)) (k : xG sc d y a L S M Q) : xG sc d y pc L (mI 0 :: S) M Q := xi_eq hf (by decide) (fun _ => k) (fun c => absurd rfl c)
theorem xn1 {y : mv_Y} {pc : Nat} {L : mv_L} {S : List mv_V} {Q : Option mv_V → mv_M → Prop} {o : Int} {a b len : Nat} {z0 : Int} (hf : mv_find y.2.2 pc = some (.ifCond .ne o, len, a, b, z0)) (k : xG sc d y a L S M Q) : xG sc d y pc L (mI 1 :: S) M Q := xi_ne hf (by decide) (fun _ => k) (fun c => absurd c (by decide))
theorem xn0 {y : mv_Y} {pc : Nat} {L : mv_L} {S : List mv_V} {Q : Option mv_V → mv_M → Prop} {o : Int} {a b len : Nat} {z0 : Int} (hf : mv_find y.2.2 pc = some (.ifCond .ne o, len, a, b, z0)) (k : xG sc d y (pc + len) L S M Q) : xG sc d y pc L (mI 0 :: S) M Q := xi_ne hf (by decide) (fun c => absurd rfl c) (fun _ => k)
theorem b01_mv {p : Prop} [Decidable p] : mv_in (b01 p) := by
  rcases b01_in (p := p) with h | h <;> rw [h] <;> decide
/-- only the text has changed -/
theorem R_text {c : Nat} {M' : mv_M} (h : R c M) (s : ∀ a, a ≠ 0 → a ≠ 1 → a ≠ 143 → a ≠ 152 → M' a = M a) (s3 : ∀ j, j ≠ 16 → M' 143 j = M 143 j) (t : Rt M') : R (c + 1) M' := by
  obtain ⟨h1, h2, h3, h4, h5, h6, h7, h8⟩ := h
  have e : ∀ a, a ≠ 0 ∧ a ≠ 1 ∧ a ≠ 143 ∧ a ≠ 152 → M' a = M a := fun a ha => s a ha.1 ha.2.1 ha.2.2.1 ha.2.2.2
  refine ⟨Sl_Rl ⟨fun a _ _ => e a (by omega), fun a _ _ => e a (by omega), s3 _ (by omega), s3 _ (by omega), s3 _ (by omega), s3 _ (by omega)⟩ h1, S_Rd (e _ (by omega)) (fun a _ _ => e a (by omega)) (e _ (by omega)) h2, S_Rh (e _ (by omega)) (e _ (by omega)) (fun a _ _ => e a (by omega)) (e _ (by omega)) (s3 _ (by omega)) h3, S_Ri (e _ (by omega)) (e _ (by omega)) (fun a _ _ => e a (by omega)) (e _ (by omega)) (e _ (by omega)) h4, S_Rk (e _ (by omega)) (e _ (by omega)) (e _ (by omega)) (e _ (by omega)) (e _ (by omega)) (by rw [e 120 (by omega)]) (s3 _ (by omega)) h5, t, S_Rc (s3 _ (by omega)) (by rw [e 132 (by omega)]) h7, S_Rs (fun a _ _ => e a (by omega)) (fun a _ _ => e a (by omega)) h8⟩
theorem b_type {x : Int} (hx : mv_in x) (h : R c M) : both sc 30 n_MV_type n_Mod_type [mI x] M c := by
  obtain ⟨n, hn, e1, e2, e3⟩ := h.2.2.2.2.2.1
  by_cases p : 0 ≤ x ∧ x ≤ 255
  · by_cases q : n < 150
    · have k1 : xC sc 30 n_MV_type [mR 0, mI x] M (fun r M' => r = some (mI (n + 1)) ∧ M' = mv_up (mv_up M 1 n x) 0 1 (n + 1)) := by
        refine xC_in rfl rfl (by simp; decide) ?_
        iterate 1 (first | refine xG_getI rfl (by exact rfl) (by exact rfl) ?_ | refine xG_getR rfl (by exact rfl) (by exact rfl) ?_ | refine xG_add rfl ?_ | refine xG_sub rfl ?_ | refine xG_mul rfl ?_ | refine xG_putI rfl (by exact rfl) (by exact rfl) ?_ | refine xG_go (fun _ => rfl) ?_)
        refine xi_lt rfl hx (fun c1 => absurd c1 (by omega)) (fun _ => ?_)
        iterate 2 (first | refine xG_getI rfl (by exact rfl) (by exact rfl) ?_ | refine xG_getR rfl (by exact rfl) (by exact rfl) ?_ | refine xG_add rfl ?_ | refine xG_sub rfl ?_ | refine xG_mul rfl ?_ | refine xG_putI rfl (by exact rfl) (by exact rfl) ?_ | refine xG_go (fun _ => rfl) ?_)
        refine xb_le rfl hx (by omega) (fun _ => ?_) (fun c1 => absurd p.2 (by omega))
        iterate 3 (first | refine xG_getI rfl (by exact rfl) (by exact rfl) ?_ | refine xG_getR rfl (by exact rfl) (by exact rfl) ?_ | refine xG_add rfl ?_ | refine xG_sub rfl ?_ | refine xG_mul rfl ?_ | refine xG_putI rfl (by exact rfl) (by exact rfl) ?_ | refine xG_go (fun _ => rfl) ?_)
        rw [e1]
        refine xb_lt rfl (by omega) (by omega) (fun _ => ?_) (fun c1 => absurd c1 (by omega))
        iterate 5 (first | refine xG_getI rfl (by exact rfl) (by exact rfl) ?_ | refine xG_getR rfl (by exact rfl) (by exact rfl) ?_ | refine xG_add rfl ?_ | refine xG_sub rfl ?_ | refine xG_mul rfl ?_ | refine xG_putI rfl (by exact rfl) (by exact rfl) ?_ | refine xG_go (fun _ => rfl) ?_)
        refine xG_i2c rfl (by omega) ?_
        rw [e1]
        refine xG_cast rfl (by exact rfl) (by omega) (by omega) ?_
        iterate 8 (first | refine xG_getI rfl (by exact rfl) (by exact rfl) ?_ | refine xG_getR rfl (by exact rfl) (by exact rfl) ?_ | refine xG_add rfl ?_ | refine xG_sub rfl ?_ | refine xG_mul rfl ?_ | refine xG_putI rfl (by exact rfl) (by exact rfl) ?_ | refine xG_go (fun _ => rfl) ?_)
        refine xG_ret (fun _ => rfl) ?_
        rw [mv_up_at, mv_upne (by decide), e1, Int.toNat_natCast]
        exact ⟨rfl, rfl⟩
      refine xC_mono k1 (fun r1 M1 hq => ?_)
      obtain ⟨rfl, e⟩ := hq
      have e4 : M1 143 16 = n := by rw [e, mv_upne (by decide), mv_upne (by decide), e2]
      have k2 : xC sc 30 n_Mod_type [mR 143, mI x] M1 (fun r M' => r = some (mI (n + 1)) ∧ M' = mv_up (mv_up M1 152 n x) 143 16 (n + 1)) := by
        refine xC_in rfl rfl (by simp; decide) ?_
        iterate 3 (first | refine xG_getI rfl (by exact rfl) (by exact rfl) ?_ | refine xG_getR rfl (by exact rfl) (by exact rfl) ?_ | refine xG_add rfl ?_ | refine xG_sub rfl ?_ | refine xG_mul rfl ?_ | refine xG_putI rfl (by exact rfl) (by exact rfl) ?_ | refine xG_go (fun _ => rfl) ?_)
        refine xS3 rfl (by decide) (by simp) (m_in hx (by decide) (by decide)) (fun r M' hq => ?_)
        obtain ⟨rfl, rfl⟩ := hq
        rw [b01_t p]
        refine xn1 rfl ?_
        iterate 3 (first | refine xG_getI rfl (by exact rfl) (by exact rfl) ?_ | refine xG_getR rfl (by exact rfl) (by exact rfl) ?_ | refine xG_add rfl ?_ | refine xG_sub rfl ?_ | refine xG_mul rfl ?_ | refine xG_putI rfl (by exact rfl) (by exact rfl) ?_ | refine xG_go (fun _ => rfl) ?_)
        rw [e4]
        refine xb_ne rfl (by omega) (by omega) (fun _ => ?_) (fun c1 => absurd c1 (by omega))
        iterate 5 (first | refine xG_getI rfl (by exact rfl) (by exact rfl) ?_ | refine xG_getR rfl (by exact rfl) (by exact rfl) ?_ | refine xG_add rfl ?_ | refine xG_sub rfl ?_ | refine xG_mul rfl ?_ | refine xG_putI rfl (by exact rfl) (by exact rfl) ?_ | refine xG_go (fun _ => rfl) ?_)
        rw [e4]
        refine xG_ast rfl (by exact rfl) (by omega) ?_
        iterate 8 (first | refine xG_getI rfl (by exact rfl) (by exact rfl) ?_ | refine xG_getR rfl (by exact rfl) (by exact rfl) ?_ | refine xG_add rfl ?_ | refine xG_sub rfl ?_ | refine xG_mul rfl ?_ | refine xG_putI rfl (by exact rfl) (by exact rfl) ?_ | refine xG_go (fun _ => rfl) ?_)
        refine xG_ret (fun _ => rfl) ?_
        rw [mv_up_at, mv_upne (by decide), e4, Int.toNat_natCast]
        exact ⟨rfl, rfl⟩
      refine xC_mono k2 (fun r2 M2 hq => ?_)
      obtain ⟨rfl, rfl⟩ := hq
      refine ⟨⟨_, by omega, rfl, rfl⟩, R_text h (fun a h1 h2 h3 h4 => ?_) (fun j hj => ?_) ⟨n + 1, by omega, ?_, ?_, fun i hi => ?_⟩⟩
      · rw [mv_upne h3, mv_upne h4, e, mv_upne h1, mv_upne h2]
      · rw [mv_up_j hj, mv_upne (by decide), e, mv_upne (by decide), mv_upne (by decide)]
      · rw [mv_upne (by decide), mv_upne (by decide), e, mv_up_at]
        rfl
      · rw [mv_up_at]
        rfl
      · have f1 : mv_up (mv_up M1 152 n x) 143 16 (n + 1) 1 = mv_up M 1 n x 1 := by rw [mv_upne (by decide), mv_upne (by decide), e, mv_upne (by decide)]
        have f2 : mv_up (mv_up M1 152 n x) 143 16 (n + 1) 152 i = (if i = n then x else M 152 i) := by
          rw [mv_upne (by decide)]
          by_cases w : i = n
          · rw [w, mv_up_at, if_pos rfl]
          · rw [mv_up_j w, e, mv_upne (by decide), mv_upne (by decide), if_neg w]
        rw [f1, f2]
        by_cases w : i = n
        · rw [if_pos w, w, mv_up_at]
          exact ⟨p, rfl⟩
        · rw [if_neg w, mv_up_j w]
          exact e3 i (by omega)
    · have k1 : xC sc 30 n_MV_type [mR 0, mI x] M (fun r M' => M = M' ∧ r = some (mI (-3))) := by
        refine xC_in rfl rfl (by simp; decide) ?_
        iterate 1 (first | refine xG_getI rfl (by exact rfl) (by exact rfl) ?_ | refine xG_getR rfl (by exact rfl) (by exact rfl) ?_ | refine xG_add rfl ?_ | refine xG_sub rfl ?_ | refine xG_mul rfl ?_ | refine xG_putI rfl (by exact rfl) (by exact rfl) ?_ | refine xG_go (fun _ => rfl) ?_)
        refine xi_lt rfl hx (fun c1 => absurd c1 (by omega)) (fun _ => ?_)
        iterate 2 (first | refine xG_getI rfl (by exact rfl) (by exact rfl) ?_ | refine xG_getR rfl (by exact rfl) (by exact rfl) ?_ | refine xG_add rfl ?_ | refine xG_sub rfl ?_ | refine xG_mul rfl ?_ | refine xG_putI rfl (by exact rfl) (by exact rfl) ?_ | refine xG_go (fun _ => rfl) ?_)
        refine xb_le rfl hx (by omega) (fun _ => ?_) (fun c1 => absurd p.2 (by omega))
        iterate 3 (first | refine xG_getI rfl (by exact rfl) (by exact rfl) ?_ | refine xG_getR rfl (by exact rfl) (by exact rfl) ?_ | refine xG_add rfl ?_ | refine xG_sub rfl ?_ | refine xG_mul rfl ?_ | refine xG_putI rfl (by exact rfl) (by exact rfl) ?_ | refine xG_go (fun _ => rfl) ?_)
        rw [e1]
        refine xb_lt rfl (by omega) (by omega) (fun c1 => absurd c1 (by omega)) (fun _ => ?_)
        iterate 1 (first | refine xG_getI rfl (by exact rfl) (by exact rfl) ?_ | refine xG_getR rfl (by exact rfl) (by exact rfl) ?_ | refine xG_add rfl ?_ | refine xG_sub rfl ?_ | refine xG_mul rfl ?_ | refine xG_putI rfl (by exact rfl) (by exact rfl) ?_ | refine xG_go (fun _ => rfl) ?_)
        exact xG_ret (fun _ => rfl) ⟨rfl, rfl⟩
      refine xC_mono k1 (fun r1 M1 hq => ?_)
      obtain ⟨rfl, rfl⟩ := hq
      have k2 : xC sc 30 n_Mod_type [mR 143, mI x] M (fun r M' => M = M' ∧ r = some (mI (-3))) := by
        refine xC_in rfl rfl (by simp; decide) ?_
        iterate 3 (first | refine xG_getI rfl (by exact rfl) (by exact rfl) ?_ | refine xG_getR rfl (by exact rfl) (by exact rfl) ?_ | refine xG_add rfl ?_ | refine xG_sub rfl ?_ | refine xG_mul rfl ?_ | refine xG_putI rfl (by exact rfl) (by exact rfl) ?_ | refine xG_go (fun _ => rfl) ?_)
        refine xS3 rfl (by decide) (by simp) (m_in hx (by decide) (by decide)) (fun r M' hq => ?_)
        obtain ⟨rfl, rfl⟩ := hq
        rw [b01_t p]
        refine xn1 rfl ?_
        iterate 3 (first | refine xG_getI rfl (by exact rfl) (by exact rfl) ?_ | refine xG_getR rfl (by exact rfl) (by exact rfl) ?_ | refine xG_add rfl ?_ | refine xG_sub rfl ?_ | refine xG_mul rfl ?_ | refine xG_putI rfl (by exact rfl) (by exact rfl) ?_ | refine xG_go (fun _ => rfl) ?_)
        rw [e2]
        refine xb_ne rfl (by omega) (by omega) (fun c1 => absurd c1 (by omega)) (fun _ => ?_)
        iterate 1 (first | refine xG_getI rfl (by exact rfl) (by exact rfl) ?_ | refine xG_getR rfl (by exact rfl) (by exact rfl) ?_ | refine xG_add rfl ?_ | refine xG_sub rfl ?_ | refine xG_mul rfl ?_ | refine xG_putI rfl (by exact rfl) (by exact rfl) ?_ | refine xG_go (fun _ => rfl) ?_)
        exact xG_ret (fun _ => rfl) ⟨rfl, rfl⟩
      refine xC_mono k2 (fun r2 M2 hq => ?_)
      obtain ⟨rfl, rfl⟩ := hq
      exact ⟨⟨_, by decide, rfl, rfl⟩, Sc_R Sc_refl h⟩
  · have k1 : xC sc 30 n_MV_type [mR 0, mI x] M (fun r M' => M = M' ∧ r = some (mI (-1))) := by
      refine xC_in rfl rfl (by simp; decide) ?_
      iterate 1 (first | refine xG_getI rfl (by exact rfl) (by exact rfl) ?_ | refine xG_getR rfl (by exact rfl) (by exact rfl) ?_ | refine xG_add rfl ?_ | refine xG_sub rfl ?_ | refine xG_mul rfl ?_ | refine xG_putI rfl (by exact rfl) (by exact rfl) ?_ | refine xG_go (fun _ => rfl) ?_)
      refine xi_lt rfl hx (fun c1 => ?_) (fun _ => ?_)
      · iterate 1 (first | refine xG_getI rfl (by exact rfl) (by exact rfl) ?_ | refine xG_getR rfl (by exact rfl) (by exact rfl) ?_ | refine xG_add rfl ?_ | refine xG_sub rfl ?_ | refine xG_mul rfl ?_ | refine xG_putI rfl (by exact rfl) (by exact rfl) ?_ | refine xG_go (fun _ => rfl) ?_)
        exact xG_ret (fun _ => rfl) ⟨rfl, rfl⟩
      · iterate 2 (first | refine xG_getI rfl (by exact rfl) (by exact rfl) ?_ | refine xG_getR rfl (by exact rfl) (by exact rfl) ?_ | refine xG_add rfl ?_ | refine xG_sub rfl ?_ | refine xG_mul rfl ?_ | refine xG_putI rfl (by exact rfl) (by exact rfl) ?_ | refine xG_go (fun _ => rfl) ?_)
        refine xb_le rfl hx (by omega) (fun c1 => absurd c1 (by omega)) (fun c1 => ?_)
        iterate 1 (first | refine xG_getI rfl (by exact rfl) (by exact rfl) ?_ | refine xG_getR rfl (by exact rfl) (by exact rfl) ?_ | refine xG_add rfl ?_ | refine xG_sub rfl ?_ | refine xG_mul rfl ?_ | refine xG_putI rfl (by exact rfl) (by exact rfl) ?_ | refine xG_go (fun _ => rfl) ?_)
        exact xG_ret (fun _ => rfl) ⟨rfl, rfl⟩
    refine xC_mono k1 (fun r1 M1 hq => ?_)
    obtain ⟨rfl, rfl⟩ := hq
    have k2 : xC sc 30 n_Mod_type [mR 143, mI x] M (fun r M' => M = M' ∧ r = some (mI (-1))) := by
      refine xC_in rfl rfl (by simp; decide) ?_
      iterate 3 (first | refine xG_getI rfl (by exact rfl) (by exact rfl) ?_ | refine xG_getR rfl (by exact rfl) (by exact rfl) ?_ | refine xG_add rfl ?_ | refine xG_sub rfl ?_ | refine xG_mul rfl ?_ | refine xG_putI rfl (by exact rfl) (by exact rfl) ?_ | refine xG_go (fun _ => rfl) ?_)
      refine xS3 rfl (by decide) (by simp) (m_in hx (by decide) (by decide)) (fun r M' hq => ?_)
      obtain ⟨rfl, rfl⟩ := hq
      rw [b01_f p]
      refine xn0 rfl ?_
      iterate 1 (first | refine xG_getI rfl (by exact rfl) (by exact rfl) ?_ | refine xG_getR rfl (by exact rfl) (by exact rfl) ?_ | refine xG_add rfl ?_ | refine xG_sub rfl ?_ | refine xG_mul rfl ?_ | refine xG_putI rfl (by exact rfl) (by exact rfl) ?_ | refine xG_go (fun _ => rfl) ?_)
      exact xG_ret (fun _ => rfl) ⟨rfl, rfl⟩
    refine xC_mono k2 (fun r2 M2 hq => ?_)
    obtain ⟨rfl, rfl⟩ := hq
    exact ⟨⟨_, by decide, rfl, rfl⟩, Sc_R Sc_refl h⟩
theorem b_clear (h : R c M) : both sc 30 n_MV_clear n_Mod_clear [] M c := by
  obtain ⟨n, hn, e1, e2, e3⟩ := h.2.2.2.2.2.1
  have k1 : xC sc 30 n_MV_clear [mR 0] M (fun r M' => r = some (mI (M 0 1)) ∧ M' = mv_up M 0 1 0) := by
    refine xC_in rfl rfl (by simp; decide) ?_
    iterate 7 (first | refine xG_getI rfl (by exact rfl) (by exact rfl) ?_ | refine xG_getR rfl (by exact rfl) (by exact rfl) ?_ | refine xG_add rfl ?_ | refine xG_sub rfl ?_ | refine xG_mul rfl ?_ | refine xG_putI rfl (by exact rfl) (by exact rfl) ?_ | refine xG_go (fun _ => rfl) ?_)
    exact xG_ret (fun _ => rfl) ⟨rfl, rfl⟩
  refine xC_mono k1 (fun r1 M1 hq => ?_)
  obtain ⟨rfl, e⟩ := hq
  have k2 : xC sc 30 n_Mod_clear [mR 143] M1 (fun r M' => r = some (mI (M1 143 16)) ∧ M' = mv_up M1 143 16 0) := by
    refine xC_in rfl rfl (by simp; decide) ?_
    iterate 7 (first | refine xG_getI rfl (by exact rfl) (by exact rfl) ?_ | refine xG_getR rfl (by exact rfl) (by exact rfl) ?_ | refine xG_add rfl ?_ | refine xG_sub rfl ?_ | refine xG_mul rfl ?_ | refine xG_putI rfl (by exact rfl) (by exact rfl) ?_ | refine xG_go (fun _ => rfl) ?_)
    exact xG_ret (fun _ => rfl) ⟨rfl, rfl⟩
  refine xC_mono k2 (fun r2 M2 hq => ?_)
  obtain ⟨rfl, rfl⟩ := hq
  refine ⟨⟨n, by omega, by rw [e1], by rw [e, mv_upne (by decide), e2]⟩, R_text h (fun a h1 h2 h3 h4 => ?_) (fun j hj => ?_) ⟨0, by omega, ?_, ?_, fun i hi => absurd hi (by omega)⟩⟩
  · rw [mv_upne h3, e, mv_upne h1]
  · rw [mv_up_j hj, e, mv_upne (by decide)]
  · rw [mv_upne (by decide), e, mv_up_at]; rfl
  · rw [mv_up_at]; rfl
theorem c_like {m t : Int} (hm : mv_in m) (ht : mv_in t) (hl : lok M) : xC sc (d + 3) n_MV_like [mR 0, mI m, mI t] M (fun r M' => M = M' ∧ r = some (mI (if (0 ≤ m ∧ m < M 4 2) ∧ 0 ≤ t ∧ t < M 4 1 then M (8 + m.toNat) t.toNat else -1000000))) := by
  have h1 := hl.2.1
  have h2 := hl.2.2.1
  refine xC_in rfl rfl (by simp; decide) ?_
  iterate 3 (first | refine xG_getI rfl (by exact rfl) (by exact rfl) ?_ | refine xG_getR rfl (by exact rfl) (by exact rfl) ?_ | refine xG_add rfl ?_ | refine xG_sub rfl ?_ | refine xG_mul rfl ?_ | refine xG_putI rfl (by exact rfl) (by exact rfl) ?_ | refine xG_go (fun _ => rfl) ?_)
  refine xV2 rfl (by exact rfl) (by simp) (c_hasMonkey hm hl) (fun r M' hq => ?_)
  obtain ⟨rfl, rfl⟩ := hq
  by_cases p : 0 ≤ m ∧ m < M 4 2
  · rw [if_pos p]
    refine xe1 rfl ?_
    iterate 3 (first | refine xG_getI rfl (by exact rfl) (by exact rfl) ?_ | refine xG_getR rfl (by exact rfl) (by exact rfl) ?_ | refine xG_add rfl ?_ | refine xG_sub rfl ?_ | refine xG_mul rfl ?_ | refine xG_putI rfl (by exact rfl) (by exact rfl) ?_ | refine xG_go (fun _ => rfl) ?_)
    refine xV2 rfl (by exact rfl) (by simp) (c_hasTune ht hl) (fun r M' hq => ?_)
    obtain ⟨rfl, rfl⟩ := hq
    by_cases q : 0 ≤ t ∧ t < M 4 1
    · rw [if_pos q, if_pos ⟨p, q⟩]
      refine xn1 rfl ?_
      iterate 4 (first | refine xG_getI rfl (by exact rfl) (by exact rfl) ?_ | refine xG_getR rfl (by exact rfl) (by exact rfl) ?_ | refine xG_add rfl ?_ | refine xG_sub rfl ?_ | refine xG_mul rfl ?_ | refine xG_putI rfl (by exact rfl) (by exact rfl) ?_ | refine xG_go (fun _ => rfl) ?_)
      refine xG_aald rfl (by exact rfl) (Or.inr rfl) (by omega) (sk_like (show m.toNat < 6 by omega)).2 ?_
      iterate 1 (first | refine xG_getI rfl (by exact rfl) (by exact rfl) ?_ | refine xG_getR rfl (by exact rfl) (by exact rfl) ?_ | refine xG_add rfl ?_ | refine xG_sub rfl ?_ | refine xG_mul rfl ?_ | refine xG_putI rfl (by exact rfl) (by exact rfl) ?_ | refine xG_go (fun _ => rfl) ?_)
      refine xG_ald rfl (sk_like (show m.toNat < 6 by omega)).1 (by omega) ?_
      exact xG_ret (fun _ => rfl) ⟨rfl, rfl⟩
    · rw [if_neg q, if_neg (fun z => q z.2)]
      refine xn0 rfl ?_
      iterate 1 (first | refine xG_getI rfl (by exact rfl) (by exact rfl) ?_ | refine xG_getR rfl (by exact rfl) (by exact rfl) ?_ | refine xG_add rfl ?_ | refine xG_sub rfl ?_ | refine xG_mul rfl ?_ | refine xG_putI rfl (by exact rfl) (by exact rfl) ?_ | refine xG_go (fun _ => rfl) ?_)
      exact xG_ret (fun _ => rfl) ⟨rfl, rfl⟩
  · rw [if_neg p, if_neg (fun z => p z.1)]
    refine xe0 rfl ?_
    iterate 1 (first | refine xG_getI rfl (by exact rfl) (by exact rfl) ?_ | refine xG_getR rfl (by exact rfl) (by exact rfl) ?_ | refine xG_add rfl ?_ | refine xG_sub rfl ?_ | refine xG_mul rfl ?_ | refine xG_putI rfl (by exact rfl) (by exact rfl) ?_ | refine xG_go (fun _ => rfl) ?_)
    exact xG_ret (fun _ => rfl) ⟨rfl, rfl⟩
theorem m_like {m t : Int} (hm : mv_in m) (ht : mv_in t) (hl : mok M) : xC sc (d + 3) n_Mod_like [mR 143, mI m, mI t] M (fun r M' => M = M' ∧ r = some (mI (if (0 ≤ m ∧ m ≤ M 143 2 - 1) ∧ 0 ≤ t ∧ t ≤ M 143 1 - 1 then M 146 (4 * m.toNat + t.toNat) else -1000000))) := by
  have h1 := hl.2.1
  have h2 := hl.2.2.1
  refine xC_in rfl rfl (by simp; decide) ?_
  iterate 2 (first | refine xG_getI rfl (by exact rfl) (by exact rfl) ?_ | refine xG_getR rfl (by exact rfl) (by exact rfl) ?_ | refine xG_add rfl ?_ | refine xG_sub rfl ?_ | refine xG_mul rfl ?_ | refine xG_putI rfl (by exact rfl) (by exact rfl) ?_ | refine xG_go (fun _ => rfl) ?_)
  refine xV2 rfl (by exact rfl) (by simp) (m_isMonkey hm hl) (fun r M' hq => ?_)
  obtain ⟨rfl, rfl⟩ := hq
  by_cases p : 0 ≤ m ∧ m ≤ M 143 2 - 1
  · rw [b01_t p]
    refine xe1 rfl ?_
    iterate 2 (first | refine xG_getI rfl (by exact rfl) (by exact rfl) ?_ | refine xG_getR rfl (by exact rfl) (by exact rfl) ?_ | refine xG_add rfl ?_ | refine xG_sub rfl ?_ | refine xG_mul rfl ?_ | refine xG_putI rfl (by exact rfl) (by exact rfl) ?_ | refine xG_go (fun _ => rfl) ?_)
    refine xV2 rfl (by exact rfl) (by simp) (m_isTune ht hl) (fun r M' hq => ?_)
    obtain ⟨rfl, rfl⟩ := hq
    by_cases q : 0 ≤ t ∧ t ≤ M 143 1 - 1
    · rw [b01_t q, if_pos ⟨p, q⟩]
      refine xe1 rfl ?_
      iterate 7 (first | refine xG_getI rfl (by exact rfl) (by exact rfl) ?_ | refine xG_getR rfl (by exact rfl) (by exact rfl) ?_ | refine xG_add rfl ?_ | refine xG_sub rfl ?_ | refine xG_mul rfl ?_ | refine xG_putI rfl (by exact rfl) (by exact rfl) ?_ | refine xG_go (fun _ => rfl) ?_)
      refine xG_ald rfl (by exact rfl) (by omega) ?_
      rw [show (4 * m + t).toNat = 4 * m.toNat + t.toNat by omega]
      iterate 1 (first | refine xG_getI rfl (by exact rfl) (by exact rfl) ?_ | refine xG_getR rfl (by exact rfl) (by exact rfl) ?_ | refine xG_add rfl ?_ | refine xG_sub rfl ?_ | refine xG_mul rfl ?_ | refine xG_putI rfl (by exact rfl) (by exact rfl) ?_ | refine xG_go (fun _ => rfl) ?_)
      exact xG_ret (fun _ => rfl) ⟨rfl, rfl⟩
    · rw [b01_f q, if_neg (fun z => q z.2)]
      refine xe0 rfl ?_
      iterate 1 (first | refine xG_getI rfl (by exact rfl) (by exact rfl) ?_ | refine xG_getR rfl (by exact rfl) (by exact rfl) ?_ | refine xG_add rfl ?_ | refine xG_sub rfl ?_ | refine xG_mul rfl ?_ | refine xG_putI rfl (by exact rfl) (by exact rfl) ?_ | refine xG_go (fun _ => rfl) ?_)
      exact xG_ret (fun _ => rfl) ⟨rfl, rfl⟩
  · rw [b01_f p, if_neg (fun z => p z.1)]
    refine xe0 rfl ?_
    iterate 1 (first | refine xG_getI rfl (by exact rfl) (by exact rfl) ?_ | refine xG_getR rfl (by exact rfl) (by exact rfl) ?_ | refine xG_add rfl ?_ | refine xG_sub rfl ?_ | refine xG_mul rfl ?_ | refine xG_putI rfl (by exact rfl) (by exact rfl) ?_ | refine xG_go (fun _ => rfl) ?_)
    exact xG_ret (fun _ => rfl) ⟨rfl, rfl⟩
theorem b_like {m t : Int} (hm : mv_in m) (ht : mv_in t) (h : R c M) : both sc 30 n_MV_like n_Mod_like [mI m, mI t] M c := by
  have hl := h.1.1
  obtain ⟨_, hk, e0, e1, e2, e3, e4⟩ := h.1
  refine xC_mono (c_like hm ht hl) (fun r1 M1 hq => ?_)
  obtain ⟨rfl, rfl⟩ := hq
  refine xC_mono (m_like hm ht hk) (fun r2 M2 hq => ?_)
  obtain ⟨rfl, rfl⟩ := hq
  refine ⟨⟨_, ?_, rfl, ?_⟩, Sc_R Sc_refl h⟩
  · have h2 := hl.2.2.1
    have h1 := hl.2.1
    split
    · have := hl.2.2.2.2.2.2.1 m.toNat t.toNat (by omega) (by omega)
      omega
    · decide
  · rw [e1, e2]
    by_cases p : (0 ≤ m ∧ m < M 4 2) ∧ 0 ≤ t ∧ t < M 4 1
    · rw [if_pos p, if_pos (by omega), ((e4 m.toNat (by omega)).2.2 t.toNat (by omega))]
    · rw [if_neg p, if_neg (by omega)]
theorem b_forget (h : R c M) : both sc 30 n_MV_forget n_Mod_forget [] M c := by
  obtain ⟨h1, h2, h3, h4, h5, h6, h7, h8⟩ := h
  obtain ⟨n, hn, e1, e2, e3⟩ := h5
  have k1 : xC sc 30 n_MV_forget [mR 0] M (fun r M' => r = some (mI (M 120 4)) ∧ M' = mv_up M 120 4 0) := by
    refine xC_in rfl rfl (by simp; decide) ?_
    iterate 9 (first | refine xG_getI rfl (by exact rfl) (by exact rfl) ?_ | refine xG_getR rfl (by exact rfl) (by exact rfl) ?_ | refine xG_add rfl ?_ | refine xG_sub rfl ?_ | refine xG_mul rfl ?_ | refine xG_putI rfl (by exact rfl) (by exact rfl) ?_ | refine xG_go (fun _ => rfl) ?_)
    exact xG_ret (fun _ => rfl) ⟨rfl, rfl⟩
  refine xC_mono k1 (fun r1 M1 hq => ?_)
  obtain ⟨rfl, e⟩ := hq
  have k2 : xC sc 30 n_Mod_forget [mR 143] M1 (fun r M' => r = some (mI (M1 143 12)) ∧ M' = mv_up M1 143 12 0) := by
    refine xC_in rfl rfl (by simp; decide) ?_
    iterate 7 (first | refine xG_getI rfl (by exact rfl) (by exact rfl) ?_ | refine xG_getR rfl (by exact rfl) (by exact rfl) ?_ | refine xG_add rfl ?_ | refine xG_sub rfl ?_ | refine xG_mul rfl ?_ | refine xG_putI rfl (by exact rfl) (by exact rfl) ?_ | refine xG_go (fun _ => rfl) ?_)
    exact xG_ret (fun _ => rfl) ⟨rfl, rfl⟩
  refine xC_mono k2 (fun r2 M2 hq => ?_)
  obtain ⟨rfl, rfl⟩ := hq
  have s : ∀ a, a ≠ 120 ∧ a ≠ 143 → mv_up M1 143 12 0 a = M a := fun a ha => by rw [mv_upne ha.2, e, mv_upne ha.1]
  have s3 : ∀ j, j ≠ 12 → mv_up M1 143 12 0 143 j = M 143 j := fun j hj => by rw [mv_up_j hj, e, mv_upne (by decide)]
  refine ⟨⟨n, by omega, by rw [e1], by rw [e, mv_upne (by decide), e2]⟩, Sl_Rl ⟨fun a _ _ => s a (by omega), fun a _ _ => s a (by omega), s3 _ (by omega), s3 _ (by omega), s3 _ (by omega), s3 _ (by omega)⟩ h1, S_Rd (s _ (by omega)) (fun a _ _ => s a (by omega)) (s _ (by omega)) h2, S_Rh (s _ (by omega)) (s _ (by omega)) (fun a _ _ => s a (by omega)) (s _ (by omega)) (s3 _ (by omega)) h3, S_Ri (s _ (by omega)) (s _ (by omega)) (fun a _ _ => s a (by omega)) (s _ (by omega)) (s _ (by omega)) h4, ⟨0, by omega, ?_, ?_, fun i hi => absurd hi (by omega)⟩, S_Rt (s _ (by omega)) (s _ (by omega)) (by rw [s 0 (by omega)]) (s3 _ (by omega)) h6, S_Rc (s3 _ (by omega)) (by rw [s 132 (by omega)]) h7, S_Rs (fun a _ _ => s a (by omega)) (fun a _ _ => s a (by omega)) h8⟩
  · rw [mv_upne (by decide), e, mv_up_at]; rfl
  · rw [mv_up_at]; rfl
end YA
