/-! THE CALLS: undo, keep, back -/
section YJ
variable {sc : Nat × (Nat → Int)} {d c : Nat} {M M' : mv_M}
/-- today and the past have changed, in both -/
theorem R_day (h : R c M) (e : ∀ a, (a < 29 ∨ 86 ≤ a) ∧ a ≠ 143 ∧ a ≠ 147 ∧ a ≠ 148 ∧ a ≠ 158 → M' a = M a) (s3 : ∀ j, j ≠ 9 → M' 143 j = M 143 j) (hd : Rd M') (hh : Rh M') : R (c + 1) M' := by
  obtain ⟨h1, h2, h3, h4, h5, h6, h7, h8⟩ := h
  exact ⟨Sl_Rl ⟨fun a _ _ => e a (by omega), fun a _ _ => e a (by omega), s3 _ (by omega), s3 _ (by omega), s3 _ (by omega), s3 _ (by omega)⟩ h1, hd, hh, S_Ri (e _ (by omega)) (e _ (by omega)) (fun a _ _ => e a (by omega)) (e _ (by omega)) (e _ (by omega)) h4, S_Rk (e _ (by omega)) (e _ (by omega)) (e _ (by omega)) (e _ (by omega)) (e _ (by omega)) (by rw [e 120 (by omega)]) (s3 _ (by omega)) h5, S_Rt (e _ (by omega)) (e _ (by omega)) (by rw [e 0 (by omega)]) (s3 _ (by omega)) h6, S_Rc (s3 _ (by omega)) (by rw [e 132 (by omega)]) h7, S_Rs (fun a _ _ => e a (by omega)) (fun a _ _ => e a (by omega)) h8⟩
theorem b_undo (h : R c M) : both sc 30 n_MV_undo n_Mod_undo [] M c := by
  obtain ⟨f, n, hf, hn, g1, g2, g3, hh⟩ := h.2.2.1
  have h3 := h.1.1.2.2.2.1
  by_cases p : n = 0
  · refine both_of (z := -2) (by decide) h ?_ ?_
    · refine xC_in rfl rfl (by simp; decide) ?_
      iterate 3 (first | refine xG_getI rfl (by exact rfl) (by exact rfl) ?_ | refine xG_getR rfl (by exact rfl) (by exact rfl) ?_ | refine xG_add rfl ?_ | refine xG_sub rfl ?_ | refine xG_mul rfl ?_ | refine xG_putI rfl (by exact rfl) (by exact rfl) ?_ | refine xG_go (fun _ => rfl) ?_)
      rw [g2]
      refine xi_gt rfl (by omega) (fun c1 => absurd c1 (by omega)) (fun _ => ?_)
      iterate 1 (first | refine xG_getI rfl (by exact rfl) (by exact rfl) ?_ | refine xG_getR rfl (by exact rfl) (by exact rfl) ?_ | refine xG_add rfl ?_ | refine xG_sub rfl ?_ | refine xG_mul rfl ?_ | refine xG_putI rfl (by exact rfl) (by exact rfl) ?_ | refine xG_go (fun _ => rfl) ?_)
      exact xG_ret (fun _ => rfl) ⟨rfl, rfl⟩
    · refine xC_in rfl rfl (by simp; decide) ?_
      iterate 2 (first | refine xG_getI rfl (by exact rfl) (by exact rfl) ?_ | refine xG_getR rfl (by exact rfl) (by exact rfl) ?_ | refine xG_add rfl ?_ | refine xG_sub rfl ?_ | refine xG_mul rfl ?_ | refine xG_putI rfl (by exact rfl) (by exact rfl) ?_ | refine xG_go (fun _ => rfl) ?_)
      rw [g3]
      refine xi_ne rfl (by omega) (fun c1 => absurd c1 (by omega)) (fun _ => ?_)
      iterate 1 (first | refine xG_getI rfl (by exact rfl) (by exact rfl) ?_ | refine xG_getR rfl (by exact rfl) (by exact rfl) ?_ | refine xG_add rfl ?_ | refine xG_sub rfl ?_ | refine xG_mul rfl ?_ | refine xG_putI rfl (by exact rfl) (by exact rfl) ?_ | refine xG_go (fun _ => rfl) ?_)
      exact xG_ret (fun _ => rfl) ⟨Sc_refl, rfl⟩
  · obtain ⟨k, rfl⟩ : ∃ k, n = k + 1 := ⟨n - 1, by omega⟩
    have k1 : xC sc 30 n_MV_undo [mR 0] M (fun r M' => r = some (mI k) ∧ (∀ i, i < 21 → dv M' 29 i = dv M (36 + 5 * ((f + 9) % 10)) i) ∧ M' 34 1 = ((f + 9) % 10 : Nat) ∧ M' 34 2 = k ∧ ∀ a, a ≠ 34 → (a < 29 ∨ 34 ≤ a) → M' a = M a) := by
      refine xC_in rfl rfl (by simp; decide) ?_
      iterate 3 (first | refine xG_getI rfl (by exact rfl) (by exact rfl) ?_ | refine xG_getR rfl (by exact rfl) (by exact rfl) ?_ | refine xG_add rfl ?_ | refine xG_sub rfl ?_ | refine xG_mul rfl ?_ | refine xG_putI rfl (by exact rfl) (by exact rfl) ?_ | refine xG_go (fun _ => rfl) ?_)
      rw [g2]
      refine xi_gt rfl (by omega) (fun _ => ?_) (fun c1 => absurd c1 (by omega))
      iterate 4 (first | refine xG_getI rfl (by exact rfl) (by exact rfl) ?_ | refine xG_getR rfl (by exact rfl) (by exact rfl) ?_ | refine xG_add rfl ?_ | refine xG_sub rfl ?_ | refine xG_mul rfl ?_ | refine xG_putI rfl (by exact rfl) (by exact rfl) ?_ | refine xG_go (fun _ => rfl) ?_)
      refine xV2 rfl (by exact rfl) (by simp) (c_returnsTo hf g1 (by omega)) (fun r M1 hq => ?_)
      obtain ⟨rfl, q1, q2, q3, q4⟩ := hq
      have q5 : M1 34 2 = k := by rw [q3, g2]; omega
      iterate 3 (first | refine xG_getI rfl (by exact rfl) (by exact rfl) ?_ | refine xG_getR rfl (by exact rfl) (by exact rfl) ?_ | refine xG_add rfl ?_ | refine xG_sub rfl ?_ | refine xG_mul rfl ?_ | refine xG_putI rfl (by exact rfl) (by exact rfl) ?_ | refine xG_go (fun _ => rfl) ?_)
      exact xG_ret (fun _ => rfl) ⟨by rw [q5], q1, q2, q5, q4⟩
    refine xC_mono k1 (fun r1 M1 hq => ?_)
    obtain ⟨rfl, q1, q2, q3, q4⟩ := hq
    have v9 : M1 143 9 = ((k + 1 : Nat) : Int) := by rw [q4 143 (by decide) (by decide), g3]
    have k2 : xC sc 30 n_Mod_undo [mR 143] M1 (fun r M' => r = some (mI k) ∧ M' = mv_row (mv_up M1 143 9 k) 147 (crow (mv_up M1 143 9 k) 147 0 148 (21 * k) 21)) := by
      refine xC_in rfl rfl (by simp; decide) ?_
      iterate 2 (first | refine xG_getI rfl (by exact rfl) (by exact rfl) ?_ | refine xG_getR rfl (by exact rfl) (by exact rfl) ?_ | refine xG_add rfl ?_ | refine xG_sub rfl ?_ | refine xG_mul rfl ?_ | refine xG_putI rfl (by exact rfl) (by exact rfl) ?_ | refine xG_go (fun _ => rfl) ?_)
      rw [v9]
      refine xi_ne rfl (by omega) (fun _ => ?_) (fun c1 => absurd c1 (by omega))
      iterate 15 (first | refine xG_getI rfl (by exact rfl) (by exact rfl) ?_ | refine xG_getR rfl (by exact rfl) (by exact rfl) ?_ | refine xG_add rfl ?_ | refine xG_sub rfl ?_ | refine xG_mul rfl ?_ | refine xG_putI rfl (by exact rfl) (by exact rfl) ?_ | refine xG_go (fun _ => rfl) ?_)
      rw [mv_up_at, v9, show ((k + 1 : Nat) : Int) - 1 = (k : Int) by omega, show (21 : Int) * (k : Int) = ((21 * k : Nat) : Int) by omega]
      refine xS4 rfl (by decide) (by simp) (m_copy (a := 0) (f := 21 * k) (n1 := 21) (n2 := 210) rfl rfl (by decide) (by decide) (by omega) (by decide) (by decide)) (fun r M' hq => ?_)
      obtain ⟨rfl, rfl⟩ := hq
      iterate 2 (first | refine xG_getI rfl (by exact rfl) (by exact rfl) ?_ | refine xG_getR rfl (by exact rfl) (by exact rfl) ?_ | refine xG_add rfl ?_ | refine xG_sub rfl ?_ | refine xG_mul rfl ?_ | refine xG_putI rfl (by exact rfl) (by exact rfl) ?_ | refine xG_go (fun _ => rfl) ?_)
      exact xG_ret (fun _ => rfl) ⟨by rw [mv_row_ne (by decide), mv_up_at], rfl⟩
    refine xC_mono k2 (fun r2 M2 hq => ?_)
    obtain ⟨rfl, ee⟩ := hq
    have t7 : ∀ i, i < 21 → M2 147 i = M 148 (21 * k + i) := fun i hi => by
      rw [ee, mv_row_at]
      unfold crow
      rw [if_pos (by omega), mv_upne (by decide), q4 148 (by decide) (by decide), show i - 0 = i by omega]
    have t : ∀ a, a ≠ 143 → a ≠ 147 → M2 a = M1 a := fun a h1 h2 => by rw [ee, mv_row_ne h2, mv_upne h1]
    have t9 : M2 143 9 = k := by rw [ee, mv_row_ne (by decide), mv_up_at]
    refine ⟨⟨k, by omega, rfl, rfl⟩, R_day h (fun a ha => ?_) (fun j hj => ?_) ?_ ⟨(f + 9) % 10, k, by omega, by omega, ?_, ?_, t9, fun i hi => ?_⟩⟩
    · rw [t a (by omega) (by omega), q4 a (by omega) (by omega)]
    · rw [ee, mv_row_ne (by decide), mv_up_j hj, q4 143 (by decide) (by decide)]
    · unfold Rd
      rw [t 4 (by decide) (by decide), q4 4 (by decide) (by decide), dv_same (M := M1) (fun a _ _ => t a (by omega) (by omega))]
      have := hh k (by omega)
      rw [show (f + 10 - (k + 1) + k) % 10 = (f + 9) % 10 by omega] at this
      exact dR_cong h3.2 q1 t7 this
    · rw [t 34 (by decide) (by decide), q2]
    · rw [t 34 (by decide) (by decide), q3]
    · have hx := Nat.mod_lt (f + 10 - (k + 1) + i) (show 10 > 0 by decide)
      rw [show ((f + 9) % 10 + 10 - k + i) % 10 = (f + 10 - (k + 1) + i) % 10 by omega, t 4 (by decide) (by decide), q4 4 (by decide) (by decide), t 148 (by decide) (by decide), q4 148 (by decide) (by decide), dv_same (M := M) (fun a _ _ => by rw [t a (by omega) (by omega), q4 a (by omega) (by omega)])]
      exact hh i (by omega)
theorem sk_img {i : Nat} (hi : i < 2) : [some 133, some 138][i]? = some (some (133 + 5 * i)) := by
  rcases (show i = 0 ∨ i = 1 by omega) with rfl | rfl <;> rfl
theorem b_keep {x : Int} (hx : mv_in x) (h : R c M) : both sc 30 n_MV_keep n_Mod_keep [mI x] M c := by
  have hd := h.2.1
  have h3 := h.1.1.2.2.2.1
  by_cases p : 0 ≤ x ∧ x < 2
  · obtain ⟨j, rfl⟩ := Int.eq_ofNat_of_zero_le p.1
    have j2 : j < 2 := by omega
    have d0 := hd.1.1
    have k1 : xC sc 30 n_MV_keep [mR 0, mI (j : Int)] M (fun r M' => r = some (mI (dv M 29 0)) ∧ (∀ i, i < 21 → dv M' (133 + 5 * j) i = dv M 29 i) ∧ M' 3 = setp (M 3) j 1 ∧ ∀ a, a ≠ 3 → (a < 133 + 5 * j ∨ 133 + 5 * j + 5 ≤ a) → M' a = M a) := by
      refine xC_in rfl rfl (by simp; decide) ?_
      iterate 1 (first | refine xG_getI rfl (by exact rfl) (by exact rfl) ?_ | refine xG_getR rfl (by exact rfl) (by exact rfl) ?_ | refine xG_add rfl ?_ | refine xG_sub rfl ?_ | refine xG_mul rfl ?_ | refine xG_putI rfl (by exact rfl) (by exact rfl) ?_ | refine xG_go (fun _ => rfl) ?_)
      refine xi_lt rfl hx (fun c1 => absurd c1 (by omega)) (fun _ => ?_)
      iterate 2 (first | refine xG_getI rfl (by exact rfl) (by exact rfl) ?_ | refine xG_getR rfl (by exact rfl) (by exact rfl) ?_ | refine xG_add rfl ?_ | refine xG_sub rfl ?_ | refine xG_mul rfl ?_ | refine xG_putI rfl (by exact rfl) (by exact rfl) ?_ | refine xG_go (fun _ => rfl) ?_)
      refine xb_lt rfl hx (by decide) (fun _ => ?_) (fun c1 => absurd p.2 c1)
      iterate 3 (first | refine xG_getI rfl (by exact rfl) (by exact rfl) ?_ | refine xG_getR rfl (by exact rfl) (by exact rfl) ?_ | refine xG_add rfl ?_ | refine xG_sub rfl ?_ | refine xG_mul rfl ?_ | refine xG_putI rfl (by exact rfl) (by exact rfl) ?_ | refine xG_go (fun _ => rfl) ?_)
      refine xG_aald rfl (by exact rfl) (Or.inl rfl) (by omega) (by rw [Int.toNat_natCast]; exact sk_img j2) ?_
      iterate 2 (first | refine xG_getI rfl (by exact rfl) (by exact rfl) ?_ | refine xG_getR rfl (by exact rfl) (by exact rfl) ?_ | refine xG_add rfl ?_ | refine xG_sub rfl ?_ | refine xG_mul rfl ?_ | refine xG_putI rfl (by exact rfl) (by exact rfl) ?_ | refine xG_go (fun _ => rfl) ?_)
      refine xV2 rfl (isDay_img j j2).1 (by simp) (c_becomes (isDay_img j j2) isDay_today (by omega)) (fun r M1 hq => ?_)
      obtain ⟨rfl, q1, q2⟩ := hq
      iterate 4 (first | refine xG_getI rfl (by exact rfl) (by exact rfl) ?_ | refine xG_getR rfl (by exact rfl) (by exact rfl) ?_ | refine xG_add rfl ?_ | refine xG_sub rfl ?_ | refine xG_mul rfl ?_ | refine xG_putI rfl (by exact rfl) (by exact rfl) ?_ | refine xG_go (fun _ => rfl) ?_)
      refine xG_bast rfl (by exact rfl) (by omega) (Or.inr rfl) ?_
      rw [Int.toNat_natCast]
      iterate 3 (first | refine xG_getI rfl (by exact rfl) (by exact rfl) ?_ | refine xG_getR rfl (by exact rfl) (by exact rfl) ?_ | refine xG_add rfl ?_ | refine xG_sub rfl ?_ | refine xG_mul rfl ?_ | refine xG_putI rfl (by exact rfl) (by exact rfl) ?_ | refine xG_go (fun _ => rfl) ?_)
      refine xG_ret (fun _ => rfl) ⟨?_, fun i hi => ?_, ?_, fun a h1 h2 => ?_⟩
      · rw [mv_upne (by decide), q2 29 (by omega)]; rfl
      · rw [dv_same (M := M1) (fun a _ _ => mv_upne (by omega)), q1 i hi]
      · rw [mv_up_setp, q2 3 (by omega)]
      · rw [mv_upne h1, q2 a h2]
    refine xC_mono k1 (fun r1 M1 hq => ?_)
    obtain ⟨rfl, q1, q2, q3⟩ := hq
    have k2 : xC sc 30 n_Mod_keep [mR 143, mI (j : Int)] M1 (fun r M' => r = some (mI (M1 147 0)) ∧ M' = mv_up (mv_row M1 149 (crow M1 149 (21 * j) 147 0 21)) 150 j 1) := by
      refine xC_in rfl rfl (by simp; decide) ?_
      iterate 3 (first | refine xG_getI rfl (by exact rfl) (by exact rfl) ?_ | refine xG_getR rfl (by exact rfl) (by exact rfl) ?_ | refine xG_add rfl ?_ | refine xG_sub rfl ?_ | refine xG_mul rfl ?_ | refine xG_putI rfl (by exact rfl) (by exact rfl) ?_ | refine xG_go (fun _ => rfl) ?_)
      refine xS3 rfl (by decide) (by simp) (m_in hx (by decide) (by decide)) (fun r M' hq => ?_)
      obtain ⟨rfl, rfl⟩ := hq
      rw [b01_t (by omega)]
      refine xn1 rfl ?_
      iterate 8 (first | refine xG_getI rfl (by exact rfl) (by exact rfl) ?_ | refine xG_getR rfl (by exact rfl) (by exact rfl) ?_ | refine xG_add rfl ?_ | refine xG_sub rfl ?_ | refine xG_mul rfl ?_ | refine xG_putI rfl (by exact rfl) (by exact rfl) ?_ | refine xG_go (fun _ => rfl) ?_)
      rw [show (21 : Int) * (j : Int) = ((21 * j : Nat) : Int) by omega]
      refine xS4 rfl (by decide) (by simp) (m_copy (a := 21 * j) (f := 0) (n1 := 42) (n2 := 21) rfl rfl (by decide) (by omega) (by decide) (by decide) (by decide)) (fun r M' hq => ?_)
      obtain ⟨rfl, rfl⟩ := hq
      iterate 4 (first | refine xG_getI rfl (by exact rfl) (by exact rfl) ?_ | refine xG_getR rfl (by exact rfl) (by exact rfl) ?_ | refine xG_add rfl ?_ | refine xG_sub rfl ?_ | refine xG_mul rfl ?_ | refine xG_putI rfl (by exact rfl) (by exact rfl) ?_ | refine xG_go (fun _ => rfl) ?_)
      refine xG_bast rfl (by exact rfl) (by omega) (Or.inr rfl) ?_
      rw [Int.toNat_natCast]
      iterate 3 (first | refine xG_getI rfl (by exact rfl) (by exact rfl) ?_ | refine xG_getR rfl (by exact rfl) (by exact rfl) ?_ | refine xG_add rfl ?_ | refine xG_sub rfl ?_ | refine xG_mul rfl ?_ | refine xG_putI rfl (by exact rfl) (by exact rfl) ?_ | refine xG_go (fun _ => rfl) ?_)
      refine xG_ald rfl (by exact rfl) (by decide) ?_
      exact xG_ret (fun _ => rfl) ⟨by rw [mv_upne (by decide), mv_row_ne (by decide)]; rfl, rfl⟩
    refine xC_mono k2 (fun r2 M2 hq => ?_)
    obtain ⟨rfl, ee⟩ := hq
    have t : ∀ a, a ≠ 149 → a ≠ 150 → M2 a = M1 a := fun a h1 h2 => by rw [ee, mv_upne h2, mv_row_ne h1]
    have e : ∀ a, a ≠ 3 ∧ (a < 133 ∨ 143 ≤ a) ∧ a ≠ 149 ∧ a ≠ 150 → M2 a = M a := fun a ha => by rw [t a (by omega) (by omega), q3 a (by omega) (by omega)]
    have e7 : M1 147 = M 147 := q3 147 (by decide) (by omega)
    have e9 : M1 149 = M 149 := q3 149 (by decide) (by omega)
    have e15 : M2 150 = setp (M 150) j 1 := by rw [ee, mv_up_setp, mv_row_ne (by decide), q3 150 (by decide) (by omega)]
    have e14 : ∀ i, M2 149 i = if 21 * j ≤ i ∧ i < 21 * j + 21 then M 147 (i - 21 * j) else M 149 i := fun i => by
      rw [ee, mv_upne (by decide), mv_row_at]
      unfold crow
      rw [e7, e9, Nat.zero_add]
    have e3 : M2 3 = setp (M 3) j 1 := by rw [t 3 (by decide) (by decide), q2]
    obtain ⟨h1, h2, hh, h4, h5, h6, h7, h8⟩ := h
    have s3 : ∀ j, M2 143 j = M 143 j := fun j => by rw [e 143 (by decide)]
    refine ⟨⟨dv M 29 0, by omega, rfl, by rw [e7, ← hd.2.2.1 0 (by decide)]⟩, Sl_Rl ⟨fun a _ _ => e a (by omega), fun a _ _ => e a (by omega), s3 _, s3 _, s3 _, s3 _⟩ h1, S_Rd (e _ (by omega)) (fun a _ _ => e a (by omega)) (e _ (by omega)) h2, S_Rh (e _ (by omega)) (e _ (by omega)) (fun a _ _ => e a (by omega)) (e _ (by omega)) (s3 _) hh, ?_, S_Rk (e _ (by omega)) (e _ (by omega)) (e _ (by omega)) (e _ (by omega)) (e _ (by omega)) (by rw [e 120 (by omega)]) (s3 _) h5, S_Rt (e _ (by omega)) (e _ (by omega)) (by rw [e 0 (by omega)]) (s3 _) h6, S_Rc (s3 _) (by rw [e 132 (by omega)]) h7, S_Rs (fun a _ _ => e a (by omega)) (fun a _ _ => e a (by omega)) h8⟩
    intro i hi
    rw [e15, e3, e 4 (by decide)]
    by_cases w : i = j
    · subst w
      rw [setp_at, setp_at]
      refine ⟨rfl, Or.inr rfl, fun _ => dR_cong h3.2 (fun k hk => ?_) (fun k hk => ?_) hd⟩
      · rw [dv_same (M := M1) (fun a _ _ => t a (by omega) (by omega)), q1 k hk]
      · show M2 149 (21 * i + k) = M 147 k
        rw [e14, if_pos (by omega), show 21 * i + k - 21 * i = k by omega]
    · rw [setp_ne w, setp_ne w]
      refine ⟨(h4 i hi).1, (h4 i hi).2.1, fun z => dR_cong h3.2 (fun k hk => ?_) (fun k hk => ?_) ((h4 i hi).2.2 z)⟩
      · rw [dv_same (M := M) (fun a _ _ => by rw [t a (by omega) (by omega), q3 a (by omega) (by omega)])]
      · show M2 149 (21 * i + k) = M 149 (21 * i + k)
        rw [e14, if_neg (by omega)]
  · refine both_of (z := -1) (by decide) h ?_ ?_
    · refine xC_in rfl rfl (by simp; decide) ?_
      iterate 1 (first | refine xG_getI rfl (by exact rfl) (by exact rfl) ?_ | refine xG_getR rfl (by exact rfl) (by exact rfl) ?_ | refine xG_add rfl ?_ | refine xG_sub rfl ?_ | refine xG_mul rfl ?_ | refine xG_putI rfl (by exact rfl) (by exact rfl) ?_ | refine xG_go (fun _ => rfl) ?_)
      refine xi_lt rfl hx (fun c1 => ?_) (fun _ => ?_)
      · iterate 1 (first | refine xG_getI rfl (by exact rfl) (by exact rfl) ?_ | refine xG_getR rfl (by exact rfl) (by exact rfl) ?_ | refine xG_add rfl ?_ | refine xG_sub rfl ?_ | refine xG_mul rfl ?_ | refine xG_putI rfl (by exact rfl) (by exact rfl) ?_ | refine xG_go (fun _ => rfl) ?_)
        exact xG_ret (fun _ => rfl) ⟨rfl, rfl⟩
      · iterate 2 (first | refine xG_getI rfl (by exact rfl) (by exact rfl) ?_ | refine xG_getR rfl (by exact rfl) (by exact rfl) ?_ | refine xG_add rfl ?_ | refine xG_sub rfl ?_ | refine xG_mul rfl ?_ | refine xG_putI rfl (by exact rfl) (by exact rfl) ?_ | refine xG_go (fun _ => rfl) ?_)
        refine xb_lt rfl hx (by decide) (fun c1 => absurd c1 (by omega)) (fun c1 => ?_)
        iterate 1 (first | refine xG_getI rfl (by exact rfl) (by exact rfl) ?_ | refine xG_getR rfl (by exact rfl) (by exact rfl) ?_ | refine xG_add rfl ?_ | refine xG_sub rfl ?_ | refine xG_mul rfl ?_ | refine xG_putI rfl (by exact rfl) (by exact rfl) ?_ | refine xG_go (fun _ => rfl) ?_)
        exact xG_ret (fun _ => rfl) ⟨rfl, rfl⟩
    · refine xC_in rfl rfl (by simp; decide) ?_
      iterate 3 (first | refine xG_getI rfl (by exact rfl) (by exact rfl) ?_ | refine xG_getR rfl (by exact rfl) (by exact rfl) ?_ | refine xG_add rfl ?_ | refine xG_sub rfl ?_ | refine xG_mul rfl ?_ | refine xG_putI rfl (by exact rfl) (by exact rfl) ?_ | refine xG_go (fun _ => rfl) ?_)
      refine xS3 rfl (by decide) (by simp) (m_in hx (by decide) (by decide)) (fun r M' hq => ?_)
      obtain ⟨rfl, rfl⟩ := hq
      rw [b01_f (by omega)]
      refine xn0 rfl ?_
      iterate 1 (first | refine xG_getI rfl (by exact rfl) (by exact rfl) ?_ | refine xG_getR rfl (by exact rfl) (by exact rfl) ?_ | refine xG_add rfl ?_ | refine xG_sub rfl ?_ | refine xG_mul rfl ?_ | refine xG_putI rfl (by exact rfl) (by exact rfl) ?_ | refine xG_go (fun _ => rfl) ?_)
      exact xG_ret (fun _ => rfl) ⟨Sc_refl, rfl⟩
end YJ
