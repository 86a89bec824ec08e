/-! THE CALLS: back -/
section YK
variable {sc : Nat × (Nat → Int)} {d c : Nat} {M : mv_M}
theorem b_back {x : Int} (hx : mv_in x) (h : R c M) : both sc 30 n_MV_back n_Mod_back [mI x] M c := by
  have hd := h.2.1
  have h3 := h.1.1.2.2.2.1
  by_cases p : 0 ≤ x ∧ x < 2
  · obtain ⟨j, rfl⟩ := Int.eq_ofNat_of_zero_le p.1
    have j2 : j < 2 := by omega
    obtain ⟨i1, i2, i3⟩ := h.2.2.2.1 j j2
    have b1 : ∀ {Q : Option mv_V → mv_M → Prop}, xG sc 29 y_MV_back 17 [some (mR 0), some (mI (j : Int))] [mI (M 3 j)] M Q → xC sc 30 n_MV_back [mR 0, mI (j : Int)] M Q := by
      intro Q kk
      refine xC_in rfl rfl (by simp; decide) ?_
      iterate 1 (first | refine xG_getI rfl (by exact rfl) (by exact rfl) ?_ | refine xG_getR rfl (by exact rfl) (by exact rfl) ?_ | refine xG_add rfl ?_ | refine xG_sub rfl ?_ | refine xG_mul rfl ?_ | refine xG_putI rfl (by exact rfl) (by exact rfl) ?_ | refine xG_go (fun _ => rfl) ?_)
      refine xi_lt rfl hx (fun c1 => absurd c1 (by omega)) (fun _ => ?_)
      iterate 2 (first | refine xG_getI rfl (by exact rfl) (by exact rfl) ?_ | refine xG_getR rfl (by exact rfl) (by exact rfl) ?_ | refine xG_add rfl ?_ | refine xG_sub rfl ?_ | refine xG_mul rfl ?_ | refine xG_putI rfl (by exact rfl) (by exact rfl) ?_ | refine xG_go (fun _ => rfl) ?_)
      refine xb_lt rfl hx (by decide) (fun _ => ?_) (fun c1 => absurd p.2 c1)
      iterate 3 (first | refine xG_getI rfl (by exact rfl) (by exact rfl) ?_ | refine xG_getR rfl (by exact rfl) (by exact rfl) ?_ | refine xG_add rfl ?_ | refine xG_sub rfl ?_ | refine xG_mul rfl ?_ | refine xG_putI rfl (by exact rfl) (by exact rfl) ?_ | refine xG_go (fun _ => rfl) ?_)
      refine xG_bald rfl (by exact rfl) (by omega) ?_
      rw [Int.toNat_natCast]
      exact kk
    have b2 : ∀ {N : mv_M} {Q : Option mv_V → mv_M → Prop}, N 150 = M 150 → xG sc 29 y_Mod_back 17 [some (mR 143), some (mI (j : Int))] [mI (M 3 j)] N Q → xC sc 30 n_Mod_back [mR 143, mI (j : Int)] N Q := by
      intro N Q e15 kk
      refine xC_in rfl rfl (by simp; decide) ?_
      iterate 3 (first | refine xG_getI rfl (by exact rfl) (by exact rfl) ?_ | refine xG_getR rfl (by exact rfl) (by exact rfl) ?_ | refine xG_add rfl ?_ | refine xG_sub rfl ?_ | refine xG_mul rfl ?_ | refine xG_putI rfl (by exact rfl) (by exact rfl) ?_ | refine xG_go (fun _ => rfl) ?_)
      refine xS3 rfl (by decide) (by simp) (m_in hx (by decide) (by decide)) (fun r M' hq => ?_)
      obtain ⟨rfl, rfl⟩ := hq
      rw [b01_t (by omega)]
      refine xn1 rfl ?_
      iterate 3 (first | refine xG_getI rfl (by exact rfl) (by exact rfl) ?_ | refine xG_getR rfl (by exact rfl) (by exact rfl) ?_ | refine xG_add rfl ?_ | refine xG_sub rfl ?_ | refine xG_mul rfl ?_ | refine xG_putI rfl (by exact rfl) (by exact rfl) ?_ | refine xG_go (fun _ => rfl) ?_)
      refine xG_bald rfl (by exact rfl) (by omega) ?_
      rw [Int.toNat_natCast, e15, i1]
      exact kk
    rcases i2 with q | q
    · rw [q] at b1 b2
      refine both_of (z := -2) (by decide) h (b1 ?_) (b2 rfl ?_)
      · refine xn0 rfl ?_
        iterate 1 (first | refine xG_getI rfl (by exact rfl) (by exact rfl) ?_ | refine xG_getR rfl (by exact rfl) (by exact rfl) ?_ | refine xG_add rfl ?_ | refine xG_sub rfl ?_ | refine xG_mul rfl ?_ | refine xG_putI rfl (by exact rfl) (by exact rfl) ?_ | refine xG_go (fun _ => rfl) ?_)
        exact xG_ret (fun _ => rfl) ⟨rfl, rfl⟩
      · refine xn0 rfl ?_
        iterate 1 (first | refine xG_getI rfl (by exact rfl) (by exact rfl) ?_ | refine xG_getR rfl (by exact rfl) (by exact rfl) ?_ | refine xG_add rfl ?_ | refine xG_sub rfl ?_ | refine xG_mul rfl ?_ | refine xG_putI rfl (by exact rfl) (by exact rfl) ?_ | refine xG_go (fun _ => rfl) ?_)
        exact xG_ret (fun _ => rfl) ⟨Sc_refl, rfl⟩
    · rw [q] at b1 b2
      have im := i3 q
      have d0 := im.1.1
      have k1 : xC sc 30 n_MV_back [mR 0, mI (j : Int)] M (fun r M' => r = some (mI (dv M (133 + 5 * j) 0)) ∧ (∀ i, i < 21 → dv M' 29 i = dv M (133 + 5 * j) i) ∧ M' 34 1 = M 34 1 ∧ M' 34 2 = 0 ∧ ∀ a, a ≠ 34 → (a < 29 ∨ 34 ≤ a) → M' a = M a) := by
        refine b1 ?_
        refine xn1 rfl ?_
        iterate 5 (first | refine xG_getI rfl (by exact rfl) (by exact rfl) ?_ | refine xG_getR rfl (by exact rfl) (by exact rfl) ?_ | refine xG_add rfl ?_ | refine xG_sub rfl ?_ | refine xG_mul rfl ?_ | refine xG_putI rfl (by exact rfl) (by exact rfl) ?_ | refine xG_go (fun _ => rfl) ?_)
        refine xG_aald rfl (by exact rfl) (Or.inl rfl) (by omega) (by rw [Int.toNat_natCast]; exact sk_img j2) ?_
        refine xV2 rfl (by exact rfl) (by simp) (c_becomes isDay_today (isDay_img j j2) (by omega)) (fun r M1 hq => ?_)
        obtain ⟨rfl, q1, q2⟩ := hq
        iterate 2 (first | refine xG_getI rfl (by exact rfl) (by exact rfl) ?_ | refine xG_getR rfl (by exact rfl) (by exact rfl) ?_ | refine xG_add rfl ?_ | refine xG_sub rfl ?_ | refine xG_mul rfl ?_ | refine xG_putI rfl (by exact rfl) (by exact rfl) ?_ | refine xG_go (fun _ => rfl) ?_)
        refine xV1 rfl (by exact rfl) (by simp) c_losesAll (fun r M' hq => ?_)
        obtain ⟨rfl, rfl⟩ := hq
        iterate 3 (first | refine xG_getI rfl (by exact rfl) (by exact rfl) ?_ | refine xG_getR rfl (by exact rfl) (by exact rfl) ?_ | refine xG_add rfl ?_ | refine xG_sub rfl ?_ | refine xG_mul rfl ?_ | refine xG_putI rfl (by exact rfl) (by exact rfl) ?_ | refine xG_go (fun _ => rfl) ?_)
        refine xG_ret (fun _ => rfl) ⟨?_, fun i hi => ?_, ?_, ?_, fun a h1 h2 => ?_⟩
        · rw [mv_upne (by decide), ← q1 0 (by decide)]; rfl
        · rw [dv_same (M := M1) (fun a _ _ => mv_upne (by omega)), q1 i hi]
        · rw [mv_up_j (by decide), q2 34 (by decide)]
        · rw [mv_up_at]
        · rw [mv_upne h1, q2 a (by omega)]
      refine xC_mono k1 (fun r1 M1 hq => ?_)
      obtain ⟨rfl, q1, q2, q3, q4⟩ := hq
      have k2 : xC sc 30 n_Mod_back [mR 143, mI (j : Int)] M1 (fun r M' => r = some (mI (M 149 (21 * j))) ∧ M' = mv_up (mv_row M1 147 (crow M1 147 0 149 (21 * j) 21)) 143 9 0) := by
        refine b2 (q4 150 (by decide) (by decide)) ?_
        refine xn1 rfl ?_
        iterate 8 (first | refine xG_getI rfl (by exact rfl) (by exact rfl) ?_ | refine xG_getR rfl (by exact rfl) (by exact rfl) ?_ | refine xG_add rfl ?_ | refine xG_sub rfl ?_ | refine xG_mul rfl ?_ | refine xG_putI rfl (by exact rfl) (by exact rfl) ?_ | refine xG_go (fun _ => rfl) ?_)
        rw [show (21 : Int) * (j : Int) = ((21 * j : Nat) : Int) by omega]
        refine xS4 rfl (by decide) (by simp) (m_copy (a := 0) (f := 21 * j) (n1 := 21) (n2 := 42) rfl rfl (by decide) (by decide) (by omega) (by decide) (by decide)) (fun r M' hq => ?_)
        obtain ⟨rfl, rfl⟩ := hq
        iterate 6 (first | refine xG_getI rfl (by exact rfl) (by exact rfl) ?_ | refine xG_getR rfl (by exact rfl) (by exact rfl) ?_ | refine xG_add rfl ?_ | refine xG_sub rfl ?_ | refine xG_mul rfl ?_ | refine xG_putI rfl (by exact rfl) (by exact rfl) ?_ | refine xG_go (fun _ => rfl) ?_)
        refine xG_ald rfl (by exact rfl) (by decide) ?_
        refine xG_ret (fun _ => rfl) ⟨?_, rfl⟩
        rw [mv_upne (by decide), mv_row_at, Int.toNat_zero]
        unfold crow
        rw [if_pos (by omega), q4 149 (by decide) (by decide), show 21 * j + (0 - 0) = 21 * j by omega]
      refine xC_mono k2 (fun r2 M2 hq => ?_)
      obtain ⟨rfl, ee⟩ := hq
      have t7 : ∀ i, i < 21 → M2 147 i = M 149 (21 * j + i) := fun i hi => by
        rw [ee, mv_upne (by decide), mv_row_at]
        unfold crow
        rw [if_pos (by omega), q4 149 (by decide) (by decide), show i - 0 = i by omega]
      have t : ∀ a, a ≠ 143 → a ≠ 147 → M2 a = M1 a := fun a h1 h2 => by rw [ee, mv_upne h1, mv_row_ne h2]
      obtain ⟨f, n, hf, hn, g1, g2, g3, hh⟩ := h.2.2.1
      refine ⟨⟨dv M (133 + 5 * j) 0, by omega, rfl, (congrArg (fun v => some (mI v)) (im.2.2.1 0 (by decide))).symm⟩, R_day h (fun a ha => ?_) (fun j hj => ?_) ?_ ⟨f, 0, hf, by omega, ?_, ?_, ?_, fun i hi => absurd hi (by omega)⟩⟩
      · rw [t a (by omega) (by omega), q4 a (by omega) (by omega)]
      · rw [ee, mv_up_j hj, mv_row_ne (by decide), q4 143 (by decide) (by decide)]
      · unfold Rd
        rw [t 4 (by decide) (by decide), q4 4 (by decide) (by decide), dv_same (M := M1) (fun a _ _ => t a (by omega) (by omega))]
        exact dR_cong h3.2 q1 t7 im
      · rw [t 34 (by decide) (by decide), q2, g1]
      · rw [t 34 (by decide) (by decide), q3]; rfl
      · rw [ee, mv_up_at]; rfl
  · refine both_of (z := -1) (by decide) h ?_ ?_
    · refine xC_in rfl rfl (by simp; decide) ?_
      iterate 1 (first | refine xG_getI rfl (by exact rfl) (by exact rfl) ?_ | refine xG_getR rfl (by exact rfl) (by exact rfl) ?_ | refine xG_add rfl ?_ | refine xG_sub rfl ?_ | refine xG_mul rfl ?_ | refine xG_putI rfl (by exact rfl) (by exact rfl) ?_ | refine xG_go (fun _ => rfl) ?_)
      refine xi_lt rfl hx (fun c1 => ?_) (fun _ => ?_)
      · iterate 1 (first | refine xG_getI rfl (by exact rfl) (by exact rfl) ?_ | refine xG_getR rfl (by exact rfl) (by exact rfl) ?_ | refine xG_add rfl ?_ | refine xG_sub rfl ?_ | refine xG_mul rfl ?_ | refine xG_putI rfl (by exact rfl) (by exact rfl) ?_ | refine xG_go (fun _ => rfl) ?_)
        exact xG_ret (fun _ => rfl) ⟨rfl, rfl⟩
      · iterate 2 (first | refine xG_getI rfl (by exact rfl) (by exact rfl) ?_ | refine xG_getR rfl (by exact rfl) (by exact rfl) ?_ | refine xG_add rfl ?_ | refine xG_sub rfl ?_ | refine xG_mul rfl ?_ | refine xG_putI rfl (by exact rfl) (by exact rfl) ?_ | refine xG_go (fun _ => rfl) ?_)
        refine xb_lt rfl hx (by decide) (fun c1 => absurd c1 (by omega)) (fun c1 => ?_)
        iterate 1 (first | refine xG_getI rfl (by exact rfl) (by exact rfl) ?_ | refine xG_getR rfl (by exact rfl) (by exact rfl) ?_ | refine xG_add rfl ?_ | refine xG_sub rfl ?_ | refine xG_mul rfl ?_ | refine xG_putI rfl (by exact rfl) (by exact rfl) ?_ | refine xG_go (fun _ => rfl) ?_)
        exact xG_ret (fun _ => rfl) ⟨rfl, rfl⟩
    · refine xC_in rfl rfl (by simp; decide) ?_
      iterate 3 (first | refine xG_getI rfl (by exact rfl) (by exact rfl) ?_ | refine xG_getR rfl (by exact rfl) (by exact rfl) ?_ | refine xG_add rfl ?_ | refine xG_sub rfl ?_ | refine xG_mul rfl ?_ | refine xG_putI rfl (by exact rfl) (by exact rfl) ?_ | refine xG_go (fun _ => rfl) ?_)
      refine xS3 rfl (by decide) (by simp) (m_in hx (by decide) (by decide)) (fun r M' hq => ?_)
      obtain ⟨rfl, rfl⟩ := hq
      rw [b01_f (by omega)]
      refine xn0 rfl ?_
      iterate 1 (first | refine xG_getI rfl (by exact rfl) (by exact rfl) ?_ | refine xG_getR rfl (by exact rfl) (by exact rfl) ?_ | refine xG_add rfl ?_ | refine xG_sub rfl ?_ | refine xG_mul rfl ?_ | refine xG_putI rfl (by exact rfl) (by exact rfl) ?_ | refine xG_go (fun _ => rfl) ?_)
      exact xG_ret (fun _ => rfl) ⟨Sc_refl, rfl⟩
end YK
