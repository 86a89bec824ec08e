/-! THE CALLS: rate, trace -/
section YD
variable {sc : Nat × (Nat → Int)} {d c : Nat} {M : mv_M}
theorem mv_upup {a i : Nat} {x z : Int} : mv_up (mv_up M a i x) a i z = mv_up M a i z := by
  funext b j
  by_cases h : b = a
  · subst h
    by_cases w : j = i
    · subst w
      rw [mv_up_at, mv_up_at]
    · rw [mv_up_j w, mv_up_j w, mv_up_j w]
  · rw [mv_upne h, mv_upne h, mv_upne h]
def tr (M : mv_M) (k : Int) : mv_M := mv_up M 132 2 (M 132 2 + k)
theorem tr_tr {k l : Int} : tr (tr M k) l = tr M (k + l) := by
  unfold tr
  rw [mv_up_at, mv_upup, Int.add_assoc]
theorem tr_ne {k : Int} {a : Nat} (h : a ≠ 132) : tr M k a = M a := mv_upne h
theorem tr_lok {k : Int} (h : lok M) : lok (tr M k) := by
  unfold lok
  rw [tr_ne (show 4 ≠ 132 by decide), tr_ne (show 5 ≠ 132 by decide), tr_ne (show 6 ≠ 132 by decide), tr_ne (show 14 ≠ 132 by decide), tr_ne (show 15 ≠ 132 by decide)]
  refine ⟨h.1, h.2.1, h.2.2.1, h.2.2.2.1, h.2.2.2.2.1, h.2.2.2.2.2.1, fun m t hm ht => ?_, h.2.2.2.2.2.2.2.1, h.2.2.2.2.2.2.2.2⟩
  rw [tr_ne (show 8 + m ≠ 132 by omega)]
  exact h.2.2.2.2.2.2.1 m t hm ht
theorem c_ape {j : Nat} (hj : j < 6) : xC sc (d + 1) n_Rater_ape [mR 132, mI j] M (fun r M' => r = some (mI (M 6 j)) ∧ M' = tr M 1) := by
  refine xC_in rfl rfl (by simp; decide) ?_
  iterate 2 (first | refine xG_getI rfl (by exact rfl) (by exact rfl) ?_ | refine xG_getR rfl (by exact rfl) (by exact rfl) ?_ | refine xG_add rfl ?_ | refine xG_sub rfl ?_ | refine xG_mul rfl ?_ | refine xG_putI rfl (by exact rfl) (by exact rfl) ?_ | refine xG_go (fun _ => rfl) ?_)
  refine xG_getL rfl (by exact rfl) (by exact rfl) ?_
  iterate 2 (first | refine xG_getI rfl (by exact rfl) (by exact rfl) ?_ | refine xG_getR rfl (by exact rfl) (by exact rfl) ?_ | refine xG_add rfl ?_ | refine xG_sub rfl ?_ | refine xG_mul rfl ?_ | refine xG_putI rfl (by exact rfl) (by exact rfl) ?_ | refine xG_go (fun _ => rfl) ?_)
  refine xG_putL rfl (by exact rfl) (by exact rfl) ?_
  iterate 4 (first | refine xG_getI rfl (by exact rfl) (by exact rfl) ?_ | refine xG_getR rfl (by exact rfl) (by exact rfl) ?_ | refine xG_add rfl ?_ | refine xG_sub rfl ?_ | refine xG_mul rfl ?_ | refine xG_putI rfl (by exact rfl) (by exact rfl) ?_ | refine xG_go (fun _ => rfl) ?_)
  refine xG_ald rfl (by exact rfl) (by omega) ?_
  exact xG_ret (fun _ => rfl) ⟨by rw [mv_upne (by decide), Int.toNat_natCast], rfl⟩
theorem c_cap {j : Nat} (hj : j < 6) : xC sc (d + 2) n_Rater_cap [mR 132, mI j] M (fun r M' => r = some (mI (M 6 j + M 30 j)) ∧ M' = tr M 11) := by
  refine xC_in rfl rfl (by simp; decide) ?_
  iterate 2 (first | refine xG_getI rfl (by exact rfl) (by exact rfl) ?_ | refine xG_getR rfl (by exact rfl) (by exact rfl) ?_ | refine xG_add rfl ?_ | refine xG_sub rfl ?_ | refine xG_mul rfl ?_ | refine xG_putI rfl (by exact rfl) (by exact rfl) ?_ | refine xG_go (fun _ => rfl) ?_)
  refine xG_getL rfl (by exact rfl) (by exact rfl) ?_
  iterate 2 (first | refine xG_getI rfl (by exact rfl) (by exact rfl) ?_ | refine xG_getR rfl (by exact rfl) (by exact rfl) ?_ | refine xG_add rfl ?_ | refine xG_sub rfl ?_ | refine xG_mul rfl ?_ | refine xG_putI rfl (by exact rfl) (by exact rfl) ?_ | refine xG_go (fun _ => rfl) ?_)
  refine xG_putL rfl (by exact rfl) (by exact rfl) ?_
  iterate 2 (first | refine xG_getI rfl (by exact rfl) (by exact rfl) ?_ | refine xG_getR rfl (by exact rfl) (by exact rfl) ?_ | refine xG_add rfl ?_ | refine xG_sub rfl ?_ | refine xG_mul rfl ?_ | refine xG_putI rfl (by exact rfl) (by exact rfl) ?_ | refine xG_go (fun _ => rfl) ?_)
  refine xV2 rfl (by exact rfl) (by simp) (c_ape hj) (fun r M' hq => ?_)
  obtain ⟨rfl, rfl⟩ := hq
  iterate 4 (first | refine xG_getI rfl (by exact rfl) (by exact rfl) ?_ | refine xG_getR rfl (by exact rfl) (by exact rfl) ?_ | refine xG_add rfl ?_ | refine xG_sub rfl ?_ | refine xG_mul rfl ?_ | refine xG_putI rfl (by exact rfl) (by exact rfl) ?_ | refine xG_go (fun _ => rfl) ?_)
  refine xG_ald rfl (by exact rfl) (by omega) ?_
  iterate 1 (first | refine xG_getI rfl (by exact rfl) (by exact rfl) ?_ | refine xG_getR rfl (by exact rfl) (by exact rfl) ?_ | refine xG_add rfl ?_ | refine xG_sub rfl ?_ | refine xG_mul rfl ?_ | refine xG_putI rfl (by exact rfl) (by exact rfl) ?_ | refine xG_go (fun _ => rfl) ?_)
  refine xG_ret (fun _ => rfl) ⟨?_, tr_tr⟩
  rw [tr_ne (by decide), mv_upne (by decide), mv_upne (by decide), Int.toNat_natCast]
theorem c_flea {j : Nat} (hj : j < 6) : xC sc (d + 2) n_Rater_flea [mR 132, mI j] M (fun r M' => r = some (mI (M 6 j - M 31 j)) ∧ M' = tr M 101) := by
  refine xC_in rfl rfl (by simp; decide) ?_
  iterate 2 (first | refine xG_getI rfl (by exact rfl) (by exact rfl) ?_ | refine xG_getR rfl (by exact rfl) (by exact rfl) ?_ | refine xG_add rfl ?_ | refine xG_sub rfl ?_ | refine xG_mul rfl ?_ | refine xG_putI rfl (by exact rfl) (by exact rfl) ?_ | refine xG_go (fun _ => rfl) ?_)
  refine xG_getL rfl (by exact rfl) (by exact rfl) ?_
  iterate 2 (first | refine xG_getI rfl (by exact rfl) (by exact rfl) ?_ | refine xG_getR rfl (by exact rfl) (by exact rfl) ?_ | refine xG_add rfl ?_ | refine xG_sub rfl ?_ | refine xG_mul rfl ?_ | refine xG_putI rfl (by exact rfl) (by exact rfl) ?_ | refine xG_go (fun _ => rfl) ?_)
  refine xG_putL rfl (by exact rfl) (by exact rfl) ?_
  iterate 2 (first | refine xG_getI rfl (by exact rfl) (by exact rfl) ?_ | refine xG_getR rfl (by exact rfl) (by exact rfl) ?_ | refine xG_add rfl ?_ | refine xG_sub rfl ?_ | refine xG_mul rfl ?_ | refine xG_putI rfl (by exact rfl) (by exact rfl) ?_ | refine xG_go (fun _ => rfl) ?_)
  refine xV2 rfl (by exact rfl) (by simp) (c_ape hj) (fun r M' hq => ?_)
  obtain ⟨rfl, rfl⟩ := hq
  iterate 4 (first | refine xG_getI rfl (by exact rfl) (by exact rfl) ?_ | refine xG_getR rfl (by exact rfl) (by exact rfl) ?_ | refine xG_add rfl ?_ | refine xG_sub rfl ?_ | refine xG_mul rfl ?_ | refine xG_putI rfl (by exact rfl) (by exact rfl) ?_ | refine xG_go (fun _ => rfl) ?_)
  refine xG_ald rfl (by exact rfl) (by omega) ?_
  iterate 1 (first | refine xG_getI rfl (by exact rfl) (by exact rfl) ?_ | refine xG_getR rfl (by exact rfl) (by exact rfl) ?_ | refine xG_add rfl ?_ | refine xG_sub rfl ?_ | refine xG_mul rfl ?_ | refine xG_putI rfl (by exact rfl) (by exact rfl) ?_ | refine xG_go (fun _ => rfl) ?_)
  refine xG_ret (fun _ => rfl) ⟨?_, tr_tr⟩
  rw [tr_ne (by decide), mv_upne (by decide), mv_upne (by decide), Int.toNat_natCast]
theorem c_jacket {j : Nat} (hj : j < 6) : xC sc (d + 3) n_Rater_jacket [mR 132, mI j] M (fun r M' => r = some (mI (2 * (M 6 j + M 30 j))) ∧ M' = tr M 1011) := by
  refine xC_in rfl rfl (by simp; decide) ?_
  iterate 2 (first | refine xG_getI rfl (by exact rfl) (by exact rfl) ?_ | refine xG_getR rfl (by exact rfl) (by exact rfl) ?_ | refine xG_add rfl ?_ | refine xG_sub rfl ?_ | refine xG_mul rfl ?_ | refine xG_putI rfl (by exact rfl) (by exact rfl) ?_ | refine xG_go (fun _ => rfl) ?_)
  refine xG_getL rfl (by exact rfl) (by exact rfl) ?_
  iterate 2 (first | refine xG_getI rfl (by exact rfl) (by exact rfl) ?_ | refine xG_getR rfl (by exact rfl) (by exact rfl) ?_ | refine xG_add rfl ?_ | refine xG_sub rfl ?_ | refine xG_mul rfl ?_ | refine xG_putI rfl (by exact rfl) (by exact rfl) ?_ | refine xG_go (fun _ => rfl) ?_)
  refine xG_putL rfl (by exact rfl) (by exact rfl) ?_
  iterate 3 (first | refine xG_getI rfl (by exact rfl) (by exact rfl) ?_ | refine xG_getR rfl (by exact rfl) (by exact rfl) ?_ | refine xG_add rfl ?_ | refine xG_sub rfl ?_ | refine xG_mul rfl ?_ | refine xG_putI rfl (by exact rfl) (by exact rfl) ?_ | refine xG_go (fun _ => rfl) ?_)
  refine xV2 rfl (by exact rfl) (by simp) (c_cap hj) (fun r M' hq => ?_)
  obtain ⟨rfl, rfl⟩ := hq
  iterate 1 (first | refine xG_getI rfl (by exact rfl) (by exact rfl) ?_ | refine xG_getR rfl (by exact rfl) (by exact rfl) ?_ | refine xG_add rfl ?_ | refine xG_sub rfl ?_ | refine xG_mul rfl ?_ | refine xG_putI rfl (by exact rfl) (by exact rfl) ?_ | refine xG_go (fun _ => rfl) ?_)
  refine xG_ret (fun _ => rfl) ⟨?_, tr_tr⟩
  rw [mv_upne (by decide), mv_upne (by decide)]
theorem c_convention {j : Nat} (hj : j < 6) : xC sc (d + 3) n_Rater_convention [mR 132, mI j] M (fun r M' => r = some (mI (M 6 j - M 31 j + j)) ∧ M' = tr M 10101) := by
  refine xC_in rfl rfl (by simp; decide) ?_
  iterate 2 (first | refine xG_getI rfl (by exact rfl) (by exact rfl) ?_ | refine xG_getR rfl (by exact rfl) (by exact rfl) ?_ | refine xG_add rfl ?_ | refine xG_sub rfl ?_ | refine xG_mul rfl ?_ | refine xG_putI rfl (by exact rfl) (by exact rfl) ?_ | refine xG_go (fun _ => rfl) ?_)
  refine xG_getL rfl (by exact rfl) (by exact rfl) ?_
  iterate 2 (first | refine xG_getI rfl (by exact rfl) (by exact rfl) ?_ | refine xG_getR rfl (by exact rfl) (by exact rfl) ?_ | refine xG_add rfl ?_ | refine xG_sub rfl ?_ | refine xG_mul rfl ?_ | refine xG_putI rfl (by exact rfl) (by exact rfl) ?_ | refine xG_go (fun _ => rfl) ?_)
  refine xG_putL rfl (by exact rfl) (by exact rfl) ?_
  iterate 2 (first | refine xG_getI rfl (by exact rfl) (by exact rfl) ?_ | refine xG_getR rfl (by exact rfl) (by exact rfl) ?_ | refine xG_add rfl ?_ | refine xG_sub rfl ?_ | refine xG_mul rfl ?_ | refine xG_putI rfl (by exact rfl) (by exact rfl) ?_ | refine xG_go (fun _ => rfl) ?_)
  refine xV2 rfl (by exact rfl) (by simp) (c_flea hj) (fun r M' hq => ?_)
  obtain ⟨rfl, rfl⟩ := hq
  iterate 2 (first | refine xG_getI rfl (by exact rfl) (by exact rfl) ?_ | refine xG_getR rfl (by exact rfl) (by exact rfl) ?_ | refine xG_add rfl ?_ | refine xG_sub rfl ?_ | refine xG_mul rfl ?_ | refine xG_putI rfl (by exact rfl) (by exact rfl) ?_ | refine xG_go (fun _ => rfl) ?_)
  refine xG_ret (fun _ => rfl) ⟨?_, tr_tr⟩
  rw [mv_upne (by decide), mv_upne (by decide)]
theorem c_heart {j : Nat} (hj : j < 6) : xC sc (d + 3) n_Rater_heart [mR 132, mI j] M (fun r M' => r = some (mI (M 6 j + M 29 5)) ∧ M' = tr M 100001) := by
  refine xC_in rfl rfl (by simp; decide) ?_
  iterate 2 (first | refine xG_getI rfl (by exact rfl) (by exact rfl) ?_ | refine xG_getR rfl (by exact rfl) (by exact rfl) ?_ | refine xG_add rfl ?_ | refine xG_sub rfl ?_ | refine xG_mul rfl ?_ | refine xG_putI rfl (by exact rfl) (by exact rfl) ?_ | refine xG_go (fun _ => rfl) ?_)
  refine xG_getL rfl (by exact rfl) (by exact rfl) ?_
  iterate 2 (first | refine xG_getI rfl (by exact rfl) (by exact rfl) ?_ | refine xG_getR rfl (by exact rfl) (by exact rfl) ?_ | refine xG_add rfl ?_ | refine xG_sub rfl ?_ | refine xG_mul rfl ?_ | refine xG_putI rfl (by exact rfl) (by exact rfl) ?_ | refine xG_go (fun _ => rfl) ?_)
  refine xG_putL rfl (by exact rfl) (by exact rfl) ?_
  iterate 2 (first | refine xG_getI rfl (by exact rfl) (by exact rfl) ?_ | refine xG_getR rfl (by exact rfl) (by exact rfl) ?_ | refine xG_add rfl ?_ | refine xG_sub rfl ?_ | refine xG_mul rfl ?_ | refine xG_putI rfl (by exact rfl) (by exact rfl) ?_ | refine xG_go (fun _ => rfl) ?_)
  refine xV2 rfl (by exact rfl) (by simp) (c_ape hj) (fun r M' hq => ?_)
  obtain ⟨rfl, rfl⟩ := hq
  iterate 4 (first | refine xG_getI rfl (by exact rfl) (by exact rfl) ?_ | refine xG_getR rfl (by exact rfl) (by exact rfl) ?_ | refine xG_add rfl ?_ | refine xG_sub rfl ?_ | refine xG_mul rfl ?_ | refine xG_putI rfl (by exact rfl) (by exact rfl) ?_ | refine xG_go (fun _ => rfl) ?_)
  refine xG_ret (fun _ => rfl) ⟨?_, tr_tr⟩
  rw [tr_ne (by decide), mv_upne (by decide), mv_upne (by decide)]
theorem R_trace {k : Int} {M' : mv_M} (h : R c M) (hk : 0 ≤ k ∧ k ≤ 200000) (s : ∀ a, a ≠ 132 → a ≠ 143 → M' a = M a) (s3 : ∀ j, j ≠ 14 → M' 143 j = M 143 j) (t1 : M' 132 2 = M 132 2 + k) (t2 : M' 143 14 = M 143 14 + k) : R (c + 1) M' := by
  obtain ⟨h1, h2, h3, h4, h5, h6, h7, h8⟩ := h
  have e : ∀ a, a ≠ 132 ∧ a ≠ 143 → M' a = M a := fun a ha => s a ha.1 ha.2
  refine ⟨Sl_Rl ⟨fun a _ _ => e a (by omega), fun a _ _ => e a (by omega), s3 _ (by omega), s3 _ (by omega), s3 _ (by omega), s3 _ (by omega)⟩ h1, S_Rd (e _ (by omega)) (fun a _ _ => e a (by omega)) (e _ (by omega)) h2, S_Rh (e _ (by omega)) (e _ (by omega)) (fun a _ _ => e a (by omega)) (e _ (by omega)) (s3 _ (by omega)) h3, S_Ri (e _ (by omega)) (e _ (by omega)) (fun a _ _ => e a (by omega)) (e _ (by omega)) (e _ (by omega)) h4, S_Rk (e _ (by omega)) (e _ (by omega)) (e _ (by omega)) (e _ (by omega)) (e _ (by omega)) (by rw [e 120 (by omega)]) (s3 _ (by omega)) h5, S_Rt (e _ (by omega)) (e _ (by omega)) (by rw [e 0 (by omega)]) (s3 _ (by omega)) h6, ?_, S_Rs (fun a _ _ => e a (by omega)) (fun a _ _ => e a (by omega)) h8⟩
  obtain ⟨g1, g2, g3⟩ := h7
  exact ⟨by rw [t1, t2, g1], by omega, by omega⟩
/-- the reference's trace -/
def tm (M : mv_M) (k : Int) : mv_M := mv_up M 143 14 (M 143 14 + k)
theorem both_tr {n1 n2 : Nat} {as : List mv_V} {z k : Int} (hz : mv_in z) (hk : 0 ≤ k ∧ k ≤ 200000) (h : R c M) (k1 : xC sc 30 n1 (mR 0 :: as) M (fun r M' => r = some (mI z) ∧ M' = tr M k)) (k2 : xC sc 30 n2 (mR 143 :: as) (tr M k) (fun r M' => r = some (mI z) ∧ M' = tm (tr M k) k)) : both sc 30 n1 n2 as M c := by
  refine xC_mono k1 (fun r1 M1 hq => ?_)
  obtain ⟨rfl, rfl⟩ := hq
  refine xC_mono k2 (fun r2 M2 hq => ?_)
  obtain ⟨rfl, rfl⟩ := hq
  refine ⟨⟨z, hz, rfl, rfl⟩, R_trace h hk (fun a h1 h2 => ?_) (fun j hj => ?_) ?_ ?_⟩
  · unfold tm
    rw [mv_upne h2, tr_ne h1]
  · unfold tm
    rw [mv_up_j hj, tr_ne (by decide)]
  · unfold tm tr
    rw [mv_upne (by decide), mv_up_at]
  · unfold tm
    rw [mv_up_at, tr_ne (by decide)]
theorem b_rate {w m : Int} (hw : mv_in w) (hm : mv_in m) (h : R c M) : both sc 30 n_MV_rate n_Mod_rate [mI w, mI m] M c := by
  have hl := h.1.1
  have hdd := h.2.1.1
  obtain ⟨_, hk, e0, e1, e2, e3, e4⟩ := h.1
  obtain ⟨_, dm, de, _⟩ := h.2.1
  have h2 := hl.2.2.1
  by_cases q : 0 ≤ w ∧ w ≤ 5
  · by_cases p : 0 ≤ m ∧ m < M 4 2
    · obtain ⟨j, rfl⟩ := Int.eq_ofNat_of_zero_le p.1
      have j6 : j < 6 := by omega
      have b1 : ∀ {Q : Option mv_V → mv_M → Prop}, xC sc 29 n_Rater_ratesAs [mR 132, mI w, mI (j : Int)] M (fun r M' => ∃ z, r = some (mI z) ∧ Q r M') → xC sc 30 n_MV_rate [mR 0, mI w, mI (j : Int)] M Q := by
        intro Q kk
        refine xC_in rfl rfl (by simp; decide) ?_
        iterate 1 (first | refine xG_getI rfl (by exact rfl) (by exact rfl) ?_ | refine xG_getR rfl (by exact rfl) (by exact rfl) ?_ | refine xG_add rfl ?_ | refine xG_sub rfl ?_ | refine xG_mul rfl ?_ | refine xG_putI rfl (by exact rfl) (by exact rfl) ?_ | refine xG_go (fun _ => rfl) ?_)
        refine xi_lt rfl hw (fun c1 => absurd c1 (by omega)) (fun _ => ?_)
        iterate 2 (first | refine xG_getI rfl (by exact rfl) (by exact rfl) ?_ | refine xG_getR rfl (by exact rfl) (by exact rfl) ?_ | refine xG_add rfl ?_ | refine xG_sub rfl ?_ | refine xG_mul rfl ?_ | refine xG_putI rfl (by exact rfl) (by exact rfl) ?_ | refine xG_go (fun _ => rfl) ?_)
        refine xb_ge rfl hw (by decide) (fun c1 => absurd c1 (by omega)) (fun _ => ?_)
        iterate 3 (first | refine xG_getI rfl (by exact rfl) (by exact rfl) ?_ | refine xG_getR rfl (by exact rfl) (by exact rfl) ?_ | refine xG_add rfl ?_ | refine xG_sub rfl ?_ | refine xG_mul rfl ?_ | refine xG_putI rfl (by exact rfl) (by exact rfl) ?_ | refine xG_go (fun _ => rfl) ?_)
        refine xV2 rfl (by exact rfl) (by simp) (c_hasMonkey hm hl) (fun r M' hq => ?_)
        obtain ⟨rfl, rfl⟩ := hq
        rw [if_pos p]
        refine xn1 rfl ?_
        iterate 4 (first | refine xG_getI rfl (by exact rfl) (by exact rfl) ?_ | refine xG_getR rfl (by exact rfl) (by exact rfl) ?_ | refine xG_add rfl ?_ | refine xG_sub rfl ?_ | refine xG_mul rfl ?_ | refine xG_putI rfl (by exact rfl) (by exact rfl) ?_ | refine xG_go (fun _ => rfl) ?_)
        refine xV3 rfl (by exact rfl) (by simp) kk (fun r M' hq => ?_)
        obtain ⟨z, rfl, hq⟩ := hq
        exact xG_ret (fun _ => rfl) hq
      have b2 : ∀ {N : mv_M} {Q : Option mv_V → mv_M → Prop}, mok N → N 143 2 = M 4 2 → xG sc 29 y_Mod_rate 52 [some (mR 143), some (mI w), some (mI (j : Int)), some (mI (N 145 j)), some (mI (N 145 j + N 147 (3 + j))), some (mI (N 145 j - N 147 (9 + j)))] [] N Q → xC sc 30 n_Mod_rate [mR 143, mI w, mI (j : Int)] N Q := by
        intro N Q hN e5 kk
        refine xC_in rfl rfl (by simp; decide) ?_
        iterate 3 (first | refine xG_getI rfl (by exact rfl) (by exact rfl) ?_ | refine xG_getR rfl (by exact rfl) (by exact rfl) ?_ | refine xG_add rfl ?_ | refine xG_sub rfl ?_ | refine xG_mul rfl ?_ | refine xG_putI rfl (by exact rfl) (by exact rfl) ?_ | refine xG_go (fun _ => rfl) ?_)
        refine xS3 rfl (by decide) (by simp) (m_in hw (by decide) (by decide)) (fun r M' hq => ?_)
        obtain ⟨rfl, rfl⟩ := hq
        rw [b01_t q]
        refine xe1 rfl ?_
        iterate 2 (first | refine xG_getI rfl (by exact rfl) (by exact rfl) ?_ | refine xG_getR rfl (by exact rfl) (by exact rfl) ?_ | refine xG_add rfl ?_ | refine xG_sub rfl ?_ | refine xG_mul rfl ?_ | refine xG_putI rfl (by exact rfl) (by exact rfl) ?_ | refine xG_go (fun _ => rfl) ?_)
        refine xV2 rfl (by exact rfl) (by simp) (m_isMonkey hm hN) (fun r M' hq => ?_)
        obtain ⟨rfl, rfl⟩ := hq
        rw [b01_t (by omega)]
        refine xn1 rfl ?_
        iterate 3 (first | refine xG_getI rfl (by exact rfl) (by exact rfl) ?_ | refine xG_getR rfl (by exact rfl) (by exact rfl) ?_ | refine xG_add rfl ?_ | refine xG_sub rfl ?_ | refine xG_mul rfl ?_ | refine xG_putI rfl (by exact rfl) (by exact rfl) ?_ | refine xG_go (fun _ => rfl) ?_)
        refine xG_ald rfl (by exact rfl) (by omega) ?_
        iterate 7 (first | refine xG_getI rfl (by exact rfl) (by exact rfl) ?_ | refine xG_getR rfl (by exact rfl) (by exact rfl) ?_ | refine xG_add rfl ?_ | refine xG_sub rfl ?_ | refine xG_mul rfl ?_ | refine xG_putI rfl (by exact rfl) (by exact rfl) ?_ | refine xG_go (fun _ => rfl) ?_)
        refine xG_ald rfl (by exact rfl) (by omega) ?_
        iterate 8 (first | refine xG_getI rfl (by exact rfl) (by exact rfl) ?_ | refine xG_getR rfl (by exact rfl) (by exact rfl) ?_ | refine xG_add rfl ?_ | refine xG_sub rfl ?_ | refine xG_mul rfl ?_ | refine xG_putI rfl (by exact rfl) (by exact rfl) ?_ | refine xG_go (fun _ => rfl) ?_)
        refine xG_ald rfl (by exact rfl) (by omega) ?_
        rw [Int.toNat_natCast, show ((3 : Int) + (j : Int)).toNat = 3 + j by omega, show ((9 : Int) + (j : Int)).toNat = 9 + j by omega]
        iterate 2 (first | refine xG_getI rfl (by exact rfl) (by exact rfl) ?_ | refine xG_getR rfl (by exact rfl) (by exact rfl) ?_ | refine xG_add rfl ?_ | refine xG_sub rfl ?_ | refine xG_mul rfl ?_ | refine xG_putI rfl (by exact rfl) (by exact rfl) ?_ | refine xG_go (fun _ => rfl) ?_)
        exact kk
      have r2 := hl.2.2.2.2.2.1 j j6
      have r3 := hdd.2.2.2.1 j j6
      have r4 := hdd.2.2.2.2.1 j j6
      have r5 := hdd.1
      have f1 : M 145 j = M 6 j := (e4 j p.2).2.1
      have f2 : M 147 (3 + j) = M 30 j := by rw [← de _ (by omega), dv_m j6]
      have f3 : M 147 (9 + j) = M 31 j := by rw [← de _ (by omega), dv_n j6]
      have f4 : M 147 0 = M 29 5 := (de 0 (by decide)).symm
      rw [dv_m j6] at r3
      rw [dv_n j6] at r4
      change -99 ≤ M 30 j ∧ M 30 j ≤ 99 at r3
      change 0 ≤ M 31 j ∧ M 31 j ≤ 9 at r4
      rw [dv_0] at r5
      have hT : ∀ k, mok (tr M k) := fun k => by
        unfold mok
        rw [tr_ne (show 143 ≠ 132 by decide), tr_ne (show 144 ≠ 132 by decide), tr_ne (show 145 ≠ 132 by decide), tr_ne (show 146 ≠ 132 by decide)]
        exact hk
      have hT2 : ∀ k, tr M k 143 2 = M 4 2 := fun k => by rw [tr_ne (by decide), e2]
      have g1 : ∀ k, tr M k 145 j = M 6 j := fun k => by rw [tr_ne (by decide), f1]
      have g2 : ∀ k, tr M k 147 (3 + j) = M 30 j := fun k => by rw [tr_ne (by decide), f2]
      have g3 : ∀ k, tr M k 147 (9 + j) = M 31 j := fun k => by rw [tr_ne (by decide), f3]
      have g4 : ∀ k, tr M k 147 0 = M 29 5 := fun k => by rw [tr_ne (by decide), f4]
      rcases (show w = 0 ∨ w = 1 ∨ w = 2 ∨ w = 3 ∨ w = 4 ∨ w = 5 by omega) with rfl | rfl | rfl | rfl | rfl | rfl
      · refine both_tr (z := M 6 j) (k := 1) (by omega) (by decide) h (b1 ?_) (b2 (hT _) (hT2 _) ?_)
        · refine xC_in rfl rfl (by simp; decide) ?_
          iterate 4 (first | refine xG_getI rfl (by exact rfl) (by exact rfl) ?_ | refine xG_getR rfl (by exact rfl) (by exact rfl) ?_ | refine xG_add rfl ?_ | refine xG_sub rfl ?_ | refine xG_mul rfl ?_ | refine xG_putI rfl (by exact rfl) (by exact rfl) ?_ | refine xG_go (fun _ => rfl) ?_)
          refine xV2 rfl (by exact rfl) (by simp) (c_ape j6) (fun r M' hq => ?_)
          obtain ⟨rfl, rfl⟩ := hq
          exact xG_ret (fun _ => rfl) ⟨_, rfl, rfl, rfl⟩
        · iterate 4 (first | refine xG_getI rfl (by exact rfl) (by exact rfl) ?_ | refine xG_getR rfl (by exact rfl) (by exact rfl) ?_ | refine xG_add rfl ?_ | refine xG_sub rfl ?_ | refine xG_mul rfl ?_ | refine xG_putI rfl (by exact rfl) (by exact rfl) ?_ | refine xG_go (fun _ => rfl) ?_)
          refine xG_getL rfl (by exact rfl) (by exact rfl) ?_
          iterate 2 (first | refine xG_getI rfl (by exact rfl) (by exact rfl) ?_ | refine xG_getR rfl (by exact rfl) (by exact rfl) ?_ | refine xG_add rfl ?_ | refine xG_sub rfl ?_ | refine xG_mul rfl ?_ | refine xG_putI rfl (by exact rfl) (by exact rfl) ?_ | refine xG_go (fun _ => rfl) ?_)
          refine xG_putL rfl (by exact rfl) (by exact rfl) ?_
          iterate 1 (first | refine xG_getI rfl (by exact rfl) (by exact rfl) ?_ | refine xG_getR rfl (by exact rfl) (by exact rfl) ?_ | refine xG_add rfl ?_ | refine xG_sub rfl ?_ | refine xG_mul rfl ?_ | refine xG_putI rfl (by exact rfl) (by exact rfl) ?_ | refine xG_go (fun _ => rfl) ?_)
          exact xG_ret (fun _ => rfl) ⟨by rw [g1], rfl⟩
      · refine both_tr (z := M 6 j + M 30 j) (k := 11) (by omega) (by decide) h (b1 ?_) (b2 (hT _) (hT2 _) ?_)
        · refine xC_in rfl rfl (by simp; decide) ?_
          iterate 4 (first | refine xG_getI rfl (by exact rfl) (by exact rfl) ?_ | refine xG_getR rfl (by exact rfl) (by exact rfl) ?_ | refine xG_add rfl ?_ | refine xG_sub rfl ?_ | refine xG_mul rfl ?_ | refine xG_putI rfl (by exact rfl) (by exact rfl) ?_ | refine xG_go (fun _ => rfl) ?_)
          refine xV2 rfl (by exact rfl) (by simp) (c_cap j6) (fun r M' hq => ?_)
          obtain ⟨rfl, rfl⟩ := hq
          exact xG_ret (fun _ => rfl) ⟨_, rfl, rfl, rfl⟩
        · iterate 4 (first | refine xG_getI rfl (by exact rfl) (by exact rfl) ?_ | refine xG_getR rfl (by exact rfl) (by exact rfl) ?_ | refine xG_add rfl ?_ | refine xG_sub rfl ?_ | refine xG_mul rfl ?_ | refine xG_putI rfl (by exact rfl) (by exact rfl) ?_ | refine xG_go (fun _ => rfl) ?_)
          refine xG_getL rfl (by exact rfl) (by exact rfl) ?_
          iterate 2 (first | refine xG_getI rfl (by exact rfl) (by exact rfl) ?_ | refine xG_getR rfl (by exact rfl) (by exact rfl) ?_ | refine xG_add rfl ?_ | refine xG_sub rfl ?_ | refine xG_mul rfl ?_ | refine xG_putI rfl (by exact rfl) (by exact rfl) ?_ | refine xG_go (fun _ => rfl) ?_)
          refine xG_putL rfl (by exact rfl) (by exact rfl) ?_
          iterate 1 (first | refine xG_getI rfl (by exact rfl) (by exact rfl) ?_ | refine xG_getR rfl (by exact rfl) (by exact rfl) ?_ | refine xG_add rfl ?_ | refine xG_sub rfl ?_ | refine xG_mul rfl ?_ | refine xG_putI rfl (by exact rfl) (by exact rfl) ?_ | refine xG_go (fun _ => rfl) ?_)
          exact xG_ret (fun _ => rfl) ⟨by rw [g1, g2], rfl⟩
      · refine both_tr (z := M 6 j - M 31 j) (k := 101) (by omega) (by decide) h (b1 ?_) (b2 (hT _) (hT2 _) ?_)
        · refine xC_in rfl rfl (by simp; decide) ?_
          iterate 4 (first | refine xG_getI rfl (by exact rfl) (by exact rfl) ?_ | refine xG_getR rfl (by exact rfl) (by exact rfl) ?_ | refine xG_add rfl ?_ | refine xG_sub rfl ?_ | refine xG_mul rfl ?_ | refine xG_putI rfl (by exact rfl) (by exact rfl) ?_ | refine xG_go (fun _ => rfl) ?_)
          refine xV2 rfl (by exact rfl) (by simp) (c_flea j6) (fun r M' hq => ?_)
          obtain ⟨rfl, rfl⟩ := hq
          exact xG_ret (fun _ => rfl) ⟨_, rfl, rfl, rfl⟩
        · iterate 4 (first | refine xG_getI rfl (by exact rfl) (by exact rfl) ?_ | refine xG_getR rfl (by exact rfl) (by exact rfl) ?_ | refine xG_add rfl ?_ | refine xG_sub rfl ?_ | refine xG_mul rfl ?_ | refine xG_putI rfl (by exact rfl) (by exact rfl) ?_ | refine xG_go (fun _ => rfl) ?_)
          refine xG_getL rfl (by exact rfl) (by exact rfl) ?_
          iterate 2 (first | refine xG_getI rfl (by exact rfl) (by exact rfl) ?_ | refine xG_getR rfl (by exact rfl) (by exact rfl) ?_ | refine xG_add rfl ?_ | refine xG_sub rfl ?_ | refine xG_mul rfl ?_ | refine xG_putI rfl (by exact rfl) (by exact rfl) ?_ | refine xG_go (fun _ => rfl) ?_)
          refine xG_putL rfl (by exact rfl) (by exact rfl) ?_
          iterate 1 (first | refine xG_getI rfl (by exact rfl) (by exact rfl) ?_ | refine xG_getR rfl (by exact rfl) (by exact rfl) ?_ | refine xG_add rfl ?_ | refine xG_sub rfl ?_ | refine xG_mul rfl ?_ | refine xG_putI rfl (by exact rfl) (by exact rfl) ?_ | refine xG_go (fun _ => rfl) ?_)
          exact xG_ret (fun _ => rfl) ⟨by rw [g1, g3], rfl⟩
      · refine both_tr (z := 2 * (M 6 j + M 30 j)) (k := 1011) (by omega) (by decide) h (b1 ?_) (b2 (hT _) (hT2 _) ?_)
        · refine xC_in rfl rfl (by simp; decide) ?_
          iterate 4 (first | refine xG_getI rfl (by exact rfl) (by exact rfl) ?_ | refine xG_getR rfl (by exact rfl) (by exact rfl) ?_ | refine xG_add rfl ?_ | refine xG_sub rfl ?_ | refine xG_mul rfl ?_ | refine xG_putI rfl (by exact rfl) (by exact rfl) ?_ | refine xG_go (fun _ => rfl) ?_)
          refine xV2 rfl (by exact rfl) (by simp) (c_jacket j6) (fun r M' hq => ?_)
          obtain ⟨rfl, rfl⟩ := hq
          exact xG_ret (fun _ => rfl) ⟨_, rfl, rfl, rfl⟩
        · iterate 4 (first | refine xG_getI rfl (by exact rfl) (by exact rfl) ?_ | refine xG_getR rfl (by exact rfl) (by exact rfl) ?_ | refine xG_add rfl ?_ | refine xG_sub rfl ?_ | refine xG_mul rfl ?_ | refine xG_putI rfl (by exact rfl) (by exact rfl) ?_ | refine xG_go (fun _ => rfl) ?_)
          refine xG_getL rfl (by exact rfl) (by exact rfl) ?_
          iterate 2 (first | refine xG_getI rfl (by exact rfl) (by exact rfl) ?_ | refine xG_getR rfl (by exact rfl) (by exact rfl) ?_ | refine xG_add rfl ?_ | refine xG_sub rfl ?_ | refine xG_mul rfl ?_ | refine xG_putI rfl (by exact rfl) (by exact rfl) ?_ | refine xG_go (fun _ => rfl) ?_)
          refine xG_putL rfl (by exact rfl) (by exact rfl) ?_
          iterate 3 (first | refine xG_getI rfl (by exact rfl) (by exact rfl) ?_ | refine xG_getR rfl (by exact rfl) (by exact rfl) ?_ | refine xG_add rfl ?_ | refine xG_sub rfl ?_ | refine xG_mul rfl ?_ | refine xG_putI rfl (by exact rfl) (by exact rfl) ?_ | refine xG_go (fun _ => rfl) ?_)
          exact xG_ret (fun _ => rfl) ⟨by rw [g1, g2], rfl⟩
      · refine both_tr (z := M 6 j - M 31 j + j) (k := 10101) (by omega) (by decide) h (b1 ?_) (b2 (hT _) (hT2 _) ?_)
        · refine xC_in rfl rfl (by simp; decide) ?_
          iterate 4 (first | refine xG_getI rfl (by exact rfl) (by exact rfl) ?_ | refine xG_getR rfl (by exact rfl) (by exact rfl) ?_ | refine xG_add rfl ?_ | refine xG_sub rfl ?_ | refine xG_mul rfl ?_ | refine xG_putI rfl (by exact rfl) (by exact rfl) ?_ | refine xG_go (fun _ => rfl) ?_)
          refine xV2 rfl (by exact rfl) (by simp) (c_convention j6) (fun r M' hq => ?_)
          obtain ⟨rfl, rfl⟩ := hq
          exact xG_ret (fun _ => rfl) ⟨_, rfl, rfl, rfl⟩
        · iterate 4 (first | refine xG_getI rfl (by exact rfl) (by exact rfl) ?_ | refine xG_getR rfl (by exact rfl) (by exact rfl) ?_ | refine xG_add rfl ?_ | refine xG_sub rfl ?_ | refine xG_mul rfl ?_ | refine xG_putI rfl (by exact rfl) (by exact rfl) ?_ | refine xG_go (fun _ => rfl) ?_)
          refine xG_getL rfl (by exact rfl) (by exact rfl) ?_
          iterate 2 (first | refine xG_getI rfl (by exact rfl) (by exact rfl) ?_ | refine xG_getR rfl (by exact rfl) (by exact rfl) ?_ | refine xG_add rfl ?_ | refine xG_sub rfl ?_ | refine xG_mul rfl ?_ | refine xG_putI rfl (by exact rfl) (by exact rfl) ?_ | refine xG_go (fun _ => rfl) ?_)
          refine xG_putL rfl (by exact rfl) (by exact rfl) ?_
          iterate 3 (first | refine xG_getI rfl (by exact rfl) (by exact rfl) ?_ | refine xG_getR rfl (by exact rfl) (by exact rfl) ?_ | refine xG_add rfl ?_ | refine xG_sub rfl ?_ | refine xG_mul rfl ?_ | refine xG_putI rfl (by exact rfl) (by exact rfl) ?_ | refine xG_go (fun _ => rfl) ?_)
          exact xG_ret (fun _ => rfl) ⟨by rw [g1, g3], rfl⟩
      · refine both_tr (z := M 6 j + M 29 5) (k := 100001) (by omega) (by decide) h (b1 ?_) (b2 (hT _) (hT2 _) ?_)
        · refine xC_in rfl rfl (by simp; decide) ?_
          iterate 4 (first | refine xG_getI rfl (by exact rfl) (by exact rfl) ?_ | refine xG_getR rfl (by exact rfl) (by exact rfl) ?_ | refine xG_add rfl ?_ | refine xG_sub rfl ?_ | refine xG_mul rfl ?_ | refine xG_putI rfl (by exact rfl) (by exact rfl) ?_ | refine xG_go (fun _ => rfl) ?_)
          refine xV2 rfl (by exact rfl) (by simp) (c_heart j6) (fun r M' hq => ?_)
          obtain ⟨rfl, rfl⟩ := hq
          exact xG_ret (fun _ => rfl) ⟨_, rfl, rfl, rfl⟩
        · iterate 4 (first | refine xG_getI rfl (by exact rfl) (by exact rfl) ?_ | refine xG_getR rfl (by exact rfl) (by exact rfl) ?_ | refine xG_add rfl ?_ | refine xG_sub rfl ?_ | refine xG_mul rfl ?_ | refine xG_putI rfl (by exact rfl) (by exact rfl) ?_ | refine xG_go (fun _ => rfl) ?_)
          refine xG_getL rfl (by exact rfl) (by exact rfl) ?_
          iterate 2 (first | refine xG_getI rfl (by exact rfl) (by exact rfl) ?_ | refine xG_getR rfl (by exact rfl) (by exact rfl) ?_ | refine xG_add rfl ?_ | refine xG_sub rfl ?_ | refine xG_mul rfl ?_ | refine xG_putI rfl (by exact rfl) (by exact rfl) ?_ | refine xG_go (fun _ => rfl) ?_)
          refine xG_putL rfl (by exact rfl) (by exact rfl) ?_
          iterate 4 (first | refine xG_getI rfl (by exact rfl) (by exact rfl) ?_ | refine xG_getR rfl (by exact rfl) (by exact rfl) ?_ | refine xG_add rfl ?_ | refine xG_sub rfl ?_ | refine xG_mul rfl ?_ | refine xG_putI rfl (by exact rfl) (by exact rfl) ?_ | refine xG_go (fun _ => rfl) ?_)
          refine xG_ald rfl (by exact rfl) (by decide) ?_
          iterate 1 (first | refine xG_getI rfl (by exact rfl) (by exact rfl) ?_ | refine xG_getR rfl (by exact rfl) (by exact rfl) ?_ | refine xG_add rfl ?_ | refine xG_sub rfl ?_ | refine xG_mul rfl ?_ | refine xG_putI rfl (by exact rfl) (by exact rfl) ?_ | refine xG_go (fun _ => rfl) ?_)
          refine xG_ret (fun _ => rfl) ⟨?_, rfl⟩
          rw [mv_upne (by decide), g1, Int.toNat_zero, g4]
    · refine both_of (z := -1000000) (by decide) h ?_ ?_
      · refine xC_in rfl rfl (by simp; decide) ?_
        iterate 1 (first | refine xG_getI rfl (by exact rfl) (by exact rfl) ?_ | refine xG_getR rfl (by exact rfl) (by exact rfl) ?_ | refine xG_add rfl ?_ | refine xG_sub rfl ?_ | refine xG_mul rfl ?_ | refine xG_putI rfl (by exact rfl) (by exact rfl) ?_ | refine xG_go (fun _ => rfl) ?_)
        refine xi_lt rfl hw (fun c1 => absurd c1 (by omega)) (fun _ => ?_)
        iterate 2 (first | refine xG_getI rfl (by exact rfl) (by exact rfl) ?_ | refine xG_getR rfl (by exact rfl) (by exact rfl) ?_ | refine xG_add rfl ?_ | refine xG_sub rfl ?_ | refine xG_mul rfl ?_ | refine xG_putI rfl (by exact rfl) (by exact rfl) ?_ | refine xG_go (fun _ => rfl) ?_)
        refine xb_ge rfl hw (by decide) (fun c1 => absurd c1 (by omega)) (fun _ => ?_)
        iterate 3 (first | refine xG_getI rfl (by exact rfl) (by exact rfl) ?_ | refine xG_getR rfl (by exact rfl) (by exact rfl) ?_ | refine xG_add rfl ?_ | refine xG_sub rfl ?_ | refine xG_mul rfl ?_ | refine xG_putI rfl (by exact rfl) (by exact rfl) ?_ | refine xG_go (fun _ => rfl) ?_)
        refine xV2 rfl (by exact rfl) (by simp) (c_hasMonkey hm hl) (fun r M' hq => ?_)
        obtain ⟨rfl, rfl⟩ := hq
        rw [if_neg p]
        refine xn0 rfl ?_
        iterate 1 (first | refine xG_getI rfl (by exact rfl) (by exact rfl) ?_ | refine xG_getR rfl (by exact rfl) (by exact rfl) ?_ | refine xG_add rfl ?_ | refine xG_sub rfl ?_ | refine xG_mul rfl ?_ | refine xG_putI rfl (by exact rfl) (by exact rfl) ?_ | refine xG_go (fun _ => rfl) ?_)
        exact xG_ret (fun _ => rfl) ⟨rfl, rfl⟩
      · refine xC_in rfl rfl (by simp; decide) ?_
        iterate 3 (first | refine xG_getI rfl (by exact rfl) (by exact rfl) ?_ | refine xG_getR rfl (by exact rfl) (by exact rfl) ?_ | refine xG_add rfl ?_ | refine xG_sub rfl ?_ | refine xG_mul rfl ?_ | refine xG_putI rfl (by exact rfl) (by exact rfl) ?_ | refine xG_go (fun _ => rfl) ?_)
        refine xS3 rfl (by decide) (by simp) (m_in hw (by decide) (by decide)) (fun r M' hq => ?_)
        obtain ⟨rfl, rfl⟩ := hq
        rw [b01_t q]
        refine xe1 rfl ?_
        iterate 2 (first | refine xG_getI rfl (by exact rfl) (by exact rfl) ?_ | refine xG_getR rfl (by exact rfl) (by exact rfl) ?_ | refine xG_add rfl ?_ | refine xG_sub rfl ?_ | refine xG_mul rfl ?_ | refine xG_putI rfl (by exact rfl) (by exact rfl) ?_ | refine xG_go (fun _ => rfl) ?_)
        refine xV2 rfl (by exact rfl) (by simp) (m_isMonkey hm hk) (fun r M' hq => ?_)
        obtain ⟨rfl, rfl⟩ := hq
        rw [b01_f (by omega)]
        refine xn0 rfl ?_
        iterate 1 (first | refine xG_getI rfl (by exact rfl) (by exact rfl) ?_ | refine xG_getR rfl (by exact rfl) (by exact rfl) ?_ | refine xG_add rfl ?_ | refine xG_sub rfl ?_ | refine xG_mul rfl ?_ | refine xG_putI rfl (by exact rfl) (by exact rfl) ?_ | refine xG_go (fun _ => rfl) ?_)
        exact xG_ret (fun _ => rfl) ⟨Sc_refl, rfl⟩
  · refine both_of (z := -1000000) (by decide) h ?_ ?_
    · refine xC_in rfl rfl (by simp; decide) ?_
      iterate 1 (first | refine xG_getI rfl (by exact rfl) (by exact rfl) ?_ | refine xG_getR rfl (by exact rfl) (by exact rfl) ?_ | refine xG_add rfl ?_ | refine xG_sub rfl ?_ | refine xG_mul rfl ?_ | refine xG_putI rfl (by exact rfl) (by exact rfl) ?_ | refine xG_go (fun _ => rfl) ?_)
      refine xi_lt rfl hw (fun c1 => ?_) (fun _ => ?_)
      · iterate 1 (first | refine xG_getI rfl (by exact rfl) (by exact rfl) ?_ | refine xG_getR rfl (by exact rfl) (by exact rfl) ?_ | refine xG_add rfl ?_ | refine xG_sub rfl ?_ | refine xG_mul rfl ?_ | refine xG_putI rfl (by exact rfl) (by exact rfl) ?_ | refine xG_go (fun _ => rfl) ?_)
        exact xG_ret (fun _ => rfl) ⟨rfl, rfl⟩
      · iterate 2 (first | refine xG_getI rfl (by exact rfl) (by exact rfl) ?_ | refine xG_getR rfl (by exact rfl) (by exact rfl) ?_ | refine xG_add rfl ?_ | refine xG_sub rfl ?_ | refine xG_mul rfl ?_ | refine xG_putI rfl (by exact rfl) (by exact rfl) ?_ | refine xG_go (fun _ => rfl) ?_)
        refine xb_ge rfl hw (by decide) (fun c1 => ?_) (fun c1 => absurd c1 (by omega))
        iterate 1 (first | refine xG_getI rfl (by exact rfl) (by exact rfl) ?_ | refine xG_getR rfl (by exact rfl) (by exact rfl) ?_ | refine xG_add rfl ?_ | refine xG_sub rfl ?_ | refine xG_mul rfl ?_ | refine xG_putI rfl (by exact rfl) (by exact rfl) ?_ | refine xG_go (fun _ => rfl) ?_)
        exact xG_ret (fun _ => rfl) ⟨rfl, rfl⟩
    · refine xC_in rfl rfl (by simp; decide) ?_
      iterate 3 (first | refine xG_getI rfl (by exact rfl) (by exact rfl) ?_ | refine xG_getR rfl (by exact rfl) (by exact rfl) ?_ | refine xG_add rfl ?_ | refine xG_sub rfl ?_ | refine xG_mul rfl ?_ | refine xG_putI rfl (by exact rfl) (by exact rfl) ?_ | refine xG_go (fun _ => rfl) ?_)
      refine xS3 rfl (by decide) (by simp) (m_in hw (by decide) (by decide)) (fun r M' hq => ?_)
      obtain ⟨rfl, rfl⟩ := hq
      rw [b01_f q]
      refine xe0 rfl ?_
      iterate 1 (first | refine xG_getI rfl (by exact rfl) (by exact rfl) ?_ | refine xG_getR rfl (by exact rfl) (by exact rfl) ?_ | refine xG_add rfl ?_ | refine xG_sub rfl ?_ | refine xG_mul rfl ?_ | refine xG_putI rfl (by exact rfl) (by exact rfl) ?_ | refine xG_go (fun _ => rfl) ?_)
      exact xG_ret (fun _ => rfl) ⟨Sc_refl, rfl⟩
end YD
