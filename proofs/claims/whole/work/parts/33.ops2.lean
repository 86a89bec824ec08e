/-! THE CALLS: organ, count, monkey, now -/
section YB
variable {sc : Nat × (Nat → Int)} {d c : Nat} {M : mv_M}
theorem both_of {n1 n2 : Nat} {as : List mv_V} {z : Int} (hz : mv_in z) (h : R c M) (k1 : xC sc 30 n1 (mR 0 :: as) M (fun r M' => M = M' ∧ r = some (mI z))) (k2 : xC sc 30 n2 (mR 143 :: as) M (fun r M' => Sc M M' ∧ r = some (mI z))) : both sc 30 n1 n2 as M c := by
  refine xC_mono k1 (fun r1 M1 hq => ?_)
  obtain ⟨rfl, rfl⟩ := hq
  refine xC_mono k2 (fun r2 M2 hq => ?_)
  obtain ⟨hs, rfl⟩ := hq
  exact ⟨⟨z, hz, rfl, rfl⟩, Sc_R hs h⟩
theorem b_count {x : Int} (hx : mv_in x) (h : R c M) : both sc 30 n_MV_count n_Mod_count [mI x] M c := by
  have hl := h.1.1
  obtain ⟨_, hk, e0, e1, e2, e3, _⟩ := h.1
  obtain ⟨n, hn, f1, f2, _⟩ := h.2.2.2.2.1
  obtain ⟨w, hw, g1, g2, _⟩ := h.2.2.2.2.2.1
  have h0 := hl.1
  have h1 := hl.2.1
  have h2 := hl.2.2.1
  have h3 := hl.2.2.2.1
  by_cases p : x < 0 ∨ 5 < x
  · refine both_of (z := -1) (by decide) h ?_ ?_
    · refine xC_in rfl rfl (by simp; decide) ?_
      iterate 1 (first | refine xG_getI rfl (by exact rfl) (by exact rfl) ?_ | refine xG_getR rfl (by exact rfl) (by exact rfl) ?_ | refine xG_add rfl ?_ | refine xG_sub rfl ?_ | refine xG_mul rfl ?_ | refine xG_putI rfl (by exact rfl) (by exact rfl) ?_ | refine xG_go (fun _ => rfl) ?_)
      refine xT_out rfl hx p ?_
      iterate 1 (first | refine xG_getI rfl (by exact rfl) (by exact rfl) ?_ | refine xG_getR rfl (by exact rfl) (by exact rfl) ?_ | refine xG_add rfl ?_ | refine xG_sub rfl ?_ | refine xG_mul rfl ?_ | refine xG_putI rfl (by exact rfl) (by exact rfl) ?_ | refine xG_go (fun _ => rfl) ?_)
      exact xG_ret (fun _ => rfl) ⟨rfl, rfl⟩
    · refine xC_in rfl rfl (by simp; decide) ?_
      iterate 1 (first | refine xG_getI rfl (by exact rfl) (by exact rfl) ?_ | refine xG_getR rfl (by exact rfl) (by exact rfl) ?_ | refine xG_add rfl ?_ | refine xG_sub rfl ?_ | refine xG_mul rfl ?_ | refine xG_putI rfl (by exact rfl) (by exact rfl) ?_ | refine xG_go (fun _ => rfl) ?_)
      refine xT_out rfl hx p ?_
      iterate 1 (first | refine xG_getI rfl (by exact rfl) (by exact rfl) ?_ | refine xG_getR rfl (by exact rfl) (by exact rfl) ?_ | refine xG_add rfl ?_ | refine xG_sub rfl ?_ | refine xG_mul rfl ?_ | refine xG_putI rfl (by exact rfl) (by exact rfl) ?_ | refine xG_go (fun _ => rfl) ?_)
      exact xG_ret (fun _ => rfl) ⟨Sc_refl, rfl⟩
  · rcases (show x = 0 ∨ x = 1 ∨ x = 2 ∨ x = 3 ∨ x = 4 ∨ x = 5 by omega) with rfl | rfl | rfl | rfl | rfl | rfl
    · refine both_of (z := M 4 0) (by omega) h ?_ ?_
      · refine xC_in rfl rfl (by simp; decide) ?_
        iterate 5 (first | refine xG_getI rfl (by exact rfl) (by exact rfl) ?_ | refine xG_getR rfl (by exact rfl) (by exact rfl) ?_ | refine xG_add rfl ?_ | refine xG_sub rfl ?_ | refine xG_mul rfl ?_ | refine xG_putI rfl (by exact rfl) (by exact rfl) ?_ | refine xG_go (fun _ => rfl) ?_)
        exact xG_ret (fun _ => rfl) ⟨rfl, rfl⟩
      · refine xC_in rfl rfl (by simp; decide) ?_
        iterate 4 (first | refine xG_getI rfl (by exact rfl) (by exact rfl) ?_ | refine xG_getR rfl (by exact rfl) (by exact rfl) ?_ | refine xG_add rfl ?_ | refine xG_sub rfl ?_ | refine xG_mul rfl ?_ | refine xG_putI rfl (by exact rfl) (by exact rfl) ?_ | refine xG_go (fun _ => rfl) ?_)
        exact xG_ret (fun _ => rfl) ⟨Sc_refl, by rw [e0]⟩
    · refine both_of (z := M 4 1) (by omega) h ?_ ?_
      · refine xC_in rfl rfl (by simp; decide) ?_
        iterate 5 (first | refine xG_getI rfl (by exact rfl) (by exact rfl) ?_ | refine xG_getR rfl (by exact rfl) (by exact rfl) ?_ | refine xG_add rfl ?_ | refine xG_sub rfl ?_ | refine xG_mul rfl ?_ | refine xG_putI rfl (by exact rfl) (by exact rfl) ?_ | refine xG_go (fun _ => rfl) ?_)
        exact xG_ret (fun _ => rfl) ⟨rfl, rfl⟩
      · refine xC_in rfl rfl (by simp; decide) ?_
        iterate 4 (first | refine xG_getI rfl (by exact rfl) (by exact rfl) ?_ | refine xG_getR rfl (by exact rfl) (by exact rfl) ?_ | refine xG_add rfl ?_ | refine xG_sub rfl ?_ | refine xG_mul rfl ?_ | refine xG_putI rfl (by exact rfl) (by exact rfl) ?_ | refine xG_go (fun _ => rfl) ?_)
        exact xG_ret (fun _ => rfl) ⟨Sc_refl, by rw [e1]⟩
    · refine both_of (z := M 4 2) (by omega) h ?_ ?_
      · refine xC_in rfl rfl (by simp; decide) ?_
        iterate 5 (first | refine xG_getI rfl (by exact rfl) (by exact rfl) ?_ | refine xG_getR rfl (by exact rfl) (by exact rfl) ?_ | refine xG_add rfl ?_ | refine xG_sub rfl ?_ | refine xG_mul rfl ?_ | refine xG_putI rfl (by exact rfl) (by exact rfl) ?_ | refine xG_go (fun _ => rfl) ?_)
        exact xG_ret (fun _ => rfl) ⟨rfl, rfl⟩
      · refine xC_in rfl rfl (by simp; decide) ?_
        iterate 4 (first | refine xG_getI rfl (by exact rfl) (by exact rfl) ?_ | refine xG_getR rfl (by exact rfl) (by exact rfl) ?_ | refine xG_add rfl ?_ | refine xG_sub rfl ?_ | refine xG_mul rfl ?_ | refine xG_putI rfl (by exact rfl) (by exact rfl) ?_ | refine xG_go (fun _ => rfl) ?_)
        exact xG_ret (fun _ => rfl) ⟨Sc_refl, by rw [e2]⟩
    · refine both_of (z := M 4 3) (by omega) h ?_ ?_
      · refine xC_in rfl rfl (by simp; decide) ?_
        iterate 5 (first | refine xG_getI rfl (by exact rfl) (by exact rfl) ?_ | refine xG_getR rfl (by exact rfl) (by exact rfl) ?_ | refine xG_add rfl ?_ | refine xG_sub rfl ?_ | refine xG_mul rfl ?_ | refine xG_putI rfl (by exact rfl) (by exact rfl) ?_ | refine xG_go (fun _ => rfl) ?_)
        exact xG_ret (fun _ => rfl) ⟨rfl, rfl⟩
      · refine xC_in rfl rfl (by simp; decide) ?_
        iterate 4 (first | refine xG_getI rfl (by exact rfl) (by exact rfl) ?_ | refine xG_getR rfl (by exact rfl) (by exact rfl) ?_ | refine xG_add rfl ?_ | refine xG_sub rfl ?_ | refine xG_mul rfl ?_ | refine xG_putI rfl (by exact rfl) (by exact rfl) ?_ | refine xG_go (fun _ => rfl) ?_)
        exact xG_ret (fun _ => rfl) ⟨Sc_refl, by rw [e3]⟩
    · refine both_of (z := n) (by omega) h ?_ ?_
      · refine xC_in rfl rfl (by simp; decide) ?_
        iterate 5 (first | refine xG_getI rfl (by exact rfl) (by exact rfl) ?_ | refine xG_getR rfl (by exact rfl) (by exact rfl) ?_ | refine xG_add rfl ?_ | refine xG_sub rfl ?_ | refine xG_mul rfl ?_ | refine xG_putI rfl (by exact rfl) (by exact rfl) ?_ | refine xG_go (fun _ => rfl) ?_)
        exact xG_ret (fun _ => rfl) ⟨rfl, by rw [f1]⟩
      · refine xC_in rfl rfl (by simp; decide) ?_
        iterate 4 (first | refine xG_getI rfl (by exact rfl) (by exact rfl) ?_ | refine xG_getR rfl (by exact rfl) (by exact rfl) ?_ | refine xG_add rfl ?_ | refine xG_sub rfl ?_ | refine xG_mul rfl ?_ | refine xG_putI rfl (by exact rfl) (by exact rfl) ?_ | refine xG_go (fun _ => rfl) ?_)
        exact xG_ret (fun _ => rfl) ⟨Sc_refl, by rw [f2]⟩
    · refine both_of (z := w) (by omega) h ?_ ?_
      · refine xC_in rfl rfl (by simp; decide) ?_
        iterate 4 (first | refine xG_getI rfl (by exact rfl) (by exact rfl) ?_ | refine xG_getR rfl (by exact rfl) (by exact rfl) ?_ | refine xG_add rfl ?_ | refine xG_sub rfl ?_ | refine xG_mul rfl ?_ | refine xG_putI rfl (by exact rfl) (by exact rfl) ?_ | refine xG_go (fun _ => rfl) ?_)
        exact xG_ret (fun _ => rfl) ⟨rfl, by rw [g1]⟩
      · refine xC_in rfl rfl (by simp; decide) ?_
        iterate 4 (first | refine xG_getI rfl (by exact rfl) (by exact rfl) ?_ | refine xG_getR rfl (by exact rfl) (by exact rfl) ?_ | refine xG_add rfl ?_ | refine xG_sub rfl ?_ | refine xG_mul rfl ?_ | refine xG_putI rfl (by exact rfl) (by exact rfl) ?_ | refine xG_go (fun _ => rfl) ?_)
        exact xG_ret (fun _ => rfl) ⟨Sc_refl, by rw [g2]⟩
theorem b_organ {o x : Int} (ho : mv_in o) (hx : mv_in x) (h : R c M) : both sc 30 n_MV_organ n_Mod_organ [mI o, mI x] M c := by
  have hl := h.1.1
  obtain ⟨_, hk, e0, e1, e2, e3, _⟩ := h.1
  have hd := h.2.1
  have h3 := hl.2.2.2.1
  by_cases p : 0 ≤ o ∧ o < M 4 3
  · obtain ⟨j, rfl⟩ := Int.eq_ofNat_of_zero_le p.1
    have j3 : j < 3 := by omega
    have hj := hd.2.2.2 j (by omega)
    rw [dv_p j3, dv_w] at hj
    have d1 := hd.2.1.2.2.2.2.2.1 j j3
    have d2 := hd.2.1.2.2.2.2.2.2 j j3
    by_cases q : x = 0 ∨ x = 1
    · rcases q with rfl | rfl
      · refine both_of (z := M 147 (15 + j)) (by omega) h ?_ ?_
        · refine xC_in rfl rfl (by simp; decide) ?_
          iterate 3 (first | refine xG_getI rfl (by exact rfl) (by exact rfl) ?_ | refine xG_getR rfl (by exact rfl) (by exact rfl) ?_ | refine xG_add rfl ?_ | refine xG_sub rfl ?_ | refine xG_mul rfl ?_ | refine xG_putI rfl (by exact rfl) (by exact rfl) ?_ | refine xG_go (fun _ => rfl) ?_)
          refine xV2 rfl (by exact rfl) (by simp) (c_hasOrgan ho hl) (fun r M' hq => ?_)
          obtain ⟨rfl, rfl⟩ := hq
          rw [if_pos p]
          refine xn1 rfl ?_
          iterate 6 (first | refine xG_getI rfl (by exact rfl) (by exact rfl) ?_ | refine xG_getR rfl (by exact rfl) (by exact rfl) ?_ | refine xG_add rfl ?_ | refine xG_sub rfl ?_ | refine xG_mul rfl ?_ | refine xG_putI rfl (by exact rfl) (by exact rfl) ?_ | refine xG_go (fun _ => rfl) ?_)
          refine xG_ald rfl (by exact rfl) (by omega) ?_
          exact xG_ret (fun _ => rfl) ⟨rfl, by rw [Int.toNat_natCast, hj.1]⟩
        · refine xC_in rfl rfl (by simp; decide) ?_
          iterate 2 (first | refine xG_getI rfl (by exact rfl) (by exact rfl) ?_ | refine xG_getR rfl (by exact rfl) (by exact rfl) ?_ | refine xG_add rfl ?_ | refine xG_sub rfl ?_ | refine xG_mul rfl ?_ | refine xG_putI rfl (by exact rfl) (by exact rfl) ?_ | refine xG_go (fun _ => rfl) ?_)
          refine xV2 rfl (by exact rfl) (by simp) (m_isOrgan ho hk) (fun r M' hq => ?_)
          obtain ⟨rfl, rfl⟩ := hq
          rw [b01_t (by omega)]
          refine xe1 rfl ?_
          iterate 3 (first | refine xG_getI rfl (by exact rfl) (by exact rfl) ?_ | refine xG_getR rfl (by exact rfl) (by exact rfl) ?_ | refine xG_add rfl ?_ | refine xG_sub rfl ?_ | refine xG_mul rfl ?_ | refine xG_putI rfl (by exact rfl) (by exact rfl) ?_ | refine xG_go (fun _ => rfl) ?_)
          refine xS3 rfl (by decide) (by simp) (m_in hx (by decide) (by decide)) (fun r M' hq => ?_)
          obtain ⟨rfl, rfl⟩ := hq
          rw [b01_t (by decide)]
          refine xn1 rfl ?_
          iterate 7 (first | refine xG_getI rfl (by exact rfl) (by exact rfl) ?_ | refine xG_getR rfl (by exact rfl) (by exact rfl) ?_ | refine xG_add rfl ?_ | refine xG_sub rfl ?_ | refine xG_mul rfl ?_ | refine xG_putI rfl (by exact rfl) (by exact rfl) ?_ | refine xG_go (fun _ => rfl) ?_)
          refine xG_ald rfl (by exact rfl) (by omega) ?_
          iterate 1 (first | refine xG_getI rfl (by exact rfl) (by exact rfl) ?_ | refine xG_getR rfl (by exact rfl) (by exact rfl) ?_ | refine xG_add rfl ?_ | refine xG_sub rfl ?_ | refine xG_mul rfl ?_ | refine xG_putI rfl (by exact rfl) (by exact rfl) ?_ | refine xG_go (fun _ => rfl) ?_)
          exact xG_ret (fun _ => rfl) ⟨Sc_refl, by rw [show ((15 : Int) + (j : Int)).toNat = 15 + j by omega]⟩
      · refine both_of (z := M 147 (18 + j)) (by omega) h ?_ ?_
        · refine xC_in rfl rfl (by simp; decide) ?_
          iterate 3 (first | refine xG_getI rfl (by exact rfl) (by exact rfl) ?_ | refine xG_getR rfl (by exact rfl) (by exact rfl) ?_ | refine xG_add rfl ?_ | refine xG_sub rfl ?_ | refine xG_mul rfl ?_ | refine xG_putI rfl (by exact rfl) (by exact rfl) ?_ | refine xG_go (fun _ => rfl) ?_)
          refine xV2 rfl (by exact rfl) (by simp) (c_hasOrgan ho hl) (fun r M' hq => ?_)
          obtain ⟨rfl, rfl⟩ := hq
          rw [if_pos p]
          refine xn1 rfl ?_
          iterate 6 (first | refine xG_getI rfl (by exact rfl) (by exact rfl) ?_ | refine xG_getR rfl (by exact rfl) (by exact rfl) ?_ | refine xG_add rfl ?_ | refine xG_sub rfl ?_ | refine xG_mul rfl ?_ | refine xG_putI rfl (by exact rfl) (by exact rfl) ?_ | refine xG_go (fun _ => rfl) ?_)
          refine xG_ald rfl (by exact rfl) (by omega) ?_
          exact xG_ret (fun _ => rfl) ⟨rfl, by rw [Int.toNat_natCast, hj.2.1]⟩
        · refine xC_in rfl rfl (by simp; decide) ?_
          iterate 2 (first | refine xG_getI rfl (by exact rfl) (by exact rfl) ?_ | refine xG_getR rfl (by exact rfl) (by exact rfl) ?_ | refine xG_add rfl ?_ | refine xG_sub rfl ?_ | refine xG_mul rfl ?_ | refine xG_putI rfl (by exact rfl) (by exact rfl) ?_ | refine xG_go (fun _ => rfl) ?_)
          refine xV2 rfl (by exact rfl) (by simp) (m_isOrgan ho hk) (fun r M' hq => ?_)
          obtain ⟨rfl, rfl⟩ := hq
          rw [b01_t (by omega)]
          refine xe1 rfl ?_
          iterate 3 (first | refine xG_getI rfl (by exact rfl) (by exact rfl) ?_ | refine xG_getR rfl (by exact rfl) (by exact rfl) ?_ | refine xG_add rfl ?_ | refine xG_sub rfl ?_ | refine xG_mul rfl ?_ | refine xG_putI rfl (by exact rfl) (by exact rfl) ?_ | refine xG_go (fun _ => rfl) ?_)
          refine xS3 rfl (by decide) (by simp) (m_in hx (by decide) (by decide)) (fun r M' hq => ?_)
          obtain ⟨rfl, rfl⟩ := hq
          rw [b01_t (by decide)]
          refine xn1 rfl ?_
          iterate 1 (first | refine xG_getI rfl (by exact rfl) (by exact rfl) ?_ | refine xG_getR rfl (by exact rfl) (by exact rfl) ?_ | refine xG_add rfl ?_ | refine xG_sub rfl ?_ | refine xG_mul rfl ?_ | refine xG_putI rfl (by exact rfl) (by exact rfl) ?_ | refine xG_go (fun _ => rfl) ?_)
          refine xn1 rfl ?_
          iterate 5 (first | refine xG_getI rfl (by exact rfl) (by exact rfl) ?_ | refine xG_getR rfl (by exact rfl) (by exact rfl) ?_ | refine xG_add rfl ?_ | refine xG_sub rfl ?_ | refine xG_mul rfl ?_ | refine xG_putI rfl (by exact rfl) (by exact rfl) ?_ | refine xG_go (fun _ => rfl) ?_)
          refine xG_ald rfl (by exact rfl) (by omega) ?_
          exact xG_ret (fun _ => rfl) ⟨Sc_refl, by rw [show ((18 : Int) + (j : Int)).toNat = 18 + j by omega]⟩
    · refine both_of (z := -1) (by decide) h ?_ ?_
      · refine xC_in rfl rfl (by simp; decide) ?_
        iterate 3 (first | refine xG_getI rfl (by exact rfl) (by exact rfl) ?_ | refine xG_getR rfl (by exact rfl) (by exact rfl) ?_ | refine xG_add rfl ?_ | refine xG_sub rfl ?_ | refine xG_mul rfl ?_ | refine xG_putI rfl (by exact rfl) (by exact rfl) ?_ | refine xG_go (fun _ => rfl) ?_)
        refine xV2 rfl (by exact rfl) (by simp) (c_hasOrgan ho hl) (fun r M' hq => ?_)
        obtain ⟨rfl, rfl⟩ := hq
        rw [if_pos p]
        refine xn1 rfl ?_
        iterate 1 (first | refine xG_getI rfl (by exact rfl) (by exact rfl) ?_ | refine xG_getR rfl (by exact rfl) (by exact rfl) ?_ | refine xG_add rfl ?_ | refine xG_sub rfl ?_ | refine xG_mul rfl ?_ | refine xG_putI rfl (by exact rfl) (by exact rfl) ?_ | refine xG_go (fun _ => rfl) ?_)
        refine xK_out rfl hx ?_ ?_
        · simp only [Op.lookupswitch.offset]
          rw [if_neg (by omega), if_neg (by omega)]
        · iterate 1 (first | refine xG_getI rfl (by exact rfl) (by exact rfl) ?_ | refine xG_getR rfl (by exact rfl) (by exact rfl) ?_ | refine xG_add rfl ?_ | refine xG_sub rfl ?_ | refine xG_mul rfl ?_ | refine xG_putI rfl (by exact rfl) (by exact rfl) ?_ | refine xG_go (fun _ => rfl) ?_)
          exact xG_ret (fun _ => rfl) ⟨rfl, rfl⟩
      · refine xC_in rfl rfl (by simp; decide) ?_
        iterate 2 (first | refine xG_getI rfl (by exact rfl) (by exact rfl) ?_ | refine xG_getR rfl (by exact rfl) (by exact rfl) ?_ | refine xG_add rfl ?_ | refine xG_sub rfl ?_ | refine xG_mul rfl ?_ | refine xG_putI rfl (by exact rfl) (by exact rfl) ?_ | refine xG_go (fun _ => rfl) ?_)
        refine xV2 rfl (by exact rfl) (by simp) (m_isOrgan ho hk) (fun r M' hq => ?_)
        obtain ⟨rfl, rfl⟩ := hq
        rw [b01_t (by omega)]
        refine xe1 rfl ?_
        iterate 3 (first | refine xG_getI rfl (by exact rfl) (by exact rfl) ?_ | refine xG_getR rfl (by exact rfl) (by exact rfl) ?_ | refine xG_add rfl ?_ | refine xG_sub rfl ?_ | refine xG_mul rfl ?_ | refine xG_putI rfl (by exact rfl) (by exact rfl) ?_ | refine xG_go (fun _ => rfl) ?_)
        refine xS3 rfl (by decide) (by simp) (m_in hx (by decide) (by decide)) (fun r M' hq => ?_)
        obtain ⟨rfl, rfl⟩ := hq
        rw [b01_f (by omega)]
        refine xn0 rfl ?_
        iterate 1 (first | refine xG_getI rfl (by exact rfl) (by exact rfl) ?_ | refine xG_getR rfl (by exact rfl) (by exact rfl) ?_ | refine xG_add rfl ?_ | refine xG_sub rfl ?_ | refine xG_mul rfl ?_ | refine xG_putI rfl (by exact rfl) (by exact rfl) ?_ | refine xG_go (fun _ => rfl) ?_)
        exact xG_ret (fun _ => rfl) ⟨Sc_refl, rfl⟩
  · refine both_of (z := -1) (by decide) h ?_ ?_
    · refine xC_in rfl rfl (by simp; decide) ?_
      iterate 3 (first | refine xG_getI rfl (by exact rfl) (by exact rfl) ?_ | refine xG_getR rfl (by exact rfl) (by exact rfl) ?_ | refine xG_add rfl ?_ | refine xG_sub rfl ?_ | refine xG_mul rfl ?_ | refine xG_putI rfl (by exact rfl) (by exact rfl) ?_ | refine xG_go (fun _ => rfl) ?_)
      refine xV2 rfl (by exact rfl) (by simp) (c_hasOrgan ho hl) (fun r M' hq => ?_)
      obtain ⟨rfl, rfl⟩ := hq
      rw [if_neg p]
      refine xn0 rfl ?_
      iterate 1 (first | refine xG_getI rfl (by exact rfl) (by exact rfl) ?_ | refine xG_getR rfl (by exact rfl) (by exact rfl) ?_ | refine xG_add rfl ?_ | refine xG_sub rfl ?_ | refine xG_mul rfl ?_ | refine xG_putI rfl (by exact rfl) (by exact rfl) ?_ | refine xG_go (fun _ => rfl) ?_)
      exact xG_ret (fun _ => rfl) ⟨rfl, rfl⟩
    · refine xC_in rfl rfl (by simp; decide) ?_
      iterate 2 (first | refine xG_getI rfl (by exact rfl) (by exact rfl) ?_ | refine xG_getR rfl (by exact rfl) (by exact rfl) ?_ | refine xG_add rfl ?_ | refine xG_sub rfl ?_ | refine xG_mul rfl ?_ | refine xG_putI rfl (by exact rfl) (by exact rfl) ?_ | refine xG_go (fun _ => rfl) ?_)
      refine xV2 rfl (by exact rfl) (by simp) (m_isOrgan ho hk) (fun r M' hq => ?_)
      obtain ⟨rfl, rfl⟩ := hq
      rw [b01_f (by omega)]
      refine xe0 rfl ?_
      iterate 1 (first | refine xG_getI rfl (by exact rfl) (by exact rfl) ?_ | refine xG_getR rfl (by exact rfl) (by exact rfl) ?_ | refine xG_add rfl ?_ | refine xG_sub rfl ?_ | refine xG_mul rfl ?_ | refine xG_putI rfl (by exact rfl) (by exact rfl) ?_ | refine xG_go (fun _ => rfl) ?_)
      exact xG_ret (fun _ => rfl) ⟨Sc_refl, rfl⟩
end YB
