/-! THE CALLS: round -/
section YN
variable {sc : Nat × (Nat → Int)} {d c : Nat} {M : mv_M}
theorem b_round {o t : Int} (ho : mv_in o) (ht : mv_in t) (h : R c M) : both sc 30 n_MV_round n_Mod_round [mI o, mI t] M c := by
  have hl := h.1.1
  have hr := h.1.2.2.2.2.2.2
  obtain ⟨_, hk, e0, e1, e2, e3, _⟩ := h.1
  have hd := h.2.1
  have h0 := hl.1
  have h1 := hl.2.1
  have h3 := hl.2.2.2.1
  obtain ⟨nm, n6, en, en2⟩ := R_nm h
  by_cases p : 0 ≤ o ∧ o < M 4 3
  · by_cases q : 0 ≤ t ∧ t < M 4 1
    · obtain ⟨j, rfl⟩ := Int.eq_ofNat_of_zero_le p.1
      have j3 : j < 3 := by omega
      have hp := (hd.2.2.2 j p.2).2.2
      obtain ⟨st, es, kt⟩ := c_timesOnRound (sc := sc) (d := 24) hl en j3 q hd.1 hp
      have k1 : xC sc 30 n_MV_round [mR 0, mI (j : Int), mI t] M (fun r M' => ∃ g, (∀ k, k < 21 → g k = dv M 29 k) ∧ r = some (mI (rnd nm (M 4 0) (M 4 1) (M 5) (M 6) (lk M) j t st 1 g)) ∧ ∀ a, (a < 89 ∨ 94 ≤ a) → M' a = M a) := by
        refine xC_in rfl rfl (by simp; decide) ?_
        iterate 3 (first | refine xG_getI rfl (by exact rfl) (by exact rfl) ?_ | refine xG_getR rfl (by exact rfl) (by exact rfl) ?_ | refine xG_add rfl ?_ | refine xG_sub rfl ?_ | refine xG_mul rfl ?_ | refine xG_putI rfl (by exact rfl) (by exact rfl) ?_ | refine xG_go (fun _ => rfl) ?_)
        refine xV2 rfl (by exact rfl) (by simp) (c_hasOrgan ho hl) (fun r M' hq => ?_)
        obtain ⟨rfl, rfl⟩ := hq
        rw [if_pos p]
        refine xe1 rfl ?_
        iterate 3 (first | refine xG_getI rfl (by exact rfl) (by exact rfl) ?_ | refine xG_getR rfl (by exact rfl) (by exact rfl) ?_ | refine xG_add rfl ?_ | refine xG_sub rfl ?_ | refine xG_mul rfl ?_ | refine xG_putI rfl (by exact rfl) (by exact rfl) ?_ | refine xG_go (fun _ => rfl) ?_)
        refine xV2 rfl (by exact rfl) (by simp) (c_hasTune ht hl) (fun r M' hq => ?_)
        obtain ⟨rfl, rfl⟩ := hq
        rw [if_pos q]
        refine xn1 rfl ?_
        iterate 6 (first | refine xG_getI rfl (by exact rfl) (by exact rfl) ?_ | refine xG_getR rfl (by exact rfl) (by exact rfl) ?_ | refine xG_add rfl ?_ | refine xG_sub rfl ?_ | refine xG_mul rfl ?_ | refine xG_putI rfl (by exact rfl) (by exact rfl) ?_ | refine xG_go (fun _ => rfl) ?_)
        refine xV4 rfl (by exact rfl) (by simp) kt (fun r M' hq => ?_)
        obtain ⟨g, q1, rfl, q2⟩ := hq
        exact xG_ret (fun _ => rfl) ⟨g, q1, rfl, q2⟩
      refine xC_mono k1 (fun r1 M1 hq => ?_)
      obtain ⟨g, q1, rfl, q2⟩ := hq
      have hk1 : mok M1 := Sl_mok ⟨fun a _ _ => q2 a (by omega), fun a _ _ => q2 a (by omega), by rw [q2 143 (by decide)], by rw [q2 143 (by decide)], by rw [q2 143 (by decide)], by rw [q2 143 (by decide)]⟩ hk
      have a8 : ∀ k, k < 21 → aM M1 158 k = M 147 k := fun k hk => by rw [aM_at hk, q2 147 (by decide)]
      have k2 : xC sc 30 n_Mod_round [mR 143, mI (j : Int), mI t] M1 (fun r M' => r = some (mI (rnd nm (M1 143 0) (M1 143 1) (M1 144) (M1 145) (mlk M1) j t st 1 (aM M1 158))) ∧ ∀ a, a ≠ 158 → M' a = M1 a) := by
        refine xC_in rfl rfl (by simp; decide) ?_
        iterate 2 (first | refine xG_getI rfl (by exact rfl) (by exact rfl) ?_ | refine xG_getR rfl (by exact rfl) (by exact rfl) ?_ | refine xG_add rfl ?_ | refine xG_sub rfl ?_ | refine xG_mul rfl ?_ | refine xG_putI rfl (by exact rfl) (by exact rfl) ?_ | refine xG_go (fun _ => rfl) ?_)
        refine xV2 rfl (by exact rfl) (by simp) (m_isOrgan ho hk1) (fun r M' hq => ?_)
        obtain ⟨rfl, rfl⟩ := hq
        rw [b01_t (by rw [q2 143 (by decide)]; omega)]
        refine xe1 rfl ?_
        iterate 2 (first | refine xG_getI rfl (by exact rfl) (by exact rfl) ?_ | refine xG_getR rfl (by exact rfl) (by exact rfl) ?_ | refine xG_add rfl ?_ | refine xG_sub rfl ?_ | refine xG_mul rfl ?_ | refine xG_putI rfl (by exact rfl) (by exact rfl) ?_ | refine xG_go (fun _ => rfl) ?_)
        refine xV2 rfl (by exact rfl) (by simp) (m_isTune ht hk1) (fun r M' hq => ?_)
        obtain ⟨rfl, rfl⟩ := hq
        rw [b01_t (by rw [q2 143 (by decide)]; omega)]
        refine xn1 rfl ?_
        iterate 1 (first | refine xG_getI rfl (by exact rfl) (by exact rfl) ?_ | refine xG_getR rfl (by exact rfl) (by exact rfl) ?_ | refine xG_add rfl ?_ | refine xG_sub rfl ?_ | refine xG_mul rfl ?_ | refine xG_putI rfl (by exact rfl) (by exact rfl) ?_ | refine xG_go (fun _ => rfl) ?_)
        refine xV1 rfl (by exact rfl) (by simp) m_asItIs (fun r M' hq => ?_)
        obtain ⟨rfl, rfl⟩ := hq
        change xG sc 29 y_Mod_round _ _ _ (aM M1) _
        iterate 2 (first | refine xG_getI rfl (by exact rfl) (by exact rfl) ?_ | refine xG_getR rfl (by exact rfl) (by exact rfl) ?_ | refine xG_add rfl ?_ | refine xG_sub rfl ?_ | refine xG_mul rfl ?_ | refine xG_putI rfl (by exact rfl) (by exact rfl) ?_ | refine xG_go (fun _ => rfl) ?_)
        exact l_mround (d := 25) hk1 (by rw [q2 143 (by decide), en2]) j3 (by rw [q2 143 (by decide), e1]; exact q) st 1 (aM M1) (by rw [q2 143 (by decide), e0]; omega) (fun a ha => aM_ne ha) (dok_cong a8 hd.2.1)
      refine xC_mono k2 (fun r2 M2 hq => ?_)
      obtain ⟨rfl, q3⟩ := hq
      have hin := rnd_in (nm := nm) (st := M 4 0) (tu := M 4 1) (home := M 5) (coat := M 6) (like := lk M) (j := j) (t := t) st 1 g (by decide)
      refine ⟨⟨_, by omega, rfl, ?_⟩, Sc_R (Sc_all (fun a h1 h2 h3 => by rw [q3 a (by omega), q2 a (by omega)])) h⟩
      rw [q2 143 (by decide), q2 144 (by decide), q2 145 (by decide), show mlk M1 = mlk M by unfold mlk; rw [q2 146 (by decide)], e0, e1]
      rw [rnd_dR (no := M 4 3) (like := lk M) (like' := mlk M) (t := t) n6 h0 h1 h3.2 p.2 (fun m hm => (hr m (by omega)).1) (fun m hm => (hr m (by omega)).2.1) (fun m t hm ht => (hr m (by omega)).2.2 t ht) st 1 g (aM M1 158) (dR_cong h3.2 q1 a8 hd)]
    · refine both_of (z := -1) (by decide) h ?_ ?_
      · refine xC_in rfl rfl (by simp; decide) ?_
        iterate 3 (first | refine xG_getI rfl (by exact rfl) (by exact rfl) ?_ | refine xG_getR rfl (by exact rfl) (by exact rfl) ?_ | refine xG_add rfl ?_ | refine xG_sub rfl ?_ | refine xG_mul rfl ?_ | refine xG_putI rfl (by exact rfl) (by exact rfl) ?_ | refine xG_go (fun _ => rfl) ?_)
        refine xV2 rfl (by exact rfl) (by simp) (c_hasOrgan ho hl) (fun r M' hq => ?_)
        obtain ⟨rfl, rfl⟩ := hq
        rw [if_pos p]
        refine xe1 rfl ?_
        iterate 3 (first | refine xG_getI rfl (by exact rfl) (by exact rfl) ?_ | refine xG_getR rfl (by exact rfl) (by exact rfl) ?_ | refine xG_add rfl ?_ | refine xG_sub rfl ?_ | refine xG_mul rfl ?_ | refine xG_putI rfl (by exact rfl) (by exact rfl) ?_ | refine xG_go (fun _ => rfl) ?_)
        refine xV2 rfl (by exact rfl) (by simp) (c_hasTune ht hl) (fun r M' hq => ?_)
        obtain ⟨rfl, rfl⟩ := hq
        rw [if_neg q]
        refine xn0 rfl ?_
        iterate 1 (first | refine xG_getI rfl (by exact rfl) (by exact rfl) ?_ | refine xG_getR rfl (by exact rfl) (by exact rfl) ?_ | refine xG_add rfl ?_ | refine xG_sub rfl ?_ | refine xG_mul rfl ?_ | refine xG_putI rfl (by exact rfl) (by exact rfl) ?_ | refine xG_go (fun _ => rfl) ?_)
        exact xG_ret (fun _ => rfl) ⟨rfl, rfl⟩
      · refine xC_in rfl rfl (by simp; decide) ?_
        iterate 2 (first | refine xG_getI rfl (by exact rfl) (by exact rfl) ?_ | refine xG_getR rfl (by exact rfl) (by exact rfl) ?_ | refine xG_add rfl ?_ | refine xG_sub rfl ?_ | refine xG_mul rfl ?_ | refine xG_putI rfl (by exact rfl) (by exact rfl) ?_ | refine xG_go (fun _ => rfl) ?_)
        refine xV2 rfl (by exact rfl) (by simp) (m_isOrgan ho hk) (fun r M' hq => ?_)
        obtain ⟨rfl, rfl⟩ := hq
        rw [b01_t (by omega)]
        refine xe1 rfl ?_
        iterate 2 (first | refine xG_getI rfl (by exact rfl) (by exact rfl) ?_ | refine xG_getR rfl (by exact rfl) (by exact rfl) ?_ | refine xG_add rfl ?_ | refine xG_sub rfl ?_ | refine xG_mul rfl ?_ | refine xG_putI rfl (by exact rfl) (by exact rfl) ?_ | refine xG_go (fun _ => rfl) ?_)
        refine xV2 rfl (by exact rfl) (by simp) (m_isTune ht hk) (fun r M' hq => ?_)
        obtain ⟨rfl, rfl⟩ := hq
        rw [b01_f (by omega)]
        refine xn0 rfl ?_
        iterate 1 (first | refine xG_getI rfl (by exact rfl) (by exact rfl) ?_ | refine xG_getR rfl (by exact rfl) (by exact rfl) ?_ | refine xG_add rfl ?_ | refine xG_sub rfl ?_ | refine xG_mul rfl ?_ | refine xG_putI rfl (by exact rfl) (by exact rfl) ?_ | refine xG_go (fun _ => rfl) ?_)
        exact xG_ret (fun _ => rfl) ⟨Sc_refl, rfl⟩
  · refine both_of (z := -1) (by decide) h ?_ ?_
    · refine xC_in rfl rfl (by simp; decide) ?_
      iterate 3 (first | refine xG_getI rfl (by exact rfl) (by exact rfl) ?_ | refine xG_getR rfl (by exact rfl) (by exact rfl) ?_ | refine xG_add rfl ?_ | refine xG_sub rfl ?_ | refine xG_mul rfl ?_ | refine xG_putI rfl (by exact rfl) (by exact rfl) ?_ | refine xG_go (fun _ => rfl) ?_)
      refine xV2 rfl (by exact rfl) (by simp) (c_hasOrgan ho hl) (fun r M' hq => ?_)
      obtain ⟨rfl, rfl⟩ := hq
      rw [if_neg p]
      refine xe0 rfl ?_
      iterate 1 (first | refine xG_getI rfl (by exact rfl) (by exact rfl) ?_ | refine xG_getR rfl (by exact rfl) (by exact rfl) ?_ | refine xG_add rfl ?_ | refine xG_sub rfl ?_ | refine xG_mul rfl ?_ | refine xG_putI rfl (by exact rfl) (by exact rfl) ?_ | refine xG_go (fun _ => rfl) ?_)
      exact xG_ret (fun _ => rfl) ⟨rfl, rfl⟩
    · refine xC_in rfl rfl (by simp; decide) ?_
      iterate 2 (first | refine xG_getI rfl (by exact rfl) (by exact rfl) ?_ | refine xG_getR rfl (by exact rfl) (by exact rfl) ?_ | refine xG_add rfl ?_ | refine xG_sub rfl ?_ | refine xG_mul rfl ?_ | refine xG_putI rfl (by exact rfl) (by exact rfl) ?_ | refine xG_go (fun _ => rfl) ?_)
      refine xV2 rfl (by exact rfl) (by simp) (m_isOrgan ho hk) (fun r M' hq => ?_)
      obtain ⟨rfl, rfl⟩ := hq
      rw [b01_f (by omega)]
      refine xe0 rfl ?_
      iterate 1 (first | refine xG_getI rfl (by exact rfl) (by exact rfl) ?_ | refine xG_getR rfl (by exact rfl) (by exact rfl) ?_ | refine xG_add rfl ?_ | refine xG_sub rfl ?_ | refine xG_mul rfl ?_ | refine xG_putI rfl (by exact rfl) (by exact rfl) ?_ | refine xG_go (fun _ => rfl) ?_)
      exact xG_ret (fun _ => rfl) ⟨Sc_refl, rfl⟩
end YN
