/-! THE CALLS: round, the loops -/
section YM
variable {sc : Nat × (Nat → Int)} {d c : Nat} {M : mv_M}
theorem play_like {nm : Nat} {tu : Int} {home : Nat → Int} {like like' : Nat → Nat → Int} {g : Nat → Int} {o : Nat} {t : Int} (e : ∀ m, m < nm → like' m = like m) : play nm tu home like' g o t = play nm tu home like g o t := by
  funext i
  unfold play
  by_cases w : 3 ≤ i ∧ i < 3 + nm ∧ home (i - 3) = g (15 + o)
  · rw [if_pos w, if_pos w, e (i - 3) (by omega)]
  · rw [if_neg w, if_neg w]
theorem far_lok {N : mv_M} (e : ∀ a, a < 16 → N a = M a) (h : lok M) : lok N := by
  unfold lok
  rw [e 4 (by decide), e 5 (by decide), e 6 (by decide), e 14 (by decide), e 15 (by decide)]
  refine ⟨h.1, h.2.1, h.2.2.1, h.2.2.2.1, h.2.2.2.2.1, h.2.2.2.2.2.1, fun m t hm ht => ?_, h.2.2.2.2.2.2.2.1, h.2.2.2.2.2.2.2.2⟩
  rw [e (8 + m) (by omega)]
  exact h.2.2.2.2.2.2.1 m t hm ht
theorem l_times {nm j : Nat} {t : Int} (hl : lok M) (en : M 4 2 = nm) (hj : j < 3) (ht : 0 ≤ t ∧ t < M 4 1) : ∀ (k i : Nat) (N : mv_M), (i : Int) + k = M 4 0 + 1 → (∀ a, (a < 89 ∨ 94 ≤ a) → N a = M a) → dok (dv N 89) → dv N 89 (15 + j) < M 4 0 → xG sc (d + 4) y_Planner_timesOnRound 17 [some (mR 86), some (mR 29), some (mI j), some (mI t), some (mR 89), some (mI i)] [] N (fun r M' => r = some (mI (rnd nm (M 4 0) (M 4 1) (M 5) (M 6) (lk M) j t k i (dv N 89))) ∧ ∀ a, (a < 89 ∨ 94 ≤ a) → M' a = M a) := by
  have h0 := hl.1
  have h1 := hl.2.1
  have h2 := hl.2.2.1
  have i89 : isDay 89 := isDay_step 0 (by decide)
  intro k
  induction k with
  | zero =>
    intro i N hk hN hd hp
    iterate 4 (first | refine xG_getI rfl (by exact rfl) (by exact rfl) ?_ | refine xG_getR rfl (by exact rfl) (by exact rfl) ?_ | refine xG_add rfl ?_ | refine xG_sub rfl ?_ | refine xG_mul rfl ?_ | refine xG_putI rfl (by exact rfl) (by exact rfl) ?_ | refine xG_go (fun _ => rfl) ?_)
    rw [hN 4 (by decide)]
    refine xb_gt rfl (by omega) (by omega) (fun _ => ?_) (fun c1 => absurd c1 (by omega))
    iterate 1 (first | refine xG_getI rfl (by exact rfl) (by exact rfl) ?_ | refine xG_getR rfl (by exact rfl) (by exact rfl) ?_ | refine xG_add rfl ?_ | refine xG_sub rfl ?_ | refine xG_mul rfl ?_ | refine xG_putI rfl (by exact rfl) (by exact rfl) ?_ | refine xG_go (fun _ => rfl) ?_)
    exact xG_ret (fun _ => rfl) ⟨rfl, hN⟩
  | succ k ih =>
    intro i N hk hN hd hp
    iterate 4 (first | refine xG_getI rfl (by exact rfl) (by exact rfl) ?_ | refine xG_getR rfl (by exact rfl) (by exact rfl) ?_ | refine xG_add rfl ?_ | refine xG_sub rfl ?_ | refine xG_mul rfl ?_ | refine xG_putI rfl (by exact rfl) (by exact rfl) ?_ | refine xG_go (fun _ => rfl) ?_)
    rw [hN 4 (by decide)]
    refine xb_gt rfl (by omega) (by omega) (fun c1 => absurd c1 (by omega)) (fun _ => ?_)
    have lN : lok N := far_lok (fun a ha => hN a (by omega)) hl
    iterate 3 (first | refine xG_getI rfl (by exact rfl) (by exact rfl) ?_ | refine xG_getR rfl (by exact rfl) (by exact rfl) ?_ | refine xG_add rfl ?_ | refine xG_sub rfl ?_ | refine xG_mul rfl ?_ | refine xG_putI rfl (by exact rfl) (by exact rfl) ?_ | refine xG_go (fun _ => rfl) ?_)
    refine xV3 rfl (by exact rfl) (by simp) (c_sounds i89 (by decide) lN hd (nm := nm) (by rw [hN 4 (by decide), en]) hj (by rw [hN 4 (by decide)]; exact ht)) (fun r N1 hq => ?_)
    obtain ⟨rfl, s1, s2⟩ := hq
    have e1 : ∀ a, (a < 89 ∨ 94 ≤ a) → N1 a = M a := fun a ha => by rw [s2 a (by omega) (by omega), hN a ha]
    have s3 : dv N1 89 = play nm (M 4 1) (M 5) (lk M) (dv N 89) j t := by
      have := s1
      rw [hN 4 (by decide), hN 5 (by decide)] at this
      rw [show dv N1 89 = _ from this]
      exact play_like (fun m hm => by funext u; unfold lk; rw [hN (8 + m) (by omega)])
    have n6 : nm ≤ 6 := by omega
    have dk : dok (dv N1 89) := by rw [s3]; exact play_dok n6 hd
    have lN1 : lok N1 := far_lok (fun a ha => e1 a (by omega)) hl
    have pl : dv N1 89 (15 + j) = dv N 89 (15 + j) := by rw [s3, play_np n6 (by omega) (by omega)]
    iterate 2 (first | refine xG_getI rfl (by exact rfl) (by exact rfl) ?_ | refine xG_getR rfl (by exact rfl) (by exact rfl) ?_ | refine xG_add rfl ?_ | refine xG_sub rfl ?_ | refine xG_mul rfl ?_ | refine xG_putI rfl (by exact rfl) (by exact rfl) ?_ | refine xG_go (fun _ => rfl) ?_)
    refine xV1 rfl (by exact rfl) (by simp) (c_carries i89 lN1 dk (nm := nm) (by rw [e1 4 (by decide), en])) (fun r M' hq => ?_)
    obtain ⟨rfl, rfl⟩ := hq
    change xG sc (d + 4) y_Planner_timesOnRound _ _ ((some (mI (if 0 < marg (N1 6) (dv N1 89) nm then 1 else 0))).toList ++ _) _ _
    rw [e1 6 (by decide), s3]
    simp only [rnd]
    by_cases q : 0 < marg (M 6) (play nm (M 4 1) (M 5) (lk M) (dv N 89) j t) nm
    · rw [if_pos q, if_pos q]
      refine xe1 rfl ?_
      iterate 1 (first | refine xG_getI rfl (by exact rfl) (by exact rfl) ?_ | refine xG_getR rfl (by exact rfl) (by exact rfl) ?_ | refine xG_add rfl ?_ | refine xG_sub rfl ?_ | refine xG_mul rfl ?_ | refine xG_putI rfl (by exact rfl) (by exact rfl) ?_ | refine xG_go (fun _ => rfl) ?_)
      exact xG_ret (fun _ => rfl) ⟨rfl, e1⟩
    · rw [if_neg q, if_neg q]
      refine xe0 rfl ?_
      iterate 2 (first | refine xG_getI rfl (by exact rfl) (by exact rfl) ?_ | refine xG_getR rfl (by exact rfl) (by exact rfl) ?_ | refine xG_add rfl ?_ | refine xG_sub rfl ?_ | refine xG_mul rfl ?_ | refine xG_putI rfl (by exact rfl) (by exact rfl) ?_ | refine xG_go (fun _ => rfl) ?_)
      refine xV2 rfl (by exact rfl) (by simp) (c_goesOn i89 lN1 dk hj (by rw [e1 4 (by decide), ← dv_p (M := N1) (D := 89) hj]; show dv N1 89 (15 + j) < _; rw [pl]; exact hp)) (fun r N2 hq => ?_)
      rw [e1 4 (by decide), ← dv_p (M := N1) (D := 89) hj] at hq
      obtain ⟨rfl, hN2⟩ := hq
      have e2 : ∀ a, (a < 89 ∨ 94 ≤ a) → N2 a = M a := fun a ha => by rw [hN2, mv_upne (by omega), e1 a ha]
      have s4 : dv N2 89 = setp (play nm (M 4 1) (M 5) (lk M) (dv N 89) j t) (15 + j) ((play nm (M 4 1) (M 5) (lk M) (dv N 89) j t (15 + j) + 1) % M 4 0) := by
        rw [hN2, ← s3]
        exact dv_upp (D := 89) hj
      have y1 := Int.emod_nonneg (play nm (M 4 1) (M 5) (lk M) (dv N 89) j t (15 + j) + 1) (show M 4 0 ≠ 0 by omega)
      have y2 := Int.emod_lt_of_pos (play nm (M 4 1) (M 5) (lk M) (dv N 89) j t (15 + j) + 1) (show 0 < M 4 0 by omega)
      have key := ih (i + 1) N2 (by omega) e2 (by rw [s4]; exact goes_dok h0 hj (play_dok n6 hd)) (by rw [s4, setp_at]; omega)
      rw [s4] at key
      iterate 3 (first | refine xG_getI rfl (by exact rfl) (by exact rfl) ?_ | refine xG_getR rfl (by exact rfl) (by exact rfl) ?_ | refine xG_add rfl ?_ | refine xG_sub rfl ?_ | refine xG_mul rfl ?_ | refine xG_putI rfl (by exact rfl) (by exact rfl) ?_ | refine xG_go (fun _ => rfl) ?_)
      exact key
theorem l_mround {nm j : Nat} {t : Int} (hl : mok M) (en : M 143 2 = nm) (hj : j < 3) (ht : 0 ≤ t ∧ t < M 143 1) : ∀ (k i : Nat) (N : mv_M), (i : Int) + k = M 143 0 + 1 → (∀ a, a ≠ 158 → N a = M a) → dok (N 158) → xG sc (d + 4) y_Mod_round 24 [some (mR 143), some (mI j), some (mI t), some (mI i)] [] N (fun r M' => r = some (mI (rnd nm (M 143 0) (M 143 1) (M 144) (M 145) (mlk M) j t k i (N 158))) ∧ ∀ a, a ≠ 158 → M' a = M a) := by
  have h0 := hl.1
  have h1 := hl.2.1
  have h2 := hl.2.2.1
  intro k
  induction k with
  | zero =>
    intro i N hk hN hd
    iterate 3 (first | refine xG_getI rfl (by exact rfl) (by exact rfl) ?_ | refine xG_getR rfl (by exact rfl) (by exact rfl) ?_ | refine xG_add rfl ?_ | refine xG_sub rfl ?_ | refine xG_mul rfl ?_ | refine xG_putI rfl (by exact rfl) (by exact rfl) ?_ | refine xG_go (fun _ => rfl) ?_)
    rw [hN 143 (by decide)]
    refine xb_gt rfl (by omega) (by omega) (fun _ => ?_) (fun c1 => absurd c1 (by omega))
    iterate 1 (first | refine xG_getI rfl (by exact rfl) (by exact rfl) ?_ | refine xG_getR rfl (by exact rfl) (by exact rfl) ?_ | refine xG_add rfl ?_ | refine xG_sub rfl ?_ | refine xG_mul rfl ?_ | refine xG_putI rfl (by exact rfl) (by exact rfl) ?_ | refine xG_go (fun _ => rfl) ?_)
    exact xG_ret (fun _ => rfl) ⟨rfl, hN⟩
  | succ k ih =>
    intro i N hk hN hd
    have n6 : nm ≤ 6 := by omega
    have mN : ∀ N : mv_M, (∀ a, a ≠ 158 → N a = M a) → mok N := fun N e => by
      unfold mok
      rw [e 143 (by decide), e 144 (by decide), e 145 (by decide), e 146 (by decide)]
      exact hl
    iterate 3 (first | refine xG_getI rfl (by exact rfl) (by exact rfl) ?_ | refine xG_getR rfl (by exact rfl) (by exact rfl) ?_ | refine xG_add rfl ?_ | refine xG_sub rfl ?_ | refine xG_mul rfl ?_ | refine xG_putI rfl (by exact rfl) (by exact rfl) ?_ | refine xG_go (fun _ => rfl) ?_)
    rw [hN 143 (by decide)]
    refine xb_gt rfl (by omega) (by omega) (fun c1 => absurd c1 (by omega)) (fun _ => ?_)
    iterate 3 (first | refine xG_getI rfl (by exact rfl) (by exact rfl) ?_ | refine xG_getR rfl (by exact rfl) (by exact rfl) ?_ | refine xG_add rfl ?_ | refine xG_sub rfl ?_ | refine xG_mul rfl ?_ | refine xG_putI rfl (by exact rfl) (by exact rfl) ?_ | refine xG_go (fun _ => rfl) ?_)
    refine xV3 rfl (by exact rfl) (by simp) (m_played (mN N hN) hd (nm := nm) (by rw [hN 143 (by decide), en]) hj (by rw [hN 143 (by decide)]; exact ht)) (fun r N1 hq => ?_)
    obtain ⟨rfl, eN1⟩ := hq
    have e1 : ∀ a, a ≠ 158 → N1 a = M a := fun a ha => by rw [eN1, mv_row_ne ha, hN a ha]
    have s3 : N1 158 = play nm (M 143 1) (M 144) (mlk M) (N 158) j t := by
      rw [eN1, mv_row_at, hN 143 (by decide), hN 144 (by decide), show mlk N = mlk M by unfold mlk; rw [hN 146 (by decide)]]
    have dk : dok (N1 158) := by rw [s3]; exact play_dok n6 hd
    have dp := dk.2.2.2.2.2.1 j hj
    iterate 2 (first | refine xG_getI rfl (by exact rfl) (by exact rfl) ?_ | refine xG_getR rfl (by exact rfl) (by exact rfl) ?_ | refine xG_add rfl ?_ | refine xG_sub rfl ?_ | refine xG_mul rfl ?_ | refine xG_putI rfl (by exact rfl) (by exact rfl) ?_ | refine xG_go (fun _ => rfl) ?_)
    refine xV1 rfl (by exact rfl) (by simp) (m_carries (mN N1 e1) dk (nm := nm) (by rw [e1 143 (by decide), en])) (fun r M' hq => ?_)
    obtain ⟨rfl, rfl⟩ := hq
    rw [e1 145 (by decide), s3]
    simp only [rnd]
    by_cases q : 0 < marg (M 145) (play nm (M 143 1) (M 144) (mlk M) (N 158) j t) nm
    · rw [b01_t q, if_pos q]
      refine xe1 rfl ?_
      iterate 1 (first | refine xG_getI rfl (by exact rfl) (by exact rfl) ?_ | refine xG_getR rfl (by exact rfl) (by exact rfl) ?_ | refine xG_add rfl ?_ | refine xG_sub rfl ?_ | refine xG_mul rfl ?_ | refine xG_putI rfl (by exact rfl) (by exact rfl) ?_ | refine xG_go (fun _ => rfl) ?_)
      exact xG_ret (fun _ => rfl) ⟨rfl, e1⟩
    · rw [b01_f q, if_neg q]
      refine xe0 rfl ?_
      iterate 10 (first | refine xG_getI rfl (by exact rfl) (by exact rfl) ?_ | refine xG_getR rfl (by exact rfl) (by exact rfl) ?_ | refine xG_add rfl ?_ | refine xG_sub rfl ?_ | refine xG_mul rfl ?_ | refine xG_putI rfl (by exact rfl) (by exact rfl) ?_ | refine xG_go (fun _ => rfl) ?_)
      refine xG_ald rfl (by exact rfl) (by omega) ?_
      rw [show ((15 : Int) + (j : Int)).toNat = 15 + j by omega]
      iterate 4 (first | refine xG_getI rfl (by exact rfl) (by exact rfl) ?_ | refine xG_getR rfl (by exact rfl) (by exact rfl) ?_ | refine xG_add rfl ?_ | refine xG_sub rfl ?_ | refine xG_mul rfl ?_ | refine xG_putI rfl (by exact rfl) (by exact rfl) ?_ | refine xG_go (fun _ => rfl) ?_)
      rw [e1 143 (by decide)]
      refine xG_rem rfl (by omega) ?_
      refine xG_ast rfl (by exact rfl) (by omega) ?_
      rw [show ((15 : Int) + (j : Int)).toNat = 15 + j by omega]
      have e2 : ∀ a, a ≠ 158 → mv_up N1 158 (15 + j) ((N1 158 (15 + j) + 1) % M 143 0) a = M a := fun a ha => by rw [mv_upne ha, e1 a ha]
      have s4 : mv_up N1 158 (15 + j) ((N1 158 (15 + j) + 1) % M 143 0) 158 = setp (play nm (M 143 1) (M 144) (mlk M) (N 158) j t) (15 + j) ((play nm (M 143 1) (M 144) (mlk M) (N 158) j t (15 + j) + 1) % M 143 0) := by
        rw [mv_up_setp, s3]
      have key := ih (i + 1) _ (by omega) e2 (by rw [s4]; exact goes_dok h0 hj (play_dok n6 hd))
      rw [s4] at key
      iterate 2 (first | refine xG_getI rfl (by exact rfl) (by exact rfl) ?_ | refine xG_getR rfl (by exact rfl) (by exact rfl) ?_ | refine xG_add rfl ?_ | refine xG_sub rfl ?_ | refine xG_mul rfl ?_ | refine xG_putI rfl (by exact rfl) (by exact rfl) ?_ | refine xG_go (fun _ => rfl) ?_)
      exact key
theorem c_timesOnRound {nm j : Nat} {t : Int} (hl : lok M) (en : M 4 2 = nm) (hj : j < 3) (ht : 0 ≤ t ∧ t < M 4 1) (hd : dok (dv M 29)) (hp : dv M 29 (15 + j) < M 4 0) : ∃ st : Nat, M 4 0 = st ∧ xC sc (d + 5) n_Planner_timesOnRound [mR 86, mR 29, mI j, mI t] M (fun r M' => ∃ g, (∀ k, k < 21 → g k = dv M 29 k) ∧ r = some (mI (rnd nm (M 4 0) (M 4 1) (M 5) (M 6) (lk M) j t st 1 g)) ∧ ∀ a, (a < 89 ∨ 94 ≤ a) → M' a = M a) := by
  have h0 := hl.1
  obtain ⟨st, es⟩ := Int.eq_ofNat_of_zero_le (show 0 ≤ M 4 0 by omega)
  refine ⟨st, es, ?_⟩
  have i89 : isDay 89 := isDay_step 0 (by decide)
  refine xC_in rfl rfl (by simp; decide) ?_
  iterate 3 (first | refine xG_getI rfl (by exact rfl) (by exact rfl) ?_ | refine xG_getR rfl (by exact rfl) (by exact rfl) ?_ | refine xG_add rfl ?_ | refine xG_sub rfl ?_ | refine xG_mul rfl ?_ | refine xG_putI rfl (by exact rfl) (by exact rfl) ?_ | refine xG_go (fun _ => rfl) ?_)
  refine xG_aald rfl (by exact rfl) (Or.inl rfl) (by decide) (by exact rfl) ?_
  iterate 3 (first | refine xG_getI rfl (by exact rfl) (by exact rfl) ?_ | refine xG_getR rfl (by exact rfl) (by exact rfl) ?_ | refine xG_add rfl ?_ | refine xG_sub rfl ?_ | refine xG_mul rfl ?_ | refine xG_putI rfl (by exact rfl) (by exact rfl) ?_ | refine xG_go (fun _ => rfl) ?_)
  refine xV2 rfl (by exact rfl) (by simp) (c_becomes i89 isDay_today (by decide)) (fun r N hq => ?_)
  obtain ⟨rfl, q1, q2⟩ := hq
  iterate 2 (first | refine xG_getI rfl (by exact rfl) (by exact rfl) ?_ | refine xG_getR rfl (by exact rfl) (by exact rfl) ?_ | refine xG_add rfl ?_ | refine xG_sub rfl ?_ | refine xG_mul rfl ?_ | refine xG_putI rfl (by exact rfl) (by exact rfl) ?_ | refine xG_go (fun _ => rfl) ?_)
  refine xG_mono (l_times hl en hj ht st 1 N (by omega) (fun a ha => q2 a (by omega)) (dok_cong q1 hd) (by rw [q1 _ (by omega)]; exact hp)) (fun r M' hq => ⟨dv N 89, q1, hq.1, hq.2⟩)
end YM
