/-! THE CALLS: next -/
section YW
variable {sc : Nat × (Nat → Int)} {d c : Nat} {M : mv_M}
theorem l_mnext {tu n : Nat} (h4 : tu ≤ 4) (et : M 143 1 = tu) (tk : tok M n) : ∀ (k j : Nat) (N : mv_M) (x4 x5 : Option mv_V), j + 1 + k = tu → (∀ a, a ≠ 162 → N a = M a) → xG sc (d + 5) y_Mod_next 20 [some (mR 143), some (mI (bst (fun t => gp (mK M n) t (7 ^ tu)) j)), some (mI (gp (mK M n) (bst (fun t => gp (mK M n) t (7 ^ tu)) j) (7 ^ tu))), some (mI ((j + 1 : Nat) : Int)), x4, x5] [] N (fun r N' => (∀ a, a ≠ 162 → N' a = M a) ∧ r = some (mI (bst (fun t => gp (mK M n) t (7 ^ tu)) (tu - 1)))) := by
  intro k
  induction k with
  | zero =>
    intro j N x4 x5 hk h1
    iterate 3 (first | refine xG_getI rfl (by exact rfl) (by exact rfl) ?_ | refine xG_getR rfl (by exact rfl) (by exact rfl) ?_ | refine xG_add rfl ?_ | refine xG_sub rfl ?_ | refine xG_mul rfl ?_ | refine xG_putI rfl (by exact rfl) (by exact rfl) ?_ | refine xG_go (fun _ => rfl) ?_)
    rw [h1 143 (by decide), et]
    refine xb_ge rfl (by omega) (by omega) (fun _ => ?_) (fun c1 => absurd c1 (by omega))
    iterate 1 (first | refine xG_getI rfl (by exact rfl) (by exact rfl) ?_ | refine xG_getR rfl (by exact rfl) (by exact rfl) ?_ | refine xG_add rfl ?_ | refine xG_sub rfl ?_ | refine xG_mul rfl ?_ | refine xG_putI rfl (by exact rfl) (by exact rfl) ?_ | refine xG_go (fun _ => rfl) ?_)
    rw [show tu - 1 = j by omega]
    exact xG_ret (fun _ => rfl) ⟨h1, rfl⟩
  | succ k ih =>
    intro j N x4 x5 hk h1
    have tkN : tok N n := by unfold tok; rw [h1 151 (by decide), h1 143 (by decide)]; exact tk
    have eK : mK N n = mK M n := by unfold mK; rw [h1 151 (by decide)]
    have b2 := (pow7n h4).1
    have bl := bst_le (fun t => gp (mK M n) t (7 ^ tu)) j
    have g1 := gp_in (mK M n) (j + 1) (7 ^ tu)
    have g2 := gp_in (mK M n) (bst (fun t => gp (mK M n) t (7 ^ tu)) j) (7 ^ tu)
    iterate 3 (first | refine xG_getI rfl (by exact rfl) (by exact rfl) ?_ | refine xG_getR rfl (by exact rfl) (by exact rfl) ?_ | refine xG_add rfl ?_ | refine xG_sub rfl ?_ | refine xG_mul rfl ?_ | refine xG_putI rfl (by exact rfl) (by exact rfl) ?_ | refine xG_go (fun _ => rfl) ?_)
    rw [h1 143 (by decide), et]
    refine xb_ge rfl (by omega) (by omega) (fun c1 => absurd c1 (by omega)) (fun _ => ?_)
    iterate 2 (first | refine xG_getI rfl (by exact rfl) (by exact rfl) ?_ | refine xG_getR rfl (by exact rfl) (by exact rfl) ?_ | refine xG_add rfl ?_ | refine xG_sub rfl ?_ | refine xG_mul rfl ?_ | refine xG_putI rfl (by exact rfl) (by exact rfl) ?_ | refine xG_go (fun _ => rfl) ?_)
    refine xV2 rfl (by exact rfl) (by simp) (m_greatestPart (tu := tu) (n := n) (t := j + 1) h4 (by rw [h1 143 (by decide), et]) (by omega) tkN) (fun r N1 hq => ?_)
    obtain ⟨f1, rfl⟩ := hq
    rw [eK]
    have key := fun x4 x5 => ih (j + 1) N1 x4 x5 (by omega) (fun a ha => by rw [f1 a ha, h1 a ha])
    simp only [bst] at key
    iterate 2 (first | refine xG_getI rfl (by exact rfl) (by exact rfl) ?_ | refine xG_getR rfl (by exact rfl) (by exact rfl) ?_ | refine xG_add rfl ?_ | refine xG_sub rfl ?_ | refine xG_mul rfl ?_ | refine xG_putI rfl (by exact rfl) (by exact rfl) ?_ | refine xG_go (fun _ => rfl) ?_)
    refine xi_lt rfl (by omega) (fun c1 => absurd c1 (by omega)) (fun _ => ?_)
    iterate 2 (first | refine xG_getI rfl (by exact rfl) (by exact rfl) ?_ | refine xG_getR rfl (by exact rfl) (by exact rfl) ?_ | refine xG_add rfl ?_ | refine xG_sub rfl ?_ | refine xG_mul rfl ?_ | refine xG_putI rfl (by exact rfl) (by exact rfl) ?_ | refine xG_go (fun _ => rfl) ?_)
    refine xb_ge rfl (by omega) (by omega) (fun c1 => ?_) (fun c1 => ?_)
    · rw [if_neg (by omega)] at key
      iterate 3 (first | refine xG_getI rfl (by exact rfl) (by exact rfl) ?_ | refine xG_getR rfl (by exact rfl) (by exact rfl) ?_ | refine xG_add rfl ?_ | refine xG_sub rfl ?_ | refine xG_mul rfl ?_ | refine xG_putI rfl (by exact rfl) (by exact rfl) ?_ | refine xG_go (fun _ => rfl) ?_)
      refine xe0 rfl ?_
      iterate 3 (first | refine xG_getI rfl (by exact rfl) (by exact rfl) ?_ | refine xG_getR rfl (by exact rfl) (by exact rfl) ?_ | refine xG_add rfl ?_ | refine xG_sub rfl ?_ | refine xG_mul rfl ?_ | refine xG_putI rfl (by exact rfl) (by exact rfl) ?_ | refine xG_go (fun _ => rfl) ?_)
      refine xe0 rfl ?_
      iterate 4 (first | refine xG_getI rfl (by exact rfl) (by exact rfl) ?_ | refine xG_getR rfl (by exact rfl) (by exact rfl) ?_ | refine xG_add rfl ?_ | refine xG_sub rfl ?_ | refine xG_mul rfl ?_ | refine xG_putI rfl (by exact rfl) (by exact rfl) ?_ | refine xG_go (fun _ => rfl) ?_)
      exact key _ _
    · rw [if_pos (by omega)] at key
      iterate 4 (first | refine xG_getI rfl (by exact rfl) (by exact rfl) ?_ | refine xG_getR rfl (by exact rfl) (by exact rfl) ?_ | refine xG_add rfl ?_ | refine xG_sub rfl ?_ | refine xG_mul rfl ?_ | refine xG_putI rfl (by exact rfl) (by exact rfl) ?_ | refine xG_go (fun _ => rfl) ?_)
      refine xe1 rfl ?_
      iterate 4 (first | refine xG_getI rfl (by exact rfl) (by exact rfl) ?_ | refine xG_getR rfl (by exact rfl) (by exact rfl) ?_ | refine xG_add rfl ?_ | refine xG_sub rfl ?_ | refine xG_mul rfl ?_ | refine xG_putI rfl (by exact rfl) (by exact rfl) ?_ | refine xG_go (fun _ => rfl) ?_)
      refine xe1 rfl ?_
      iterate 5 (first | refine xG_getI rfl (by exact rfl) (by exact rfl) ?_ | refine xG_getR rfl (by exact rfl) (by exact rfl) ?_ | refine xG_add rfl ?_ | refine xG_sub rfl ?_ | refine xG_mul rfl ?_ | refine xG_putI rfl (by exact rfl) (by exact rfl) ?_ | refine xG_go (fun _ => rfl) ?_)
      exact key _ _
theorem m_next {tu n : Nat} (hk : mok M) (et : M 143 1 = tu) (tk : tok M n) : xC sc (d + 6) n_Mod_next [mR 143] M (fun r N' => (∀ a, a ≠ 162 → N' a = M a) ∧ r = some (mI (if cntP (mK M n) (7 ^ tu) ≤ 1 then -9 else (bst (fun t => gp (mK M n) t (7 ^ tu)) (tu - 1) : Int)))) := by
  have h1 := hk.2.1
  have h4 : tu ≤ 4 := by omega
  have b := cntP_in (mK M n) (7 ^ tu)
  have b2 := (pow7n h4).1
  refine xC_in rfl rfl (by simp; decide) ?_
  iterate 3 (first | refine xG_getI rfl (by exact rfl) (by exact rfl) ?_ | refine xG_getR rfl (by exact rfl) (by exact rfl) ?_ | refine xG_add rfl ?_ | refine xG_sub rfl ?_ | refine xG_mul rfl ?_ | refine xG_putI rfl (by exact rfl) (by exact rfl) ?_ | refine xG_go (fun _ => rfl) ?_)
  refine xV3 rfl (by exact rfl) (by simp) (m_can (t := 0) (tu := tu) (n := n) hk et (by omega) (by decide) tk) (fun r M' hq => ?_)
  obtain ⟨rfl, rfl⟩ := hq
  rw [if_pos rfl]
  iterate 1 (first | refine xG_getI rfl (by exact rfl) (by exact rfl) ?_ | refine xG_getR rfl (by exact rfl) (by exact rfl) ?_ | refine xG_add rfl ?_ | refine xG_sub rfl ?_ | refine xG_mul rfl ?_ | refine xG_putI rfl (by exact rfl) (by exact rfl) ?_ | refine xG_go (fun _ => rfl) ?_)
  refine xb_ge rfl (by omega) (by omega) (fun c1 => ?_) (fun c1 => ?_)
  · rw [if_neg (by omega)]
    iterate 9 (first | refine xG_getI rfl (by exact rfl) (by exact rfl) ?_ | refine xG_getR rfl (by exact rfl) (by exact rfl) ?_ | refine xG_add rfl ?_ | refine xG_sub rfl ?_ | refine xG_mul rfl ?_ | refine xG_putI rfl (by exact rfl) (by exact rfl) ?_ | refine xG_go (fun _ => rfl) ?_)
    rw [et]
    refine xb_ge rfl (by omega) (by omega) (fun c1 => absurd c1 (by omega)) (fun _ => ?_)
    iterate 2 (first | refine xG_getI rfl (by exact rfl) (by exact rfl) ?_ | refine xG_getR rfl (by exact rfl) (by exact rfl) ?_ | refine xG_add rfl ?_ | refine xG_sub rfl ?_ | refine xG_mul rfl ?_ | refine xG_putI rfl (by exact rfl) (by exact rfl) ?_ | refine xG_go (fun _ => rfl) ?_)
    refine xV2 rfl (by exact rfl) (by simp) (m_greatestPart (tu := tu) (n := n) (t := 0) h4 et (by omega) tk) (fun r N1 hq => ?_)
    obtain ⟨f1, rfl⟩ := hq
    iterate 2 (first | refine xG_getI rfl (by exact rfl) (by exact rfl) ?_ | refine xG_getR rfl (by exact rfl) (by exact rfl) ?_ | refine xG_add rfl ?_ | refine xG_sub rfl ?_ | refine xG_mul rfl ?_ | refine xG_putI rfl (by exact rfl) (by exact rfl) ?_ | refine xG_go (fun _ => rfl) ?_)
    refine xi_lt rfl (by omega) (fun _ => ?_) (fun c1 => absurd c1 (by omega))
    iterate 4 (first | refine xG_getI rfl (by exact rfl) (by exact rfl) ?_ | refine xG_getR rfl (by exact rfl) (by exact rfl) ?_ | refine xG_add rfl ?_ | refine xG_sub rfl ?_ | refine xG_mul rfl ?_ | refine xG_putI rfl (by exact rfl) (by exact rfl) ?_ | refine xG_go (fun _ => rfl) ?_)
    refine xe1 rfl ?_
    iterate 4 (first | refine xG_getI rfl (by exact rfl) (by exact rfl) ?_ | refine xG_getR rfl (by exact rfl) (by exact rfl) ?_ | refine xG_add rfl ?_ | refine xG_sub rfl ?_ | refine xG_mul rfl ?_ | refine xG_putI rfl (by exact rfl) (by exact rfl) ?_ | refine xG_go (fun _ => rfl) ?_)
    refine xe1 rfl ?_
    iterate 5 (first | refine xG_getI rfl (by exact rfl) (by exact rfl) ?_ | refine xG_getR rfl (by exact rfl) (by exact rfl) ?_ | refine xG_add rfl ?_ | refine xG_sub rfl ?_ | refine xG_mul rfl ?_ | refine xG_putI rfl (by exact rfl) (by exact rfl) ?_ | refine xG_go (fun _ => rfl) ?_)
    exact l_mnext h4 et tk (tu - 1) 0 N1 _ _ (by omega) f1
  · rw [if_pos (by omega)]
    iterate 1 (first | refine xG_getI rfl (by exact rfl) (by exact rfl) ?_ | refine xG_getR rfl (by exact rfl) (by exact rfl) ?_ | refine xG_add rfl ?_ | refine xG_sub rfl ?_ | refine xG_mul rfl ?_ | refine xG_putI rfl (by exact rfl) (by exact rfl) ?_ | refine xG_go (fun _ => rfl) ?_)
    exact xG_ret (fun _ => rfl) ⟨fun _ _ => rfl, rfl⟩
theorem b_next (h : R c M) : both sc 30 n_MV_next n_Mod_next [] M c := by
  have hl := h.1.1
  obtain ⟨_, hk, e0, e1, e2, e3, _⟩ := h.1
  have h1 := hl.2.1
  obtain ⟨tu, et⟩ := Int.eq_ofNat_of_zero_le (show 0 ≤ M 4 1 by omega)
  have h4 : tu ≤ 4 := by omega
  obtain ⟨n, n6, en, tk, hf, eK⟩ := R_tok h
  have b := cntP_in (pK M n) (7 ^ tu)
  have b2 := (pow7n h4).1
  have bl := bst_le (fun t => gp (pK M n) t (7 ^ tu)) (tu - 1)
  have k1 : xC sc 30 n_MV_next [mR 0] M (fun r M' => r = some (mI (if cntP (pK M n) (7 ^ tu) ≤ 1 then -9 else (bst (fun t => gp (pK M n) t (7 ^ tu)) (tu - 1) : Int))) ∧ svy M M' (pK M n) tu (7 ^ tu)) := by
    refine xC_in rfl rfl (by simp; decide) ?_
    iterate 2 (first | refine xG_getI rfl (by exact rfl) (by exact rfl) ?_ | refine xG_getR rfl (by exact rfl) (by exact rfl) ?_ | refine xG_add rfl ?_ | refine xG_sub rfl ?_ | refine xG_mul rfl ?_ | refine xG_putI rfl (by exact rfl) (by exact rfl) ?_ | refine xG_go (fun _ => rfl) ?_)
    refine xV1 rfl (by exact rfl) (by simp) (c_surveys h4 et n6 en (hf tu et)) (fun r N hq => ?_)
    obtain ⟨rfl, s⟩ := hq
    have s3 := s.2.2.1
    iterate 4 (first | refine xG_getI rfl (by exact rfl) (by exact rfl) ?_ | refine xG_getR rfl (by exact rfl) (by exact rfl) ?_ | refine xG_add rfl ?_ | refine xG_sub rfl ?_ | refine xG_mul rfl ?_ | refine xG_putI rfl (by exact rfl) (by exact rfl) ?_ | refine xG_go (fun _ => rfl) ?_)
    rw [s3]
    refine xb_gt rfl (by omega) (by omega) (fun c1 => ?_) (fun c1 => ?_)
    · rw [if_neg (by omega)]
      iterate 2 (first | refine xG_getI rfl (by exact rfl) (by exact rfl) ?_ | refine xG_getR rfl (by exact rfl) (by exact rfl) ?_ | refine xG_add rfl ?_ | refine xG_sub rfl ?_ | refine xG_mul rfl ?_ | refine xG_putI rfl (by exact rfl) (by exact rfl) ?_ | refine xG_go (fun _ => rfl) ?_)
      refine xV1 rfl (by exact rfl) (by simp) (c_bestToTry (P := pK M n) (tu := tu) (A := 7 ^ tu) (by omega) h4 (by rw [s.1 4 (by decide) (by decide), et]) b2 (fun t ht v hv => (s.2.2.2 t ht).2.2 v hv)) (fun r M' hq => ?_)
      obtain ⟨rfl, rfl⟩ := hq
      exact xG_ret (fun _ => rfl) ⟨rfl, s⟩
    · rw [if_pos (by omega)]
      iterate 2 (first | refine xG_getI rfl (by exact rfl) (by exact rfl) ?_ | refine xG_getR rfl (by exact rfl) (by exact rfl) ?_ | refine xG_add rfl ?_ | refine xG_sub rfl ?_ | refine xG_mul rfl ?_ | refine xG_putI rfl (by exact rfl) (by exact rfl) ?_ | refine xG_go (fun _ => rfl) ?_)
      exact xG_ret (fun _ => rfl) ⟨rfl, s⟩
  refine xC_mono k1 (fun r1 M1 hq => ?_)
  obtain ⟨rfl, s⟩ := hq
  have sS := svy_Sc s
  have hk1 : mok M1 := Sl_mok (Sc_Sl sS) hk
  have e151 : M1 151 = M 151 := s.1 151 (by decide) (by decide)
  have e143 : M1 143 = M 143 := s.1 143 (by decide) (by decide)
  have tk1 : tok M1 n := by unfold tok; rw [e151, e143]; exact tk
  have eK1 : mK M1 n = pK M n := by rw [← eK]; unfold mK; rw [e151]
  refine xC_mono (m_next (tu := tu) (n := n) hk1 (by rw [e143, e1, et]) tk1) (fun r2 M2 hq => ?_)
  obtain ⟨f1, rfl⟩ := hq
  rw [eK1]
  exact ⟨⟨_, by split <;> omega, rfl, rfl⟩, Sc_R (Sc_trans sS (Sc_all (fun a _ _ _ => f1 a (by omega)))) h⟩
end YW
