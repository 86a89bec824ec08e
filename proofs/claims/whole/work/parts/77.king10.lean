/-! THE TEXT: the reference reads an item -/
section ZN
variable {sc : Nat × (Nat → Int)} {d c : Nat} {M : mv_M}
theorem RS_S {S S' N : mv_M} (e : ∀ a, a ≠ 16 → S' a = S a) (e4 : S' 16 4 = S 16 4) (e5 : S' 16 5 = S 16 5) (h : RS S N) : RS S' N := by
  unfold RS
  rw [e 17 (by decide), e 18 (by decide), e 19 (by decide), e 27 (by decide), e 28 (by decide), e4, e5]
  obtain ⟨h1, h2, h3, h4, h5, h6, h7, h8, h9, h10⟩ := h
  refine ⟨h1, h2, h3, h4, h5, h6, h7, h8, fun m hm => ?_, h10⟩
  rw [e (21 + m) (by omega)]
  exact h9 m hm
theorem RS_N {S N N' : mv_M} (f : fr5 N N') (h : RS S N) : RS S N' := by
  unfold RS
  rw [f.2 23 (by omega), f.2 24 (by omega), f.2 25 (by omega), f.2 29 (by omega), f.1 153 (by decide), f.1 154 (by decide), f.1 155 (by decide), f.1 156 (by decide), f.1 157 (by decide)]
  exact h
theorem kf_refl {N : mv_M} : kf N N := ⟨fun _ _ _ => rfl, fun _ _ _ _ _ _ => rfl⟩
theorem kf_fr5 {N0 N N' : mv_M} (h : kf N0 N) (f : fr5 N N') : kf N0 N' := ⟨fun a a1 a2 => by rw [f.1 a a1, h.1 a a1 a2], fun j a1 a2 a3 a4 a5 => by rw [f.2 j a1, h.2 j a1 a2 a3 a4 a5]⟩
theorem kf_up {N0 N : mv_M} {a i : Nat} {v : Int} (ha : (153 ≤ a ∧ a ≤ 157) ∨ (a = 143 ∧ ((17 ≤ i ∧ i ≤ 21) ∨ i = 23 ∨ i = 24 ∨ i = 25 ∨ i = 29))) (h : kf N0 N) : kf N0 (mv_up N a i v) := by
  refine ⟨fun b b1 b2 => by rw [mv_upne (by omega), h.1 b b1 b2], fun j b1 b2 b3 b4 b5 => ?_⟩
  by_cases w : a = 143
  · subst w
    rw [mv_up_j (by omega), h.2 j b1 b2 b3 b4 b5]
  · rw [mv_upne (by omega), h.2 j b1 b2 b3 b4 b5]
theorem kf_txt {t : Nat → Int} {L : Nat} {N N' : mv_M} (h : kf N N') (x : txt t L N) : txt t L N' := ⟨x.1, by rw [h.2 16 (by omega) (by omega) (by omega) (by omega) (by omega)]; exact x.2.1, by rw [h.1 152 (by decide) (by decide)]; exact x.2.2⟩
theorem mw_156 {N : mv_M} {i : Nat} {v : Int} (hv : 0 ≤ v ∧ v ≤ 4) (h : mw N) : mw (mv_up N 156 i v) := by
  refine ⟨fun m hm => by rw [mv_upne (by decide), mv_upne (by decide)]; exact h.1 m hm, fun k hk => by rw [mv_upne (by decide)]; exact h.2.1 k hk, fun o ho => ⟨?_, by rw [mv_upne (by decide)]; exact (h.2.2 o ho).2⟩⟩
  by_cases w : o = i
  · rw [w, mv_up_at]; exact hv
  · rw [mv_up_j w]; exact (h.2.2 o ho).1
theorem mw_157 {N : mv_M} {i : Nat} {v : Int} (hv : 0 ≤ v ∧ v ≤ 15) (h : mw N) : mw (mv_up N 157 i v) := by
  refine ⟨fun m hm => by rw [mv_upne (by decide), mv_upne (by decide)]; exact h.1 m hm, fun k hk => by rw [mv_upne (by decide)]; exact h.2.1 k hk, fun o ho => ⟨by rw [mv_upne (by decide)]; exact (h.2.2 o ho).1, ?_⟩⟩
  by_cases w : o = i
  · rw [w, mv_up_at]; exact hv
  · rw [mv_up_j w]; exact (h.2.2 o ho).2
theorem m_readBody {U : Option Nat × mv_M} {t : Nat → Int} {L p0 : Nat} {S : mv_M} {l : Int} (x : txt t L M) (hS : wo S) (hi : S 16 1 = 0) (hr : RS S M) (hb : mayB S l) (hm : mw M) (hg : good U t L p0 (bgS S l) M) : xC sc (d + 6) n_Mod_readBody [mR 143, mI l] M (fun r N => r = none ∧ BQ U t L p0 S M N) := by
  have hr0 := hr
  obtain ⟨r1, r2, r3, r4, r5, r6, r7, r8, r9, r10⟩ := hr
  have bo := bg_wo hS (bgP_t hi hb)
  obtain ⟨s1, s2, s3, s4, s5⟩ := bgS_16 (S := S) (l := l)
  have sr : ∀ a, a ≠ 16 → bgS S l a = S a := fun a ha => bgS_ne ha
  have w0 := hS.1.2.1
  have w4 := hS.1.2.2.2.2.2.2.1
  have w5 := hS.1.2.2.2.2.2.2.2.1
  refine xC_in rfl rfl (by simp; decide) ?_
  iterate 1 (first | refine xG_getI rfl (by exact rfl) (by exact rfl) ?_ | refine xG_getR rfl (by exact rfl) (by exact rfl) ?_ | refine xG_add rfl ?_ | refine xG_sub rfl ?_ | refine xG_mul rfl ?_ | refine xG_putI rfl (by exact rfl) (by exact rfl) ?_ | refine xG_go (fun _ => rfl) ?_)
  rcases (show (l = 115 ∧ S 17 2 = 0 ∧ S 17 3 = 0 ∧ S 16 4 = 0) ∨ (l = 116 ∧ S 17 2 = 0 ∧ S 17 3 = 0 ∧ S 16 5 = 0) ∨ (l = 109 ∧ S 17 2 < 6) ∨ (l = 111 ∧ S 17 3 < 3) from hb) with ⟨rfl, b2, b3, b4⟩ | ⟨rfl, b2, b3, b4⟩ | ⟨rfl, b2⟩ | ⟨rfl, b2⟩
  · refine xG_go (pc1 := 36) (fun _ => rfl) ?_
    iterate 4 (first | refine xG_getI rfl (by exact rfl) (by exact rfl) ?_ | refine xG_getR rfl (by exact rfl) (by exact rfl) ?_ | refine xG_add rfl ?_ | refine xG_sub rfl ?_ | refine xG_mul rfl ?_ | refine xG_putI rfl (by exact rfl) (by exact rfl) ?_ | refine xG_go (fun _ => rfl) ?_)
    refine xV3 rfl (by exact rfl) (by simp) (m_takesNumber (S := bgS S 115) x (by decide) (by decide) (Or.inr ⟨hg, bo.1.1, by omega, by rw [due_s s1, s2]; decide, by unfold lea; rw [s1]; rfl, by unfold gre; rw [s1]; rfl⟩)) (fun r N1 hq => ?_)
    obtain ⟨f1, v, rfl, f2⟩ := hq
    iterate 2 (first | refine xG_getI rfl (by exact rfl) (by exact rfl) ?_ | refine xG_getR rfl (by exact rfl) (by exact rfl) ?_ | refine xG_add rfl ?_ | refine xG_sub rfl ?_ | refine xG_mul rfl ?_ | refine xG_putI rfl (by exact rfl) (by exact rfl) ?_ | refine xG_go (fun _ => rfl) ?_)
    refine xG_ret (fun _ => rfl) ⟨rfl, kf_up (by omega) (kf_fr5 kf_refl f1), mw_same (fun a _ _ => by rw [mv_upne (by omega), f1.1 a (by omega)]) hm, ?_⟩
    rcases f2 with f2 | ⟨f2, f3, f4, f5, _⟩
    · exact Or.inl (bad_up (Or.inr (Or.inl (by decide))) f2.1)
    · have tw := tn_wo bo.1 f3
      have eS : snP (bgS S 115) v = mv_up (mv_up (bgS S 115) 17 0 v) 16 2 1 := by unfold snP; rw [putn_s s1, s2]; rfl
      have i1 : snP (bgS S 115) v 16 1 = 115 := by rw [eS, mv_up_j (by decide), mv_upne (by decide), s1]
      refine Or.inr ⟨_, good_up (Or.inr (Or.inl (by decide))) f2, tw.1, kfr_trans bo.2.1 tw.2.1, by omega, by rw [due_s i1, eS, mv_up_at]; decide, by rw [tw.2.2, s3], ?_⟩
      have ee : enS (snP (bgS S 115) v) = snP (bgS S 115) v := by unfold enS; rw [i1]; rfl
      rw [ee, eS]
      unfold RS
      rw [mv_up_at, mv_up_j (show 24 ≠ 23 by decide), mv_up_j (show 25 ≠ 23 by decide), mv_up_j (show 29 ≠ 23 by decide), f1.2 24 (by omega), f1.2 25 (by omega), f1.2 29 (by omega), mv_upne (show 17 ≠ 16 by decide), mv_up_at, mv_up_j (show 1 ≠ 0 by decide), mv_up_j (show 2 ≠ 0 by decide), mv_up_j (show 3 ≠ 0 by decide), mv_up_j (show 4 ≠ 2 by decide), mv_up_j (show 5 ≠ 2 by decide), mv_upne (show 16 ≠ 17 by decide), s4, s5, sr 17 (by decide)]
      refine ⟨by omega, r2, by rw [if_neg (by omega)], r4, r5, r6, Or.inr ⟨if_pos (Or.inr rfl), by omega⟩, ?_, fun m hm => absurd hm (by omega), fun o ho => absurd ho (by omega)⟩
      rcases r8 with ⟨q1, q2⟩ | ⟨q1, q2⟩
      · left; exact ⟨by rw [if_neg (by omega)], q2⟩
      · right; exact ⟨by rw [if_pos (Or.inl q1)], q2⟩
  · refine xG_go (pc1 := 49) (fun _ => rfl) ?_
    iterate 4 (first | refine xG_getI rfl (by exact rfl) (by exact rfl) ?_ | refine xG_getR rfl (by exact rfl) (by exact rfl) ?_ | refine xG_add rfl ?_ | refine xG_sub rfl ?_ | refine xG_mul rfl ?_ | refine xG_putI rfl (by exact rfl) (by exact rfl) ?_ | refine xG_go (fun _ => rfl) ?_)
    refine xV3 rfl (by exact rfl) (by simp) (m_takesNumber (S := bgS S 116) x (by decide) (by decide) (Or.inr ⟨hg, bo.1.1, by omega, by rw [due_t s1, s2]; decide, by unfold lea; rw [s1]; rfl, by unfold gre; rw [s1]; rfl⟩)) (fun r N1 hq => ?_)
    obtain ⟨f1, v, rfl, f2⟩ := hq
    iterate 2 (first | refine xG_getI rfl (by exact rfl) (by exact rfl) ?_ | refine xG_getR rfl (by exact rfl) (by exact rfl) ?_ | refine xG_add rfl ?_ | refine xG_sub rfl ?_ | refine xG_mul rfl ?_ | refine xG_putI rfl (by exact rfl) (by exact rfl) ?_ | refine xG_go (fun _ => rfl) ?_)
    refine xG_ret (fun _ => rfl) ⟨rfl, kf_up (by omega) (kf_fr5 kf_refl f1), mw_same (fun a _ _ => by rw [mv_upne (by omega), f1.1 a (by omega)]) hm, ?_⟩
    rcases f2 with f2 | ⟨f2, f3, f4, f5, _⟩
    · exact Or.inl (bad_up (Or.inr (Or.inl (by decide))) f2.1)
    · have tw := tn_wo bo.1 f3
      have eS : snP (bgS S 116) v = mv_up (mv_up (bgS S 116) 17 1 v) 16 2 1 := by unfold snP; rw [putn_t s1, s2]; rfl
      have i1 : snP (bgS S 116) v 16 1 = 116 := by rw [eS, mv_up_j (by decide), mv_upne (by decide), s1]
      refine Or.inr ⟨_, good_up (Or.inr (Or.inl (by decide))) f2, tw.1, kfr_trans bo.2.1 tw.2.1, by omega, by rw [due_t i1, eS, mv_up_at]; decide, by rw [tw.2.2, s3], ?_⟩
      have ee : enS (snP (bgS S 116) v) = snP (bgS S 116) v := by unfold enS; rw [i1]; rfl
      rw [ee, eS]
      unfold RS
      rw [mv_up_at, mv_up_j (show 23 ≠ 24 by decide), mv_up_j (show 25 ≠ 24 by decide), mv_up_j (show 29 ≠ 24 by decide), f1.2 23 (by omega), f1.2 25 (by omega), f1.2 29 (by omega), mv_upne (show 17 ≠ 16 by decide), mv_up_at, mv_up_j (show 0 ≠ 1 by decide), mv_up_j (show 2 ≠ 1 by decide), mv_up_j (show 3 ≠ 1 by decide), mv_up_j (show 4 ≠ 2 by decide), mv_up_j (show 5 ≠ 2 by decide), mv_upne (show 16 ≠ 17 by decide), s4, s5, sr 17 (by decide)]
      refine ⟨r1, by omega, r3, by rw [if_neg (by omega)], r5, r6, ?_, Or.inr ⟨if_pos (Or.inr rfl), by omega⟩, fun m hm => absurd hm (by omega), fun o ho => absurd ho (by omega)⟩
      rcases r7 with ⟨q1, q2⟩ | ⟨q1, q2⟩
      · left; exact ⟨by rw [if_neg (by omega)], q2⟩
      · right; exact ⟨by rw [if_pos (Or.inl q1)], q2⟩
  · refine xG_go (pc1 := 62) (fun _ => rfl) ?_
    iterate 1 (first | refine xG_getI rfl (by exact rfl) (by exact rfl) ?_ | refine xG_getR rfl (by exact rfl) (by exact rfl) ?_ | refine xG_add rfl ?_ | refine xG_sub rfl ?_ | refine xG_mul rfl ?_ | refine xG_putI rfl (by exact rfl) (by exact rfl) ?_ | refine xG_go (fun _ => rfl) ?_)
    refine xV1 rfl (by exact rfl) (by simp) (m_readMonkey x hS hi hr0 b2 hm hg) (fun r N hq => ?_)
    obtain ⟨rfl, hq⟩ := hq
    iterate 1 (first | refine xG_getI rfl (by exact rfl) (by exact rfl) ?_ | refine xG_getR rfl (by exact rfl) (by exact rfl) ?_ | refine xG_add rfl ?_ | refine xG_sub rfl ?_ | refine xG_mul rfl ?_ | refine xG_putI rfl (by exact rfl) (by exact rfl) ?_ | refine xG_go (fun _ => rfl) ?_)
    exact xG_ret (fun _ => rfl) ⟨rfl, hq⟩
  · refine xG_go (pc1 := 69) (fun _ => rfl) ?_
    obtain ⟨o, eo⟩ := Int.eq_ofNat_of_zero_le hS.1.2.2.2.2.1.1
    iterate 7 (first | refine xG_getI rfl (by exact rfl) (by exact rfl) ?_ | refine xG_getR rfl (by exact rfl) (by exact rfl) ?_ | refine xG_add rfl ?_ | refine xG_sub rfl ?_ | refine xG_mul rfl ?_ | refine xG_putI rfl (by exact rfl) (by exact rfl) ?_ | refine xG_go (fun _ => rfl) ?_)
    rw [r6, eo]
    refine xV1 rfl (by exact rfl) (by simp) (m_streetsSaid r1) (fun r M' hq => ?_)
    obtain ⟨rfl, rfl⟩ := hq
    rw [← r3]
    iterate 2 (first | refine xG_getI rfl (by exact rfl) (by exact rfl) ?_ | refine xG_getR rfl (by exact rfl) (by exact rfl) ?_ | refine xG_add rfl ?_ | refine xG_sub rfl ?_ | refine xG_mul rfl ?_ | refine xG_putI rfl (by exact rfl) (by exact rfl) ?_ | refine xG_go (fun _ => rfl) ?_)
    refine xV3 rfl (by exact rfl) (by simp) (m_takesNumber (S := bgS S 111) x (by decide) (by omega) (Or.inr ⟨hg, bo.1.1, by omega, by rw [due_o s1, s2]; decide, (lea_o s1).symm, by rw [gre_o s1, s2, if_pos rfl, sr 17 (by decide)]⟩)) (fun r N1 hq => ?_)
    obtain ⟨f1, v, rfl, f2⟩ := hq
    have vb : 0 ≤ v ∧ v ≤ 4 := by
      rcases f2 with f2 | f2 <;> omega
    refine xG_ast rfl (by exact rfl) (by omega) ?_
    rw [Int.toNat_natCast]
    have eS : snP (bgS S 111) v = mv_up (mv_up (bgS S 111) 27 o v) 16 2 1 := by
      unfold snP
      rw [putn_o s1, s2, sr 17 (by decide), eo]
      unfold puto
      rw [if_pos s2]
      rfl
    have i1 : snP (bgS S 111) v 16 1 = 111 := by rw [eS, mv_up_j (by decide), mv_upne (by decide), s1]
    have i2 : snP (bgS S 111) v 16 2 = 1 := by rw [eS, mv_up_at]
    have x1 : txt t L (mv_up N1 156 o v) := kf_txt (kf_up (by omega) (kf_fr5 kf_refl f1)) x
    have e29 : N1 143 29 = o := by rw [f1.2 29 (by omega), r6, eo]
    iterate 7 (first | refine xG_getI rfl (by exact rfl) (by exact rfl) ?_ | refine xG_getR rfl (by exact rfl) (by exact rfl) ?_ | refine xG_add rfl ?_ | refine xG_sub rfl ?_ | refine xG_mul rfl ?_ | refine xG_putI rfl (by exact rfl) (by exact rfl) ?_ | refine xG_go (fun _ => rfl) ?_)
    rw [mv_upne (show 143 ≠ 156 by decide), e29]
    refine xV3 rfl (by exact rfl) (by simp) (m_takesNumber (U := U) (t := t) (L := L) (p0 := p0) (S := snP (bgS S 111) v) (a := 0) (b := 15) x1 (by decide) (by decide) ?_) (fun r N2 hq => ?_)
    · rcases f2 with f2 | ⟨f2, f3, f4, f5, _⟩
      · exact Or.inl (bad_up (Or.inl (by decide)) f2.1)
      · have tw := tn_wo bo.1 f3
        exact Or.inr ⟨good_up (Or.inl (by decide)) f2, tw.1.1, by omega, by rw [due_o i1, i2]; decide, (lea_o i1).symm, by rw [gre_o i1, i2, if_neg (by decide)]⟩
    obtain ⟨k1, v2, rfl, k2⟩ := hq
    have vb2 : 0 ≤ v2 ∧ v2 ≤ 15 := by
      rcases k2 with k2 | k2 <;> omega
    refine xG_ast rfl (by exact rfl) (by omega) ?_
    rw [Int.toNat_natCast]
    have e292 : N2 143 29 = o := by rw [k1.2 29 (by omega), mv_upne (by decide), e29]
    iterate 3 (first | refine xG_getI rfl (by exact rfl) (by exact rfl) ?_ | refine xG_getR rfl (by exact rfl) (by exact rfl) ?_ | refine xG_add rfl ?_ | refine xG_sub rfl ?_ | refine xG_mul rfl ?_ | refine xG_putI rfl (by exact rfl) (by exact rfl) ?_ | refine xG_go (fun _ => rfl) ?_)
    rw [mv_upne (show 143 ≠ 157 by decide), e292]
    iterate 3 (first | refine xG_getI rfl (by exact rfl) (by exact rfl) ?_ | refine xG_getR rfl (by exact rfl) (by exact rfl) ?_ | refine xG_add rfl ?_ | refine xG_sub rfl ?_ | refine xG_mul rfl ?_ | refine xG_putI rfl (by exact rfl) (by exact rfl) ?_ | refine xG_go (fun _ => rfl) ?_)
    refine xG_ret (fun _ => rfl) ⟨rfl, kf_up (by omega) (kf_up (by omega) (kf_fr5 (kf_up (by omega) (kf_fr5 kf_refl f1)) k1)), mw_same (fun a _ _ => mv_upne (by omega)) (mw_157 vb2 (mw_same (fun a _ _ => k1.1 a (by omega)) (mw_156 vb (mw_same (fun a _ _ => f1.1 a (by omega)) hm)))), ?_⟩
    rcases k2 with k2 | ⟨k2, k3, k4, k5, k6⟩
    · exact Or.inl (bad_up (Or.inr (Or.inl (by decide))) (bad_up (Or.inl (by decide)) k2.1))
    · rcases f2 with f2 | ⟨f2, f3, f4, f5, _⟩
      · have := f2.1.1
        rw [mv_upne (by decide)] at k6
        omega
      · have tw := tn_wo bo.1 f3
        have tw2 := tn_wo tw.1 k3
        have eS2 : snP (snP (bgS S 111) v) v2 = mv_up (mv_up (mv_up (mv_up (bgS S 111) 27 o v) 16 2 1) 28 o v2) 16 2 2 := by
          unfold snP
          rw [show mv_up (putn (bgS S 111) v) 16 2 (bgS S 111 16 2 + 1) = mv_up (mv_up (bgS S 111) 27 o v) 16 2 1 from eS]
          rw [eS] at i1 i2
          rw [putn_o i1, i2, mv_upne (show 17 ≠ 16 by decide), mv_upne (show 17 ≠ 27 by decide), sr 17 (by decide), eo]
          unfold puto
          rw [i2, if_neg (by decide)]
          rfl
        have j1 : snP (snP (bgS S 111) v) v2 16 1 = 111 := by rw [eS2, mv_up_j (by decide), mv_upne (by decide), mv_up_j (by decide), mv_upne (by decide), s1]
        refine Or.inr ⟨_, good_up (Or.inr (Or.inl (by decide))) (good_up (Or.inl (by decide)) k2), tw2.1, kfr_trans (kfr_trans bo.2.1 tw.2.1) tw2.2.1, by omega, by rw [due_o j1, eS2, mv_up_at]; decide, by rw [tw2.2.2, tw.2.2, s3], ?_⟩
        have ee : enS (snP (snP (bgS S 111) v) v2) = mv_up (snP (snP (bgS S 111) v) v2) 17 3 (snP (snP (bgS S 111) v) v2 17 3 + 1) := by unfold enS; rw [j1]; rfl
        have a17 : snP (snP (bgS S 111) v) v2 17 = S 17 := by rw [eS2, mv_upne (by decide), mv_upne (by decide), mv_upne (by decide), mv_upne (by decide), sr 17 (by decide)]
        have a4 : snP (snP (bgS S 111) v) v2 16 4 = S 16 4 := by
          rw [eS2, mv_up_j (by decide), mv_upne (by decide), mv_up_j (by decide), mv_upne (by decide), s4]
          split <;> omega
        have a5 : snP (snP (bgS S 111) v) v2 16 5 = S 16 5 := by
          rw [eS2, mv_up_j (by decide), mv_upne (by decide), mv_up_j (by decide), mv_upne (by decide), s5]
          split <;> omega
        rw [ee]
        have n23 : N2 143 23 = M 143 23 := by rw [k1.2 23 (by omega), mv_upne (by decide), f1.2 23 (by omega)]
        have n24 : N2 143 24 = M 143 24 := by rw [k1.2 24 (by omega), mv_upne (by decide), f1.2 24 (by omega)]
        have n25 : N2 143 25 = M 143 25 := by rw [k1.2 25 (by omega), mv_upne (by decide), f1.2 25 (by omega)]
        have nr : ∀ a, a ≠ 143 → a ≠ 156 → N2 a = M a := fun a h1 h2 => by rw [k1.1 a h1, mv_upne h2, f1.1 a h1]
        have sk : ∀ a, a ≠ 16 → a ≠ 27 → a ≠ 28 → snP (snP (bgS S 111) v) v2 a = S a := fun a h1 h2 h3 => by rw [eS2, mv_upne h1, mv_upne h3, mv_upne h1, mv_upne h2, sr a h1]
        unfold RS
        rw [mv_up_at, mv_up_j (show 23 ≠ 29 by decide), mv_up_j (show 24 ≠ 29 by decide), mv_up_j (show 25 ≠ 29 by decide), mv_upne (show 143 ≠ 157 by decide), n23, n24, n25, mv_up_j (show 0 ≠ 3 by decide), mv_up_j (show 1 ≠ 3 by decide), mv_up_j (show 2 ≠ 3 by decide), mv_up_at, mv_upne (show 16 ≠ 17 by decide), a4, a5, a17, eo]
        refine ⟨r1, r2, r3, r4, r5, rfl, r7, r8, fun m hm => ?_, fun q hq => ?_⟩
        · rw [mv_upne (show 153 ≠ 143 by decide), mv_upne (show 154 ≠ 143 by decide), mv_upne (show 155 ≠ 143 by decide), mv_upne (show 153 ≠ 157 by decide), mv_upne (show 154 ≠ 157 by decide), mv_upne (show 155 ≠ 157 by decide), nr 153 (by decide) (by decide), nr 154 (by decide) (by decide), nr 155 (by decide) (by decide), mv_upne (show 18 ≠ 17 by decide), mv_upne (show 19 ≠ 17 by decide), mv_upne (show 21 + m ≠ 17 by omega), sk 18 (by decide) (by decide) (by decide), sk 19 (by decide) (by decide) (by decide), sk (21 + m) (by omega) (by have := hS.1.2.2.2.1; omega) (by have := hS.1.2.2.2.1; omega)]
          exact r9 m hm
        · rw [mv_upne (show 156 ≠ 143 by decide), mv_upne (show 156 ≠ 157 by decide), mv_upne (show 157 ≠ 143 by decide), mv_upne (show 27 ≠ 17 by decide), mv_upne (show 28 ≠ 17 by decide), k1.1 156 (by decide), eS2, mv_upne (show 27 ≠ 16 by decide), mv_upne (show 27 ≠ 28 by decide), mv_upne (show 27 ≠ 16 by decide), mv_upne (show 28 ≠ 16 by decide)]
          by_cases w : q = o
          · subst w
            rw [mv_up_at, mv_up_at, mv_up_at, mv_up_at]
            exact ⟨rfl, rfl⟩
          · rw [mv_up_j w, mv_up_j w, mv_up_j w, mv_up_j w, f1.1 156 (by decide), nr 157 (by decide) (by decide), mv_upne (show 28 ≠ 16 by decide), mv_upne (show 28 ≠ 27 by decide), sr 27 (by decide), sr 28 (by decide)]
            exact r10 q (by omega)
end ZN
