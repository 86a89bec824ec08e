/-! THE TEXT: the reference reads a monkey, its numbers -/
section ZM
variable {sc : Nat × (Nat → Int)} {d c : Nat} {M : mv_M}
def kf (N N' : mv_M) : Prop := (∀ a, a ≠ 143 → ¬ (153 ≤ a ∧ a ≤ 157) → N' a = N a) ∧ ∀ j, ¬ (17 ≤ j ∧ j ≤ 21) → j ≠ 23 → j ≠ 24 → j ≠ 25 → j ≠ 29 → N' 143 j = N 143 j
def BQ (U : Option Nat × mv_M) (t : Nat → Int) (L p0 : Nat) (S N N' : mv_M) : Prop := kf N N' ∧ mw N' ∧ (bad U N' ∨ ∃ S', good U t L p0 S' N' ∧ wo S' ∧ kfr S S' ∧ S' 16 1 ≠ 0 ∧ ¬ S' 16 2 < due S' ∧ S' 16 3 = S 16 3 ∧ RS (enS S') N')
def JM (U : Option Nat × mv_M) (t : Nat → Int) (L p0 : Nat) (S S1 N : mv_M) (m k : Nat) : Prop := bad U N ∨ ∃ S', good U t L p0 S' N ∧ wo S' ∧ kfr S S' ∧ PM S1 S' N m k
theorem lea_m {S : mv_M} (i : S 16 1 = 109) : lea S = 0 := by unfold lea; rw [i]; rfl
theorem lea_o {S : mv_M} (i : S 16 1 = 111) : lea S = 0 := by unfold lea; rw [i]; rfl
theorem gre_m {S : mv_M} (i : S 16 1 = 109) : gre S = if S 16 2 = 0 then S 17 0 - 1 else if S 16 2 = 1 then 9 else 6 := by
  unfold gre
  rw [i]
  rw [if_neg (by decide), if_neg (by decide)]
  split
  · rfl
  · rw [if_neg (by decide)]
theorem gre_o {S : mv_M} (i : S 16 1 = 111) : gre S = if S 16 2 = 0 then S 17 0 - 1 else 15 := by
  unfold gre
  rw [i]
  rw [if_neg (by decide), if_neg (by decide)]
  split
  · rfl
  · rw [if_pos rfl]
theorem tn_J {U : Option Nat × mv_M} {t : Nat → Int} {L p0 m k : Nat} {S S1 : mv_M} {b : Int} (x : txt t L M) (hb : mv_in b) (hJ : JM U t L p0 S S1 M m k) (hk : (k : Int) < 2 + S1 17 1) (h0 : k = 0 → b = S1 17 0 - 1) (h1 : k = 1 → b = 9) (h2 : 2 ≤ k → b = 6) : xC sc (d + 4) n_Mod_takesNumber [mR 143, mI 0, mI b] M (fun r N => fr5 M N ∧ ∃ v : Int, r = some (mI v) ∧ ((bad U N ∧ v = 0) ∨ ∃ S', good U t L p0 (snP S' v) N ∧ wo (snP S' v) ∧ kfr S (snP S' v) ∧ PM S1 S' M m k ∧ 0 ≤ v ∧ v ≤ b)) := by
  rcases hJ with hJ | ⟨S', g1, g2, g3, g4⟩
  · refine xC_mono (m_takesNumber (S := M) (t := t) (L := L) (p0 := p0) x (by decide) hb (Or.inl hJ)) (fun r N hq => ?_)
    obtain ⟨f1, v, rfl, f2⟩ := hq
    refine ⟨f1, v, rfl, ?_⟩
    rcases f2 with f2 | f2
    · exact Or.inl f2
    · have := hJ.1
      omega
  · have p1 := g4.1
    have p2 := g4.2.1
    have p6 := g4.2.2.2.2.2.1
    refine xC_mono (m_takesNumber (S := S') x (by decide) hb (Or.inr ⟨g1, g2.1, by omega, by rw [due_m p1, p2, p6]; exact hk, (lea_m p1).symm, ?_⟩)) (fun r N hq => ?_)
    · rw [gre_m p1, p2, p6]
      by_cases w0 : k = 0
      · rw [if_pos (by omega), h0 w0]
      · rw [if_neg (by omega)]
        by_cases w1 : k = 1
        · rw [if_pos (by omega), h1 w1]
        · rw [if_neg (by omega), h2 (by omega)]
    · obtain ⟨f1, v, rfl, f2⟩ := hq
      refine ⟨f1, v, rfl, ?_⟩
      rcases f2 with f2 | ⟨f2, f3, f4, f5, _⟩
      · exact Or.inl f2
      · have tw := tn_wo g2 f3
        exact Or.inr ⟨S', f2, tw.1, kfr_trans g3 tw.2.1, g4, f4, f5⟩
theorem l_likes {U : Option Nat × mv_M} {t : Nat → Int} {L p0 m tu : Nat} {S S1 N0 : mv_M} (x : txt t L N0) (hm : (m : Int) = S1 17 2) (m6 : m < 6) (et : S1 17 1 = tu) (t4 : tu ≤ 4) (e24 : S1 17 1 = if N0 143 24 < 0 then 3 else N0 143 24) (b24 : -1 ≤ N0 143 24 ∧ N0 143 24 ≤ 5) {Q : Option mv_V → mv_M → Prop} (kk : ∀ N x2, NM N0 N m → JM U t L p0 S S1 N m (2 + tu) → xG sc (d + 4) y_Mod_readMonkey 70 [some (mR 143), some (mI m), x2] [] N Q) : ∀ (k u : Nat) (N : mv_M), u + k = tu → NM N0 N m → JM U t L p0 S S1 N m (2 + u) → xG sc (d + 4) y_Mod_readMonkey 37 [some (mR 143), some (mI m), some (mI u)] [] N Q := by
  intro k
  induction k with
  | zero =>
    intro u N hu hN hJ
    have e := hN.2.2.2.1 24 (by omega)
    iterate 2 (first | refine xG_getI rfl (by exact rfl) (by exact rfl) ?_ | refine xG_getR rfl (by exact rfl) (by exact rfl) ?_ | refine xG_add rfl ?_ | refine xG_sub rfl ?_ | refine xG_mul rfl ?_ | refine xG_putI rfl (by exact rfl) (by exact rfl) ?_ | refine xG_go (fun _ => rfl) ?_)
    refine xV1 rfl (by exact rfl) (by simp) (m_tunesSaid (by rw [e]; exact b24)) (fun r M' hq => ?_)
    obtain ⟨rfl, rfl⟩ := hq
    rw [e, ← e24, et]
    refine xb_ge rfl (by omega) (by omega) (fun _ => ?_) (fun c1 => absurd c1 (by omega))
    have : u = tu := by omega
    subst this
    exact kk N _ hN hJ
  | succ k ik =>
    intro u N hu hN hJ
    have e := hN.2.2.2.1 24 (by omega)
    iterate 2 (first | refine xG_getI rfl (by exact rfl) (by exact rfl) ?_ | refine xG_getR rfl (by exact rfl) (by exact rfl) ?_ | refine xG_add rfl ?_ | refine xG_sub rfl ?_ | refine xG_mul rfl ?_ | refine xG_putI rfl (by exact rfl) (by exact rfl) ?_ | refine xG_go (fun _ => rfl) ?_)
    refine xV1 rfl (by exact rfl) (by simp) (m_tunesSaid (by rw [e]; exact b24)) (fun r M' hq => ?_)
    obtain ⟨rfl, rfl⟩ := hq
    rw [e, ← e24, et]
    refine xb_ge rfl (by omega) (by omega) (fun c1 => absurd c1 (by omega)) (fun _ => ?_)
    iterate 10 (first | refine xG_getI rfl (by exact rfl) (by exact rfl) ?_ | refine xG_getR rfl (by exact rfl) (by exact rfl) ?_ | refine xG_add rfl ?_ | refine xG_sub rfl ?_ | refine xG_mul rfl ?_ | refine xG_putI rfl (by exact rfl) (by exact rfl) ?_ | refine xG_go (fun _ => rfl) ?_)
    refine xV3 rfl (by exact rfl) (by simp) (tn_J (b := 6) (k := 2 + u) (NM_txt hN x) (by decide) hJ (by omega) (fun z => absurd z (by omega)) (fun z => absurd z (by omega)) (fun _ => rfl)) (fun r N1 hq => ?_)
    obtain ⟨f1, v, rfl, f2⟩ := hq
    have vb : 0 ≤ v ∧ v ≤ 6 := by
      rcases f2 with f2 | ⟨S', _, _, _, _, f3⟩ <;> omega
    iterate 2 (first | refine xG_getI rfl (by exact rfl) (by exact rfl) ?_ | refine xG_getR rfl (by exact rfl) (by exact rfl) ?_ | refine xG_add rfl ?_ | refine xG_sub rfl ?_ | refine xG_mul rfl ?_ | refine xG_putI rfl (by exact rfl) (by exact rfl) ?_ | refine xG_go (fun _ => rfl) ?_)
    refine xG_ast rfl (by exact rfl) (by omega) ?_
    rw [show ((4 : Int) * (m : Int) + (u : Int)).toNat = 4 * m + u by omega]
    iterate 2 (first | refine xG_getI rfl (by exact rfl) (by exact rfl) ?_ | refine xG_getR rfl (by exact rfl) (by exact rfl) ?_ | refine xG_add rfl ?_ | refine xG_sub rfl ?_ | refine xG_mul rfl ?_ | refine xG_putI rfl (by exact rfl) (by exact rfl) ?_ | refine xG_go (fun _ => rfl) ?_)
    refine ik (u + 1) _ (by omega) (NM_155 (by omega) (by omega) (NM_fr5 hN f1)) ?_
    rcases f2 with f2 | ⟨S', f3, f4, f5, f6, _⟩
    · exact Or.inl (bad_up (Or.inl (by decide)) f2.1)
    · refine Or.inr ⟨snP S' v, good_up (Or.inl (by decide)) f3, f4, f5, ?_⟩
      exact (PM_step hm m6 f6 (fun a _ _ => f1.1 a (by omega))).2.2 u (by omega) (by omega)
theorem m_readMonkey {U : Option Nat × mv_M} {t : Nat → Int} {L p0 : Nat} {S : mv_M} (x : txt t L M) (hS : wo S) (hi : S 16 1 = 0) (hr : RS S M) (hb : S 17 2 < 6) (hm : mw M) (hg : good U t L p0 (bgS S 109) M) : xC sc (d + 5) n_Mod_readMonkey [mR 143] M (fun r N => r = none ∧ BQ U t L p0 S M N) := by
  have hr0 := hr
  obtain ⟨r1, r2, r3, r4, r5, r6, r7, r8, r9, r10⟩ := hr
  have bo := bg_wo hS (bgP_t hi (show mayB S 109 from Or.inr (Or.inr (Or.inl ⟨rfl, hb⟩))))
  obtain ⟨s1, s2, s3, s4, s5⟩ := bgS_16 (S := S) (l := 109)
  have w2 := hS.1.2.2.2.1
  have w1 := hS.1.2.2.1
  have w0 := hS.1.2.1
  obtain ⟨m, em⟩ := Int.eq_ofNat_of_zero_le w2.1
  obtain ⟨tu, et⟩ := Int.eq_ofNat_of_zero_le (show 0 ≤ S 17 1 by omega)
  have m6 : m < 6 := by omega
  have sr : ∀ a, a ≠ 16 → bgS S 109 a = S a := fun a ha => bgS_ne ha
  have NM0 : NM M M m := ⟨fun _ _ _ _ _ => rfl, fun _ _ => ⟨rfl, rfl⟩, fun _ _ _ _ => rfl, fun _ _ => rfl, hm⟩
  have J0 : JM U t L p0 S (bgS S 109) M m 0 := Or.inr ⟨_, hg, bo.1, bo.2.1, s1, s2, rfl, rfl, rfl, rfl, rfl, rfl, fun _ _ => ⟨rfl, rfl⟩, fun _ _ _ => rfl, fun z => absurd z (by omega), fun z => absurd z (by omega), fun u hu => absurd hu (by omega)⟩
  refine xC_in rfl rfl (by simp; decide) ?_
  iterate 9 (first | refine xG_getI rfl (by exact rfl) (by exact rfl) ?_ | refine xG_getR rfl (by exact rfl) (by exact rfl) ?_ | refine xG_add rfl ?_ | refine xG_sub rfl ?_ | refine xG_mul rfl ?_ | refine xG_putI rfl (by exact rfl) (by exact rfl) ?_ | refine xG_go (fun _ => rfl) ?_)
  rw [r5, em]
  refine xV1 rfl (by exact rfl) (by simp) (m_streetsSaid r1) (fun r M' hq => ?_)
  obtain ⟨rfl, rfl⟩ := hq
  rw [← r3]
  iterate 2 (first | refine xG_getI rfl (by exact rfl) (by exact rfl) ?_ | refine xG_getR rfl (by exact rfl) (by exact rfl) ?_ | refine xG_add rfl ?_ | refine xG_sub rfl ?_ | refine xG_mul rfl ?_ | refine xG_putI rfl (by exact rfl) (by exact rfl) ?_ | refine xG_go (fun _ => rfl) ?_)
  refine xV3 rfl (by exact rfl) (by simp) (tn_J (k := 0) x (by omega) J0 (by rw [sr 17 (by decide)]; omega) (fun _ => by rw [sr 17 (by decide)]) (fun z => absurd z (by omega)) (fun z => absurd z (by omega))) (fun r N1 hq => ?_)
  obtain ⟨f1, v, rfl, f2⟩ := hq
  have vb : 0 ≤ v ∧ v ≤ 4 := by
    rcases f2 with f2 | ⟨S', _, _, _, _, f3⟩ <;> omega
  refine xG_ast rfl (by exact rfl) (by omega) ?_
  rw [Int.toNat_natCast]
  have NM1 : NM M (mv_up N1 153 m v) m := NM_153 vb (NM_fr5 NM0 f1)
  have J1 : JM U t L p0 S (bgS S 109) (mv_up N1 153 m v) m 1 := by
    rcases f2 with f2 | ⟨S', f3, f4, f5, f6, _⟩
    · exact Or.inl (bad_up (Or.inl (by decide)) f2.1)
    · exact Or.inr ⟨snP S' v, good_up (Or.inl (by decide)) f3, f4, f5, (PM_step (by rw [sr 17 (by decide), em]) m6 f6 (fun a _ _ => f1.1 a (by omega))).1 rfl⟩
  iterate 6 (first | refine xG_getI rfl (by exact rfl) (by exact rfl) ?_ | refine xG_getR rfl (by exact rfl) (by exact rfl) ?_ | refine xG_add rfl ?_ | refine xG_sub rfl ?_ | refine xG_mul rfl ?_ | refine xG_putI rfl (by exact rfl) (by exact rfl) ?_ | refine xG_go (fun _ => rfl) ?_)
  refine xV3 rfl (by exact rfl) (by simp) (tn_J (k := 1) (b := 9) (NM_txt NM1 x) (by decide) J1 (by rw [sr 17 (by decide)]; omega) (fun z => absurd z (by omega)) (fun _ => rfl) (fun z => absurd z (by omega))) (fun r N2 hq => ?_)
  obtain ⟨h1, v2, rfl, h2⟩ := hq
  have vb2 : 0 ≤ v2 ∧ v2 ≤ 9 := by
    rcases h2 with h2 | ⟨S', _, _, _, _, h3⟩ <;> omega
  refine xG_ast rfl (by exact rfl) (by omega) ?_
  rw [Int.toNat_natCast]
  have NM2 : NM M (mv_up N2 154 m v2) m := NM_154 vb2 (NM_fr5 NM1 h1)
  have J2 : JM U t L p0 S (bgS S 109) (mv_up N2 154 m v2) m 2 := by
    rcases h2 with h2 | ⟨S', f3, f4, f5, f6, _⟩
    · exact Or.inl (bad_up (Or.inl (by decide)) h2.1)
    · exact Or.inr ⟨snP S' v2, good_up (Or.inl (by decide)) f3, f4, f5, (PM_step (by rw [sr 17 (by decide), em]) m6 f6 (fun a _ _ => h1.1 a (by omega))).2.1 rfl⟩
  iterate 2 (first | refine xG_getI rfl (by exact rfl) (by exact rfl) ?_ | refine xG_getR rfl (by exact rfl) (by exact rfl) ?_ | refine xG_add rfl ?_ | refine xG_sub rfl ?_ | refine xG_mul rfl ?_ | refine xG_putI rfl (by exact rfl) (by exact rfl) ?_ | refine xG_go (fun _ => rfl) ?_)
  refine l_likes (tu := tu) (S1 := bgS S 109) (N0 := M) x (by rw [sr 17 (by decide), em]) m6 (by rw [sr 17 (by decide), et]) (by omega) (by rw [sr 17 (by decide), r4]) r2 (fun N x2 g1 g2 => ?_) tu 0 _ (by omega) NM2 J2
  have e25 := g1.2.2.2.1 25 (by omega)
  iterate 3 (first | refine xG_getI rfl (by exact rfl) (by exact rfl) ?_ | refine xG_getR rfl (by exact rfl) (by exact rfl) ?_ | refine xG_add rfl ?_ | refine xG_sub rfl ?_ | refine xG_mul rfl ?_ | refine xG_putI rfl (by exact rfl) (by exact rfl) ?_ | refine xG_go (fun _ => rfl) ?_)
  rw [e25, r5, em]
  iterate 3 (first | refine xG_getI rfl (by exact rfl) (by exact rfl) ?_ | refine xG_getR rfl (by exact rfl) (by exact rfl) ?_ | refine xG_add rfl ?_ | refine xG_sub rfl ?_ | refine xG_mul rfl ?_ | refine xG_putI rfl (by exact rfl) (by exact rfl) ?_ | refine xG_go (fun _ => rfl) ?_)
  refine xG_ret (fun _ => rfl) ⟨rfl, ⟨fun a h1 h2 => ?_, fun j h1 h2 h3 h4 h5 => ?_⟩, mw_same (fun a _ _ => mv_upne (by omega)) g1.2.2.2.2, ?_⟩
  · rw [mv_upne h1, g1.1 a h1 (by omega) (by omega) (by omega)]
  · rw [mv_up_j h4, g1.2.2.2.1 j h1]
  · rcases g2 with g2 | ⟨S', k1, k2, k3, k4⟩
    · exact Or.inl (bad_up (Or.inr (Or.inl (by decide))) g2)
    · right
      obtain ⟨a1, a2, a3, a4, a5, a6, a7, a8, a9, a10, a11, a12, a13⟩ := k4
      rw [sr 17 (by decide)] at a6
      refine ⟨S', good_up (Or.inr (Or.inl (by decide))) k1, k2, k3, by omega, by rw [due_m a1, a6, a2, et]; omega, by rw [a3, s3], ?_⟩
      have ee : enS S' = mv_up S' 17 2 (S' 17 2 + 1) := by unfold enS; rw [if_pos a1]
      rw [ee]
      have c4 : S' 16 4 = S 16 4 := by
        rw [a4, s4]
        have := hS.1.2.2.2.2.2.2.1
        split <;> omega
      have c5 : S' 16 5 = S 16 5 := by
        rw [a5, s5]
        have := hS.1.2.2.2.2.2.2.2.1
        split <;> omega
      have e23 := g1.2.2.2.1 23 (by omega)
      have e24 := g1.2.2.2.1 24 (by omega)
      have e29 := g1.2.2.2.1 29 (by omega)
      unfold RS
      rw [mv_up_j (show 23 ≠ 25 by decide), mv_up_j (show 24 ≠ 25 by decide), mv_up_j (show 29 ≠ 25 by decide), mv_up_at, e23, e24, e29, mv_up_j (show 0 ≠ 2 by decide), mv_up_j (show 1 ≠ 2 by decide), mv_up_j (show 3 ≠ 2 by decide), mv_up_at, mv_upne (show 16 ≠ 17 by decide), c4, c5, a6, em]
      refine ⟨r1, r2, r3, r4, rfl, r6, r7, r8, fun i hi' => ?_, fun o ho => ?_⟩
      · rw [mv_upne (show 153 ≠ 143 by decide), mv_upne (show 154 ≠ 143 by decide), mv_upne (show 155 ≠ 143 by decide), mv_upne (show 18 ≠ 17 by decide), mv_upne (show 19 ≠ 17 by decide), mv_upne (show 21 + i ≠ 17 by omega)]
        by_cases w : i = m
        · subst w
          exact ⟨a11 (by omega), a12 (by omega), fun u hu => a13 u (by omega)⟩
        · have q := r9 i (by omega)
          have n := g1.2.1 i w
          have a := a9 i w
          rw [sr 18 (by decide), sr 19 (by decide)] at a
          refine ⟨by rw [n.1, a.1, q.1], by rw [n.2, a.2, q.2.1], fun u hu => ?_⟩
          rw [g1.2.2.1 i u w (by omega), a10 i (by omega) w, sr (21 + i) (by omega)]
          exact q.2.2 u hu
      · rw [mv_upne (show 156 ≠ 143 by decide), mv_upne (show 157 ≠ 143 by decide), mv_upne (show 27 ≠ 17 by decide), mv_upne (show 28 ≠ 17 by decide), g1.1 156 (by decide) (by decide) (by decide) (by decide), g1.1 157 (by decide) (by decide) (by decide) (by decide), a7, a8, sr 27 (by decide), sr 28 (by decide)]
        exact r10 o ho
end ZM
