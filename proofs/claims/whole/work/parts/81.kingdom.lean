/-! THE CALLS: kingdom -/
section ZR
variable {sc : Nat × (Nat → Int)} {d c : Nat} {M : mv_M}
theorem l_kept {x1 : Option mv_V} {Q : Option mv_V → mv_M → Prop} (kk : ∀ N, (∀ a, a ≠ 3 → N a = M a) → (∀ i, i < 2 → N 3 i = 0) → xG sc d y_MV_kingdom 83 [some (mR 0), x1, some (mI 2)] [] N Q) : ∀ (k j : Nat) (N : mv_M), j + k = 2 → (∀ a, a ≠ 3 → N a = M a) → (∀ i, i < j → N 3 i = 0) → xG sc d y_MV_kingdom 65 [some (mR 0), x1, some (mI j)] [] N Q := by
  intro k
  induction k with
  | zero =>
    intro j N hj h1 h2
    have : j = 2 := by omega
    subst this
    iterate 2 (first | refine xG_getI rfl (by exact rfl) (by exact rfl) ?_ | refine xG_getR rfl (by exact rfl) (by exact rfl) ?_ | refine xG_add rfl ?_ | refine xG_sub rfl ?_ | refine xG_mul rfl ?_ | refine xG_putI rfl (by exact rfl) (by exact rfl) ?_ | refine xG_go (fun _ => rfl) ?_)
    refine xb_ge rfl (by omega) (by omega) (fun _ => ?_) (fun c1 => absurd c1 (by omega))
    exact kk N h1 h2
  | succ k ik =>
    intro j N hj h1 h2
    iterate 2 (first | refine xG_getI rfl (by exact rfl) (by exact rfl) ?_ | refine xG_getR rfl (by exact rfl) (by exact rfl) ?_ | refine xG_add rfl ?_ | refine xG_sub rfl ?_ | refine xG_mul rfl ?_ | refine xG_putI rfl (by exact rfl) (by exact rfl) ?_ | refine xG_go (fun _ => rfl) ?_)
    refine xb_ge rfl (by omega) (by omega) (fun c1 => absurd c1 (by omega)) (fun _ => ?_)
    iterate 4 (first | refine xG_getI rfl (by exact rfl) (by exact rfl) ?_ | refine xG_getR rfl (by exact rfl) (by exact rfl) ?_ | refine xG_add rfl ?_ | refine xG_sub rfl ?_ | refine xG_mul rfl ?_ | refine xG_putI rfl (by exact rfl) (by exact rfl) ?_ | refine xG_go (fun _ => rfl) ?_)
    refine xG_bast rfl (by exact rfl) (by omega) (Or.inl rfl) ?_
    rw [Int.toNat_natCast]
    iterate 2 (first | refine xG_getI rfl (by exact rfl) (by exact rfl) ?_ | refine xG_getR rfl (by exact rfl) (by exact rfl) ?_ | refine xG_add rfl ?_ | refine xG_sub rfl ?_ | refine xG_mul rfl ?_ | refine xG_putI rfl (by exact rfl) (by exact rfl) ?_ | refine xG_go (fun _ => rfl) ?_)
    refine ik (j + 1) _ (by omega) (fun a ha => by rw [mv_upne ha, h1 a ha]) (fun i hi => ?_)
    by_cases w : i = j
    · rw [w, mv_up_at]
    · rw [mv_up_j w, h2 i (by omega)]
/-- the class's memory behind a good text; S what its reader left -/
def KC (S N : mv_M) : Prop := (∀ a, a ≠ 0 → a ≠ 3 → ¬ (4 ≤ a ∧ a ≤ 15) → ¬ (29 ≤ a ∧ a ≤ 34) → a ≠ 120 → N a = S a) ∧ N 0 1 = 0 ∧ (∀ i, i < 2 → N 3 i = 0) ∧ N 4 0 = S 17 0 ∧ N 4 1 = S 17 1 ∧ N 4 2 = S 17 2 ∧ N 4 3 = S 17 3 ∧ (∀ m, m < 6 → N 5 m = S 18 m ∧ N 6 m = S 19 m ∧ ∀ t, t < 4 → N (8 + m) t = S (21 + m) t) ∧ (∀ o, o < 3 → N 14 o = S 27 o ∧ N 15 o = S 28 o) ∧ (∀ i, i < 15 → dv N 29 i = 0) ∧ (∀ o, o < 3 → dv N 29 (15 + o) = S 27 o ∧ dv N 29 (18 + o) = S 28 o) ∧ N 34 1 = S 34 1 ∧ N 34 2 = 0 ∧ N 120 4 = 0
theorem c_kingdom {t : Nat → Int} {L : Nat} (hL : L ≤ 150) (eL : M 0 1 = L) (ht : ∀ i, i < L → 0 ≤ t i ∧ t i ≤ 255) (e1 : M 1 = t) (h : wr1 M) (h2 : 0 ≤ M 16 2 ∧ M 16 2 ≤ 10) : xC sc (d + 6) n_MV_kingdom [mR 0] M (fun r N => r = some (mI (ansK (rest t L (rst M) 0))) ∧ ((∃ q, (rest t L (rst M) 0).1 = some q ∧ N = (rest t L (rst M) 0).2) ∨ ((rest t L (rst M) 0).1 = none ∧ KC (rest t L (rst M) 0).2 N))) := by
  obtain ⟨u1, u2, u3, u4⟩ := rest_wo (t := t) (L := L) L 0 (rst M) (by omega) (by omega) (rst_wo h h2) (by unfold rst; simp [mv_up])
  have u5 := u1.1.2.2.2.2.2.2.2.2
  refine xC_in rfl rfl (by simp; decide) ?_
  iterate 6 (first | refine xG_getI rfl (by exact rfl) (by exact rfl) ?_ | refine xG_getR rfl (by exact rfl) (by exact rfl) ?_ | refine xG_add rfl ?_ | refine xG_sub rfl ?_ | refine xG_mul rfl ?_ | refine xG_putI rfl (by exact rfl) (by exact rfl) ?_ | refine xG_go (fun _ => rfl) ?_)
  rw [eL]
  refine xV3 rfl (by exact rfl) (by simp) (c_readsAll (d := d + 1) hL ht e1 h h2) (fun r M' hq => ?_)
  obtain ⟨rfl, rfl⟩ := hq
  iterate 2 (first | refine xG_getI rfl (by exact rfl) (by exact rfl) ?_ | refine xG_getR rfl (by exact rfl) (by exact rfl) ?_ | refine xG_add rfl ?_ | refine xG_sub rfl ?_ | refine xG_mul rfl ?_ | refine xG_putI rfl (by exact rfl) (by exact rfl) ?_ | refine xG_go (fun _ => rfl) ?_)
  generalize rest t L (rst M) 0 = U at u1 u2 u3 u4 u5 ⊢
  obtain ⟨o, S⟩ := U
  cases o with
  | some q =>
    have q4 := u4 q rfl
    show xG sc (d + 5) y_MV_kingdom _ _ [mI (-10 - (q : Int))] S _
    refine xi_ge rfl (by omega) (fun c1 => absurd c1 (by omega)) (fun _ => ?_)
    iterate 1 (first | refine xG_getI rfl (by exact rfl) (by exact rfl) ?_ | refine xG_getR rfl (by exact rfl) (by exact rfl) ?_ | refine xG_add rfl ?_ | refine xG_sub rfl ?_ | refine xG_mul rfl ?_ | refine xG_putI rfl (by exact rfl) (by exact rfl) ?_ | refine xG_go (fun _ => rfl) ?_)
    exact xG_ret (fun _ => rfl) ⟨rfl, Or.inl ⟨q, rfl, rfl⟩⟩
  | none =>
    have u3 : S 16 3 ≤ L := u3
    have u5 : 0 ≤ S 16 3 := u5
    show xG sc (d + 5) y_MV_kingdom _ _ [mI (S 16 3)] S _
    refine xi_ge rfl (by omega) (fun _ => ?_) (fun c1 => absurd u5 c1)
    iterate 8 (first | refine xG_getI rfl (by exact rfl) (by exact rfl) ?_ | refine xG_getR rfl (by exact rfl) (by exact rfl) ?_ | refine xG_add rfl ?_ | refine xG_sub rfl ?_ | refine xG_mul rfl ?_ | refine xG_putI rfl (by exact rfl) (by exact rfl) ?_ | refine xG_go (fun _ => rfl) ?_)
    refine xV2 rfl (by exact rfl) (by simp) c_lbecomes (fun r N1 hq => ?_)
    obtain ⟨rfl, b1, b2, b3, b4, b5, b6, b7⟩ := hq
    iterate 2 (first | refine xG_getI rfl (by exact rfl) (by exact rfl) ?_ | refine xG_getR rfl (by exact rfl) (by exact rfl) ?_ | refine xG_add rfl ?_ | refine xG_sub rfl ?_ | refine xG_mul rfl ?_ | refine xG_putI rfl (by exact rfl) (by exact rfl) ?_ | refine xG_go (fun _ => rfl) ?_)
    refine xV1 rfl (by exact rfl) (by simp) c_starts (fun r N2 hq => ?_)
    obtain ⟨rfl, s1, s2, s3⟩ := hq
    iterate 2 (first | refine xG_getI rfl (by exact rfl) (by exact rfl) ?_ | refine xG_getR rfl (by exact rfl) (by exact rfl) ?_ | refine xG_add rfl ?_ | refine xG_sub rfl ?_ | refine xG_mul rfl ?_ | refine xG_putI rfl (by exact rfl) (by exact rfl) ?_ | refine xG_go (fun _ => rfl) ?_)
    refine xV1 rfl (by exact rfl) (by simp) c_losesAll (fun r N3 hq => ?_)
    obtain ⟨rfl, rfl⟩ := hq
    iterate 6 (first | refine xG_getI rfl (by exact rfl) (by exact rfl) ?_ | refine xG_getR rfl (by exact rfl) (by exact rfl) ?_ | refine xG_add rfl ?_ | refine xG_sub rfl ?_ | refine xG_mul rfl ?_ | refine xG_putI rfl (by exact rfl) (by exact rfl) ?_ | refine xG_go (fun _ => rfl) ?_)
    refine l_kept (fun N5 k1 k2 => ?_) 2 0 _ (by omega) (fun _ _ => rfl) (fun i hi => absurd hi (by omega))
    iterate 1 (first | refine xG_getI rfl (by exact rfl) (by exact rfl) ?_ | refine xG_getR rfl (by exact rfl) (by exact rfl) ?_ | refine xG_add rfl ?_ | refine xG_sub rfl ?_ | refine xG_mul rfl ?_ | refine xG_putI rfl (by exact rfl) (by exact rfl) ?_ | refine xG_go (fun _ => rfl) ?_)
    have g1 : ∀ a, a ≠ 3 → a ≠ 34 → a ≠ 120 → (a < 29 ∨ 34 ≤ a) → N5 a = N1 a := fun a h1 h2 h3 h4 => by rw [k1 a h1, mv_upne h3, mv_upne h2, s3 a h4]
    have gS : ∀ a, a ≠ 0 → mv_up S 0 1 0 a = S a := fun a ha => mv_upne ha
    have g2 : ∀ a, a ≠ 0 → a ≠ 3 → ¬ (4 ≤ a ∧ a ≤ 15) → ¬ (29 ≤ a ∧ a ≤ 34) → a ≠ 120 → N5 a = S a := fun a h1 h2 h3 h4 h5 => by rw [g1 a h2 (by omega) h5 (by omega), b1 a h3, gS a h1]
    have gd : dv N5 29 = dv N2 29 := dv_same (fun a _ _ => by rw [k1 a (by omega), mv_upne (by omega), mv_upne (by omega)])
    have g4 : N5 4 = N1 4 := g1 4 (by decide) (by decide) (by decide) (by decide)
    refine xG_ret (fun _ => rfl) ⟨rfl, Or.inr ⟨rfl, g2, ?_, k2, ?_, ?_, ?_, ?_, fun m hm => ?_, fun o ho => ?_, fun i hi => ?_, fun o ho => ?_, ?_, ?_, ?_⟩⟩
    · rw [g1 0 (by decide) (by decide) (by decide) (by decide), b1 0 (by decide), mv_up_at]
    · rw [g4, b2, gS 17 (by decide)]
    · rw [g4, b3, gS 17 (by decide)]
    · rw [g4, b4, gS 17 (by decide)]
    · rw [g4, b5, gS 17 (by decide)]
    · rw [g1 5 (by decide) (by decide) (by decide) (by decide), g1 6 (by decide) (by decide) (by decide) (by decide), g1 (8 + m) (by omega) (by omega) (by omega) (by omega)]
      have := b6 m hm
      rw [gS 18 (by decide), gS 19 (by decide), gS (21 + m) (by omega)] at this
      exact this
    · rw [g1 14 (by decide) (by decide) (by decide) (by decide), g1 15 (by decide) (by decide) (by decide) (by decide)]
      have := b7 o ho
      rw [gS 27 (by decide), gS 28 (by decide)] at this
      exact this
    · rw [gd, s1 i hi]
    · rw [gd, (s2 o ho).1, (s2 o ho).2, (b7 o ho).1, (b7 o ho).2, gS 27 (by decide), gS 28 (by decide)]
      exact ⟨rfl, rfl⟩
    · rw [k1 34 (by decide), mv_upne (by decide), mv_up_j (by decide), s3 34 (by decide), b1 34 (by decide), gS 34 (by decide)]
    · rw [k1 34 (by decide), mv_upne (by decide), mv_up_at]
    · rw [k1 120 (by decide), mv_up_at]
/-- the reference's call over any memory with the text -/
theorem m_kingdom {t : Nat → Int} {L : Nat} {S : mv_M} (x : txt t L M) (hm : mw M) (hS : wo S) (s1 : S 16 1 = 0) (s3 : S 16 3 = 0) (s4 : S 16 4 = 0) (s5 : S 16 5 = 0) (t0 : S 17 0 = 3) (t1 : S 17 1 = 3) (t2 : S 17 2 = 0) (t3 : S 17 3 = 0) : xC sc (d + 8) n_Mod_kingdom [mR 143] M (fun r N => ∃ K, kfi M K ∧ mw K ∧ ((∃ q : Nat, (rest t L S 0).1 = some q ∧ r = some (mI (-10 - q)) ∧ N = K) ∨ (∃ S' : mv_M, ∃ no : Nat, rest t L S 0 = (none, S') ∧ wo S' ∧ RS S' K ∧ S' 17 3 = no ∧ SQ S' K N no ∧ r = some (mI (S' 16 3))))) := by
  have x150 := x.1
  refine xC_in rfl rfl (by simp; decide) ?_
  iterate 5 (first | refine xG_getI rfl (by exact rfl) (by exact rfl) ?_ | refine xG_getR rfl (by exact rfl) (by exact rfl) ?_ | refine xG_add rfl ?_ | refine xG_sub rfl ?_ | refine xG_mul rfl ?_ | refine xG_putI rfl (by exact rfl) (by exact rfl) ?_ | refine xG_go (fun _ => rfl) ?_)
  refine xG_putZ rfl (by exact rfl) (by exact rfl) (Or.inl rfl) ?_
  iterate 16 (first | refine xG_getI rfl (by exact rfl) (by exact rfl) ?_ | refine xG_getR rfl (by exact rfl) (by exact rfl) ?_ | refine xG_add rfl ?_ | refine xG_sub rfl ?_ | refine xG_mul rfl ?_ | refine xG_putI rfl (by exact rfl) (by exact rfl) ?_ | refine xG_go (fun _ => rfl) ?_)
  have row : ∀ a, a ≠ 143 → mv_up (mv_up (mv_up (mv_up (mv_up (mv_up (mv_up M 143 17 0) 143 21 0) 143 22 0) 143 23 (-1)) 143 24 (-1)) 143 25 0) 143 29 0 a = M a := fun a ha => by rw [mv_upne ha, mv_upne ha, mv_upne ha, mv_upne ha, mv_upne ha, mv_upne ha, mv_upne ha]
  have fld : ∀ j, ¬ (17 ≤ j ∧ j ≤ 25) → j ≠ 29 → mv_up (mv_up (mv_up (mv_up (mv_up (mv_up (mv_up M 143 17 0) 143 21 0) 143 22 0) 143 23 (-1)) 143 24 (-1)) 143 25 0) 143 29 0 143 j = M 143 j := fun j h1 h2 => by rw [mv_up_j h2, mv_up_j (by omega), mv_up_j (by omega), mv_up_j (by omega), mv_up_j (by omega), mv_up_j (by omega), mv_up_j (by omega)]
  have x0 : txt t L (mv_up (mv_up (mv_up (mv_up (mv_up (mv_up (mv_up M 143 17 0) 143 21 0) 143 22 0) 143 23 (-1)) 143 24 (-1)) 143 25 0) 143 29 0) := ⟨x.1, by rw [fld 16 (by omega) (by omega)]; exact x.2.1, by rw [row 152 (by decide)]; exact x.2.2⟩
  have v17 : mv_up (mv_up (mv_up (mv_up (mv_up (mv_up (mv_up M 143 17 0) 143 21 0) 143 22 0) 143 23 (-1)) 143 24 (-1)) 143 25 0) 143 29 0 143 17 = 0 := by simp [mv_up]
  have v21 : mv_up (mv_up (mv_up (mv_up (mv_up (mv_up (mv_up M 143 17 0) 143 21 0) 143 22 0) 143 23 (-1)) 143 24 (-1)) 143 25 0) 143 29 0 143 21 = 0 := by simp [mv_up]
  have v22 : mv_up (mv_up (mv_up (mv_up (mv_up (mv_up (mv_up M 143 17 0) 143 21 0) 143 22 0) 143 23 (-1)) 143 24 (-1)) 143 25 0) 143 29 0 143 22 = 0 := by simp [mv_up]
  have v23 : mv_up (mv_up (mv_up (mv_up (mv_up (mv_up (mv_up M 143 17 0) 143 21 0) 143 22 0) 143 23 (-1)) 143 24 (-1)) 143 25 0) 143 29 0 143 23 = -1 := by simp [mv_up]
  have v24 : mv_up (mv_up (mv_up (mv_up (mv_up (mv_up (mv_up M 143 17 0) 143 21 0) 143 22 0) 143 23 (-1)) 143 24 (-1)) 143 25 0) 143 29 0 143 24 = -1 := by simp [mv_up]
  have v25 : mv_up (mv_up (mv_up (mv_up (mv_up (mv_up (mv_up M 143 17 0) 143 21 0) 143 22 0) 143 23 (-1)) 143 24 (-1)) 143 25 0) 143 29 0 143 25 = 0 := by simp [mv_up]
  have v29 : mv_up (mv_up (mv_up (mv_up (mv_up (mv_up (mv_up M 143 17 0) 143 21 0) 143 22 0) 143 23 (-1)) 143 24 (-1)) 143 25 0) 143 29 0 143 29 = 0 := by simp [mv_up]
  generalize mv_up (mv_up (mv_up (mv_up (mv_up (mv_up (mv_up M 143 17 0) 143 21 0) 143 22 0) 143 23 (-1)) 143 24 (-1)) 143 25 0) 143 29 0 = K0 at row fld x0 v17 v21 v22 v23 v24 v25 v29 ⊢
  refine xV1 rfl (by exact rfl) (by simp) (m_reads (d := d + 4) (p := 0) x0 (by omega) v17) (fun r N1 hq => ?_)
  obtain ⟨rfl, f1, q, f0, f2, f3⟩ := hq
  have kM : ∀ K, kfi N1 K → kfi M K := fun K hK => ⟨fun a a1 a2 => by rw [hK.1 a a1 a2, f1.1 a a1, row a a1], fun j a1 a2 => by rw [hK.2 j a1 a2, f1.2 j (by omega), fld j a1 a2]⟩
  refine l_items (U := rest t L S 0) (t := t) (L := L) (K := N1) (fr4_txt f1 x0) (fun K k1 k2 k3 => ?_) L q S N1 (by omega) ⟨fun _ _ _ => rfl, fun _ _ _ => rfl⟩ (mw_same (fun a _ _ => by rw [f1.1 a (by omega), row a (by omega)]) hm) hS s1 ?_ (by rw [f1.2 22 (by omega), v22, s3]) (by omega) (by rw [f1.2 21 (by omega), v21]) f2 (f3 S)
  · rcases k3 with ⟨b1, p, b2, b3, b4⟩ | ⟨b1, S', e1, e2, e3, e4, e5⟩
    · iterate 2 (first | refine xG_getI rfl (by exact rfl) (by exact rfl) ?_ | refine xG_getR rfl (by exact rfl) (by exact rfl) ?_ | refine xG_add rfl ?_ | refine xG_sub rfl ?_ | refine xG_mul rfl ?_ | refine xG_putI rfl (by exact rfl) (by exact rfl) ?_ | refine xG_go (fun _ => rfl) ?_)
      rw [b1]
      refine xe1 rfl ?_
      iterate 3 (first | refine xG_getI rfl (by exact rfl) (by exact rfl) ?_ | refine xG_getR rfl (by exact rfl) (by exact rfl) ?_ | refine xG_add rfl ?_ | refine xG_sub rfl ?_ | refine xG_mul rfl ?_ | refine xG_putI rfl (by exact rfl) (by exact rfl) ?_ | refine xG_go (fun _ => rfl) ?_)
      rw [b2]
      iterate 1 (first | refine xG_getI rfl (by exact rfl) (by exact rfl) ?_ | refine xG_getR rfl (by exact rfl) (by exact rfl) ?_ | refine xG_add rfl ?_ | refine xG_sub rfl ?_ | refine xG_mul rfl ?_ | refine xG_putI rfl (by exact rfl) (by exact rfl) ?_ | refine xG_go (fun _ => rfl) ?_)
      exact xG_ret (fun _ => rfl) ⟨K, kM K k1, k2, Or.inl ⟨p, b3, rfl, rfl⟩⟩
    · iterate 2 (first | refine xG_getI rfl (by exact rfl) (by exact rfl) ?_ | refine xG_getR rfl (by exact rfl) (by exact rfl) ?_ | refine xG_add rfl ?_ | refine xG_sub rfl ?_ | refine xG_mul rfl ?_ | refine xG_putI rfl (by exact rfl) (by exact rfl) ?_ | refine xG_go (fun _ => rfl) ?_)
      rw [b1]
      refine xe0 rfl ?_
      iterate 1 (first | refine xG_getI rfl (by exact rfl) (by exact rfl) ?_ | refine xG_getR rfl (by exact rfl) (by exact rfl) ?_ | refine xG_add rfl ?_ | refine xG_sub rfl ?_ | refine xG_mul rfl ?_ | refine xG_putI rfl (by exact rfl) (by exact rfl) ?_ | refine xG_go (fun _ => rfl) ?_)
      have w3 := e2.1.2.2.2.2.1
      obtain ⟨no, eo⟩ := Int.eq_ofNat_of_zero_le w3.1
      refine xV1 rfl (by exact rfl) (by simp) (m_settles (d := d + 5) (no := no) e3 (by omega) eo) (fun r N hq => ?_)
      obtain ⟨rfl, hq⟩ := hq
      iterate 2 (first | refine xG_getI rfl (by exact rfl) (by exact rfl) ?_ | refine xG_getR rfl (by exact rfl) (by exact rfl) ?_ | refine xG_add rfl ?_ | refine xG_sub rfl ?_ | refine xG_mul rfl ?_ | refine xG_putI rfl (by exact rfl) (by exact rfl) ?_ | refine xG_go (fun _ => rfl) ?_)
      rw [hq.2.2.2.2.2.2.2.2.2.1, e4]
      exact xG_ret (fun _ => rfl) ⟨K, kM K k1, k2, Or.inr ⟨S', no, e1, e2, e3, eo, hq, rfl⟩⟩
  · unfold RS
    rw [f1.2 23 (by omega), f1.2 24 (by omega), f1.2 25 (by omega), f1.2 29 (by omega), v23, v24, v25, v29, t0, t1, t2, t3, s4, s5]
    exact ⟨by decide, by decide, rfl, rfl, rfl, rfl, Or.inl ⟨rfl, by decide⟩, Or.inl ⟨rfl, by decide⟩, fun m hm => absurd hm (by omega), fun o ho => absurd ho (by omega)⟩
end ZR
