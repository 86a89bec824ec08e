/-! THE TEXT: the reference settles -/
section ZQ
variable {sc : Nat × (Nat → Int)} {d c : Nat} {M : mv_M}
theorem l_stA {Q : Option mv_V → mv_M → Prop} (kk : ∀ N, (∀ a, a ≠ 147 → N a = M a) → (∀ i, i < 21 → N 147 i = 0) → xG sc d y_Mod_settles 53 [some (mR 143), some (mI 21)] [] N Q) : ∀ (k j : Nat) (N : mv_M), j + k = 21 → (∀ a, a ≠ 147 → N a = M a) → (∀ i, i < j → N 147 i = 0) → xG sc d y_Mod_settles 34 [some (mR 143), some (mI j)] [] N Q := by
  intro k
  induction k with
  | zero =>
    intro j N hj h1 h2
    have : j = 21 := by omega
    subst this
    iterate 2 (first | refine xG_getI rfl (by exact rfl) (by exact rfl) ?_ | refine xG_getR rfl (by exact rfl) (by exact rfl) ?_ | refine xG_add rfl ?_ | refine xG_sub rfl ?_ | refine xG_mul rfl ?_ | refine xG_putI rfl (by exact rfl) (by exact rfl) ?_ | refine xG_go (fun _ => rfl) ?_)
    refine xb_ge rfl (by omega) (by omega) (fun _ => ?_) (fun c1 => absurd c1 (by omega))
    exact kk N h1 h2
  | succ k ik =>
    intro j N hj h1 h2
    iterate 2 (first | refine xG_getI rfl (by exact rfl) (by exact rfl) ?_ | refine xG_getR rfl (by exact rfl) (by exact rfl) ?_ | refine xG_add rfl ?_ | refine xG_sub rfl ?_ | refine xG_mul rfl ?_ | refine xG_putI rfl (by exact rfl) (by exact rfl) ?_ | refine xG_go (fun _ => rfl) ?_)
    refine xb_ge rfl (by omega) (by omega) (fun c1 => absurd c1 (by omega)) (fun _ => ?_)
    iterate 4 (first | refine xG_getI rfl (by exact rfl) (by exact rfl) ?_ | refine xG_getR rfl (by exact rfl) (by exact rfl) ?_ | refine xG_add rfl ?_ | refine xG_sub rfl ?_ | refine xG_mul rfl ?_ | refine xG_putI rfl (by exact rfl) (by exact rfl) ?_ | refine xG_go (fun _ => rfl) ?_)
    refine xG_ast rfl (by exact rfl) (by omega) ?_
    rw [Int.toNat_natCast]
    iterate 2 (first | refine xG_getI rfl (by exact rfl) (by exact rfl) ?_ | refine xG_getR rfl (by exact rfl) (by exact rfl) ?_ | refine xG_add rfl ?_ | refine xG_sub rfl ?_ | refine xG_mul rfl ?_ | refine xG_putI rfl (by exact rfl) (by exact rfl) ?_ | refine xG_go (fun _ => rfl) ?_)
    refine ik (j + 1) _ (by omega) (fun a ha => by rw [mv_upne ha, h1 a ha]) (fun i hi => ?_)
    by_cases w : i = j
    · rw [w, mv_up_at]
    · rw [mv_up_j w, h2 i (by omega)]
theorem l_stB {Q : Option mv_V → mv_M → Prop} (kk : ∀ N, (∀ a, a ≠ 144 → a ≠ 145 → N a = M a) → (∀ i, i < 6 → N 144 i = M 153 i ∧ N 145 i = M 154 i) → xG sc d y_Mod_settles 91 [some (mR 143), some (mI 6)] [] N Q) : ∀ (k j : Nat) (N : mv_M), j + k = 6 → (∀ a, a ≠ 144 → a ≠ 145 → N a = M a) → (∀ i, i < j → N 144 i = M 153 i ∧ N 145 i = M 154 i) → xG sc d y_Mod_settles 55 [some (mR 143), some (mI j)] [] N Q := by
  intro k
  induction k with
  | zero =>
    intro j N hj h1 h2
    have : j = 6 := by omega
    subst this
    iterate 2 (first | refine xG_getI rfl (by exact rfl) (by exact rfl) ?_ | refine xG_getR rfl (by exact rfl) (by exact rfl) ?_ | refine xG_add rfl ?_ | refine xG_sub rfl ?_ | refine xG_mul rfl ?_ | refine xG_putI rfl (by exact rfl) (by exact rfl) ?_ | refine xG_go (fun _ => rfl) ?_)
    refine xb_ge rfl (by omega) (by omega) (fun _ => ?_) (fun c1 => absurd c1 (by omega))
    exact kk N h1 h2
  | succ k ik =>
    intro j N hj h1 h2
    iterate 2 (first | refine xG_getI rfl (by exact rfl) (by exact rfl) ?_ | refine xG_getR rfl (by exact rfl) (by exact rfl) ?_ | refine xG_add rfl ?_ | refine xG_sub rfl ?_ | refine xG_mul rfl ?_ | refine xG_putI rfl (by exact rfl) (by exact rfl) ?_ | refine xG_go (fun _ => rfl) ?_)
    refine xb_ge rfl (by omega) (by omega) (fun c1 => absurd c1 (by omega)) (fun _ => ?_)
    iterate 6 (first | refine xG_getI rfl (by exact rfl) (by exact rfl) ?_ | refine xG_getR rfl (by exact rfl) (by exact rfl) ?_ | refine xG_add rfl ?_ | refine xG_sub rfl ?_ | refine xG_mul rfl ?_ | refine xG_putI rfl (by exact rfl) (by exact rfl) ?_ | refine xG_go (fun _ => rfl) ?_)
    refine xG_ald rfl (by exact rfl) (by omega) ?_
    refine xG_ast rfl (by exact rfl) (by omega) ?_
    iterate 6 (first | refine xG_getI rfl (by exact rfl) (by exact rfl) ?_ | refine xG_getR rfl (by exact rfl) (by exact rfl) ?_ | refine xG_add rfl ?_ | refine xG_sub rfl ?_ | refine xG_mul rfl ?_ | refine xG_putI rfl (by exact rfl) (by exact rfl) ?_ | refine xG_go (fun _ => rfl) ?_)
    refine xG_ald rfl (by exact rfl) (by omega) ?_
    refine xG_ast rfl (by exact rfl) (by omega) ?_
    rw [Int.toNat_natCast, mv_upne (show 154 ≠ 144 by decide), h1 153 (by decide) (by decide), h1 154 (by decide) (by decide)]
    iterate 2 (first | refine xG_getI rfl (by exact rfl) (by exact rfl) ?_ | refine xG_getR rfl (by exact rfl) (by exact rfl) ?_ | refine xG_add rfl ?_ | refine xG_sub rfl ?_ | refine xG_mul rfl ?_ | refine xG_putI rfl (by exact rfl) (by exact rfl) ?_ | refine xG_go (fun _ => rfl) ?_)
    refine ik (j + 1) _ (by omega) (fun a ha hb => by rw [mv_upne hb, mv_upne ha, h1 a ha hb]) (fun i hi => ?_)
    by_cases w : i = j
    · rw [w, mv_upne (by decide), mv_up_at, mv_up_at]
      exact ⟨rfl, rfl⟩
    · rw [mv_upne (show 144 ≠ 145 by decide), mv_up_j w, mv_up_j w, mv_upne (show 145 ≠ 144 by decide)]
      exact h2 i (by omega)
theorem l_stC {Q : Option mv_V → mv_M → Prop} (kk : ∀ N, (∀ a, a ≠ 146 → N a = M a) → (∀ i, i < 24 → N 146 i = M 155 i) → xG sc d y_Mod_settles 117 [some (mR 143), some (mI 24)] [] N Q) : ∀ (k j : Nat) (N : mv_M), j + k = 24 → (∀ a, a ≠ 146 → N a = M a) → (∀ i, i < j → N 146 i = M 155 i) → xG sc d y_Mod_settles 93 [some (mR 143), some (mI j)] [] N Q := by
  intro k
  induction k with
  | zero =>
    intro j N hj h1 h2
    have : j = 24 := by omega
    subst this
    iterate 2 (first | refine xG_getI rfl (by exact rfl) (by exact rfl) ?_ | refine xG_getR rfl (by exact rfl) (by exact rfl) ?_ | refine xG_add rfl ?_ | refine xG_sub rfl ?_ | refine xG_mul rfl ?_ | refine xG_putI rfl (by exact rfl) (by exact rfl) ?_ | refine xG_go (fun _ => rfl) ?_)
    refine xb_ge rfl (by omega) (by omega) (fun _ => ?_) (fun c1 => absurd c1 (by omega))
    exact kk N h1 h2
  | succ k ik =>
    intro j N hj h1 h2
    iterate 2 (first | refine xG_getI rfl (by exact rfl) (by exact rfl) ?_ | refine xG_getR rfl (by exact rfl) (by exact rfl) ?_ | refine xG_add rfl ?_ | refine xG_sub rfl ?_ | refine xG_mul rfl ?_ | refine xG_putI rfl (by exact rfl) (by exact rfl) ?_ | refine xG_go (fun _ => rfl) ?_)
    refine xb_ge rfl (by omega) (by omega) (fun c1 => absurd c1 (by omega)) (fun _ => ?_)
    iterate 6 (first | refine xG_getI rfl (by exact rfl) (by exact rfl) ?_ | refine xG_getR rfl (by exact rfl) (by exact rfl) ?_ | refine xG_add rfl ?_ | refine xG_sub rfl ?_ | refine xG_mul rfl ?_ | refine xG_putI rfl (by exact rfl) (by exact rfl) ?_ | refine xG_go (fun _ => rfl) ?_)
    refine xG_ald rfl (by exact rfl) (by omega) ?_
    refine xG_ast rfl (by exact rfl) (by omega) ?_
    rw [Int.toNat_natCast, h1 155 (by decide)]
    iterate 2 (first | refine xG_getI rfl (by exact rfl) (by exact rfl) ?_ | refine xG_getR rfl (by exact rfl) (by exact rfl) ?_ | refine xG_add rfl ?_ | refine xG_sub rfl ?_ | refine xG_mul rfl ?_ | refine xG_putI rfl (by exact rfl) (by exact rfl) ?_ | refine xG_go (fun _ => rfl) ?_)
    refine ik (j + 1) _ (by omega) (fun a ha => by rw [mv_upne ha, h1 a ha]) (fun i hi => ?_)
    by_cases w : i = j
    · rw [w, mv_up_at]
    · rw [mv_up_j w, h2 i (by omega)]
def stD (M N : mv_M) (j : Nat) : Prop := (∀ a, a ≠ 147 → N a = M a) ∧ (∀ i, i < 15 → N 147 i = M 147 i) ∧ ∀ o, o < 3 → (N 147 (15 + o) = if o < j then M 156 o else M 147 (15 + o)) ∧ N 147 (18 + o) = if o < j then M 157 o else M 147 (18 + o)
theorem l_stD {no : Nat} (n3 : no ≤ 3) (eo : M 143 6 = no) {Q : Option mv_V → mv_M → Prop} (kk : ∀ N, stD M N no → xG sc d y_Mod_settles 163 [some (mR 143), some (mI no)] [] N Q) : ∀ (k j : Nat) (N : mv_M), j + k = no → stD M N j → xG sc d y_Mod_settles 119 [some (mR 143), some (mI j)] [] N Q := by
  intro k
  induction k with
  | zero =>
    intro j N hj hN
    have : j = no := by omega
    subst this
    iterate 3 (first | refine xG_getI rfl (by exact rfl) (by exact rfl) ?_ | refine xG_getR rfl (by exact rfl) (by exact rfl) ?_ | refine xG_add rfl ?_ | refine xG_sub rfl ?_ | refine xG_mul rfl ?_ | refine xG_putI rfl (by exact rfl) (by exact rfl) ?_ | refine xG_go (fun _ => rfl) ?_)
    rw [hN.1 143 (by decide), eo]
    refine xb_ge rfl (by omega) (by omega) (fun _ => ?_) (fun c1 => absurd c1 (by omega))
    exact kk N hN
  | succ k ik =>
    intro j N hj hN
    obtain ⟨h1, h2, h3⟩ := hN
    iterate 3 (first | refine xG_getI rfl (by exact rfl) (by exact rfl) ?_ | refine xG_getR rfl (by exact rfl) (by exact rfl) ?_ | refine xG_add rfl ?_ | refine xG_sub rfl ?_ | refine xG_mul rfl ?_ | refine xG_putI rfl (by exact rfl) (by exact rfl) ?_ | refine xG_go (fun _ => rfl) ?_)
    rw [h1 143 (by decide), eo]
    refine xb_ge rfl (by omega) (by omega) (fun c1 => absurd c1 (by omega)) (fun _ => ?_)
    iterate 8 (first | refine xG_getI rfl (by exact rfl) (by exact rfl) ?_ | refine xG_getR rfl (by exact rfl) (by exact rfl) ?_ | refine xG_add rfl ?_ | refine xG_sub rfl ?_ | refine xG_mul rfl ?_ | refine xG_putI rfl (by exact rfl) (by exact rfl) ?_ | refine xG_go (fun _ => rfl) ?_)
    refine xG_ald rfl (by exact rfl) (by omega) ?_
    refine xG_ast rfl (by exact rfl) (by omega) ?_
    iterate 8 (first | refine xG_getI rfl (by exact rfl) (by exact rfl) ?_ | refine xG_getR rfl (by exact rfl) (by exact rfl) ?_ | refine xG_add rfl ?_ | refine xG_sub rfl ?_ | refine xG_mul rfl ?_ | refine xG_putI rfl (by exact rfl) (by exact rfl) ?_ | refine xG_go (fun _ => rfl) ?_)
    refine xG_ald rfl (by exact rfl) (by omega) ?_
    refine xG_ast rfl (by exact rfl) (by omega) ?_
    rw [Int.toNat_natCast, mv_upne (show 157 ≠ 147 by decide), h1 156 (by decide), h1 157 (by decide), show ((15 : Int) + (j : Int)).toNat = 15 + j by omega, show ((18 : Int) + (j : Int)).toNat = 18 + j by omega]
    iterate 2 (first | refine xG_getI rfl (by exact rfl) (by exact rfl) ?_ | refine xG_getR rfl (by exact rfl) (by exact rfl) ?_ | refine xG_add rfl ?_ | refine xG_sub rfl ?_ | refine xG_mul rfl ?_ | refine xG_putI rfl (by exact rfl) (by exact rfl) ?_ | refine xG_go (fun _ => rfl) ?_)
    refine ik (j + 1) _ (by omega) ⟨fun a ha => by rw [mv_upne ha, mv_upne ha, h1 a ha], fun i hi => by rw [mv_up_j (by omega), mv_up_j (by omega), h2 i hi], fun o ho => ⟨?_, ?_⟩⟩
    · rw [mv_up_j (by omega)]
      by_cases w : o = j
      · rw [w, mv_up_at, if_pos (by omega)]
      · rw [mv_up_j (by omega), (h3 o ho).1]
        by_cases u : o < j
        · rw [if_pos u, if_pos (by omega)]
        · rw [if_neg u, if_neg (by omega)]
    · by_cases w : o = j
      · rw [w, mv_up_at, if_pos (by omega)]
      · rw [mv_up_j (by omega), mv_up_j (by omega), (h3 o ho).2]
        by_cases u : o < j
        · rw [if_pos u, if_pos (by omega)]
        · rw [if_neg u, if_neg (by omega)]
/-- settled: M before, N behind; S what the reader has -/
def SQ (S M N : mv_M) (no : Nat) : Prop := (∀ a, ¬ (143 ≤ a ∧ a ≤ 147) → a ≠ 150 → N a = M a) ∧ N 143 0 = S 17 0 ∧ N 143 1 = S 17 1 ∧ N 143 2 = S 17 2 ∧ N 143 6 = S 17 3 ∧ N 143 9 = 0 ∧ N 143 12 = 0 ∧ N 143 16 = 0 ∧ N 143 14 = M 143 14 ∧ N 143 22 = M 143 22 ∧ (∀ i, i < 6 → N 144 i = M 153 i ∧ N 145 i = M 154 i) ∧ (∀ i, i < 24 → N 146 i = M 155 i) ∧ (∀ i, i < 15 → N 147 i = 0) ∧ (∀ o, o < 3 → (N 147 (15 + o) = if o < no then M 156 o else 0) ∧ N 147 (18 + o) = if o < no then M 157 o else 0) ∧ N 150 0 = 0 ∧ N 150 1 = 0
theorem m_settles {S : mv_M} {no : Nat} (hr : RS S M) (n3 : no ≤ 3) (eo : S 17 3 = no) : xC sc (d + 2) n_Mod_settles [mR 143] M (fun r N => r = none ∧ SQ S M N no) := by
  obtain ⟨r1, r2, r3, r4, r5, r6, _⟩ := hr
  refine xC_in rfl rfl (by simp; decide) ?_
  iterate 2 (first | refine xG_getI rfl (by exact rfl) (by exact rfl) ?_ | refine xG_getR rfl (by exact rfl) (by exact rfl) ?_ | refine xG_add rfl ?_ | refine xG_sub rfl ?_ | refine xG_mul rfl ?_ | refine xG_putI rfl (by exact rfl) (by exact rfl) ?_ | refine xG_go (fun _ => rfl) ?_)
  refine xV1 rfl (by exact rfl) (by simp) (m_streetsSaid r1) (fun r M' hq => ?_)
  obtain ⟨rfl, rfl⟩ := hq
  rw [← r3]
  iterate 3 (first | refine xG_getI rfl (by exact rfl) (by exact rfl) ?_ | refine xG_getR rfl (by exact rfl) (by exact rfl) ?_ | refine xG_add rfl ?_ | refine xG_sub rfl ?_ | refine xG_mul rfl ?_ | refine xG_putI rfl (by exact rfl) (by exact rfl) ?_ | refine xG_go (fun _ => rfl) ?_)
  refine xV1 rfl (by exact rfl) (by simp) (m_tunesSaid (M := mv_up M 143 0 (S 17 0)) (by rw [mv_up_j (by decide)]; exact r2)) (fun r M' hq => ?_)
  obtain ⟨rfl, rfl⟩ := hq
  rw [mv_up_j (show 24 ≠ 0 by decide), ← r4]
  iterate 4 (first | refine xG_getI rfl (by exact rfl) (by exact rfl) ?_ | refine xG_getR rfl (by exact rfl) (by exact rfl) ?_ | refine xG_add rfl ?_ | refine xG_sub rfl ?_ | refine xG_mul rfl ?_ | refine xG_putI rfl (by exact rfl) (by exact rfl) ?_ | refine xG_go (fun _ => rfl) ?_)
  rw [mv_up_j (show 25 ≠ 1 by decide), mv_up_j (show 25 ≠ 0 by decide), r5]
  iterate 4 (first | refine xG_getI rfl (by exact rfl) (by exact rfl) ?_ | refine xG_getR rfl (by exact rfl) (by exact rfl) ?_ | refine xG_add rfl ?_ | refine xG_sub rfl ?_ | refine xG_mul rfl ?_ | refine xG_putI rfl (by exact rfl) (by exact rfl) ?_ | refine xG_go (fun _ => rfl) ?_)
  rw [mv_up_j (show 29 ≠ 2 by decide), mv_up_j (show 29 ≠ 1 by decide), mv_up_j (show 29 ≠ 0 by decide), r6]
  iterate 3 (first | refine xG_getI rfl (by exact rfl) (by exact rfl) ?_ | refine xG_getR rfl (by exact rfl) (by exact rfl) ?_ | refine xG_add rfl ?_ | refine xG_sub rfl ?_ | refine xG_mul rfl ?_ | refine xG_putI rfl (by exact rfl) (by exact rfl) ?_ | refine xG_go (fun _ => rfl) ?_)
  refine l_stA (fun N1 a1 a2 => ?_) 21 0 _ (by omega) (fun _ _ => rfl) (fun i hi => absurd hi (by omega))
  iterate 2 (first | refine xG_getI rfl (by exact rfl) (by exact rfl) ?_ | refine xG_getR rfl (by exact rfl) (by exact rfl) ?_ | refine xG_add rfl ?_ | refine xG_sub rfl ?_ | refine xG_mul rfl ?_ | refine xG_putI rfl (by exact rfl) (by exact rfl) ?_ | refine xG_go (fun _ => rfl) ?_)
  refine l_stB (M := N1) (fun N2 b1 b2 => ?_) 6 0 N1 (by omega) (fun _ _ _ => rfl) (fun i hi => absurd hi (by omega))
  iterate 2 (first | refine xG_getI rfl (by exact rfl) (by exact rfl) ?_ | refine xG_getR rfl (by exact rfl) (by exact rfl) ?_ | refine xG_add rfl ?_ | refine xG_sub rfl ?_ | refine xG_mul rfl ?_ | refine xG_putI rfl (by exact rfl) (by exact rfl) ?_ | refine xG_go (fun _ => rfl) ?_)
  refine l_stC (M := N2) (fun N3 c1 c2 => ?_) 24 0 N2 (by omega) (fun _ _ => rfl) (fun i hi => absurd hi (by omega))
  iterate 2 (first | refine xG_getI rfl (by exact rfl) (by exact rfl) ?_ | refine xG_getR rfl (by exact rfl) (by exact rfl) ?_ | refine xG_add rfl ?_ | refine xG_sub rfl ?_ | refine xG_mul rfl ?_ | refine xG_putI rfl (by exact rfl) (by exact rfl) ?_ | refine xG_go (fun _ => rfl) ?_)
  have e6 : N3 143 6 = no := by
    rw [c1 143 (by decide), b1 143 (by decide) (by decide), a1 143 (by decide), mv_up_at, eo]
  have row : ∀ a, ¬ (143 ≤ a ∧ a ≤ 147) → N3 a = M a := fun a ha => by rw [c1 a (by omega), b1 a (by omega) (by omega), a1 a (by omega), mv_upne (by omega), mv_upne (by omega), mv_upne (by omega), mv_upne (by omega)]
  have f143 : N3 143 = mv_up (mv_up (mv_up (mv_up M 143 0 (S 17 0)) 143 1 (S 17 1)) 143 2 (S 17 2)) 143 6 (S 17 3) 143 := by
    rw [c1 143 (by decide), b1 143 (by decide) (by decide), a1 143 (by decide)]
  have z147 : ∀ i, i < 21 → N3 147 i = 0 := fun i hi => by rw [c1 147 (by decide), b1 147 (by decide) (by decide), a2 i hi]
  have r144 : ∀ i, i < 6 → N3 144 i = M 153 i ∧ N3 145 i = M 154 i := fun i hi => by
    rw [c1 144 (by decide), c1 145 (by decide), (b2 i hi).1, (b2 i hi).2, a1 153 (by decide), a1 154 (by decide), mv_upne (by decide), mv_upne (by decide), mv_upne (by decide), mv_upne (by decide), mv_upne (by decide), mv_upne (by decide), mv_upne (by decide), mv_upne (by decide)]
    exact ⟨rfl, rfl⟩
  have r146 : ∀ i, i < 24 → N3 146 i = M 155 i := fun i hi => by
    rw [c2 i hi, b1 155 (by decide) (by decide), a1 155 (by decide), mv_upne (by decide), mv_upne (by decide), mv_upne (by decide), mv_upne (by decide)]
  refine l_stD (M := N3) n3 e6 (fun N4 hN => ?_) no 0 N3 (by omega) ⟨fun _ _ => rfl, fun _ _ => rfl, fun o ho => ⟨by rw [if_neg (by omega)], by rw [if_neg (by omega)]⟩⟩
  obtain ⟨g1, g2, g3⟩ := hN
  iterate 10 (first | refine xG_getI rfl (by exact rfl) (by exact rfl) ?_ | refine xG_getR rfl (by exact rfl) (by exact rfl) ?_ | refine xG_add rfl ?_ | refine xG_sub rfl ?_ | refine xG_mul rfl ?_ | refine xG_putI rfl (by exact rfl) (by exact rfl) ?_ | refine xG_go (fun _ => rfl) ?_)
  refine xG_bast rfl (by exact rfl) (by decide) (Or.inl rfl) ?_
  iterate 4 (first | refine xG_getI rfl (by exact rfl) (by exact rfl) ?_ | refine xG_getR rfl (by exact rfl) (by exact rfl) ?_ | refine xG_add rfl ?_ | refine xG_sub rfl ?_ | refine xG_mul rfl ?_ | refine xG_putI rfl (by exact rfl) (by exact rfl) ?_ | refine xG_go (fun _ => rfl) ?_)
  refine xG_bast rfl (by exact rfl) (by decide) (Or.inl rfl) ?_
  iterate 3 (first | refine xG_getI rfl (by exact rfl) (by exact rfl) ?_ | refine xG_getR rfl (by exact rfl) (by exact rfl) ?_ | refine xG_add rfl ?_ | refine xG_sub rfl ?_ | refine xG_mul rfl ?_ | refine xG_putI rfl (by exact rfl) (by exact rfl) ?_ | refine xG_go (fun _ => rfl) ?_)
  have z0 : (0 : Int).toNat = 0 := rfl
  have z1 : (1 : Int).toNat = 1 := rfl
  refine xG_ret (fun _ => rfl) ⟨rfl, fun a h1 h2 => ?_, ?_, ?_, ?_, ?_, ?_, ?_, ?_, ?_, ?_, fun i hi => ?_, fun i hi => ?_, fun i hi => ?_, fun o ho => ?_, ?_, ?_⟩
  · rw [mv_upne (by omega), mv_upne (by omega), mv_upne (by omega), mv_upne (by omega), mv_upne (by omega), g1 a (by omega), row a h1]
  · rw [mv_up_j (by decide), mv_upne (by decide), mv_upne (by decide), mv_up_j (by decide), mv_up_j (by decide), g1 143 (by decide), f143]; simp [mv_up]
  · rw [mv_up_j (by decide), mv_upne (by decide), mv_upne (by decide), mv_up_j (by decide), mv_up_j (by decide), g1 143 (by decide), f143]; simp [mv_up]
  · rw [mv_up_j (by decide), mv_upne (by decide), mv_upne (by decide), mv_up_j (by decide), mv_up_j (by decide), g1 143 (by decide), f143]; simp [mv_up]
  · rw [mv_up_j (by decide), mv_upne (by decide), mv_upne (by decide), mv_up_j (by decide), mv_up_j (by decide), g1 143 (by decide), f143]; simp [mv_up]
  · rw [mv_up_j (by decide), mv_upne (by decide), mv_upne (by decide), mv_up_j (by decide), mv_up_at]
  · rw [mv_up_j (by decide), mv_upne (by decide), mv_upne (by decide), mv_up_at]
  · rw [mv_up_at]
  · rw [mv_up_j (by decide), mv_upne (by decide), mv_upne (by decide), mv_up_j (by decide), mv_up_j (by decide), g1 143 (by decide), f143]; simp [mv_up]
  · rw [mv_up_j (by decide), mv_upne (by decide), mv_upne (by decide), mv_up_j (by decide), mv_up_j (by decide), g1 143 (by decide), f143]; simp [mv_up]
  · rw [mv_upne (show 144 ≠ 143 by decide), mv_upne (show 144 ≠ 150 by decide), mv_upne (show 144 ≠ 150 by decide), mv_upne (show 144 ≠ 143 by decide), mv_upne (show 144 ≠ 143 by decide), mv_upne (show 145 ≠ 143 by decide), mv_upne (show 145 ≠ 150 by decide), mv_upne (show 145 ≠ 150 by decide), mv_upne (show 145 ≠ 143 by decide), mv_upne (show 145 ≠ 143 by decide), g1 144 (by decide), g1 145 (by decide)]
    exact r144 i hi
  · rw [mv_upne (show 146 ≠ 143 by decide), mv_upne (show 146 ≠ 150 by decide), mv_upne (show 146 ≠ 150 by decide), mv_upne (show 146 ≠ 143 by decide), mv_upne (show 146 ≠ 143 by decide), g1 146 (by decide)]
    exact r146 i hi
  · rw [mv_upne (show 147 ≠ 143 by decide), mv_upne (show 147 ≠ 150 by decide), mv_upne (show 147 ≠ 150 by decide), mv_upne (show 147 ≠ 143 by decide), mv_upne (show 147 ≠ 143 by decide), g2 i hi, z147 i (by omega)]
  · rw [mv_upne (show 147 ≠ 143 by decide), mv_upne (show 147 ≠ 150 by decide), mv_upne (show 147 ≠ 150 by decide), mv_upne (show 147 ≠ 143 by decide), mv_upne (show 147 ≠ 143 by decide), (g3 o ho).1, (g3 o ho).2, z147 _ (by omega), z147 _ (by omega), row 156 (by omega), row 157 (by omega)]
    exact ⟨rfl, rfl⟩
  · rw [mv_upne (by decide), mv_up_j (by decide), z0, mv_up_at]
  · rw [mv_upne (by decide), z1, mv_up_at]
end ZQ
