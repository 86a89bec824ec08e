/-! THE CALLS: poll, undo -/
section YI
variable {sc : Nat × (Nat → Int)} {d c : Nat} {M : mv_M}
def zl (g : Nat → Int) (j : Nat) : Nat → Int := fun i => if (3 ≤ i ∧ i < 3 + j) ∨ (9 ≤ i ∧ i < 9 + j) then 0 else g i
theorem l_zero {N : mv_M} {g : Nat → Int} {x1 x2 : Option mv_V} {Q : Option mv_V → mv_M → Prop} (kk : xG sc d y_Mod_poll 82 [some (mR 143), x1, x2, some (mI 6)] [] (mv_row N 147 (zl g 6)) Q) : ∀ (k j : Nat), j + k = 6 → xG sc d y_Mod_poll 51 [some (mR 143), x1, x2, some (mI j)] [] (mv_row N 147 (zl g j)) Q := by
  intro k
  induction k with
  | zero =>
    intro j hk
    have : j = 6 := by omega
    subst this
    iterate 2 (first | refine xG_getI rfl (by exact rfl) (by exact rfl) ?_ | refine xG_getR rfl (by exact rfl) (by exact rfl) ?_ | refine xG_add rfl ?_ | refine xG_sub rfl ?_ | refine xG_mul rfl ?_ | refine xG_putI rfl (by exact rfl) (by exact rfl) ?_ | refine xG_go (fun _ => rfl) ?_)
    iterate 1 (first | refine xG_getI rfl (by exact rfl) (by exact rfl) ?_ | refine xG_getR rfl (by exact rfl) (by exact rfl) ?_ | refine xG_add rfl ?_ | refine xG_sub rfl ?_ | refine xG_mul rfl ?_ | refine xG_putI rfl (by exact rfl) (by exact rfl) ?_ | refine xG_go (fun _ => rfl) ?_)
    exact kk
  | succ k ih =>
    intro j hk
    iterate 2 (first | refine xG_getI rfl (by exact rfl) (by exact rfl) ?_ | refine xG_getR rfl (by exact rfl) (by exact rfl) ?_ | refine xG_add rfl ?_ | refine xG_sub rfl ?_ | refine xG_mul rfl ?_ | refine xG_putI rfl (by exact rfl) (by exact rfl) ?_ | refine xG_go (fun _ => rfl) ?_)
    refine xb_ge rfl (by omega) (by decide) (fun c1 => absurd c1 (by omega)) (fun c1 => ?_)
    iterate 6 (first | refine xG_getI rfl (by exact rfl) (by exact rfl) ?_ | refine xG_getR rfl (by exact rfl) (by exact rfl) ?_ | refine xG_add rfl ?_ | refine xG_sub rfl ?_ | refine xG_mul rfl ?_ | refine xG_putI rfl (by exact rfl) (by exact rfl) ?_ | refine xG_go (fun _ => rfl) ?_)
    refine xG_ast rfl (by exact rfl) (by omega) ?_
    iterate 6 (first | refine xG_getI rfl (by exact rfl) (by exact rfl) ?_ | refine xG_getR rfl (by exact rfl) (by exact rfl) ?_ | refine xG_add rfl ?_ | refine xG_sub rfl ?_ | refine xG_mul rfl ?_ | refine xG_putI rfl (by exact rfl) (by exact rfl) ?_ | refine xG_go (fun _ => rfl) ?_)
    refine xG_ast rfl (by exact rfl) (by omega) ?_
    rw [mv_up_row, mv_up_row, show ((3 : Int) + (j : Int)).toNat = 3 + j by omega, show ((9 : Int) + (j : Int)).toNat = 9 + j by omega]
    iterate 2 (first | refine xG_getI rfl (by exact rfl) (by exact rfl) ?_ | refine xG_getR rfl (by exact rfl) (by exact rfl) ?_ | refine xG_add rfl ?_ | refine xG_sub rfl ?_ | refine xG_mul rfl ?_ | refine xG_putI rfl (by exact rfl) (by exact rfl) ?_ | refine xG_go (fun _ => rfl) ?_)
    have e : (fun i => if i = 9 + j then (0 : Int) else if i = 3 + j then 0 else zl g j i) = zl g (j + 1) := by
      funext i
      unfold zl
      by_cases w : i = 9 + j
      · rw [if_pos w, if_pos (by omega)]
      · rw [if_neg w]
        by_cases v : i = 3 + j
        · rw [if_pos v, if_pos (by omega)]
        · rw [if_neg v]
          by_cases u : (3 ≤ i ∧ i < 3 + j) ∨ (9 ≤ i ∧ i < 9 + j)
          · rw [if_pos u, if_pos (by omega)]
          · rw [if_neg u, if_neg (by omega)]
    rw [e]
    exact ih (j + 1) (by omega)
theorem zl0 {N : mv_M} : N = mv_row N 147 (zl (N 147) 0) := (mv_row_self (fun i => by unfold zl; rw [if_neg (by omega)])).symm
theorem poll_dR {st no : Int} {g h : Nat → Int} {b : Prop} [Decidable b] {a : Nat} (n3 : no ≤ 3) (ha : a = if b then 1 else 2) (r : dR st no g h) : dR st no (polled b g) (zl (setp h a (h a + if h a < 999 then 1 else 0)) 6) := by
  obtain ⟨⟨h0, h1, h2, h3, h4, h5, h6⟩, ⟨k0, k1, k2, k3, k4, k5, k6⟩, r1, r2⟩ := r
  have a12 : (a = 1 ∧ b) ∨ (a = 2 ∧ ¬ b) := by
    by_cases q : b
    · rw [if_pos q] at ha; exact Or.inl ⟨ha, q⟩
    · rw [if_neg q] at ha; exact Or.inr ⟨ha, q⟩
  have p0 : polled b g 0 = g 0 := by
    unfold polled
    rw [if_neg (by omega), if_neg (by omega), if_neg (by omega)]
  have pz : ∀ i, 3 ≤ i → i < 15 → polled b g i = 0 := fun i h1 h2 => by
    unfold polled
    rw [if_pos ⟨h1, h2⟩]
  have ph : ∀ i, 15 ≤ i → polled b g i = g i := fun i h1 => by
    unfold polled
    rw [if_neg (by omega), if_neg (by omega), if_neg (by omega)]
  have qz : ∀ i, 3 ≤ i → i < 15 → zl (setp h a (h a + if h a < 999 then 1 else 0)) 6 i = 0 := fun i h1 h2 => by
    unfold zl
    rw [if_pos (by omega)]
  have qn : ∀ i, (i < 3 ∨ 15 ≤ i) → i ≠ a → zl (setp h a (h a + if h a < 999 then 1 else 0)) 6 i = h i := fun i h1 h2 => by
    unfold zl
    rw [if_neg (by omega), setp_ne h2]
  have qa : zl (setp h a (h a + if h a < 999 then 1 else 0)) 6 a = h a + if h a < 999 then 1 else 0 := by
    unfold zl
    rw [if_neg (by omega), setp_at]
  have pa : polled b g a = g a + (if g a < 999 then 1 else 0) ∧ ∀ i, (i = 1 ∨ i = 2) → i ≠ a → polled b g i = g i := by
    rcases a12 with ⟨rfl, q⟩ | ⟨rfl, q⟩
    · refine ⟨?_, fun i h1 h2 => ?_⟩
      · unfold polled
        rw [if_neg (by omega), if_pos ⟨rfl, q⟩]
        split <;> omega
      · have : i = 2 := by omega
        subst this
        unfold polled
        rw [if_neg (by omega), if_neg (by omega), if_neg (fun z => z.2 q)]
    · refine ⟨?_, fun i h1 h2 => ?_⟩
      · unfold polled
        rw [if_neg (by omega), if_neg (fun z => q z.2), if_pos ⟨rfl, q⟩]
        split <;> omega
      · have : i = 1 := by omega
        subst this
        unfold polled
        rw [if_neg (by omega), if_neg (fun z => q z.2), if_neg (by omega)]
  have i1 : 0 ≤ polled b g 1 ∧ polled b g 1 ≤ 999 := by
    by_cases w : 1 = a
    · rw [w, pa.1, ← w]
      split <;> omega
    · rw [pa.2 1 (by omega) w]; exact h1
  have i2 : 0 ≤ polled b g 2 ∧ polled b g 2 ≤ 999 := by
    by_cases w : 2 = a
    · rw [w, pa.1, ← w]
      split <;> omega
    · rw [pa.2 2 (by omega) w]; exact h2
  have eq : ∀ k, k < 15 → polled b g k = zl (setp h a (h a + if h a < 999 then 1 else 0)) 6 k := fun k hk => by
    by_cases k0 : k = 0
    · subst k0
      rw [p0, qn 0 (by omega) (by omega)]; exact r1 0 hk
    · by_cases w : k = a
      · rw [w, pa.1, qa, r1 a (by omega)]
      · by_cases k3 : k < 3
        · rw [pa.2 k (by omega) w, qn k (by omega) w]; exact r1 k hk
        · rw [pz k (by omega) hk, qz k (by omega) hk]
  refine ⟨⟨by rw [p0]; exact h0, i1, i2, fun m hm => by rw [pz _ (by omega) (by omega)]; omega, fun m hm => by rw [pz _ (by omega) (by omega)]; omega, fun m hm => by rw [ph _ (by omega)]; exact h5 m hm, fun m hm => by rw [ph _ (by omega)]; exact h6 m hm⟩, ⟨by rw [← eq 0 (by omega), p0]; exact h0, by rw [← eq 1 (by omega)]; exact i1, by rw [← eq 2 (by omega)]; exact i2, fun m hm => by rw [qz _ (by omega) (by omega)]; omega, fun m hm => by rw [qz _ (by omega) (by omega)]; omega, fun m hm => by rw [qn _ (by omega) (by omega)]; exact k5 m hm, fun m hm => by rw [qn _ (by omega) (by omega)]; exact k6 m hm⟩, eq, fun o ho => ?_⟩
  rw [ph _ (by omega), ph _ (by omega), qn _ (by omega) (by omega), qn _ (by omega) (by omega)]
  exact r2 o ho
theorem b_poll (h : R c M) : both sc 30 n_MV_poll n_Mod_poll [] M c := by
  have hl := h.1.1
  obtain ⟨_, hk, e0, e1, e2, e3, e4⟩ := h.1
  have hd := h.2.1
  have h3 := hl.2.2.2.1
  obtain ⟨nm, n6, en, en2⟩ := R_nm h
  refine both_act (z := b01 (0 < marg (M 6) (dv M 29) nm)) b01_mv h (fun f n hf hn g1 g2 g3 => ?_)
  refine xC_in rfl rfl (by simp; decide) ?_
  iterate 4 (first | refine xG_getI rfl (by exact rfl) (by exact rfl) ?_ | refine xG_getR rfl (by exact rfl) (by exact rfl) ?_ | refine xG_add rfl ?_ | refine xG_sub rfl ?_ | refine xG_mul rfl ?_ | refine xG_putI rfl (by exact rfl) (by exact rfl) ?_ | refine xG_go (fun _ => rfl) ?_)
  refine xV2 rfl (by exact rfl) (by simp) (c_remembers hf g1 (by omega)) (fun r M1 hq => ?_)
  obtain ⟨rfl, hq⟩ := hq
  have cr1 : crem M M1 f n := crem_of g2 hq (fun a ha => rfl)
  have lo : ∀ a, a < 34 → M1 a = M a := fun a ha => hq.2.2.2 a (by omega) (by omega)
  have dd : dv M1 29 = dv M 29 := dv_same (fun a _ _ => lo a (by omega))
  iterate 2 (first | refine xG_getI rfl (by exact rfl) (by exact rfl) ?_ | refine xG_getR rfl (by exact rfl) (by exact rfl) ?_ | refine xG_add rfl ?_ | refine xG_sub rfl ?_ | refine xG_mul rfl ?_ | refine xG_putI rfl (by exact rfl) (by exact rfl) ?_ | refine xG_go (fun _ => rfl) ?_)
  refine xV1 rfl (by exact rfl) (by simp) (c_polls (crem_lok cr1 hl) (by rw [dd]; exact hd.1) (nm := nm) (by rw [lo 4 (by decide), en])) (fun r M2 hs => ?_)
  rw [lo 6 (by decide), dd] at hs
  obtain ⟨rfl, s1, s2⟩ := hs
  have cr : crem M M2 f n := crem_of g2 hq s2
  have hi2 : ∀ a, 143 ≤ a → M2 a = M a := fun a ha => crem_hi hf cr ha
  have rest : xC sc 30 n_Mod_poll [mR 143] M2 (fun r M4 => r = some (mI (b01 (0 < marg (M 6) (dv M 29) nm))) ∧ ∃ M3, remd M2 M3 n ∧ (∀ a, a ≠ 147 → a ≠ 158 → M4 a = M3 a) ∧ dR (M 4 0) (M 4 3) (dv M2 29) (M4 147)) := by
    refine xC_in rfl rfl (by simp; decide) ?_
    iterate 1 (first | refine xG_getI rfl (by exact rfl) (by exact rfl) ?_ | refine xG_getR rfl (by exact rfl) (by exact rfl) ?_ | refine xG_add rfl ?_ | refine xG_sub rfl ?_ | refine xG_mul rfl ?_ | refine xG_putI rfl (by exact rfl) (by exact rfl) ?_ | refine xG_go (fun _ => rfl) ?_)
    refine xV1 rfl (by exact rfl) (by simp) (m_remembers hn (by rw [hi2 143 (by decide), g3])) (fun r M3 hq => ?_)
    obtain ⟨rfl, rm⟩ := hq
    have f3 : ∀ a, a ≠ 143 → a ≠ 148 → 143 ≤ a → M3 a = M a := fun a h1 h2 h3 => by rw [rm.1 a h1 h2, hi2 a h3]
    have f3j : ∀ i, i ≠ 9 → M3 143 i = M 143 i := fun i hi => by rw [rm.2.1 i hi, hi2 143 (by decide)]
    have hk3 : mok M3 := by
      unfold mok
      rw [f3 144 (by decide) (by decide) (by decide), f3 145 (by decide) (by decide) (by decide), f3 146 (by decide) (by decide) (by decide), f3j 0 (by decide), f3j 1 (by decide), f3j 2 (by decide), f3j 6 (by decide)]
      exact hk
    iterate 1 (first | refine xG_getI rfl (by exact rfl) (by exact rfl) ?_ | refine xG_getR rfl (by exact rfl) (by exact rfl) ?_ | refine xG_add rfl ?_ | refine xG_sub rfl ?_ | refine xG_mul rfl ?_ | refine xG_putI rfl (by exact rfl) (by exact rfl) ?_ | refine xG_go (fun _ => rfl) ?_)
    refine xV1 rfl (by exact rfl) (by simp) m_asItIs (fun r M' hq => ?_)
    obtain ⟨rfl, rfl⟩ := hq
    change xG sc 29 y_Mod_poll _ _ _ (aM M3) _
    have m147 : M3 147 = M 147 := f3 147 (by decide) (by decide) (by decide)
    have a147 : aM M3 147 = M 147 := by rw [aM_ne (by decide), m147]
    have ag : ∀ k, k < 21 → aM M3 158 k = M 147 k := fun k hk => by rw [aM_at hk, m147]
    have hv : ∀ m, m < nm → vote (aM M3 145) (aM M3 158) m = vote (M 6) (dv M 29) m := fun m hm => by
      refine vote_cong (by rw [aM_ne (by decide), f3 145 (by decide) (by decide) (by decide)]; exact (e4 m (by omega)).2.1) ?_ ?_ ?_
      · rw [ag 0 (by decide), hd.2.2.1 0 (by decide)]
      · rw [ag (3 + m) (by omega), hd.2.2.1 (3 + m) (by omega)]
      · rw [ag (9 + m) (by omega), hd.2.2.1 (9 + m) (by omega)]
    iterate 1 (first | refine xG_getI rfl (by exact rfl) (by exact rfl) ?_ | refine xG_getR rfl (by exact rfl) (by exact rfl) ?_ | refine xG_add rfl ?_ | refine xG_sub rfl ?_ | refine xG_mul rfl ?_ | refine xG_putI rfl (by exact rfl) (by exact rfl) ?_ | refine xG_go (fun _ => rfl) ?_)
    refine xV1 rfl (by exact rfl) (by simp) (m_carries (Sl_mok (Sc_Sl aM_Sc) hk3) (dok_cong ag hd.2.1) (nm := nm) (by rw [aM_ne (by decide), f3j 2 (by decide), en2])) (fun r M' hs => ?_)
    obtain ⟨rfl, rfl⟩ := hs
    rw [marg_cong nm hv]
    have k1 := hd.2.1.2.1
    have k2 := hd.2.1.2.2.1
    have fin : ∀ (a : Nat) (z : Int), a = (if 0 < marg (M 6) (dv M 29) nm then 1 else 2) → z = b01 (0 < marg (M 6) (dv M 29) nm) → xG sc 29 y_Mod_poll 22 [some (mR 143), some (mI z), none, none] [mI (a : Int)] (aM M3) (fun r M4 => r = some (mI (b01 (0 < marg (M 6) (dv M 29) nm))) ∧ ∃ M3, remd M2 M3 n ∧ (∀ a, a ≠ 147 → a ≠ 158 → M4 a = M3 a) ∧ dR (M 4 0) (M 4 3) (dv M2 29) (M4 147)) := by
      intro a z ea ez
      have a2 : a = 1 ∨ a = 2 := by
        rw [ea]
        split
        · exact Or.inl rfl
        · exact Or.inr rfl
      have ka : 0 ≤ M 147 a ∧ M 147 a ≤ 999 := by
        rcases a2 with q | q <;> rw [q] <;> assumption
      iterate 5 (first | refine xG_getI rfl (by exact rfl) (by exact rfl) ?_ | refine xG_getR rfl (by exact rfl) (by exact rfl) ?_ | refine xG_add rfl ?_ | refine xG_sub rfl ?_ | refine xG_mul rfl ?_ | refine xG_putI rfl (by exact rfl) (by exact rfl) ?_ | refine xG_go (fun _ => rfl) ?_)
      refine xG_ald rfl (by exact rfl) (by omega) ?_
      iterate 3 (first | refine xG_getI rfl (by exact rfl) (by exact rfl) ?_ | refine xG_getR rfl (by exact rfl) (by exact rfl) ?_ | refine xG_add rfl ?_ | refine xG_sub rfl ?_ | refine xG_mul rfl ?_ | refine xG_putI rfl (by exact rfl) (by exact rfl) ?_ | refine xG_go (fun _ => rfl) ?_)
      refine xG_ald rfl (by exact rfl) (by omega) ?_
      rw [Int.toNat_natCast, a147]
      iterate 1 (first | refine xG_getI rfl (by exact rfl) (by exact rfl) ?_ | refine xG_getR rfl (by exact rfl) (by exact rfl) ?_ | refine xG_add rfl ?_ | refine xG_sub rfl ?_ | refine xG_mul rfl ?_ | refine xG_putI rfl (by exact rfl) (by exact rfl) ?_ | refine xG_go (fun _ => rfl) ?_)
      have fin2 : ∀ y : Int, y = (if M 147 a < 999 then 1 else 0) → xG sc 29 y_Mod_poll 47 [some (mR 143), some (mI z), some (mI (a : Int)), none] [mI y, mI (M 147 a), mI (a : Int), mR 147] (aM M3) (fun r M4 => r = some (mI (b01 (0 < marg (M 6) (dv M 29) nm))) ∧ ∃ M3, remd M2 M3 n ∧ (∀ a, a ≠ 147 → a ≠ 158 → M4 a = M3 a) ∧ dR (M 4 0) (M 4 3) (dv M2 29) (M4 147)) := by
        intro y ey
        iterate 1 (first | refine xG_getI rfl (by exact rfl) (by exact rfl) ?_ | refine xG_getR rfl (by exact rfl) (by exact rfl) ?_ | refine xG_add rfl ?_ | refine xG_sub rfl ?_ | refine xG_mul rfl ?_ | refine xG_putI rfl (by exact rfl) (by exact rfl) ?_ | refine xG_go (fun _ => rfl) ?_)
        refine xG_ast rfl (by exact rfl) (by omega) ?_
        rw [Int.toNat_natCast, ey]
        iterate 2 (first | refine xG_getI rfl (by exact rfl) (by exact rfl) ?_ | refine xG_getR rfl (by exact rfl) (by exact rfl) ?_ | refine xG_add rfl ?_ | refine xG_sub rfl ?_ | refine xG_mul rfl ?_ | refine xG_putI rfl (by exact rfl) (by exact rfl) ?_ | refine xG_go (fun _ => rfl) ?_)
        have key := l_zero (sc := sc) (d := 29) (N := mv_up (aM M3) 147 a (M 147 a + if M 147 a < 999 then 1 else 0)) (g := mv_up (aM M3) 147 a (M 147 a + if M 147 a < 999 then 1 else 0) 147) (x1 := some (mI z)) (x2 := some (mI (a : Int))) (Q := fun r M4 => r = some (mI (b01 (0 < marg (M 6) (dv M 29) nm))) ∧ ∃ M3, remd M2 M3 n ∧ (∀ a, a ≠ 147 → a ≠ 158 → M4 a = M3 a) ∧ dR (M 4 0) (M 4 3) (dv M2 29) (M4 147)) ?_ 6 0 (by omega)
        · rw [← zl0] at key
          exact key
        · have post : (∃ M5, remd M2 M5 n ∧ (∀ a_1, a_1 ≠ 147 → a_1 ≠ 158 → mv_row (mv_up (aM M3) 147 a (M 147 a + if M 147 a < 999 then 1 else 0)) 147 (zl (mv_up (aM M3) 147 a (M 147 a + if M 147 a < 999 then 1 else 0) 147) 6) a_1 = M5 a_1) ∧ dR (M 4 0) (M 4 3) (dv M2 29) (mv_row (mv_up (aM M3) 147 a (M 147 a + if M 147 a < 999 then 1 else 0)) 147 (zl (mv_up (aM M3) 147 a (M 147 a + if M 147 a < 999 then 1 else 0) 147) 6) 147)) := by
            refine ⟨M3, rm, fun b h1 h2 => ?_, ?_⟩
            · rw [mv_row_ne h1, mv_upne h1, aM_ne h2]
            · rw [mv_row_at, mv_up_setp, a147, s1]
              exact poll_dR h3.2 ea hd
          iterate 1 (first | refine xG_getI rfl (by exact rfl) (by exact rfl) ?_ | refine xG_getR rfl (by exact rfl) (by exact rfl) ?_ | refine xG_add rfl ?_ | refine xG_sub rfl ?_ | refine xG_mul rfl ?_ | refine xG_putI rfl (by exact rfl) (by exact rfl) ?_ | refine xG_go (fun _ => rfl) ?_)
          rw [ez]
          rcases b01_in (p := 0 < marg (M 6) (dv M 29) nm) with q | q
          · rw [q]
            refine xe0 rfl ?_
            iterate 1 (first | refine xG_getI rfl (by exact rfl) (by exact rfl) ?_ | refine xG_getR rfl (by exact rfl) (by exact rfl) ?_ | refine xG_add rfl ?_ | refine xG_sub rfl ?_ | refine xG_mul rfl ?_ | refine xG_putI rfl (by exact rfl) (by exact rfl) ?_ | refine xG_go (fun _ => rfl) ?_)
            exact xG_ret (fun _ => rfl) ⟨rfl, post⟩
          · rw [q]
            refine xe1 rfl ?_
            iterate 2 (first | refine xG_getI rfl (by exact rfl) (by exact rfl) ?_ | refine xG_getR rfl (by exact rfl) (by exact rfl) ?_ | refine xG_add rfl ?_ | refine xG_sub rfl ?_ | refine xG_mul rfl ?_ | refine xG_putI rfl (by exact rfl) (by exact rfl) ?_ | refine xG_go (fun _ => rfl) ?_)
            exact xG_ret (fun _ => rfl) ⟨rfl, post⟩
      refine xb_ge rfl (by omega) (by decide) (fun c1 => ?_) (fun c1 => ?_)
      · iterate 1 (first | refine xG_getI rfl (by exact rfl) (by exact rfl) ?_ | refine xG_getR rfl (by exact rfl) (by exact rfl) ?_ | refine xG_add rfl ?_ | refine xG_sub rfl ?_ | refine xG_mul rfl ?_ | refine xG_putI rfl (by exact rfl) (by exact rfl) ?_ | refine xG_go (fun _ => rfl) ?_)
        exact fin2 0 (by rw [if_neg (by omega)])
      · iterate 2 (first | refine xG_getI rfl (by exact rfl) (by exact rfl) ?_ | refine xG_getR rfl (by exact rfl) (by exact rfl) ?_ | refine xG_add rfl ?_ | refine xG_sub rfl ?_ | refine xG_mul rfl ?_ | refine xG_putI rfl (by exact rfl) (by exact rfl) ?_ | refine xG_go (fun _ => rfl) ?_)
        exact fin2 1 (by rw [if_pos (by omega)])
    iterate 2 (first | refine xG_getI rfl (by exact rfl) (by exact rfl) ?_ | refine xG_getR rfl (by exact rfl) (by exact rfl) ?_ | refine xG_add rfl ?_ | refine xG_sub rfl ?_ | refine xG_mul rfl ?_ | refine xG_putI rfl (by exact rfl) (by exact rfl) ?_ | refine xG_go (fun _ => rfl) ?_)
    by_cases q : 0 < marg (M 6) (dv M 29) nm
    · have f1 := fin 1 (b01 (0 < marg (M 6) (dv M 29) nm)) (by rw [if_pos q]) rfl
      rw [b01_t q] at f1 ⊢
      refine xe1 rfl ?_
      iterate 2 (first | refine xG_getI rfl (by exact rfl) (by exact rfl) ?_ | refine xG_getR rfl (by exact rfl) (by exact rfl) ?_ | refine xG_add rfl ?_ | refine xG_sub rfl ?_ | refine xG_mul rfl ?_ | refine xG_putI rfl (by exact rfl) (by exact rfl) ?_ | refine xG_go (fun _ => rfl) ?_)
      exact f1
    · have f1 := fin 2 (b01 (0 < marg (M 6) (dv M 29) nm)) (by rw [if_neg q]) rfl
      rw [b01_f q] at f1 ⊢
      refine xe0 rfl ?_
      iterate 1 (first | refine xG_getI rfl (by exact rfl) (by exact rfl) ?_ | refine xG_getR rfl (by exact rfl) (by exact rfl) ?_ | refine xG_add rfl ?_ | refine xG_sub rfl ?_ | refine xG_mul rfl ?_ | refine xG_putI rfl (by exact rfl) (by exact rfl) ?_ | refine xG_go (fun _ => rfl) ?_)
      exact f1
  by_cases q : 0 < marg (M 6) (dv M 29) nm
  · rw [if_pos q]
    refine xe1 rfl ?_
    iterate 2 (first | refine xG_getI rfl (by exact rfl) (by exact rfl) ?_ | refine xG_getR rfl (by exact rfl) (by exact rfl) ?_ | refine xG_add rfl ?_ | refine xG_sub rfl ?_ | refine xG_mul rfl ?_ | refine xG_putI rfl (by exact rfl) (by exact rfl) ?_ | refine xG_go (fun _ => rfl) ?_)
    exact xG_ret (fun _ => rfl) ⟨by rw [b01_t q], cr, rest⟩
  · rw [if_neg q]
    refine xe0 rfl ?_
    iterate 1 (first | refine xG_getI rfl (by exact rfl) (by exact rfl) ?_ | refine xG_getR rfl (by exact rfl) (by exact rfl) ?_ | refine xG_add rfl ?_ | refine xG_sub rfl ?_ | refine xG_mul rfl ?_ | refine xG_putI rfl (by exact rfl) (by exact rfl) ?_ | refine xG_go (fun _ => rfl) ?_)
    exact xG_ret (fun _ => rfl) ⟨by rw [b01_f q], cr, rest⟩
end YI
