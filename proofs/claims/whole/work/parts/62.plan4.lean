/-! THE CALLS: plan -/
section ZC
variable {sc : Nat × (Nat → Int)} {d c : Nat} {M : mv_M}
theorem l_pli {nm j m : Nat} {st k : Int} {Y : Option (Nat × Nat)} (hk : mok M) (en : M 143 2 = nm) (hj : j ≤ 3) (hkk : -1 ≤ k ∧ k ≤ 2) (hg : dR st (M 143 6) (M 147) (M 147))
    (kk : ∀ N x3, (∀ a, a ≠ 158 → a ≠ 159 → N a = M a) → Y = frst (fun many => (srch nm (M 143 1) (M 143 6) (M 144) (M 145) (mlk M) many (M 147)).map (fun n => (many, n))) m (j + 1) → xG sc (d + 4) y_Mod_plan 89 [some (mR 143), some (mI k), some (mI j), x3] [] N (fun r N' => (∀ a, a ≠ 158 → a ≠ 159 → N' a = M a) ∧ r = some (mI (ansP k Y)))) :
    ∀ (q i : Nat) (N : mv_M), i + q = 12 ^ j → (∀ a, a ≠ 158 → a ≠ 159 → N a = M a) → (Y = match frst (fun n => if chk nm (M 143 1) (M 143 6) (M 144) (M 145) (mlk M) j n (M 147) = true then some n else none) q i with
      | some n => some (j, n)
      | none => frst (fun many => (srch nm (M 143 1) (M 143 6) (M 144) (M 145) (mlk M) many (M 147)).map (fun n => (many, n))) m (j + 1)) → xG sc (d + 4) y_Mod_plan 20 [some (mR 143), some (mI k), some (mI j), some (mI i)] [] N (fun r N' => (∀ a, a ≠ 158 → a ≠ 159 → N' a = M a) ∧ r = some (mI (ansP k Y))) := by
  have p12 := pw12 hj
  intro q
  induction q with
  | zero =>
    intro i N hi hN hY
    iterate 2 (first | refine xG_getI rfl (by exact rfl) (by exact rfl) ?_ | refine xG_getR rfl (by exact rfl) (by exact rfl) ?_ | refine xG_add rfl ?_ | refine xG_sub rfl ?_ | refine xG_mul rfl ?_ | refine xG_putI rfl (by exact rfl) (by exact rfl) ?_ | refine xG_go (fun _ => rfl) ?_)
    refine xS1 rfl (by decide) (by simp) (m_twelves (show j ≤ 6 by omega)) (fun r M' hq => ?_)
    obtain ⟨rfl, rfl⟩ := hq
    rw [← p12.2.2]
    refine xb_ge rfl (by omega) (by omega) (fun _ => ?_) (fun c1 => absurd c1 (by omega))
    exact kk N _ hN hY
  | succ q iq =>
    intro i N hi hN hY
    iterate 2 (first | refine xG_getI rfl (by exact rfl) (by exact rfl) ?_ | refine xG_getR rfl (by exact rfl) (by exact rfl) ?_ | refine xG_add rfl ?_ | refine xG_sub rfl ?_ | refine xG_mul rfl ?_ | refine xG_putI rfl (by exact rfl) (by exact rfl) ?_ | refine xG_go (fun _ => rfl) ?_)
    refine xS1 rfl (by decide) (by simp) (m_twelves (show j ≤ 6 by omega)) (fun r M' hq => ?_)
    obtain ⟨rfl, rfl⟩ := hq
    rw [← p12.2.2]
    refine xb_ge rfl (by omega) (by omega) (fun c1 => absurd c1 (by omega)) (fun _ => ?_)
    iterate 3 (first | refine xG_getI rfl (by exact rfl) (by exact rfl) ?_ | refine xG_getR rfl (by exact rfl) (by exact rfl) ?_ | refine xG_add rfl ?_ | refine xG_sub rfl ?_ | refine xG_mul rfl ?_ | refine xG_putI rfl (by exact rfl) (by exact rfl) ?_ | refine xG_go (fun _ => rfl) ?_)
    refine xV3 rfl (by exact rfl) (by simp) (m_isRow (d := d + 1) (st := st) (n := i) (many := j) hk en hj (by omega) hg hN) (fun r N1 hq => ?_)
    obtain ⟨f1, f2, f3⟩ := hq
    rcases f3 with ⟨rfl, f4⟩ | ⟨rfl, f4, f5⟩
    · refine xe0 rfl ?_
      rw [frst_n (by rw [f4]; rfl)] at hY
      iterate 2 (first | refine xG_getI rfl (by exact rfl) (by exact rfl) ?_ | refine xG_getR rfl (by exact rfl) (by exact rfl) ?_ | refine xG_add rfl ?_ | refine xG_sub rfl ?_ | refine xG_mul rfl ?_ | refine xG_putI rfl (by exact rfl) (by exact rfl) ?_ | refine xG_go (fun _ => rfl) ?_)
      exact iq (i + 1) N1 (by omega) f1 hY
    · refine xe1 rfl ?_
      iterate 1 (first | refine xG_getI rfl (by exact rfl) (by exact rfl) ?_ | refine xG_getR rfl (by exact rfl) (by exact rfl) ?_ | refine xG_add rfl ?_ | refine xG_sub rfl ?_ | refine xG_mul rfl ?_ | refine xG_putI rfl (by exact rfl) (by exact rfl) ?_ | refine xG_go (fun _ => rfl) ?_)
      have kN : mok N1 := by
        unfold mok
        rw [f1 143 (by decide) (by decide), f1 144 (by decide) (by decide), f1 145 (by decide) (by decide), f1 146 (by decide) (by decide)]
        exact hk
      refine xV1 rfl (by exact rfl) (by simp) (m_carries kN f4 (nm := nm) (by rw [f1 143 (by decide) (by decide), en])) (fun r M' hq => ?_)
      obtain ⟨rfl, rfl⟩ := hq
      rw [f1 145 (by decide) (by decide)]
      by_cases w : 0 < marg (M 145) (N1 158) nm
      · rw [b01_t w]
        rw [decide_eq_true w] at f5
        rw [frst_s (r := i) (by rw [if_pos f5])] at hY
        have eY : Y = some (j, i) := hY
        refine xe1 rfl ?_
        rw [eY]
        simp only [ansP]
        iterate 1 (first | refine xG_getI rfl (by exact rfl) (by exact rfl) ?_ | refine xG_getR rfl (by exact rfl) (by exact rfl) ?_ | refine xG_add rfl ?_ | refine xG_sub rfl ?_ | refine xG_mul rfl ?_ | refine xG_putI rfl (by exact rfl) (by exact rfl) ?_ | refine xG_go (fun _ => rfl) ?_)
        refine xi_ge rfl (by omega) (fun c1 => ?_) (fun c1 => ?_)
        · rw [if_neg (by omega)]
          iterate 2 (first | refine xG_getI rfl (by exact rfl) (by exact rfl) ?_ | refine xG_getR rfl (by exact rfl) (by exact rfl) ?_ | refine xG_add rfl ?_ | refine xG_sub rfl ?_ | refine xG_mul rfl ?_ | refine xG_putI rfl (by exact rfl) (by exact rfl) ?_ | refine xG_go (fun _ => rfl) ?_)
          refine xb_ge rfl (by omega) (by omega) (fun c2 => ?_) (fun c2 => ?_)
          · rw [if_neg (by omega)]
            iterate 1 (first | refine xG_getI rfl (by exact rfl) (by exact rfl) ?_ | refine xG_getR rfl (by exact rfl) (by exact rfl) ?_ | refine xG_add rfl ?_ | refine xG_sub rfl ?_ | refine xG_mul rfl ?_ | refine xG_putI rfl (by exact rfl) (by exact rfl) ?_ | refine xG_go (fun _ => rfl) ?_)
            exact xG_ret (fun _ => rfl) ⟨f1, rfl⟩
          · rw [if_pos (by omega)]
            have e1 := f2 k.toNat (by omega)
            have dl := Nat.mod_lt (i / 12 ^ (j - 1 - k.toNat)) (show 12 > 0 by decide)
            generalize i / 12 ^ (j - 1 - k.toNat) % 12 = u at e1 dl
            iterate 4 (first | refine xG_getI rfl (by exact rfl) (by exact rfl) ?_ | refine xG_getR rfl (by exact rfl) (by exact rfl) ?_ | refine xG_add rfl ?_ | refine xG_sub rfl ?_ | refine xG_mul rfl ?_ | refine xG_putI rfl (by exact rfl) (by exact rfl) ?_ | refine xG_go (fun _ => rfl) ?_)
            refine xG_ald rfl (by exact rfl) (by omega) ?_
            rw [e1]
            iterate 1 (first | refine xG_getI rfl (by exact rfl) (by exact rfl) ?_ | refine xG_getR rfl (by exact rfl) (by exact rfl) ?_ | refine xG_add rfl ?_ | refine xG_sub rfl ?_ | refine xG_mul rfl ?_ | refine xG_putI rfl (by exact rfl) (by exact rfl) ?_ | refine xG_go (fun _ => rfl) ?_)
            refine xG_div rfl (by omega) ?_
            iterate 4 (first | refine xG_getI rfl (by exact rfl) (by exact rfl) ?_ | refine xG_getR rfl (by exact rfl) (by exact rfl) ?_ | refine xG_add rfl ?_ | refine xG_sub rfl ?_ | refine xG_mul rfl ?_ | refine xG_putI rfl (by exact rfl) (by exact rfl) ?_ | refine xG_go (fun _ => rfl) ?_)
            refine xG_ald rfl (by exact rfl) (by omega) ?_
            rw [e1]
            iterate 1 (first | refine xG_getI rfl (by exact rfl) (by exact rfl) ?_ | refine xG_getR rfl (by exact rfl) (by exact rfl) ?_ | refine xG_add rfl ?_ | refine xG_sub rfl ?_ | refine xG_mul rfl ?_ | refine xG_putI rfl (by exact rfl) (by exact rfl) ?_ | refine xG_go (fun _ => rfl) ?_)
            refine xG_rem rfl (by omega) ?_
            iterate 2 (first | refine xG_getI rfl (by exact rfl) (by exact rfl) ?_ | refine xG_getR rfl (by exact rfl) (by exact rfl) ?_ | refine xG_add rfl ?_ | refine xG_sub rfl ?_ | refine xG_mul rfl ?_ | refine xG_putI rfl (by exact rfl) (by exact rfl) ?_ | refine xG_go (fun _ => rfl) ?_)
            refine xG_ret (fun _ => rfl) ⟨f1, ?_⟩
            unfold enc
            rw [show (u : Int) % 4 = ((u % 4 : Nat) : Int) by omega, show (u : Int) / 4 = ((u / 4 : Nat) : Int) by omega]
        · rw [if_pos (by omega)]
          iterate 2 (first | refine xG_getI rfl (by exact rfl) (by exact rfl) ?_ | refine xG_getR rfl (by exact rfl) (by exact rfl) ?_ | refine xG_add rfl ?_ | refine xG_sub rfl ?_ | refine xG_mul rfl ?_ | refine xG_putI rfl (by exact rfl) (by exact rfl) ?_ | refine xG_go (fun _ => rfl) ?_)
          exact xG_ret (fun _ => rfl) ⟨f1, rfl⟩
      · rw [b01_f w]
        rw [decide_eq_false w] at f5
        refine xe0 rfl ?_
        rw [frst_n (by rw [f5]; rfl)] at hY
        iterate 2 (first | refine xG_getI rfl (by exact rfl) (by exact rfl) ?_ | refine xG_getR rfl (by exact rfl) (by exact rfl) ?_ | refine xG_add rfl ?_ | refine xG_sub rfl ?_ | refine xG_mul rfl ?_ | refine xG_putI rfl (by exact rfl) (by exact rfl) ?_ | refine xG_go (fun _ => rfl) ?_)
        exact iq (i + 1) N1 (by omega) f1 hY
theorem l_plo {nm : Nat} {st k : Int} {Y : Option (Nat × Nat)} (hk : mok M) (en : M 143 2 = nm) (hkk : -1 ≤ k ∧ k ≤ 2) (hg : dR st (M 143 6) (M 147) (M 147)) :
    ∀ (m j : Nat) (N : mv_M) (x3 : Option mv_V), j + m = 4 → (∀ a, a ≠ 158 → a ≠ 159 → N a = M a) → Y = frst (fun many => (srch nm (M 143 1) (M 143 6) (M 144) (M 145) (mlk M) many (M 147)).map (fun n => (many, n))) m j → xG sc (d + 4) y_Mod_plan 13 [some (mR 143), some (mI k), some (mI j), x3] [] N (fun r N' => (∀ a, a ≠ 158 → a ≠ 159 → N' a = M a) ∧ r = some (mI (ansP k Y))) := by
  intro m
  induction m with
  | zero =>
    intro j N x3 hj hN hY
    iterate 2 (first | refine xG_getI rfl (by exact rfl) (by exact rfl) ?_ | refine xG_getR rfl (by exact rfl) (by exact rfl) ?_ | refine xG_add rfl ?_ | refine xG_sub rfl ?_ | refine xG_mul rfl ?_ | refine xG_putI rfl (by exact rfl) (by exact rfl) ?_ | refine xG_go (fun _ => rfl) ?_)
    refine xb_gt rfl (by omega) (by omega) (fun _ => ?_) (fun c1 => absurd c1 (by omega))
    iterate 1 (first | refine xG_getI rfl (by exact rfl) (by exact rfl) ?_ | refine xG_getR rfl (by exact rfl) (by exact rfl) ?_ | refine xG_add rfl ?_ | refine xG_sub rfl ?_ | refine xG_mul rfl ?_ | refine xG_putI rfl (by exact rfl) (by exact rfl) ?_ | refine xG_go (fun _ => rfl) ?_)
    exact xG_ret (fun _ => rfl) ⟨hN, by rw [hY]; rfl⟩
  | succ m im =>
    intro j N x3 hj hN hY
    iterate 2 (first | refine xG_getI rfl (by exact rfl) (by exact rfl) ?_ | refine xG_getR rfl (by exact rfl) (by exact rfl) ?_ | refine xG_add rfl ?_ | refine xG_sub rfl ?_ | refine xG_mul rfl ?_ | refine xG_putI rfl (by exact rfl) (by exact rfl) ?_ | refine xG_go (fun _ => rfl) ?_)
    refine xb_gt rfl (by omega) (by omega) (fun c1 => absurd c1 (by omega)) (fun _ => ?_)
    iterate 2 (first | refine xG_getI rfl (by exact rfl) (by exact rfl) ?_ | refine xG_getR rfl (by exact rfl) (by exact rfl) ?_ | refine xG_add rfl ?_ | refine xG_sub rfl ?_ | refine xG_mul rfl ?_ | refine xG_putI rfl (by exact rfl) (by exact rfl) ?_ | refine xG_go (fun _ => rfl) ?_)
    refine l_pli (m := m) (st := st) hk en (by omega) hkk hg (fun N x3 g1 g2 => ?_) (12 ^ j) 0 N (by omega) hN ?_
    · iterate 2 (first | refine xG_getI rfl (by exact rfl) (by exact rfl) ?_ | refine xG_getR rfl (by exact rfl) (by exact rfl) ?_ | refine xG_add rfl ?_ | refine xG_sub rfl ?_ | refine xG_mul rfl ?_ | refine xG_putI rfl (by exact rfl) (by exact rfl) ?_ | refine xG_go (fun _ => rfl) ?_)
      exact im (j + 1) N x3 (by omega) g1 g2
    · rw [hY]
      show frst _ (m + 1) j = match srch nm (M 143 1) (M 143 6) (M 144) (M 145) (mlk M) j (M 147) with
        | some n => some (j, n)
        | none => frst (fun many => (srch nm (M 143 1) (M 143 6) (M 144) (M 145) (mlk M) many (M 147)).map (fun n => (many, n))) m (j + 1)
      cases hs : srch nm (M 143 1) (M 143 6) (M 144) (M 145) (mlk M) j (M 147) with
      | some n => rw [frst_s (r := (j, n)) (by rw [hs]; rfl)]
      | none => rw [frst_n (by rw [hs]; rfl)]
theorem ansP_in {nm : Nat} {tu no k : Int} {home coat : Nat → Int} {like : Nat → Nat → Int} {g : Nat → Int} : mv_in (ansP k (plan1 nm tu no home coat like g)) := by
  have key : ∀ (m j : Nat), j + m = 4 → ∀ a b, frst (fun many => (srch nm tu no home coat like many g).map (fun n => (many, n))) m j = some (a, b) → a ≤ 4 := by
    intro m
    induction m with
    | zero => intro j _ a b h; cases h
    | succ m im =>
      intro j hj a b h
      cases hs : srch nm tu no home coat like j g with
      | some n =>
        rw [frst_s (r := (j, n)) (by rw [hs]; rfl)] at h
        cases h
        omega
      | none =>
        rw [frst_n (by rw [hs]; rfl)] at h
        exact im (j + 1) (by omega) a b h
  cases hs : plan1 nm tu no home coat like g with
  | none => show mv_in (-9); decide
  | some p =>
    obtain ⟨a, b⟩ := p
    have := key 4 0 (by omega) a b hs
    simp only [ansP]
    have dl := Nat.mod_lt (b / 12 ^ (a - 1 - k.toNat)) (show 12 > 0 by decide)
    have := enc_in _ dl
    split
    · omega
    · split <;> omega
theorem b_plan {k : Int} (hx : mv_in k) (h : R c M) : both sc 30 n_MV_plan n_Mod_plan [mI k] M c := by
  have hl := h.1.1
  have hr := h.1.2.2.2.2.2.2
  obtain ⟨_, hk, e0, e1, e2, e3, _⟩ := h.1
  have hd := h.2.1
  have h1 := hl.2.1
  have h3 := hl.2.2.2.1
  obtain ⟨nm, n6, en, en2⟩ := R_nm h
  by_cases p : -1 ≤ k ∧ k ≤ 2
  · refine xC_mono (c_plan (d := 20) p hl en (dR_left hd)) (fun r1 M1 hq => ?_)
    obtain ⟨f1, rfl⟩ := hq
    have e143 : M1 143 = M 143 := f1 143 (by decide)
    have e147 : M1 147 = M 147 := f1 147 (by decide)
    have sS : Sc M M1 := Sc_all (fun a h1 h2 h3 => f1 a (by omega))
    have hk1 : mok M1 := Sl_mok (Sc_Sl sS) hk
    have k2 : xC sc 30 n_Mod_plan [mR 143, mI k] M1 (fun r N' => (∀ a, a ≠ 158 → a ≠ 159 → N' a = M1 a) ∧ r = some (mI (ansP k (plan1 nm (M1 143 1) (M1 143 6) (M1 144) (M1 145) (mlk M1) (M1 147))))) := by
      refine xC_in rfl rfl (by simp; decide) ?_
      iterate 3 (first | refine xG_getI rfl (by exact rfl) (by exact rfl) ?_ | refine xG_getR rfl (by exact rfl) (by exact rfl) ?_ | refine xG_add rfl ?_ | refine xG_sub rfl ?_ | refine xG_mul rfl ?_ | refine xG_putI rfl (by exact rfl) (by exact rfl) ?_ | refine xG_go (fun _ => rfl) ?_)
      refine xS3 rfl (by decide) (by simp) (m_in hx (by decide) (by decide)) (fun r M' hq => ?_)
      obtain ⟨rfl, rfl⟩ := hq
      rw [b01_t p]
      refine xn1 rfl ?_
      iterate 2 (first | refine xG_getI rfl (by exact rfl) (by exact rfl) ?_ | refine xG_getR rfl (by exact rfl) (by exact rfl) ?_ | refine xG_add rfl ?_ | refine xG_sub rfl ?_ | refine xG_mul rfl ?_ | refine xG_putI rfl (by exact rfl) (by exact rfl) ?_ | refine xG_go (fun _ => rfl) ?_)
      exact l_plo (d := 25) (st := M 4 0) hk1 (by rw [e143, en2]) p (by rw [e143, e147, e3]; exact dR_right hd) 4 0 M1 _ (by omega) (fun _ _ _ => rfl) rfl
    refine xC_mono k2 (fun r2 M2 hq => ?_)
    obtain ⟨f2, rfl⟩ := hq
    refine ⟨⟨_, ansP_in, rfl, ?_⟩, Sc_R (Sc_trans sS (Sc_all (fun a h1 h2 h3 => f2 a (by omega) (by omega)))) h⟩
    have ep : plan1 nm (M1 143 1) (M1 143 6) (M1 144) (M1 145) (mlk M1) (M1 147) = plan1 nm (M 4 1) (M 4 3) (M 5) (M 6) (lk M) (dv M 29) := by
      rw [e143, e147, f1 144 (by decide), f1 145 (by decide), show mlk M1 = mlk M by unfold mlk; rw [f1 146 (by decide)], e1, e3]
      unfold plan1
      refine frst_cong 4 0 (fun j _ _ => ?_)
      rw [srch_dR (st := M 4 0) (home := M 5) (coat := M 6) (like := lk M) (home' := M 144) (coat' := M 145) (like' := mlk M) n6 h1 h3.2 (fun m hm => (hr m (by omega)).1) (fun m hm => (hr m (by omega)).2.1) (fun m t hm ht => (hr m (by omega)).2.2 t ht) (k := j) hd]
    rw [ep]
  · refine both_of (z := -1) (by decide) h ?_ ?_
    · refine xC_in rfl rfl (by simp; decide) ?_
      iterate 2 (first | refine xG_getI rfl (by exact rfl) (by exact rfl) ?_ | refine xG_getR rfl (by exact rfl) (by exact rfl) ?_ | refine xG_add rfl ?_ | refine xG_sub rfl ?_ | refine xG_mul rfl ?_ | refine xG_putI rfl (by exact rfl) (by exact rfl) ?_ | refine xG_go (fun _ => rfl) ?_)
      refine xb_lt rfl hx (by decide) (fun c1 => ?_) (fun c1 => ?_)
      · iterate 1 (first | refine xG_getI rfl (by exact rfl) (by exact rfl) ?_ | refine xG_getR rfl (by exact rfl) (by exact rfl) ?_ | refine xG_add rfl ?_ | refine xG_sub rfl ?_ | refine xG_mul rfl ?_ | refine xG_putI rfl (by exact rfl) (by exact rfl) ?_ | refine xG_go (fun _ => rfl) ?_)
        exact xG_ret (fun _ => rfl) ⟨rfl, rfl⟩
      iterate 2 (first | refine xG_getI rfl (by exact rfl) (by exact rfl) ?_ | refine xG_getR rfl (by exact rfl) (by exact rfl) ?_ | refine xG_add rfl ?_ | refine xG_sub rfl ?_ | refine xG_mul rfl ?_ | refine xG_putI rfl (by exact rfl) (by exact rfl) ?_ | refine xG_go (fun _ => rfl) ?_)
      refine xb_lt rfl hx (by decide) (fun c2 => absurd c2 (by omega)) (fun _ => ?_)
      iterate 1 (first | refine xG_getI rfl (by exact rfl) (by exact rfl) ?_ | refine xG_getR rfl (by exact rfl) (by exact rfl) ?_ | refine xG_add rfl ?_ | refine xG_sub rfl ?_ | refine xG_mul rfl ?_ | refine xG_putI rfl (by exact rfl) (by exact rfl) ?_ | refine xG_go (fun _ => rfl) ?_)
      exact xG_ret (fun _ => rfl) ⟨rfl, rfl⟩
    · refine xC_in rfl rfl (by simp; decide) ?_
      iterate 3 (first | refine xG_getI rfl (by exact rfl) (by exact rfl) ?_ | refine xG_getR rfl (by exact rfl) (by exact rfl) ?_ | refine xG_add rfl ?_ | refine xG_sub rfl ?_ | refine xG_mul rfl ?_ | refine xG_putI rfl (by exact rfl) (by exact rfl) ?_ | refine xG_go (fun _ => rfl) ?_)
      refine xS3 rfl (by decide) (by simp) (m_in hx (by decide) (by decide)) (fun r M' hq => ?_)
      obtain ⟨rfl, rfl⟩ := hq
      rw [b01_f p]
      refine xn0 rfl ?_
      iterate 1 (first | refine xG_getI rfl (by exact rfl) (by exact rfl) ?_ | refine xG_getR rfl (by exact rfl) (by exact rfl) ?_ | refine xG_add rfl ?_ | refine xG_sub rfl ?_ | refine xG_mul rfl ?_ | refine xG_putI rfl (by exact rfl) (by exact rfl) ?_ | refine xG_go (fun _ => rfl) ?_)
      exact xG_ret (fun _ => rfl) ⟨Sc_refl, rfl⟩
end ZC
