/-! THE PLAN: the class's call, the reference's rows -/
section ZB
variable {sc : Nat × (Nat → Int)} {d c : Nat} {M : mv_M}
def ansF : Option (Nat × Nat) → Int
  | none => -9
  | some (m, _) => m
def ansP (k : Int) : Option (Nat × Nat) → Int
  | none => -9
  | some (m, n) => if k < 0 then m else if k < m then enc (n / 12 ^ (m - 1 - k.toNat) % 12) else -9
theorem l_few {nm : Nat} {N : mv_M} {Y : Option (Nat × Nat)} (hl : lok M) (en : M 4 2 = nm) (hN : ∀ a, a < 16 → N a = M a) (hg : dR (M 4 0) (M 4 3) (dv N 89) (dv N 89)) :
    ∀ (m j : Nat) (N' : mv_M), j + m = 4 → cbF N N' 0 → Y = frst (fun many => (srch nm (M 4 1) (M 4 3) (M 5) (M 6) (lk M) many (dv N 89)).map (fun n => (many, n))) m j → xG sc (d + 8) y_Planner_fewestTunes 12 [some (mR 86), some (mR 29), some (mI j)] [] N' (fun r N'' => cbF N N'' 0 ∧ r = some (mI (ansF Y)) ∧ ∀ many n, Y = some (many, n) → many ≤ 3 ∧ ∀ i, i < many → N'' 88 i = enc (n / 12 ^ (many - 1 - i) % 12)) := by
  intro m
  induction m with
  | zero =>
    intro j N' hk hN' hY
    iterate 2 (first | refine xG_getI rfl (by exact rfl) (by exact rfl) ?_ | refine xG_getR rfl (by exact rfl) (by exact rfl) ?_ | refine xG_add rfl ?_ | refine xG_sub rfl ?_ | refine xG_mul rfl ?_ | refine xG_putI rfl (by exact rfl) (by exact rfl) ?_ | refine xG_go (fun _ => rfl) ?_)
    refine xb_gt rfl (by omega) (by omega) (fun _ => ?_) (fun c1 => absurd c1 (by omega))
    iterate 1 (first | refine xG_getI rfl (by exact rfl) (by exact rfl) ?_ | refine xG_getR rfl (by exact rfl) (by exact rfl) ?_ | refine xG_add rfl ?_ | refine xG_sub rfl ?_ | refine xG_mul rfl ?_ | refine xG_putI rfl (by exact rfl) (by exact rfl) ?_ | refine xG_go (fun _ => rfl) ?_)
    refine xG_ret (fun _ => rfl) ⟨hN', by rw [hY]; rfl, fun many n hn => ?_⟩
    rw [hY] at hn
    cases hn
  | succ m im =>
    intro j N' hk hN' hY
    have e16 : ∀ a, a < 16 → N' a = M a := fun a ha => by rw [hN'.1 a (by omega), hN a ha]
    have eD : dv N' (89 + 5 * 0) = dv N 89 := dv_same (fun a _ _ => hN'.2.1 a (by omega) (by omega))
    have kc := c_cb (sc := sc) (d := d + 4 - j) hl en j 0 (j : Int) N' (by omega) (by omega) e16 (by rw [eD]; exact hg)
    rw [show d + 4 - j + 4 + j = d + 8 by omega, eD] at kc
    iterate 2 (first | refine xG_getI rfl (by exact rfl) (by exact rfl) ?_ | refine xG_getR rfl (by exact rfl) (by exact rfl) ?_ | refine xG_add rfl ?_ | refine xG_sub rfl ?_ | refine xG_mul rfl ?_ | refine xG_putI rfl (by exact rfl) (by exact rfl) ?_ | refine xG_go (fun _ => rfl) ?_)
    refine xb_gt rfl (by omega) (by omega) (fun c1 => absurd c1 (by omega)) (fun _ => ?_)
    iterate 3 (first | refine xG_getI rfl (by exact rfl) (by exact rfl) ?_ | refine xG_getR rfl (by exact rfl) (by exact rfl) ?_ | refine xG_add rfl ?_ | refine xG_sub rfl ?_ | refine xG_mul rfl ?_ | refine xG_putI rfl (by exact rfl) (by exact rfl) ?_ | refine xG_go (fun _ => rfl) ?_)
    refine xV3 rfl (by exact rfl) (by simp) kc (fun r N1 hq => ?_)
    obtain ⟨⟨f1, f2, f3⟩, rfl, f4⟩ := hq
    have fr : cbF N N1 0 := ⟨fun a ha => by rw [f1 a ha, hN'.1 a ha], fun a ha hb => by rw [f2 a ha hb, hN'.2.1 a ha hb], fun i hi => absurd hi (by omega)⟩
    cases hs : srch nm (M 4 1) (M 4 3) (M 5) (M 6) (lk M) j (dv N 89) with
    | none =>
      rw [frst_n (by rw [hs]; rfl)] at hY
      rw [b01_f (by simp)]
      refine xe0 rfl ?_
      iterate 2 (first | refine xG_getI rfl (by exact rfl) (by exact rfl) ?_ | refine xG_getR rfl (by exact rfl) (by exact rfl) ?_ | refine xG_add rfl ?_ | refine xG_sub rfl ?_ | refine xG_mul rfl ?_ | refine xG_putI rfl (by exact rfl) (by exact rfl) ?_ | refine xG_go (fun _ => rfl) ?_)
      exact im (j + 1) N1 (by omega) fr hY
    | some n =>
      rw [frst_s (r := (j, n)) (by rw [hs]; rfl)] at hY
      rw [hs] at f4
      rw [b01_t (by simp)]
      refine xe1 rfl ?_
      iterate 1 (first | refine xG_getI rfl (by exact rfl) (by exact rfl) ?_ | refine xG_getR rfl (by exact rfl) (by exact rfl) ?_ | refine xG_add rfl ?_ | refine xG_sub rfl ?_ | refine xG_mul rfl ?_ | refine xG_putI rfl (by exact rfl) (by exact rfl) ?_ | refine xG_go (fun _ => rfl) ?_)
      refine xG_ret (fun _ => rfl) ⟨fr, by rw [hY]; rfl, fun many n' hn => ?_⟩
      rw [hY] at hn
      cases hn
      refine ⟨by omega, fun i hi => ?_⟩
      have := f4 n rfl i hi
      rw [Nat.zero_add] at this
      exact this
theorem c_fewestTunes {nm : Nat} (hl : lok M) (en : M 4 2 = nm) (hg : dR (M 4 0) (M 4 3) (dv M 29) (dv M 29)) : xC sc (d + 9) n_Planner_fewestTunes [mR 86, mR 29] M (fun r N => (∀ a, (a < 88 ∨ 109 ≤ a) → N a = M a) ∧ r = some (mI (ansF (plan1 nm (M 4 1) (M 4 3) (M 5) (M 6) (lk M) (dv M 29)))) ∧ ∀ many n, plan1 nm (M 4 1) (M 4 3) (M 5) (M 6) (lk M) (dv M 29) = some (many, n) → many ≤ 3 ∧ ∀ i, i < many → N 88 i = enc (n / 12 ^ (many - 1 - i) % 12)) := by
  have h1 := hl.2.1
  have h2 := hl.2.2.1
  have h3 := hl.2.2.2.1
  have i89 : isDay 89 := isDay_step 0 (by decide)
  refine xC_in rfl rfl (by simp; decide) ?_
  iterate 3 (first | refine xG_getI rfl (by exact rfl) (by exact rfl) ?_ | refine xG_getR rfl (by exact rfl) (by exact rfl) ?_ | refine xG_add rfl ?_ | refine xG_sub rfl ?_ | refine xG_mul rfl ?_ | refine xG_putI rfl (by exact rfl) (by exact rfl) ?_ | refine xG_go (fun _ => rfl) ?_)
  refine xG_aald rfl (by exact rfl) (Or.inl rfl) (by decide) (by exact rfl) ?_
  iterate 1 (first | refine xG_getI rfl (by exact rfl) (by exact rfl) ?_ | refine xG_getR rfl (by exact rfl) (by exact rfl) ?_ | refine xG_add rfl ?_ | refine xG_sub rfl ?_ | refine xG_mul rfl ?_ | refine xG_putI rfl (by exact rfl) (by exact rfl) ?_ | refine xG_go (fun _ => rfl) ?_)
  refine xV2 rfl (by exact rfl) (by simp) (c_becomes i89 isDay_today (by decide)) (fun r N hq => ?_)
  obtain ⟨rfl, q1, q2⟩ := hq
  have g1 : dR (M 4 0) (M 4 3) (dv M 29) (dv N 89) := dR_cong h3.2 (fun _ _ => rfl) q1 hg
  have ep : plan1 nm (M 4 1) (M 4 3) (M 5) (M 6) (lk M) (dv M 29) = plan1 nm (M 4 1) (M 4 3) (M 5) (M 6) (lk M) (dv N 89) := by
    unfold plan1
    refine frst_cong 4 0 (fun k _ _ => ?_)
    rw [srch_dR (show nm ≤ 6 by omega) h1 h3.2 (fun _ _ => rfl) (fun _ _ => rfl) (fun _ _ _ _ => rfl) g1]
  iterate 2 (first | refine xG_getI rfl (by exact rfl) (by exact rfl) ?_ | refine xG_getR rfl (by exact rfl) (by exact rfl) ?_ | refine xG_add rfl ?_ | refine xG_sub rfl ?_ | refine xG_mul rfl ?_ | refine xG_putI rfl (by exact rfl) (by exact rfl) ?_ | refine xG_go (fun _ => rfl) ?_)
  rw [ep]
  refine xG_mono (l_few (d := d) (Y := plan1 nm (M 4 1) (M 4 3) (M 5) (M 6) (lk M) (dv N 89)) hl en (fun a ha => q2 a (by omega)) (dR_right g1) 4 0 N (by omega) cbF_refl rfl) (fun r N' hq => ?_)
  exact ⟨fun a ha => by rw [hq.1.1 a ha, q2 a (by omega)], hq.2⟩
theorem enc_in (q : Nat) (hq : q < 12) : 0 ≤ enc q ∧ enc q ≤ 23 := by
  unfold enc
  omega
theorem c_plan {nm : Nat} {k : Int} (hk : -1 ≤ k ∧ k ≤ 2) (hl : lok M) (en : M 4 2 = nm) (hg : dR (M 4 0) (M 4 3) (dv M 29) (dv M 29)) : xC sc (d + 10) n_MV_plan [mR 0, mI k] M (fun r N => (∀ a, (a < 88 ∨ 109 ≤ a) → N a = M a) ∧ r = some (mI (ansP k (plan1 nm (M 4 1) (M 4 3) (M 5) (M 6) (lk M) (dv M 29))))) := by
  refine xC_in rfl rfl (by simp; decide) ?_
  iterate 2 (first | refine xG_getI rfl (by exact rfl) (by exact rfl) ?_ | refine xG_getR rfl (by exact rfl) (by exact rfl) ?_ | refine xG_add rfl ?_ | refine xG_sub rfl ?_ | refine xG_mul rfl ?_ | refine xG_putI rfl (by exact rfl) (by exact rfl) ?_ | refine xG_go (fun _ => rfl) ?_)
  refine xb_lt rfl (by omega) (by decide) (fun c1 => absurd c1 (by omega)) (fun _ => ?_)
  iterate 2 (first | refine xG_getI rfl (by exact rfl) (by exact rfl) ?_ | refine xG_getR rfl (by exact rfl) (by exact rfl) ?_ | refine xG_add rfl ?_ | refine xG_sub rfl ?_ | refine xG_mul rfl ?_ | refine xG_putI rfl (by exact rfl) (by exact rfl) ?_ | refine xG_go (fun _ => rfl) ?_)
  refine xb_lt rfl (by omega) (by decide) (fun _ => ?_) (fun c1 => absurd c1 (by omega))
  iterate 4 (first | refine xG_getI rfl (by exact rfl) (by exact rfl) ?_ | refine xG_getR rfl (by exact rfl) (by exact rfl) ?_ | refine xG_add rfl ?_ | refine xG_sub rfl ?_ | refine xG_mul rfl ?_ | refine xG_putI rfl (by exact rfl) (by exact rfl) ?_ | refine xG_go (fun _ => rfl) ?_)
  refine xV2 rfl (by exact rfl) (by simp) (c_fewestTunes hl en hg) (fun r N hq => ?_)
  obtain ⟨f1, rfl, f2⟩ := hq
  iterate 2 (first | refine xG_getI rfl (by exact rfl) (by exact rfl) ?_ | refine xG_getR rfl (by exact rfl) (by exact rfl) ?_ | refine xG_add rfl ?_ | refine xG_sub rfl ?_ | refine xG_mul rfl ?_ | refine xG_putI rfl (by exact rfl) (by exact rfl) ?_ | refine xG_go (fun _ => rfl) ?_)
  cases hs : plan1 nm (M 4 1) (M 4 3) (M 5) (M 6) (lk M) (dv M 29) with
  | none =>
    refine xi_ge rfl (by omega) (fun c1 => ?_) (fun c1 => ?_)
    · iterate 2 (first | refine xG_getI rfl (by exact rfl) (by exact rfl) ?_ | refine xG_getR rfl (by exact rfl) (by exact rfl) ?_ | refine xG_add rfl ?_ | refine xG_sub rfl ?_ | refine xG_mul rfl ?_ | refine xG_putI rfl (by exact rfl) (by exact rfl) ?_ | refine xG_go (fun _ => rfl) ?_)
      refine xb_ge rfl (by omega) (by decide) (fun _ => ?_) (fun c2 => absurd c2 (by show ¬ ¬ (-9 : Int) ≤ k; omega))
      iterate 1 (first | refine xG_getI rfl (by exact rfl) (by exact rfl) ?_ | refine xG_getR rfl (by exact rfl) (by exact rfl) ?_ | refine xG_add rfl ?_ | refine xG_sub rfl ?_ | refine xG_mul rfl ?_ | refine xG_putI rfl (by exact rfl) (by exact rfl) ?_ | refine xG_go (fun _ => rfl) ?_)
      exact xG_ret (fun _ => rfl) ⟨f1, rfl⟩
    · iterate 1 (first | refine xG_getI rfl (by exact rfl) (by exact rfl) ?_ | refine xG_getR rfl (by exact rfl) (by exact rfl) ?_ | refine xG_add rfl ?_ | refine xG_sub rfl ?_ | refine xG_mul rfl ?_ | refine xG_putI rfl (by exact rfl) (by exact rfl) ?_ | refine xG_go (fun _ => rfl) ?_)
      exact xG_ret (fun _ => rfl) ⟨f1, rfl⟩
  | some mn =>
    obtain ⟨many, n⟩ := mn
    obtain ⟨m3, f3⟩ := f2 many n hs
    simp only [ansF, ansP]
    refine xi_ge rfl (by omega) (fun c1 => ?_) (fun c1 => ?_)
    · rw [if_neg (by omega)]
      iterate 2 (first | refine xG_getI rfl (by exact rfl) (by exact rfl) ?_ | refine xG_getR rfl (by exact rfl) (by exact rfl) ?_ | refine xG_add rfl ?_ | refine xG_sub rfl ?_ | refine xG_mul rfl ?_ | refine xG_putI rfl (by exact rfl) (by exact rfl) ?_ | refine xG_go (fun _ => rfl) ?_)
      refine xb_ge rfl (by omega) (by omega) (fun c2 => ?_) (fun c2 => ?_)
      · rw [if_neg (by omega)]
        iterate 1 (first | refine xG_getI rfl (by exact rfl) (by exact rfl) ?_ | refine xG_getR rfl (by exact rfl) (by exact rfl) ?_ | refine xG_add rfl ?_ | refine xG_sub rfl ?_ | refine xG_mul rfl ?_ | refine xG_putI rfl (by exact rfl) (by exact rfl) ?_ | refine xG_go (fun _ => rfl) ?_)
        exact xG_ret (fun _ => rfl) ⟨f1, rfl⟩
      · rw [if_pos (by omega)]
        iterate 4 (first | refine xG_getI rfl (by exact rfl) (by exact rfl) ?_ | refine xG_getR rfl (by exact rfl) (by exact rfl) ?_ | refine xG_add rfl ?_ | refine xG_sub rfl ?_ | refine xG_mul rfl ?_ | refine xG_putI rfl (by exact rfl) (by exact rfl) ?_ | refine xG_go (fun _ => rfl) ?_)
        refine xG_ald rfl (by exact rfl) (by omega) ?_
        iterate 1 (first | refine xG_getI rfl (by exact rfl) (by exact rfl) ?_ | refine xG_getR rfl (by exact rfl) (by exact rfl) ?_ | refine xG_add rfl ?_ | refine xG_sub rfl ?_ | refine xG_mul rfl ?_ | refine xG_putI rfl (by exact rfl) (by exact rfl) ?_ | refine xG_go (fun _ => rfl) ?_)
        rw [f3 k.toNat (by omega)]
        exact xG_ret (fun _ => rfl) ⟨f1, rfl⟩
    · rw [if_pos (by omega)]
      iterate 1 (first | refine xG_getI rfl (by exact rfl) (by exact rfl) ?_ | refine xG_getR rfl (by exact rfl) (by exact rfl) ?_ | refine xG_add rfl ?_ | refine xG_sub rfl ?_ | refine xG_mul rfl ?_ | refine xG_putI rfl (by exact rfl) (by exact rfl) ?_ | refine xG_go (fun _ => rfl) ?_)
      exact xG_ret (fun _ => rfl) ⟨f1, rfl⟩
/-! the reference's rows -/
theorem pw12 {m : Nat} (h : m ≤ 3) : 1 ≤ 12 ^ m ∧ 12 ^ m ≤ 1728 ∧ ((12 ^ m : Nat) : Int) = (12 : Int) ^ m := by
  rcases (show m = 0 ∨ m = 1 ∨ m = 2 ∨ m = 3 by omega) with rfl | rfl | rfl | rfl <;> decide
theorem l_ir1 {n many : Nat} (hm : many ≤ 3) (hn : n ≤ 1728) {Q : Option mv_V → mv_M → Prop} (kk : ∀ N x3 x4, (∀ a, a ≠ 159 → N a = M a) → (∀ q, q < many → N 159 q = ((n / 12 ^ (many - 1 - q) % 12 : Nat) : Int)) → xG sc d y_Mod_isRow 34 [some (mR 143), some (mI n), some (mI many), x3, x4] [] N Q) : ∀ (m i : Nat) (N : mv_M), i + m = many → (∀ a, a ≠ 159 → N a = M a) → (∀ q, many ≤ q + i → q < many → N 159 q = ((n / 12 ^ (many - 1 - q) % 12 : Nat) : Int)) → xG sc d y_Mod_isRow 7 [some (mR 143), some (mI n), some (mI many), some (mI ((n / 12 ^ i : Nat) : Int)), some (mI ((many : Int) - 1 - i))] [] N Q := by
  intro m
  induction m with
  | zero =>
    intro i N hk h1 h2
    iterate 1 (first | refine xG_getI rfl (by exact rfl) (by exact rfl) ?_ | refine xG_getR rfl (by exact rfl) (by exact rfl) ?_ | refine xG_add rfl ?_ | refine xG_sub rfl ?_ | refine xG_mul rfl ?_ | refine xG_putI rfl (by exact rfl) (by exact rfl) ?_ | refine xG_go (fun _ => rfl) ?_)
    refine xi_lt rfl (by omega) (fun _ => ?_) (fun c1 => absurd c1 (by omega))
    exact kk N _ _ h1 (fun q hq => h2 q (by omega) hq)
  | succ m im =>
    intro i N hk h1 h2
    have bn : n / 12 ^ i ≤ n := Nat.div_le_self _ _
    have b1 : (0 : Int) ≤ ((n / 12 ^ i : Nat) : Int) := Int.natCast_nonneg _
    have b2 : ((n / 12 ^ i : Nat) : Int) ≤ 2147483647 := Int.le_trans (Int.ofNat_le.2 (Nat.le_trans bn hn)) (by decide)
    iterate 1 (first | refine xG_getI rfl (by exact rfl) (by exact rfl) ?_ | refine xG_getR rfl (by exact rfl) (by exact rfl) ?_ | refine xG_add rfl ?_ | refine xG_sub rfl ?_ | refine xG_mul rfl ?_ | refine xG_putI rfl (by exact rfl) (by exact rfl) ?_ | refine xG_go (fun _ => rfl) ?_)
    refine xi_lt rfl (by omega) (fun c1 => absurd c1 (by omega)) (fun _ => ?_)
    iterate 5 (first | refine xG_getI rfl (by exact rfl) (by exact rfl) ?_ | refine xG_getR rfl (by exact rfl) (by exact rfl) ?_ | refine xG_add rfl ?_ | refine xG_sub rfl ?_ | refine xG_mul rfl ?_ | refine xG_putI rfl (by exact rfl) (by exact rfl) ?_ | refine xG_go (fun _ => rfl) ?_)
    refine xG_rem rfl ⟨b1, b2, by decide, by decide⟩ ?_
    refine xG_ast rfl (by exact rfl) (by omega) ?_
    iterate 2 (first | refine xG_getI rfl (by exact rfl) (by exact rfl) ?_ | refine xG_getR rfl (by exact rfl) (by exact rfl) ?_ | refine xG_add rfl ?_ | refine xG_sub rfl ?_ | refine xG_mul rfl ?_ | refine xG_putI rfl (by exact rfl) (by exact rfl) ?_ | refine xG_go (fun _ => rfl) ?_)
    refine xG_div rfl ⟨b1, b2, by decide, by decide⟩ ?_
    iterate 3 (first | refine xG_getI rfl (by exact rfl) (by exact rfl) ?_ | refine xG_getR rfl (by exact rfl) (by exact rfl) ?_ | refine xG_add rfl ?_ | refine xG_sub rfl ?_ | refine xG_mul rfl ?_ | refine xG_putI rfl (by exact rfl) (by exact rfl) ?_ | refine xG_go (fun _ => rfl) ?_)
    have key := im (i + 1) (mv_up N 159 ((many : Int) - 1 - i).toNat (((n / 12 ^ i : Nat) : Int) % 12)) (by omega) (fun a ha => by rw [mv_upne ha, h1 a ha]) (fun q hq1 hq2 => by
      by_cases w : q = ((many : Int) - 1 - i).toNat
      · rw [w, mv_up_at, show many - 1 - ((many : Int) - 1 - (i : Int)).toNat = i by omega, Int.natCast_emod]
        rfl
      · rw [mv_up_j w, h2 q (by omega) hq2])
    rw [show ((n / 12 ^ (i + 1) : Nat) : Int) = ((n / 12 ^ i : Nat) : Int) / 12 by rw [Nat.pow_succ, ← Nat.div_div_eq_div_mul, Int.natCast_ediv (n / 12 ^ i) 12]; rfl, show (many : Int) - 1 - ((i + 1 : Nat) : Int) = (many : Int) - 1 - i + -1 by omega] at key
    exact key
theorem dg1 {n m : Nat} (hm : m ≤ 2) : n % 12 ^ (m + 1) / 12 ^ m = n / 12 ^ m % 12 ∧ n % 12 ^ (m + 1) % 12 ^ m = n % 12 ^ m := by
  rcases (show m = 0 ∨ m = 1 ∨ m = 2 by omega) with rfl | rfl | rfl <;> simp only [Nat.reducePow, Nat.reduceAdd] <;> omega
theorem l_ir2 {nm n many : Nat} {C : Bool} (hk : mok M) (en : M 143 2 = nm) (hm : many ≤ 3) {x3 : Option mv_V} : ∀ (m i : Nat) (N : mv_M), i + m = many → (∀ a, a ≠ 158 → a ≠ 159 → N a = M a) → (∀ q, q < many → N 159 q = ((n / 12 ^ (many - 1 - q) % 12 : Nat) : Int)) → dok (N 158) → C = chk nm (M 143 1) (M 143 6) (M 144) (M 145) (mlk M) m (n % 12 ^ m) (N 158) → xG sc (d + 2) y_Mod_isRow 41 [some (mR 143), some (mI n), some (mI many), x3, some (mI i)] [] N (fun r N' => (∀ a, a ≠ 158 → a ≠ 159 → N' a = M a) ∧ (∀ q, q < many → N' 159 q = ((n / 12 ^ (many - 1 - q) % 12 : Nat) : Int)) ∧ ((r = some (mI 0) ∧ C = false) ∨ (r = some (mI 1) ∧ dok (N' 158) ∧ C = decide (0 < marg (M 145) (N' 158) nm)))) := by
  have h1 := hk.2.1
  have h2 := hk.2.2.1
  have h3 := hk.2.2.2.1
  intro m
  induction m with
  | zero =>
    intro i N hk' g1 g2 g3 g4
    iterate 2 (first | refine xG_getI rfl (by exact rfl) (by exact rfl) ?_ | refine xG_getR rfl (by exact rfl) (by exact rfl) ?_ | refine xG_add rfl ?_ | refine xG_sub rfl ?_ | refine xG_mul rfl ?_ | refine xG_putI rfl (by exact rfl) (by exact rfl) ?_ | refine xG_go (fun _ => rfl) ?_)
    refine xb_ge rfl (by omega) (by omega) (fun _ => ?_) (fun c1 => absurd c1 (by omega))
    iterate 1 (first | refine xG_getI rfl (by exact rfl) (by exact rfl) ?_ | refine xG_getR rfl (by exact rfl) (by exact rfl) ?_ | refine xG_add rfl ?_ | refine xG_sub rfl ?_ | refine xG_mul rfl ?_ | refine xG_putI rfl (by exact rfl) (by exact rfl) ?_ | refine xG_go (fun _ => rfl) ?_)
    exact xG_ret (fun _ => rfl) ⟨g1, g2, Or.inr ⟨rfl, g3, g4⟩⟩
  | succ m im =>
    intro i N hk' g1 g2 g3 g4
    have e1 := g2 i (by omega)
    rw [show many - 1 - i = m by omega] at e1
    have d1 := dg1 (n := n) (m := m) (by omega)
    have dl := Nat.mod_lt (n / 12 ^ m) (show 12 > 0 by decide)
    simp only [chk] at g4
    rw [d1.1, d1.2] at g4
    generalize n / 12 ^ m % 12 = q at e1 dl g4
    iterate 2 (first | refine xG_getI rfl (by exact rfl) (by exact rfl) ?_ | refine xG_getR rfl (by exact rfl) (by exact rfl) ?_ | refine xG_add rfl ?_ | refine xG_sub rfl ?_ | refine xG_mul rfl ?_ | refine xG_putI rfl (by exact rfl) (by exact rfl) ?_ | refine xG_go (fun _ => rfl) ?_)
    refine xb_ge rfl (by omega) (by omega) (fun c1 => absurd c1 (by omega)) (fun _ => ?_)
    iterate 3 (first | refine xG_getI rfl (by exact rfl) (by exact rfl) ?_ | refine xG_getR rfl (by exact rfl) (by exact rfl) ?_ | refine xG_add rfl ?_ | refine xG_sub rfl ?_ | refine xG_mul rfl ?_ | refine xG_putI rfl (by exact rfl) (by exact rfl) ?_ | refine xG_go (fun _ => rfl) ?_)
    refine xG_ald rfl (by exact rfl) (by omega) ?_
    rw [Int.toNat_natCast, e1]
    iterate 1 (first | refine xG_getI rfl (by exact rfl) (by exact rfl) ?_ | refine xG_getR rfl (by exact rfl) (by exact rfl) ?_ | refine xG_add rfl ?_ | refine xG_sub rfl ?_ | refine xG_mul rfl ?_ | refine xG_putI rfl (by exact rfl) (by exact rfl) ?_ | refine xG_go (fun _ => rfl) ?_)
    refine xG_div rfl (by omega) ?_
    iterate 2 (first | refine xG_getI rfl (by exact rfl) (by exact rfl) ?_ | refine xG_getR rfl (by exact rfl) (by exact rfl) ?_ | refine xG_add rfl ?_ | refine xG_sub rfl ?_ | refine xG_mul rfl ?_ | refine xG_putI rfl (by exact rfl) (by exact rfl) ?_ | refine xG_go (fun _ => rfl) ?_)
    rw [g1 143 (by decide) (by decide), show (q : Int) / 4 = ((q / 4 : Nat) : Int) by omega]
    refine xb_ge rfl (by omega) (by omega) (fun c1 => ?_) (fun c1 => ?_)
    · iterate 1 (first | refine xG_getI rfl (by exact rfl) (by exact rfl) ?_ | refine xG_getR rfl (by exact rfl) (by exact rfl) ?_ | refine xG_add rfl ?_ | refine xG_sub rfl ?_ | refine xG_mul rfl ?_ | refine xG_putI rfl (by exact rfl) (by exact rfl) ?_ | refine xG_go (fun _ => rfl) ?_)
      refine xG_ret (fun _ => rfl) ⟨g1, g2, Or.inl ⟨rfl, ?_⟩⟩
      rw [g4, decide_eq_false (by omega), Bool.false_and]
    iterate 3 (first | refine xG_getI rfl (by exact rfl) (by exact rfl) ?_ | refine xG_getR rfl (by exact rfl) (by exact rfl) ?_ | refine xG_add rfl ?_ | refine xG_sub rfl ?_ | refine xG_mul rfl ?_ | refine xG_putI rfl (by exact rfl) (by exact rfl) ?_ | refine xG_go (fun _ => rfl) ?_)
    refine xG_ald rfl (by exact rfl) (by omega) ?_
    rw [Int.toNat_natCast, e1]
    iterate 1 (first | refine xG_getI rfl (by exact rfl) (by exact rfl) ?_ | refine xG_getR rfl (by exact rfl) (by exact rfl) ?_ | refine xG_add rfl ?_ | refine xG_sub rfl ?_ | refine xG_mul rfl ?_ | refine xG_putI rfl (by exact rfl) (by exact rfl) ?_ | refine xG_go (fun _ => rfl) ?_)
    refine xG_rem rfl (by omega) ?_
    iterate 2 (first | refine xG_getI rfl (by exact rfl) (by exact rfl) ?_ | refine xG_getR rfl (by exact rfl) (by exact rfl) ?_ | refine xG_add rfl ?_ | refine xG_sub rfl ?_ | refine xG_mul rfl ?_ | refine xG_putI rfl (by exact rfl) (by exact rfl) ?_ | refine xG_go (fun _ => rfl) ?_)
    rw [g1 143 (by decide) (by decide), show (q : Int) % 4 = ((q % 4 : Nat) : Int) by omega]
    refine xb_lt rfl (by omega) (by omega) (fun c2 => ?_) (fun c2 => ?_)
    · iterate 4 (first | refine xG_getI rfl (by exact rfl) (by exact rfl) ?_ | refine xG_getR rfl (by exact rfl) (by exact rfl) ?_ | refine xG_add rfl ?_ | refine xG_sub rfl ?_ | refine xG_mul rfl ?_ | refine xG_putI rfl (by exact rfl) (by exact rfl) ?_ | refine xG_go (fun _ => rfl) ?_)
      refine xG_ald rfl (by exact rfl) (by omega) ?_
      rw [Int.toNat_natCast, e1]
      iterate 1 (first | refine xG_getI rfl (by exact rfl) (by exact rfl) ?_ | refine xG_getR rfl (by exact rfl) (by exact rfl) ?_ | refine xG_add rfl ?_ | refine xG_sub rfl ?_ | refine xG_mul rfl ?_ | refine xG_putI rfl (by exact rfl) (by exact rfl) ?_ | refine xG_go (fun _ => rfl) ?_)
      refine xG_div rfl (by omega) ?_
      iterate 3 (first | refine xG_getI rfl (by exact rfl) (by exact rfl) ?_ | refine xG_getR rfl (by exact rfl) (by exact rfl) ?_ | refine xG_add rfl ?_ | refine xG_sub rfl ?_ | refine xG_mul rfl ?_ | refine xG_putI rfl (by exact rfl) (by exact rfl) ?_ | refine xG_go (fun _ => rfl) ?_)
      refine xG_ald rfl (by exact rfl) (by omega) ?_
      rw [Int.toNat_natCast, e1]
      iterate 1 (first | refine xG_getI rfl (by exact rfl) (by exact rfl) ?_ | refine xG_getR rfl (by exact rfl) (by exact rfl) ?_ | refine xG_add rfl ?_ | refine xG_sub rfl ?_ | refine xG_mul rfl ?_ | refine xG_putI rfl (by exact rfl) (by exact rfl) ?_ | refine xG_go (fun _ => rfl) ?_)
      refine xG_rem rfl (by omega) ?_
      rw [show (q : Int) % 4 = ((q % 4 : Nat) : Int) by omega, show (q : Int) / 4 = ((q / 4 : Nat) : Int) by omega]
      have kN : mok N := by
        unfold mok
        rw [g1 143 (by decide) (by decide), g1 144 (by decide) (by decide), g1 145 (by decide) (by decide), g1 146 (by decide) (by decide)]
        exact hk
      refine xV3 rfl (by exact rfl) (by simp) (m_played kN g3 (nm := nm) (by rw [g1 143 (by decide) (by decide), en]) (show q / 4 < 3 by omega) (t := ((q % 4 : Nat) : Int)) (by rw [g1 143 (by decide) (by decide)]; omega)) (fun r N1 hq => ?_)
      obtain ⟨rfl, eN1⟩ := hq
      have s3 : N1 158 = play nm (M 143 1) (M 144) (mlk M) (N 158) (q / 4) ((q % 4 : Nat) : Int) := by
        rw [eN1, mv_row_at, g1 143 (by decide) (by decide), g1 144 (by decide) (by decide), show mlk N = mlk M by unfold mlk; rw [g1 146 (by decide) (by decide)]]
      iterate 3 (first | refine xG_getI rfl (by exact rfl) (by exact rfl) ?_ | refine xG_getR rfl (by exact rfl) (by exact rfl) ?_ | refine xG_add rfl ?_ | refine xG_sub rfl ?_ | refine xG_mul rfl ?_ | refine xG_putI rfl (by exact rfl) (by exact rfl) ?_ | refine xG_go (fun _ => rfl) ?_)
      refine im (i + 1) N1 (by omega) (fun a ha hb => by rw [eN1, mv_row_ne ha, g1 a ha hb]) (fun u hu => by rw [eN1, mv_row_ne (by decide), g2 u hu]) (by rw [s3]; exact play_dok (by omega) g3) ?_
      rw [g4, s3, decide_eq_true (by omega), Bool.true_and]
    · iterate 1 (first | refine xG_getI rfl (by exact rfl) (by exact rfl) ?_ | refine xG_getR rfl (by exact rfl) (by exact rfl) ?_ | refine xG_add rfl ?_ | refine xG_sub rfl ?_ | refine xG_mul rfl ?_ | refine xG_putI rfl (by exact rfl) (by exact rfl) ?_ | refine xG_go (fun _ => rfl) ?_)
      refine xG_ret (fun _ => rfl) ⟨g1, g2, Or.inl ⟨rfl, ?_⟩⟩
      rw [g4, decide_eq_false (by omega), Bool.false_and]
theorem m_isRow {nm n many : Nat} {st : Int} (hk : mok M) (en : M 143 2 = nm) (hm : many ≤ 3) (hn : n < 12 ^ many) (hg : dR st (M 143 6) (M 147) (M 147)) {N : mv_M} (hN : ∀ a, a ≠ 158 → a ≠ 159 → N a = M a) : xC sc (d + 3) n_Mod_isRow [mR 143, mI n, mI many] N (fun r N' => (∀ a, a ≠ 158 → a ≠ 159 → N' a = M a) ∧ (∀ q, q < many → N' 159 q = ((n / 12 ^ (many - 1 - q) % 12 : Nat) : Int)) ∧ ((r = some (mI 0) ∧ chk nm (M 143 1) (M 143 6) (M 144) (M 145) (mlk M) many n (M 147) = false) ∨ (r = some (mI 1) ∧ dok (N' 158) ∧ chk nm (M 143 1) (M 143 6) (M 144) (M 145) (mlk M) many n (M 147) = decide (0 < marg (M 145) (N' 158) nm)))) := by
  have h1 := hk.2.1
  have h2 := hk.2.2.1
  have h3 := hk.2.2.2.1
  have p12 := pw12 hm
  refine xC_in rfl rfl (by simp; decide) ?_
  iterate 6 (first | refine xG_getI rfl (by exact rfl) (by exact rfl) ?_ | refine xG_getR rfl (by exact rfl) (by exact rfl) ?_ | refine xG_add rfl ?_ | refine xG_sub rfl ?_ | refine xG_mul rfl ?_ | refine xG_putI rfl (by exact rfl) (by exact rfl) ?_ | refine xG_go (fun _ => rfl) ?_)
  have key := l_ir1 (sc := sc) (d := d + 2) (M := N) (n := n) (many := many) hm (by omega) (Q := fun r N' => (∀ a, a ≠ 158 → a ≠ 159 → N' a = M a) ∧ (∀ q, q < many → N' 159 q = ((n / 12 ^ (many - 1 - q) % 12 : Nat) : Int)) ∧ ((r = some (mI 0) ∧ chk nm (M 143 1) (M 143 6) (M 144) (M 145) (mlk M) many n (M 147) = false) ∨ (r = some (mI 1) ∧ dok (N' 158) ∧ chk nm (M 143 1) (M 143 6) (M 144) (M 145) (mlk M) many n (M 147) = decide (0 < marg (M 145) (N' 158) nm)))) (fun N1 x3 x4 f1 f2 => ?_) many 0 N (by omega) (fun _ _ => rfl) (fun q hq1 hq2 => absurd hq1 (by omega))
  · rw [Nat.pow_zero, Nat.div_one, show (many : Int) - 1 - ((0 : Nat) : Int) = (many : Int) - 1 by omega] at key
    exact key
  iterate 1 (first | refine xG_getI rfl (by exact rfl) (by exact rfl) ?_ | refine xG_getR rfl (by exact rfl) (by exact rfl) ?_ | refine xG_add rfl ?_ | refine xG_sub rfl ?_ | refine xG_mul rfl ?_ | refine xG_putI rfl (by exact rfl) (by exact rfl) ?_ | refine xG_go (fun _ => rfl) ?_)
  refine xV1 rfl (by exact rfl) (by simp) m_asItIs (fun r M' hq => ?_)
  obtain ⟨rfl, rfl⟩ := hq
  change xG sc (d + 2) y_Mod_isRow _ _ _ (aM N1) _
  iterate 2 (first | refine xG_getI rfl (by exact rfl) (by exact rfl) ?_ | refine xG_getR rfl (by exact rfl) (by exact rfl) ?_ | refine xG_add rfl ?_ | refine xG_sub rfl ?_ | refine xG_mul rfl ?_ | refine xG_putI rfl (by exact rfl) (by exact rfl) ?_ | refine xG_go (fun _ => rfl) ?_)
  have a8 : ∀ k, k < 21 → aM N1 158 k = M 147 k := fun k hk => by rw [aM_at hk, f1 147 (by decide), hN 147 (by decide) (by decide)]
  have g1 : dR st (M 143 6) (M 147) (aM N1 158) := dR_cong h3.2 (fun _ _ => rfl) a8 hg
  refine l_ir2 (M := M) (nm := nm) hk en hm many 0 (aM N1) (by omega) (fun a ha hb => by rw [aM_ne ha, f1 a hb, hN a ha hb]) (fun q hq => by rw [aM_ne (by decide), f2 q hq]) g1.2.1 ?_
  rw [Nat.mod_eq_of_lt hn, chk_dR (show nm ≤ 6 by omega) h1 h3.2 (fun _ _ => rfl) (fun _ _ => rfl) (fun _ _ _ _ => rfl) many n _ _ g1]
end ZB
