/-! THE ODDS: the class -/
section YX
variable {sc : Nat × (Nat → Int)} {d c : Nat} {M : mv_M}
theorem l_cd {a b : mv_V} : ∀ (k s G S : Nat) (x5 : Option mv_V), s + k = 100 → G ≤ 2147483647 → S ≤ 2147483647 → xG sc d y_Sleepers_commonDivisor 7 [some a, some b, some (mI G), some (mI S), some (mI s), x5] [] M (fun r M' => M = M' ∧ r = some (mI (eu k G S))) := by
  intro k
  induction k with
  | zero =>
    intro s G S x5 hk hG hS
    iterate 2 (first | refine xG_getI rfl (by exact rfl) (by exact rfl) ?_ | refine xG_getR rfl (by exact rfl) (by exact rfl) ?_ | refine xG_add rfl ?_ | refine xG_sub rfl ?_ | refine xG_mul rfl ?_ | refine xG_putI rfl (by exact rfl) (by exact rfl) ?_ | refine xG_go (fun _ => rfl) ?_)
    refine xb_ge rfl (by omega) (by omega) (fun _ => ?_) (fun c1 => absurd c1 (by omega))
    iterate 1 (first | refine xG_getI rfl (by exact rfl) (by exact rfl) ?_ | refine xG_getR rfl (by exact rfl) (by exact rfl) ?_ | refine xG_add rfl ?_ | refine xG_sub rfl ?_ | refine xG_mul rfl ?_ | refine xG_putI rfl (by exact rfl) (by exact rfl) ?_ | refine xG_go (fun _ => rfl) ?_)
    exact xG_ret (fun _ => rfl) ⟨rfl, rfl⟩
  | succ k ih =>
    intro s G S x5 hk hG hS
    iterate 2 (first | refine xG_getI rfl (by exact rfl) (by exact rfl) ?_ | refine xG_getR rfl (by exact rfl) (by exact rfl) ?_ | refine xG_add rfl ?_ | refine xG_sub rfl ?_ | refine xG_mul rfl ?_ | refine xG_putI rfl (by exact rfl) (by exact rfl) ?_ | refine xG_go (fun _ => rfl) ?_)
    refine xb_ge rfl (by omega) (by omega) (fun c1 => absurd c1 (by omega)) (fun _ => ?_)
    iterate 1 (first | refine xG_getI rfl (by exact rfl) (by exact rfl) ?_ | refine xG_getR rfl (by exact rfl) (by exact rfl) ?_ | refine xG_add rfl ?_ | refine xG_sub rfl ?_ | refine xG_mul rfl ?_ | refine xG_putI rfl (by exact rfl) (by exact rfl) ?_ | refine xG_go (fun _ => rfl) ?_)
    simp only [eu]
    refine xi_le rfl (by omega) (fun c1 => ?_) (fun c1 => ?_)
    · rw [if_pos (by omega)]
      iterate 1 (first | refine xG_getI rfl (by exact rfl) (by exact rfl) ?_ | refine xG_getR rfl (by exact rfl) (by exact rfl) ?_ | refine xG_add rfl ?_ | refine xG_sub rfl ?_ | refine xG_mul rfl ?_ | refine xG_putI rfl (by exact rfl) (by exact rfl) ?_ | refine xG_go (fun _ => rfl) ?_)
      exact xG_ret (fun _ => rfl) ⟨rfl, rfl⟩
    · rw [if_neg (by omega)]
      iterate 2 (first | refine xG_getI rfl (by exact rfl) (by exact rfl) ?_ | refine xG_getR rfl (by exact rfl) (by exact rfl) ?_ | refine xG_add rfl ?_ | refine xG_sub rfl ?_ | refine xG_mul rfl ?_ | refine xG_putI rfl (by exact rfl) (by exact rfl) ?_ | refine xG_go (fun _ => rfl) ?_)
      refine xG_rem rfl (by omega) ?_
      have r1 := Nat.mod_lt G (show S > 0 by omega)
      rw [← Int.natCast_emod]
      iterate 7 (first | refine xG_getI rfl (by exact rfl) (by exact rfl) ?_ | refine xG_getR rfl (by exact rfl) (by exact rfl) ?_ | refine xG_add rfl ?_ | refine xG_sub rfl ?_ | refine xG_mul rfl ?_ | refine xG_putI rfl (by exact rfl) (by exact rfl) ?_ | refine xG_go (fun _ => rfl) ?_)
      exact ih (s + 1) S (G % S) _ (by omega) hS (by omega)
theorem c_commonDivisor {a b : Nat} (ha : a ≤ 1000000) (hb : b ≤ 1000000) : xC sc (d + 1) n_Sleepers_commonDivisor [mI a, mI b] M (fun r M' => M = M' ∧ r = some (mI (Nat.gcd a b))) := by
  refine xC_in rfl rfl (by simp; decide) ?_
  iterate 6 (first | refine xG_getI rfl (by exact rfl) (by exact rfl) ?_ | refine xG_getR rfl (by exact rfl) (by exact rfl) ?_ | refine xG_add rfl ?_ | refine xG_sub rfl ?_ | refine xG_mul rfl ?_ | refine xG_putI rfl (by exact rfl) (by exact rfl) ?_ | refine xG_go (fun _ => rfl) ?_)
  have key := l_cd (sc := sc) (d := d) (M := M) (a := mI a) (b := mI b) 100 0 a b none (by omega) (by omega) (by omega)
  rw [eu_gcd 50 a b (Nat.lt_of_le_of_lt hb (by decide))] at key
  exact key
theorem c_waysFrom {x : Int} {nm : Nat} (hl : lok M) (hd : dok (dv M 29)) (en : M 4 2 = nm) : ∀ (k m : Nat) (s : Int), m + k = nm → -(m : Int) ≤ s ∧ s ≤ m → xC sc (d + 3 + k) n_Sleepers_waysFrom [mR 119, mR 29, mI m, mI s, mI x] M (fun r M' => M = M' ∧ r = some (mI (cw x k (fun i => vote (M 6) (dv M 29) (m + i)) s))) := by
  have h2 := hl.2.2.1
  intro k
  induction k with
  | zero =>
    intro m s hk hs
    refine xC_in rfl rfl (by simp; decide) ?_
    iterate 4 (first | refine xG_getI rfl (by exact rfl) (by exact rfl) ?_ | refine xG_getR rfl (by exact rfl) (by exact rfl) ?_ | refine xG_add rfl ?_ | refine xG_sub rfl ?_ | refine xG_mul rfl ?_ | refine xG_putI rfl (by exact rfl) (by exact rfl) ?_ | refine xG_go (fun _ => rfl) ?_)
    rw [en]
    refine xb_lt rfl (by omega) (by omega) (fun c1 => absurd c1 (by omega)) (fun _ => ?_)
    iterate 1 (first | refine xG_getI rfl (by exact rfl) (by exact rfl) ?_ | refine xG_getR rfl (by exact rfl) (by exact rfl) ?_ | refine xG_add rfl ?_ | refine xG_sub rfl ?_ | refine xG_mul rfl ?_ | refine xG_putI rfl (by exact rfl) (by exact rfl) ?_ | refine xG_go (fun _ => rfl) ?_)
    refine xi_le rfl (by omega) (fun c1 => ?_) (fun c1 => ?_)
    · iterate 1 (first | refine xG_getI rfl (by exact rfl) (by exact rfl) ?_ | refine xG_getR rfl (by exact rfl) (by exact rfl) ?_ | refine xG_add rfl ?_ | refine xG_sub rfl ?_ | refine xG_mul rfl ?_ | refine xG_putI rfl (by exact rfl) (by exact rfl) ?_ | refine xG_go (fun _ => rfl) ?_)
      exact xG_ret (fun _ => rfl) ⟨rfl, by simp only [cw]; rw [if_neg (by omega)]⟩
    · iterate 2 (first | refine xG_getI rfl (by exact rfl) (by exact rfl) ?_ | refine xG_getR rfl (by exact rfl) (by exact rfl) ?_ | refine xG_add rfl ?_ | refine xG_sub rfl ?_ | refine xG_mul rfl ?_ | refine xG_putI rfl (by exact rfl) (by exact rfl) ?_ | refine xG_go (fun _ => rfl) ?_)
      exact xG_ret (fun _ => rfl) ⟨rfl, by simp only [cw]; rw [if_pos (by omega)]⟩
  | succ k ih =>
    intro m s hk hs
    show xC sc ((d + 3 + k) + 1) _ _ _ _
    have hv := vote_in (M 6) (dv M 29) m
    have ev : shf1 (fun i => vote (M 6) (dv M 29) (m + i)) = fun i => vote (M 6) (dv M 29) (m + 1 + i) := by
      funext i
      show vote (M 6) (dv M 29) (m + (i + 1)) = _
      rw [show m + (i + 1) = m + 1 + i by omega]
    have e0 : (fun i => vote (M 6) (dv M 29) (m + i)) 0 = vote (M 6) (dv M 29) m := rfl
    have kv : xC sc (d + 3 + k) n_Day_voteOf [mR 29, mI m] M (fun r M' => M = M' ∧ r = some (mI (vote (M 6) (dv M 29) m))) := by
      rw [show d + 3 + k = d + 1 + k + 2 by omega]
      exact c_voteOf isDay_today hl hd (by omega)
    refine xC_in rfl rfl (by simp; decide) ?_
    iterate 4 (first | refine xG_getI rfl (by exact rfl) (by exact rfl) ?_ | refine xG_getR rfl (by exact rfl) (by exact rfl) ?_ | refine xG_add rfl ?_ | refine xG_sub rfl ?_ | refine xG_mul rfl ?_ | refine xG_putI rfl (by exact rfl) (by exact rfl) ?_ | refine xG_go (fun _ => rfl) ?_)
    rw [en]
    refine xb_lt rfl (by omega) (by omega) (fun _ => ?_) (fun c1 => absurd c1 (by omega))
    iterate 2 (first | refine xG_getI rfl (by exact rfl) (by exact rfl) ?_ | refine xG_getR rfl (by exact rfl) (by exact rfl) ?_ | refine xG_add rfl ?_ | refine xG_sub rfl ?_ | refine xG_mul rfl ?_ | refine xG_putI rfl (by exact rfl) (by exact rfl) ?_ | refine xG_go (fun _ => rfl) ?_)
    refine xV2 rfl (by exact rfl) (by simp) kv (fun r M' hq => ?_)
    obtain ⟨rfl, rfl⟩ := hq
    iterate 8 (first | refine xG_getI rfl (by exact rfl) (by exact rfl) ?_ | refine xG_getR rfl (by exact rfl) (by exact rfl) ?_ | refine xG_add rfl ?_ | refine xG_sub rfl ?_ | refine xG_mul rfl ?_ | refine xG_putI rfl (by exact rfl) (by exact rfl) ?_ | refine xG_go (fun _ => rfl) ?_)
    refine xV5 rfl (by exact rfl) (by simp) (ih (m + 1) s (by omega) (by omega)) (fun r M' hq => ?_)
    obtain ⟨rfl, rfl⟩ := hq
    iterate 2 (first | refine xG_getI rfl (by exact rfl) (by exact rfl) ?_ | refine xG_getR rfl (by exact rfl) (by exact rfl) ?_ | refine xG_add rfl ?_ | refine xG_sub rfl ?_ | refine xG_mul rfl ?_ | refine xG_putI rfl (by exact rfl) (by exact rfl) ?_ | refine xG_go (fun _ => rfl) ?_)
    simp only [cw]
    rw [ev]
    refine xi_ne rfl (by omega) (fun c1 => ?_) (fun c1 => ?_)
    · rw [if_neg (show ¬ vote (M 6) (dv M 29) (m + 0) = 0 from c1)]
      iterate 9 (first | refine xG_getI rfl (by exact rfl) (by exact rfl) ?_ | refine xG_getR rfl (by exact rfl) (by exact rfl) ?_ | refine xG_add rfl ?_ | refine xG_sub rfl ?_ | refine xG_mul rfl ?_ | refine xG_putI rfl (by exact rfl) (by exact rfl) ?_ | refine xG_go (fun _ => rfl) ?_)
      refine xV5 rfl (by exact rfl) (by simp) (ih (m + 1) (s + vote (M 6) (dv M 29) m) (by omega) (by omega)) (fun r M' hq => ?_)
      obtain ⟨rfl, rfl⟩ := hq
      iterate 10 (first | refine xG_getI rfl (by exact rfl) (by exact rfl) ?_ | refine xG_getR rfl (by exact rfl) (by exact rfl) ?_ | refine xG_add rfl ?_ | refine xG_sub rfl ?_ | refine xG_mul rfl ?_ | refine xG_putI rfl (by exact rfl) (by exact rfl) ?_ | refine xG_go (fun _ => rfl) ?_)
      exact xG_ret (fun _ => rfl) ⟨rfl, rfl⟩
    · rw [if_pos (show vote (M 6) (dv M 29) (m + 0) = 0 from c1)]
      iterate 1 (first | refine xG_getI rfl (by exact rfl) (by exact rfl) ?_ | refine xG_getR rfl (by exact rfl) (by exact rfl) ?_ | refine xG_add rfl ?_ | refine xG_sub rfl ?_ | refine xG_mul rfl ?_ | refine xG_putI rfl (by exact rfl) (by exact rfl) ?_ | refine xG_go (fun _ => rfl) ?_)
      exact xG_ret (fun _ => rfl) ⟨rfl, rfl⟩
def vt (M : mv_M) : Nat → Int := fun i => vote (M 6) (dv M 29) i
theorem l_weighs {U x : Int} {nm : Nat} (hl : lok M) (hd : dok (dv M 29)) (en : M 4 2 = nm) {Q : Option mv_V → mv_M → Prop} (kk : xG sc (d + 2) y_Sleepers_weighs 55 [some (mR 119), some (mR 29), some (mI x), some (mI nm)] [] (mv_up (mv_up M 119 1 U) 119 2 (lw (vt M) nm)) Q) : ∀ (k j : Nat), j + k = nm → xG sc (d + 2) y_Sleepers_weighs 19 [some (mR 119), some (mR 29), some (mI x), some (mI j)] [] (mv_up (mv_up M 119 1 U) 119 2 (lw (vt M) j)) Q := by
  have h2 := hl.2.2.1
  have fr : ∀ z a, a ≠ 119 → mv_up (mv_up M 119 1 U) 119 2 z a = M a := fun z a ha => by rw [mv_upne ha, mv_upne ha]
  intro k
  induction k with
  | zero =>
    intro j hk
    have : j = nm := by omega
    subst this
    iterate 4 (first | refine xG_getI rfl (by exact rfl) (by exact rfl) ?_ | refine xG_getR rfl (by exact rfl) (by exact rfl) ?_ | refine xG_add rfl ?_ | refine xG_sub rfl ?_ | refine xG_mul rfl ?_ | refine xG_putI rfl (by exact rfl) (by exact rfl) ?_ | refine xG_go (fun _ => rfl) ?_)
    rw [fr _ 4 (by decide), en]
    refine xb_ge rfl (by omega) (by omega) (fun _ => ?_) (fun c1 => absurd c1 (by omega))
    exact kk
  | succ k ih =>
    intro j hk
    have hv := vote_in (M 6) (dv M 29) j
    have key := ih (j + 1) (by omega)
    simp only [lw] at key
    iterate 4 (first | refine xG_getI rfl (by exact rfl) (by exact rfl) ?_ | refine xG_getR rfl (by exact rfl) (by exact rfl) ?_ | refine xG_add rfl ?_ | refine xG_sub rfl ?_ | refine xG_mul rfl ?_ | refine xG_putI rfl (by exact rfl) (by exact rfl) ?_ | refine xG_go (fun _ => rfl) ?_)
    rw [fr _ 4 (by decide), en]
    refine xb_ge rfl (by omega) (by omega) (fun c1 => absurd c1 (by omega)) (fun _ => ?_)
    iterate 2 (first | refine xG_getI rfl (by exact rfl) (by exact rfl) ?_ | refine xG_getR rfl (by exact rfl) (by exact rfl) ?_ | refine xG_add rfl ?_ | refine xG_sub rfl ?_ | refine xG_mul rfl ?_ | refine xG_putI rfl (by exact rfl) (by exact rfl) ?_ | refine xG_go (fun _ => rfl) ?_)
    have eD : dv (mv_up (mv_up M 119 1 U) 119 2 (lw (vt M) j)) 29 = dv M 29 := dv_same (fun a _ _ => fr _ a (by omega))
    refine xV2 rfl (by exact rfl) (by simp) (c_voteOf isDay_today (far_lok (fun a ha => fr _ a (by omega)) hl) (by rw [eD]; exact hd) (show j < 6 by omega)) (fun r M' hq => ?_)
    obtain ⟨rfl, rfl⟩ := hq
    rw [eD, fr _ 6 (by decide)]
    refine xi_eq rfl (by omega) (fun c1 => ?_) (fun c1 => ?_)
    · rw [if_pos (show vt M j = 0 from c1)] at key
      iterate 2 (first | refine xG_getI rfl (by exact rfl) (by exact rfl) ?_ | refine xG_getR rfl (by exact rfl) (by exact rfl) ?_ | refine xG_add rfl ?_ | refine xG_sub rfl ?_ | refine xG_mul rfl ?_ | refine xG_putI rfl (by exact rfl) (by exact rfl) ?_ | refine xG_go (fun _ => rfl) ?_)
      exact key
    · rw [if_neg (show ¬ vt M j = 0 from c1)] at key
      iterate 8 (first | refine xG_getI rfl (by exact rfl) (by exact rfl) ?_ | refine xG_getR rfl (by exact rfl) (by exact rfl) ?_ | refine xG_add rfl ?_ | refine xG_sub rfl ?_ | refine xG_mul rfl ?_ | refine xG_putI rfl (by exact rfl) (by exact rfl) ?_ | refine xG_go (fun _ => rfl) ?_)
      rw [mv_upup, mv_up_at]
      exact key
theorem c_weighs {x : Int} {nm : Nat} (hx : 0 ≤ x ∧ x ≤ 10) (hl : lok M) (hd : dok (dv M 29)) (en : M 4 2 = nm) : ∃ u l : Nat, (u : Int) = cw x nm (vt M) 0 ∧ (l : Int) = lw (vt M) nm ∧ xC sc (d + 10) n_Sleepers_weighs [mR 119, mR 29, mI x] M (fun r N => r = none ∧ (∀ a, a ≠ 119 → N a = M a) ∧ N 119 1 = ((u / Nat.gcd l u : Nat) : Int) ∧ N 119 2 = ((l / Nat.gcd l u : Nat) : Int)) := by
  have h2 := hl.2.2.1
  have n6 : nm ≤ 6 := by omega
  have p6 : (10 : Int) ^ nm ≤ 1000000 := by
    rcases (show nm = 0 ∨ nm = 1 ∨ nm = 2 ∨ nm = 3 ∨ nm = 4 ∨ nm = 5 ∨ nm = 6 by omega) with rfl | rfl | rfl | rfl | rfl | rfl | rfl <;> decide
  have b1 := cw_in hx nm (vt M) 0
  have b2 := lw_in (vt M) nm
  obtain ⟨u, eu'⟩ := Int.eq_ofNat_of_zero_le b1.1
  obtain ⟨l, el⟩ := Int.eq_ofNat_of_zero_le (show 0 ≤ lw (vt M) nm by omega)
  refine ⟨u, l, eu'.symm, el.symm, ?_⟩
  have gl : Nat.gcd l u ∣ l := Nat.gcd_dvd_left l u
  have gle := Nat.le_of_dvd (show 0 < l by omega) gl
  have gpos : 0 < Nat.gcd l u := Nat.gcd_pos_of_pos_left u (by omega)
  refine xC_in rfl rfl (by simp; decide) ?_
  iterate 6 (first | refine xG_getI rfl (by exact rfl) (by exact rfl) ?_ | refine xG_getR rfl (by exact rfl) (by exact rfl) ?_ | refine xG_add rfl ?_ | refine xG_sub rfl ?_ | refine xG_mul rfl ?_ | refine xG_putI rfl (by exact rfl) (by exact rfl) ?_ | refine xG_go (fun _ => rfl) ?_)
  have kw := c_waysFrom (sc := sc) (d := 6 - nm + d) (M := M) (x := x) hl hd en nm 0 0 (by omega) (by decide)
  rw [show 6 - nm + d + 3 + nm = d + 9 by omega] at kw
  simp only [Nat.zero_add] at kw
  refine xV5 rfl (by exact rfl) (by simp) kw (fun r M' hq => ?_)
  obtain ⟨rfl, rfl⟩ := hq
  iterate 6 (first | refine xG_getI rfl (by exact rfl) (by exact rfl) ?_ | refine xG_getR rfl (by exact rfl) (by exact rfl) ?_ | refine xG_add rfl ?_ | refine xG_sub rfl ?_ | refine xG_mul rfl ?_ | refine xG_putI rfl (by exact rfl) (by exact rfl) ?_ | refine xG_go (fun _ => rfl) ?_)
  refine l_weighs (d := d + 7) (M := M) (U := cw x nm (vt M) 0) (nm := nm) hl hd en ?_ nm 0 (by omega)
  iterate 4 (first | refine xG_getI rfl (by exact rfl) (by exact rfl) ?_ | refine xG_getR rfl (by exact rfl) (by exact rfl) ?_ | refine xG_add rfl ?_ | refine xG_sub rfl ?_ | refine xG_mul rfl ?_ | refine xG_putI rfl (by exact rfl) (by exact rfl) ?_ | refine xG_go (fun _ => rfl) ?_)
  rw [mv_up_at, mv_up_j (show 1 ≠ 2 by decide), mv_up_at, eu', el]
  refine xS2 rfl (by decide) (by simp) (c_commonDivisor (a := l) (b := u) (by omega) (by omega)) (fun r M' hq => ?_)
  obtain ⟨rfl, rfl⟩ := hq
  iterate 3 (first | refine xG_getI rfl (by exact rfl) (by exact rfl) ?_ | refine xG_getR rfl (by exact rfl) (by exact rfl) ?_ | refine xG_add rfl ?_ | refine xG_sub rfl ?_ | refine xG_mul rfl ?_ | refine xG_putI rfl (by exact rfl) (by exact rfl) ?_ | refine xG_go (fun _ => rfl) ?_)
  refine xb_le rfl (by omega) (by omega) (fun c1 => ?_) (fun c1 => ?_)
  · have g1 : Nat.gcd l u = 1 := by omega
    refine xG_ret (fun _ => rfl) ⟨rfl, fun a ha => by rw [mv_upne ha, mv_upne ha], ?_, ?_⟩
    · rw [mv_up_j (show 1 ≠ 2 by decide), mv_up_at, g1, Nat.div_one]
    · rw [mv_up_at, g1, Nat.div_one]
  · iterate 4 (first | refine xG_getI rfl (by exact rfl) (by exact rfl) ?_ | refine xG_getR rfl (by exact rfl) (by exact rfl) ?_ | refine xG_add rfl ?_ | refine xG_sub rfl ?_ | refine xG_mul rfl ?_ | refine xG_putI rfl (by exact rfl) (by exact rfl) ?_ | refine xG_go (fun _ => rfl) ?_)
    rw [mv_up_j (show 1 ≠ 2 by decide), mv_up_at]
    refine xG_div rfl (by omega) ?_
    iterate 5 (first | refine xG_getI rfl (by exact rfl) (by exact rfl) ?_ | refine xG_getR rfl (by exact rfl) (by exact rfl) ?_ | refine xG_add rfl ?_ | refine xG_sub rfl ?_ | refine xG_mul rfl ?_ | refine xG_putI rfl (by exact rfl) (by exact rfl) ?_ | refine xG_go (fun _ => rfl) ?_)
    rw [mv_up_j (show 2 ≠ 1 by decide), mv_up_at]
    refine xG_div rfl (by omega) ?_
    iterate 1 (first | refine xG_getI rfl (by exact rfl) (by exact rfl) ?_ | refine xG_getR rfl (by exact rfl) (by exact rfl) ?_ | refine xG_add rfl ?_ | refine xG_sub rfl ?_ | refine xG_mul rfl ?_ | refine xG_putI rfl (by exact rfl) (by exact rfl) ?_ | refine xG_go (fun _ => rfl) ?_)
    refine xG_ret (fun _ => rfl) ⟨rfl, fun a ha => by rw [mv_upne ha, mv_upne ha, mv_upne ha, mv_upne ha], ?_, ?_⟩
    · rw [mv_up_j (show 1 ≠ 2 by decide), mv_up_at]
      exact (Int.natCast_ediv _ _).symm
    · rw [mv_up_at]
      exact (Int.natCast_ediv _ _).symm
end YX
