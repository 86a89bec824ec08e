/-! THE LAW'S LOOP (printed by genlaw.py) -/
section YZ
variable {sc : Nat × (Nat → Int)}
def left (sc : Nat × (Nat → Int)) : Prop := ∀ (c : Nat) (M : mv_M), R c M → both sc 30 n_MV_kingdom n_Mod_kingdom [] M c ∧ (∀ x, mv_in x → both sc 30 n_MV_plan n_Mod_plan [mI x] M c) ∧ (∀ x, mv_in x → both sc 30 n_MV_bribes n_Mod_bribes [mI x] M c) ∧ (∀ x z, mv_in x → mv_in z → both sc 30 n_MV_odds n_Mod_odds [mI x, mI z] M c) ∧ (∀ x z, mv_in x → mv_in z → both sc 30 n_MV_can n_Mod_can [mI x, mI z] M c) ∧ both sc 30 n_MV_next n_Mod_next [] M c
theorem xG_and {d : Nat} {y : mv_Y} {pc : Nat} {L : mv_L} {S : List mv_V} {M : mv_M} {Q : Option mv_V → mv_M → Prop} {a b len : Nat} {z0 x : Int} (hf : mv_find y.2.2 pc = some (.iand, len, a, b, z0)) (kk : xG sc d y (pc + len) L (mI (x % 32) :: S) M Q) : xG sc d y pc L (mI 31 :: mI x :: S) M Q := by
  refine xG_by hf (fun call => ?_) kk
  simp only [mv_stp]
  rw [if_pos (Or.inr trivial)]
  rfl
set_option maxRecDepth 100000 in
theorem l_law {n : Nat} (hn : sc.1 = n) (n2 : n ≤ 2048) (hs : ∀ j, mv_in (sc.2 j)) (H : left sc) : ∀ (k c : Nat) (M : mv_M), n ≤ 4 * (c + k) → 4 * c ≤ n + 3 → R c M → xG sc 30 y_Law_law 18 [some (mR 9999), some (mR 0), some (mR 143), some (mI (4 * (c : Int)))] [] M (fun r _ => r = some (mI 1)) := by
  intro k
  induction k with
  | zero =>
    intro c M hk hc hR
    iterate 2 (first | refine xG_getI rfl (by exact rfl) (by exact rfl) ?_ | refine xG_getR rfl (by exact rfl) (by exact rfl) ?_ | refine xG_add rfl ?_ | refine xG_sub rfl ?_ | refine xG_mul rfl ?_ | refine xG_putI rfl (by exact rfl) (by exact rfl) ?_ | refine xG_go (fun _ => rfl) ?_)
    refine xG_go (fun _ => rfl) ?_
    iterate 2 (first | refine xG_getI rfl (by exact rfl) (by exact rfl) ?_ | refine xG_getR rfl (by exact rfl) (by exact rfl) ?_ | refine xG_add rfl ?_ | refine xG_sub rfl ?_ | refine xG_mul rfl ?_ | refine xG_putI rfl (by exact rfl) (by exact rfl) ?_ | refine xG_go (fun _ => rfl) ?_)
    rw [hn]
    refine xb_gt rfl (by omega) (by omega) (fun _ => ?_) (fun c1 => absurd c1 (by omega))
    iterate 1 (first | refine xG_getI rfl (by exact rfl) (by exact rfl) ?_ | refine xG_getR rfl (by exact rfl) (by exact rfl) ?_ | refine xG_add rfl ?_ | refine xG_sub rfl ?_ | refine xG_mul rfl ?_ | refine xG_putI rfl (by exact rfl) (by exact rfl) ?_ | refine xG_go (fun _ => rfl) ?_)
    exact xG_ret (fun _ => rfl) rfl
  | succ k ih =>
    intro c M hk hc hR
    iterate 2 (first | refine xG_getI rfl (by exact rfl) (by exact rfl) ?_ | refine xG_getR rfl (by exact rfl) (by exact rfl) ?_ | refine xG_add rfl ?_ | refine xG_sub rfl ?_ | refine xG_mul rfl ?_ | refine xG_putI rfl (by exact rfl) (by exact rfl) ?_ | refine xG_go (fun _ => rfl) ?_)
    refine xG_go (fun _ => rfl) ?_
    iterate 2 (first | refine xG_getI rfl (by exact rfl) (by exact rfl) ?_ | refine xG_getR rfl (by exact rfl) (by exact rfl) ?_ | refine xG_add rfl ?_ | refine xG_sub rfl ?_ | refine xG_mul rfl ?_ | refine xG_putI rfl (by exact rfl) (by exact rfl) ?_ | refine xG_go (fun _ => rfl) ?_)
    rw [hn]
    refine xb_gt rfl (by omega) (by omega) (fun _ => ?_) (fun c1 => ?_)
    · iterate 1 (first | refine xG_getI rfl (by exact rfl) (by exact rfl) ?_ | refine xG_getR rfl (by exact rfl) (by exact rfl) ?_ | refine xG_add rfl ?_ | refine xG_sub rfl ?_ | refine xG_mul rfl ?_ | refine xG_putI rfl (by exact rfl) (by exact rfl) ?_ | refine xG_go (fun _ => rfl) ?_)
      exact xG_ret (fun _ => rfl) rfl
    have step : ∀ M', R (c + 1) M' → xG sc 30 y_Law_law 818 [some (mR 9999), some (mR 0), some (mR 143), some (mI (4 * (c : Int)))] [] M' (fun r _ => r = some (mI 1)) := by
      intro M' h'
      iterate 2 (first | refine xG_getI rfl (by exact rfl) (by exact rfl) ?_ | refine xG_getR rfl (by exact rfl) (by exact rfl) ?_ | refine xG_add rfl ?_ | refine xG_sub rfl ?_ | refine xG_mul rfl ?_ | refine xG_putI rfl (by exact rfl) (by exact rfl) ?_ | refine xG_go (fun _ => rfl) ?_)
      have key := ih (c + 1) M' (by omega) (by omega) h'
      rw [show 4 * ((c + 1 : Nat) : Int) = 4 * (c : Int) + 4 by omega] at key
      exact key
    iterate 2 (first | refine xG_getI rfl (by exact rfl) (by exact rfl) ?_ | refine xG_getR rfl (by exact rfl) (by exact rfl) ?_ | refine xG_add rfl ?_ | refine xG_sub rfl ?_ | refine xG_mul rfl ?_ | refine xG_putI rfl (by exact rfl) (by exact rfl) ?_ | refine xG_go (fun _ => rfl) ?_)
    refine xG_sld rfl (by omega) ?_
    iterate 1 (first | refine xG_getI rfl (by exact rfl) (by exact rfl) ?_ | refine xG_getR rfl (by exact rfl) (by exact rfl) ?_ | refine xG_add rfl ?_ | refine xG_sub rfl ?_ | refine xG_mul rfl ?_ | refine xG_putI rfl (by exact rfl) (by exact rfl) ?_ | refine xG_go (fun _ => rfl) ?_)
    refine xG_and rfl ?_
    have w1 := Int.emod_nonneg (sc.2 (4 * (c : Int)).toNat) (show (32 : Int) ≠ 0 by decide)
    have w2 := Int.emod_lt_of_pos (sc.2 (4 * (c : Int)).toNat) (show (0 : Int) < 32 by decide)
    generalize sc.2 (4 * (c : Int)).toNat % 32 = w at w1 w2 ⊢
    by_cases p : w < 0 ∨ 26 < w
    · refine xT_out rfl (by omega) p ?_
      exact step M (Sc_R Sc_refl hR)
    rcases (show w = 0 ∨ w = 1 ∨ w = 2 ∨ w = 3 ∨ w = 4 ∨ w = 5 ∨ w = 6 ∨ w = 7 ∨ w = 8 ∨ w = 9 ∨ w = 10 ∨ w = 11 ∨ w = 12 ∨ w = 13 ∨ w = 14 ∨ w = 15 ∨ w = 16 ∨ w = 17 ∨ w = 18 ∨ w = 19 ∨ w = 20 ∨ w = 21 ∨ w = 22 ∨ w = 23 ∨ w = 24 ∨ w = 25 ∨ w = 26 by omega) with rfl | rfl | rfl | rfl | rfl | rfl | rfl | rfl | rfl | rfl | rfl | rfl | rfl | rfl | rfl | rfl | rfl | rfl | rfl | rfl | rfl | rfl | rfl | rfl | rfl | rfl | rfl
    · iterate 2 (first | refine xG_getI rfl (by exact rfl) (by exact rfl) ?_ | refine xG_getR rfl (by exact rfl) (by exact rfl) ?_ | refine xG_add rfl ?_ | refine xG_sub rfl ?_ | refine xG_mul rfl ?_ | refine xG_putI rfl (by exact rfl) (by exact rfl) ?_ | refine xG_go (fun _ => rfl) ?_)
      iterate 4 (first | refine xG_getI rfl (by exact rfl) (by exact rfl) ?_ | refine xG_getR rfl (by exact rfl) (by exact rfl) ?_ | refine xG_add rfl ?_ | refine xG_sub rfl ?_ | refine xG_mul rfl ?_ | refine xG_putI rfl (by exact rfl) (by exact rfl) ?_ | refine xG_go (fun _ => rfl) ?_)
      refine xG_sld rfl (by omega) ?_
      refine xV2 rfl (by exact rfl) (by simp) (b_type (hs _) hR) (fun r1 M1 hq => ?_)
      obtain ⟨nn, r2, M2, ev, ⟨z, hz, rfl, rfl⟩, h'⟩ := hq
      iterate 1 (first | refine xG_getI rfl (by exact rfl) (by exact rfl) ?_ | refine xG_getR rfl (by exact rfl) (by exact rfl) ?_ | refine xG_add rfl ?_ | refine xG_sub rfl ?_ | refine xG_mul rfl ?_ | refine xG_putI rfl (by exact rfl) (by exact rfl) ?_ | refine xG_go (fun _ => rfl) ?_)
      iterate 4 (first | refine xG_getI rfl (by exact rfl) (by exact rfl) ?_ | refine xG_getR rfl (by exact rfl) (by exact rfl) ?_ | refine xG_add rfl ?_ | refine xG_sub rfl ?_ | refine xG_mul rfl ?_ | refine xG_putI rfl (by exact rfl) (by exact rfl) ?_ | refine xG_go (fun _ => rfl) ?_)
      refine xG_sld rfl (by omega) ?_
      refine xV2 rfl (by exact rfl) (by simp) (show xC sc 30 n_Mod_type [mR 143, mI (sc.2 (4 * (c : Int) + 1).toNat)] M1 (fun r M' => r = some (mI z) ∧ R (c + 1) M') from ⟨nn, _, M2, ev, rfl, h'⟩) (fun r M' hq => ?_)
      obtain ⟨rfl, h'⟩ := hq
      refine xb_eq rfl hz hz (fun _ => ?_) (fun c1 => absurd rfl c1)
      exact step M' h'
    · iterate 2 (first | refine xG_getI rfl (by exact rfl) (by exact rfl) ?_ | refine xG_getR rfl (by exact rfl) (by exact rfl) ?_ | refine xG_add rfl ?_ | refine xG_sub rfl ?_ | refine xG_mul rfl ?_ | refine xG_putI rfl (by exact rfl) (by exact rfl) ?_ | refine xG_go (fun _ => rfl) ?_)
      refine xV1 rfl (by exact rfl) (by simp) (b_clear  hR) (fun r1 M1 hq => ?_)
      obtain ⟨nn, r2, M2, ev, ⟨z, hz, rfl, rfl⟩, h'⟩ := hq
      iterate 1 (first | refine xG_getI rfl (by exact rfl) (by exact rfl) ?_ | refine xG_getR rfl (by exact rfl) (by exact rfl) ?_ | refine xG_add rfl ?_ | refine xG_sub rfl ?_ | refine xG_mul rfl ?_ | refine xG_putI rfl (by exact rfl) (by exact rfl) ?_ | refine xG_go (fun _ => rfl) ?_)
      refine xV1 rfl (by exact rfl) (by simp) (show xC sc 30 n_Mod_clear [mR 143] M1 (fun r M' => r = some (mI z) ∧ R (c + 1) M') from ⟨nn, _, M2, ev, rfl, h'⟩) (fun r M' hq => ?_)
      obtain ⟨rfl, h'⟩ := hq
      refine xb_eq rfl hz hz (fun _ => ?_) (fun c1 => absurd rfl c1)
      exact step M' h'
    · iterate 2 (first | refine xG_getI rfl (by exact rfl) (by exact rfl) ?_ | refine xG_getR rfl (by exact rfl) (by exact rfl) ?_ | refine xG_add rfl ?_ | refine xG_sub rfl ?_ | refine xG_mul rfl ?_ | refine xG_putI rfl (by exact rfl) (by exact rfl) ?_ | refine xG_go (fun _ => rfl) ?_)
      refine xV1 rfl (by exact rfl) (by simp) (H c M hR).1 (fun r1 M1 hq => ?_)
      obtain ⟨nn, r2, M2, ev, ⟨z, hz, rfl, rfl⟩, h'⟩ := hq
      iterate 1 (first | refine xG_getI rfl (by exact rfl) (by exact rfl) ?_ | refine xG_getR rfl (by exact rfl) (by exact rfl) ?_ | refine xG_add rfl ?_ | refine xG_sub rfl ?_ | refine xG_mul rfl ?_ | refine xG_putI rfl (by exact rfl) (by exact rfl) ?_ | refine xG_go (fun _ => rfl) ?_)
      refine xV1 rfl (by exact rfl) (by simp) (show xC sc 30 n_Mod_kingdom [mR 143] M1 (fun r M' => r = some (mI z) ∧ R (c + 1) M') from ⟨nn, _, M2, ev, rfl, h'⟩) (fun r M' hq => ?_)
      obtain ⟨rfl, h'⟩ := hq
      refine xb_eq rfl hz hz (fun _ => ?_) (fun c1 => absurd rfl c1)
      exact step M' h'
    · iterate 2 (first | refine xG_getI rfl (by exact rfl) (by exact rfl) ?_ | refine xG_getR rfl (by exact rfl) (by exact rfl) ?_ | refine xG_add rfl ?_ | refine xG_sub rfl ?_ | refine xG_mul rfl ?_ | refine xG_putI rfl (by exact rfl) (by exact rfl) ?_ | refine xG_go (fun _ => rfl) ?_)
      iterate 4 (first | refine xG_getI rfl (by exact rfl) (by exact rfl) ?_ | refine xG_getR rfl (by exact rfl) (by exact rfl) ?_ | refine xG_add rfl ?_ | refine xG_sub rfl ?_ | refine xG_mul rfl ?_ | refine xG_putI rfl (by exact rfl) (by exact rfl) ?_ | refine xG_go (fun _ => rfl) ?_)
      refine xG_sld rfl (by omega) ?_
      iterate 4 (first | refine xG_getI rfl (by exact rfl) (by exact rfl) ?_ | refine xG_getR rfl (by exact rfl) (by exact rfl) ?_ | refine xG_add rfl ?_ | refine xG_sub rfl ?_ | refine xG_mul rfl ?_ | refine xG_putI rfl (by exact rfl) (by exact rfl) ?_ | refine xG_go (fun _ => rfl) ?_)
      refine xG_sld rfl (by omega) ?_
      refine xV3 rfl (by exact rfl) (by simp) (b_monkey (hs _) (hs _) hR) (fun r1 M1 hq => ?_)
      obtain ⟨nn, r2, M2, ev, ⟨z, hz, rfl, rfl⟩, h'⟩ := hq
      iterate 1 (first | refine xG_getI rfl (by exact rfl) (by exact rfl) ?_ | refine xG_getR rfl (by exact rfl) (by exact rfl) ?_ | refine xG_add rfl ?_ | refine xG_sub rfl ?_ | refine xG_mul rfl ?_ | refine xG_putI rfl (by exact rfl) (by exact rfl) ?_ | refine xG_go (fun _ => rfl) ?_)
      iterate 4 (first | refine xG_getI rfl (by exact rfl) (by exact rfl) ?_ | refine xG_getR rfl (by exact rfl) (by exact rfl) ?_ | refine xG_add rfl ?_ | refine xG_sub rfl ?_ | refine xG_mul rfl ?_ | refine xG_putI rfl (by exact rfl) (by exact rfl) ?_ | refine xG_go (fun _ => rfl) ?_)
      refine xG_sld rfl (by omega) ?_
      iterate 4 (first | refine xG_getI rfl (by exact rfl) (by exact rfl) ?_ | refine xG_getR rfl (by exact rfl) (by exact rfl) ?_ | refine xG_add rfl ?_ | refine xG_sub rfl ?_ | refine xG_mul rfl ?_ | refine xG_putI rfl (by exact rfl) (by exact rfl) ?_ | refine xG_go (fun _ => rfl) ?_)
      refine xG_sld rfl (by omega) ?_
      refine xV3 rfl (by exact rfl) (by simp) (show xC sc 30 n_Mod_monkey [mR 143, mI (sc.2 (4 * (c : Int) + 1).toNat), mI (sc.2 (4 * (c : Int) + 2).toNat)] M1 (fun r M' => r = some (mI z) ∧ R (c + 1) M') from ⟨nn, _, M2, ev, rfl, h'⟩) (fun r M' hq => ?_)
      obtain ⟨rfl, h'⟩ := hq
      refine xb_eq rfl hz hz (fun _ => ?_) (fun c1 => absurd rfl c1)
      exact step M' h'
    · iterate 2 (first | refine xG_getI rfl (by exact rfl) (by exact rfl) ?_ | refine xG_getR rfl (by exact rfl) (by exact rfl) ?_ | refine xG_add rfl ?_ | refine xG_sub rfl ?_ | refine xG_mul rfl ?_ | refine xG_putI rfl (by exact rfl) (by exact rfl) ?_ | refine xG_go (fun _ => rfl) ?_)
      iterate 4 (first | refine xG_getI rfl (by exact rfl) (by exact rfl) ?_ | refine xG_getR rfl (by exact rfl) (by exact rfl) ?_ | refine xG_add rfl ?_ | refine xG_sub rfl ?_ | refine xG_mul rfl ?_ | refine xG_putI rfl (by exact rfl) (by exact rfl) ?_ | refine xG_go (fun _ => rfl) ?_)
      refine xG_sld rfl (by omega) ?_
      iterate 4 (first | refine xG_getI rfl (by exact rfl) (by exact rfl) ?_ | refine xG_getR rfl (by exact rfl) (by exact rfl) ?_ | refine xG_add rfl ?_ | refine xG_sub rfl ?_ | refine xG_mul rfl ?_ | refine xG_putI rfl (by exact rfl) (by exact rfl) ?_ | refine xG_go (fun _ => rfl) ?_)
      refine xG_sld rfl (by omega) ?_
      refine xV3 rfl (by exact rfl) (by simp) (b_like (hs _) (hs _) hR) (fun r1 M1 hq => ?_)
      obtain ⟨nn, r2, M2, ev, ⟨z, hz, rfl, rfl⟩, h'⟩ := hq
      iterate 1 (first | refine xG_getI rfl (by exact rfl) (by exact rfl) ?_ | refine xG_getR rfl (by exact rfl) (by exact rfl) ?_ | refine xG_add rfl ?_ | refine xG_sub rfl ?_ | refine xG_mul rfl ?_ | refine xG_putI rfl (by exact rfl) (by exact rfl) ?_ | refine xG_go (fun _ => rfl) ?_)
      iterate 4 (first | refine xG_getI rfl (by exact rfl) (by exact rfl) ?_ | refine xG_getR rfl (by exact rfl) (by exact rfl) ?_ | refine xG_add rfl ?_ | refine xG_sub rfl ?_ | refine xG_mul rfl ?_ | refine xG_putI rfl (by exact rfl) (by exact rfl) ?_ | refine xG_go (fun _ => rfl) ?_)
      refine xG_sld rfl (by omega) ?_
      iterate 4 (first | refine xG_getI rfl (by exact rfl) (by exact rfl) ?_ | refine xG_getR rfl (by exact rfl) (by exact rfl) ?_ | refine xG_add rfl ?_ | refine xG_sub rfl ?_ | refine xG_mul rfl ?_ | refine xG_putI rfl (by exact rfl) (by exact rfl) ?_ | refine xG_go (fun _ => rfl) ?_)
      refine xG_sld rfl (by omega) ?_
      refine xV3 rfl (by exact rfl) (by simp) (show xC sc 30 n_Mod_like [mR 143, mI (sc.2 (4 * (c : Int) + 1).toNat), mI (sc.2 (4 * (c : Int) + 2).toNat)] M1 (fun r M' => r = some (mI z) ∧ R (c + 1) M') from ⟨nn, _, M2, ev, rfl, h'⟩) (fun r M' hq => ?_)
      obtain ⟨rfl, h'⟩ := hq
      refine xb_eq rfl hz hz (fun _ => ?_) (fun c1 => absurd rfl c1)
      exact step M' h'
    · iterate 2 (first | refine xG_getI rfl (by exact rfl) (by exact rfl) ?_ | refine xG_getR rfl (by exact rfl) (by exact rfl) ?_ | refine xG_add rfl ?_ | refine xG_sub rfl ?_ | refine xG_mul rfl ?_ | refine xG_putI rfl (by exact rfl) (by exact rfl) ?_ | refine xG_go (fun _ => rfl) ?_)
      iterate 4 (first | refine xG_getI rfl (by exact rfl) (by exact rfl) ?_ | refine xG_getR rfl (by exact rfl) (by exact rfl) ?_ | refine xG_add rfl ?_ | refine xG_sub rfl ?_ | refine xG_mul rfl ?_ | refine xG_putI rfl (by exact rfl) (by exact rfl) ?_ | refine xG_go (fun _ => rfl) ?_)
      refine xG_sld rfl (by omega) ?_
      iterate 4 (first | refine xG_getI rfl (by exact rfl) (by exact rfl) ?_ | refine xG_getR rfl (by exact rfl) (by exact rfl) ?_ | refine xG_add rfl ?_ | refine xG_sub rfl ?_ | refine xG_mul rfl ?_ | refine xG_putI rfl (by exact rfl) (by exact rfl) ?_ | refine xG_go (fun _ => rfl) ?_)
      refine xG_sld rfl (by omega) ?_
      refine xV3 rfl (by exact rfl) (by simp) (b_organ (hs _) (hs _) hR) (fun r1 M1 hq => ?_)
      obtain ⟨nn, r2, M2, ev, ⟨z, hz, rfl, rfl⟩, h'⟩ := hq
      iterate 1 (first | refine xG_getI rfl (by exact rfl) (by exact rfl) ?_ | refine xG_getR rfl (by exact rfl) (by exact rfl) ?_ | refine xG_add rfl ?_ | refine xG_sub rfl ?_ | refine xG_mul rfl ?_ | refine xG_putI rfl (by exact rfl) (by exact rfl) ?_ | refine xG_go (fun _ => rfl) ?_)
      iterate 4 (first | refine xG_getI rfl (by exact rfl) (by exact rfl) ?_ | refine xG_getR rfl (by exact rfl) (by exact rfl) ?_ | refine xG_add rfl ?_ | refine xG_sub rfl ?_ | refine xG_mul rfl ?_ | refine xG_putI rfl (by exact rfl) (by exact rfl) ?_ | refine xG_go (fun _ => rfl) ?_)
      refine xG_sld rfl (by omega) ?_
      iterate 4 (first | refine xG_getI rfl (by exact rfl) (by exact rfl) ?_ | refine xG_getR rfl (by exact rfl) (by exact rfl) ?_ | refine xG_add rfl ?_ | refine xG_sub rfl ?_ | refine xG_mul rfl ?_ | refine xG_putI rfl (by exact rfl) (by exact rfl) ?_ | refine xG_go (fun _ => rfl) ?_)
      refine xG_sld rfl (by omega) ?_
      refine xV3 rfl (by exact rfl) (by simp) (show xC sc 30 n_Mod_organ [mR 143, mI (sc.2 (4 * (c : Int) + 1).toNat), mI (sc.2 (4 * (c : Int) + 2).toNat)] M1 (fun r M' => r = some (mI z) ∧ R (c + 1) M') from ⟨nn, _, M2, ev, rfl, h'⟩) (fun r M' hq => ?_)
      obtain ⟨rfl, h'⟩ := hq
      refine xb_eq rfl hz hz (fun _ => ?_) (fun c1 => absurd rfl c1)
      exact step M' h'
    · iterate 2 (first | refine xG_getI rfl (by exact rfl) (by exact rfl) ?_ | refine xG_getR rfl (by exact rfl) (by exact rfl) ?_ | refine xG_add rfl ?_ | refine xG_sub rfl ?_ | refine xG_mul rfl ?_ | refine xG_putI rfl (by exact rfl) (by exact rfl) ?_ | refine xG_go (fun _ => rfl) ?_)
      iterate 4 (first | refine xG_getI rfl (by exact rfl) (by exact rfl) ?_ | refine xG_getR rfl (by exact rfl) (by exact rfl) ?_ | refine xG_add rfl ?_ | refine xG_sub rfl ?_ | refine xG_mul rfl ?_ | refine xG_putI rfl (by exact rfl) (by exact rfl) ?_ | refine xG_go (fun _ => rfl) ?_)
      refine xG_sld rfl (by omega) ?_
      refine xV2 rfl (by exact rfl) (by simp) (b_now (hs _) hR) (fun r1 M1 hq => ?_)
      obtain ⟨nn, r2, M2, ev, ⟨z, hz, rfl, rfl⟩, h'⟩ := hq
      iterate 1 (first | refine xG_getI rfl (by exact rfl) (by exact rfl) ?_ | refine xG_getR rfl (by exact rfl) (by exact rfl) ?_ | refine xG_add rfl ?_ | refine xG_sub rfl ?_ | refine xG_mul rfl ?_ | refine xG_putI rfl (by exact rfl) (by exact rfl) ?_ | refine xG_go (fun _ => rfl) ?_)
      iterate 4 (first | refine xG_getI rfl (by exact rfl) (by exact rfl) ?_ | refine xG_getR rfl (by exact rfl) (by exact rfl) ?_ | refine xG_add rfl ?_ | refine xG_sub rfl ?_ | refine xG_mul rfl ?_ | refine xG_putI rfl (by exact rfl) (by exact rfl) ?_ | refine xG_go (fun _ => rfl) ?_)
      refine xG_sld rfl (by omega) ?_
      refine xV2 rfl (by exact rfl) (by simp) (show xC sc 30 n_Mod_now [mR 143, mI (sc.2 (4 * (c : Int) + 1).toNat)] M1 (fun r M' => r = some (mI z) ∧ R (c + 1) M') from ⟨nn, _, M2, ev, rfl, h'⟩) (fun r M' hq => ?_)
      obtain ⟨rfl, h'⟩ := hq
      refine xb_eq rfl hz hz (fun _ => ?_) (fun c1 => absurd rfl c1)
      exact step M' h'
    · iterate 2 (first | refine xG_getI rfl (by exact rfl) (by exact rfl) ?_ | refine xG_getR rfl (by exact rfl) (by exact rfl) ?_ | refine xG_add rfl ?_ | refine xG_sub rfl ?_ | refine xG_mul rfl ?_ | refine xG_putI rfl (by exact rfl) (by exact rfl) ?_ | refine xG_go (fun _ => rfl) ?_)
      iterate 4 (first | refine xG_getI rfl (by exact rfl) (by exact rfl) ?_ | refine xG_getR rfl (by exact rfl) (by exact rfl) ?_ | refine xG_add rfl ?_ | refine xG_sub rfl ?_ | refine xG_mul rfl ?_ | refine xG_putI rfl (by exact rfl) (by exact rfl) ?_ | refine xG_go (fun _ => rfl) ?_)
      refine xG_sld rfl (by omega) ?_
      iterate 4 (first | refine xG_getI rfl (by exact rfl) (by exact rfl) ?_ | refine xG_getR rfl (by exact rfl) (by exact rfl) ?_ | refine xG_add rfl ?_ | refine xG_sub rfl ?_ | refine xG_mul rfl ?_ | refine xG_putI rfl (by exact rfl) (by exact rfl) ?_ | refine xG_go (fun _ => rfl) ?_)
      refine xG_sld rfl (by omega) ?_
      refine xV3 rfl (by exact rfl) (by simp) (b_plays (hs _) (hs _) hR) (fun r1 M1 hq => ?_)
      obtain ⟨nn, r2, M2, ev, ⟨z, hz, rfl, rfl⟩, h'⟩ := hq
      iterate 1 (first | refine xG_getI rfl (by exact rfl) (by exact rfl) ?_ | refine xG_getR rfl (by exact rfl) (by exact rfl) ?_ | refine xG_add rfl ?_ | refine xG_sub rfl ?_ | refine xG_mul rfl ?_ | refine xG_putI rfl (by exact rfl) (by exact rfl) ?_ | refine xG_go (fun _ => rfl) ?_)
      iterate 4 (first | refine xG_getI rfl (by exact rfl) (by exact rfl) ?_ | refine xG_getR rfl (by exact rfl) (by exact rfl) ?_ | refine xG_add rfl ?_ | refine xG_sub rfl ?_ | refine xG_mul rfl ?_ | refine xG_putI rfl (by exact rfl) (by exact rfl) ?_ | refine xG_go (fun _ => rfl) ?_)
      refine xG_sld rfl (by omega) ?_
      iterate 4 (first | refine xG_getI rfl (by exact rfl) (by exact rfl) ?_ | refine xG_getR rfl (by exact rfl) (by exact rfl) ?_ | refine xG_add rfl ?_ | refine xG_sub rfl ?_ | refine xG_mul rfl ?_ | refine xG_putI rfl (by exact rfl) (by exact rfl) ?_ | refine xG_go (fun _ => rfl) ?_)
      refine xG_sld rfl (by omega) ?_
      refine xV3 rfl (by exact rfl) (by simp) (show xC sc 30 n_Mod_plays [mR 143, mI (sc.2 (4 * (c : Int) + 1).toNat), mI (sc.2 (4 * (c : Int) + 2).toNat)] M1 (fun r M' => r = some (mI z) ∧ R (c + 1) M') from ⟨nn, _, M2, ev, rfl, h'⟩) (fun r M' hq => ?_)
      obtain ⟨rfl, h'⟩ := hq
      refine xb_eq rfl hz hz (fun _ => ?_) (fun c1 => absurd rfl c1)
      exact step M' h'
    · iterate 2 (first | refine xG_getI rfl (by exact rfl) (by exact rfl) ?_ | refine xG_getR rfl (by exact rfl) (by exact rfl) ?_ | refine xG_add rfl ?_ | refine xG_sub rfl ?_ | refine xG_mul rfl ?_ | refine xG_putI rfl (by exact rfl) (by exact rfl) ?_ | refine xG_go (fun _ => rfl) ?_)
      iterate 4 (first | refine xG_getI rfl (by exact rfl) (by exact rfl) ?_ | refine xG_getR rfl (by exact rfl) (by exact rfl) ?_ | refine xG_add rfl ?_ | refine xG_sub rfl ?_ | refine xG_mul rfl ?_ | refine xG_putI rfl (by exact rfl) (by exact rfl) ?_ | refine xG_go (fun _ => rfl) ?_)
      refine xG_sld rfl (by omega) ?_
      iterate 4 (first | refine xG_getI rfl (by exact rfl) (by exact rfl) ?_ | refine xG_getR rfl (by exact rfl) (by exact rfl) ?_ | refine xG_add rfl ?_ | refine xG_sub rfl ?_ | refine xG_mul rfl ?_ | refine xG_putI rfl (by exact rfl) (by exact rfl) ?_ | refine xG_go (fun _ => rfl) ?_)
      refine xG_sld rfl (by omega) ?_
      refine xV3 rfl (by exact rfl) (by simp) (b_moves (hs _) (hs _) hR) (fun r1 M1 hq => ?_)
      obtain ⟨nn, r2, M2, ev, ⟨z, hz, rfl, rfl⟩, h'⟩ := hq
      iterate 1 (first | refine xG_getI rfl (by exact rfl) (by exact rfl) ?_ | refine xG_getR rfl (by exact rfl) (by exact rfl) ?_ | refine xG_add rfl ?_ | refine xG_sub rfl ?_ | refine xG_mul rfl ?_ | refine xG_putI rfl (by exact rfl) (by exact rfl) ?_ | refine xG_go (fun _ => rfl) ?_)
      iterate 4 (first | refine xG_getI rfl (by exact rfl) (by exact rfl) ?_ | refine xG_getR rfl (by exact rfl) (by exact rfl) ?_ | refine xG_add rfl ?_ | refine xG_sub rfl ?_ | refine xG_mul rfl ?_ | refine xG_putI rfl (by exact rfl) (by exact rfl) ?_ | refine xG_go (fun _ => rfl) ?_)
      refine xG_sld rfl (by omega) ?_
      iterate 4 (first | refine xG_getI rfl (by exact rfl) (by exact rfl) ?_ | refine xG_getR rfl (by exact rfl) (by exact rfl) ?_ | refine xG_add rfl ?_ | refine xG_sub rfl ?_ | refine xG_mul rfl ?_ | refine xG_putI rfl (by exact rfl) (by exact rfl) ?_ | refine xG_go (fun _ => rfl) ?_)
      refine xG_sld rfl (by omega) ?_
      refine xV3 rfl (by exact rfl) (by simp) (show xC sc 30 n_Mod_moves [mR 143, mI (sc.2 (4 * (c : Int) + 1).toNat), mI (sc.2 (4 * (c : Int) + 2).toNat)] M1 (fun r M' => r = some (mI z) ∧ R (c + 1) M') from ⟨nn, _, M2, ev, rfl, h'⟩) (fun r M' hq => ?_)
      obtain ⟨rfl, h'⟩ := hq
      refine xb_eq rfl hz hz (fun _ => ?_) (fun c1 => absurd rfl c1)
      exact step M' h'
    · iterate 2 (first | refine xG_getI rfl (by exact rfl) (by exact rfl) ?_ | refine xG_getR rfl (by exact rfl) (by exact rfl) ?_ | refine xG_add rfl ?_ | refine xG_sub rfl ?_ | refine xG_mul rfl ?_ | refine xG_putI rfl (by exact rfl) (by exact rfl) ?_ | refine xG_go (fun _ => rfl) ?_)
      iterate 4 (first | refine xG_getI rfl (by exact rfl) (by exact rfl) ?_ | refine xG_getR rfl (by exact rfl) (by exact rfl) ?_ | refine xG_add rfl ?_ | refine xG_sub rfl ?_ | refine xG_mul rfl ?_ | refine xG_putI rfl (by exact rfl) (by exact rfl) ?_ | refine xG_go (fun _ => rfl) ?_)
      refine xG_sld rfl (by omega) ?_
      refine xV2 rfl (by exact rfl) (by simp) (b_mends (hs _) hR) (fun r1 M1 hq => ?_)
      obtain ⟨nn, r2, M2, ev, ⟨z, hz, rfl, rfl⟩, h'⟩ := hq
      iterate 1 (first | refine xG_getI rfl (by exact rfl) (by exact rfl) ?_ | refine xG_getR rfl (by exact rfl) (by exact rfl) ?_ | refine xG_add rfl ?_ | refine xG_sub rfl ?_ | refine xG_mul rfl ?_ | refine xG_putI rfl (by exact rfl) (by exact rfl) ?_ | refine xG_go (fun _ => rfl) ?_)
      iterate 4 (first | refine xG_getI rfl (by exact rfl) (by exact rfl) ?_ | refine xG_getR rfl (by exact rfl) (by exact rfl) ?_ | refine xG_add rfl ?_ | refine xG_sub rfl ?_ | refine xG_mul rfl ?_ | refine xG_putI rfl (by exact rfl) (by exact rfl) ?_ | refine xG_go (fun _ => rfl) ?_)
      refine xG_sld rfl (by omega) ?_
      refine xV2 rfl (by exact rfl) (by simp) (show xC sc 30 n_Mod_mends [mR 143, mI (sc.2 (4 * (c : Int) + 1).toNat)] M1 (fun r M' => r = some (mI z) ∧ R (c + 1) M') from ⟨nn, _, M2, ev, rfl, h'⟩) (fun r M' hq => ?_)
      obtain ⟨rfl, h'⟩ := hq
      refine xb_eq rfl hz hz (fun _ => ?_) (fun c1 => absurd rfl c1)
      exact step M' h'
    · iterate 2 (first | refine xG_getI rfl (by exact rfl) (by exact rfl) ?_ | refine xG_getR rfl (by exact rfl) (by exact rfl) ?_ | refine xG_add rfl ?_ | refine xG_sub rfl ?_ | refine xG_mul rfl ?_ | refine xG_putI rfl (by exact rfl) (by exact rfl) ?_ | refine xG_go (fun _ => rfl) ?_)
      iterate 4 (first | refine xG_getI rfl (by exact rfl) (by exact rfl) ?_ | refine xG_getR rfl (by exact rfl) (by exact rfl) ?_ | refine xG_add rfl ?_ | refine xG_sub rfl ?_ | refine xG_mul rfl ?_ | refine xG_putI rfl (by exact rfl) (by exact rfl) ?_ | refine xG_go (fun _ => rfl) ?_)
      refine xG_sld rfl (by omega) ?_
      refine xV2 rfl (by exact rfl) (by simp) (b_gives (hs _) hR) (fun r1 M1 hq => ?_)
      obtain ⟨nn, r2, M2, ev, ⟨z, hz, rfl, rfl⟩, h'⟩ := hq
      iterate 1 (first | refine xG_getI rfl (by exact rfl) (by exact rfl) ?_ | refine xG_getR rfl (by exact rfl) (by exact rfl) ?_ | refine xG_add rfl ?_ | refine xG_sub rfl ?_ | refine xG_mul rfl ?_ | refine xG_putI rfl (by exact rfl) (by exact rfl) ?_ | refine xG_go (fun _ => rfl) ?_)
      iterate 4 (first | refine xG_getI rfl (by exact rfl) (by exact rfl) ?_ | refine xG_getR rfl (by exact rfl) (by exact rfl) ?_ | refine xG_add rfl ?_ | refine xG_sub rfl ?_ | refine xG_mul rfl ?_ | refine xG_putI rfl (by exact rfl) (by exact rfl) ?_ | refine xG_go (fun _ => rfl) ?_)
      refine xG_sld rfl (by omega) ?_
      refine xV2 rfl (by exact rfl) (by simp) (show xC sc 30 n_Mod_gives [mR 143, mI (sc.2 (4 * (c : Int) + 1).toNat)] M1 (fun r M' => r = some (mI z) ∧ R (c + 1) M') from ⟨nn, _, M2, ev, rfl, h'⟩) (fun r M' hq => ?_)
      obtain ⟨rfl, h'⟩ := hq
      refine xb_eq rfl hz hz (fun _ => ?_) (fun c1 => absurd rfl c1)
      exact step M' h'
    · iterate 2 (first | refine xG_getI rfl (by exact rfl) (by exact rfl) ?_ | refine xG_getR rfl (by exact rfl) (by exact rfl) ?_ | refine xG_add rfl ?_ | refine xG_sub rfl ?_ | refine xG_mul rfl ?_ | refine xG_putI rfl (by exact rfl) (by exact rfl) ?_ | refine xG_go (fun _ => rfl) ?_)
      iterate 4 (first | refine xG_getI rfl (by exact rfl) (by exact rfl) ?_ | refine xG_getR rfl (by exact rfl) (by exact rfl) ?_ | refine xG_add rfl ?_ | refine xG_sub rfl ?_ | refine xG_mul rfl ?_ | refine xG_putI rfl (by exact rfl) (by exact rfl) ?_ | refine xG_go (fun _ => rfl) ?_)
      refine xG_sld rfl (by omega) ?_
      refine xV2 rfl (by exact rfl) (by simp) (b_weather (hs _) hR) (fun r1 M1 hq => ?_)
      obtain ⟨nn, r2, M2, ev, ⟨z, hz, rfl, rfl⟩, h'⟩ := hq
      iterate 1 (first | refine xG_getI rfl (by exact rfl) (by exact rfl) ?_ | refine xG_getR rfl (by exact rfl) (by exact rfl) ?_ | refine xG_add rfl ?_ | refine xG_sub rfl ?_ | refine xG_mul rfl ?_ | refine xG_putI rfl (by exact rfl) (by exact rfl) ?_ | refine xG_go (fun _ => rfl) ?_)
      iterate 4 (first | refine xG_getI rfl (by exact rfl) (by exact rfl) ?_ | refine xG_getR rfl (by exact rfl) (by exact rfl) ?_ | refine xG_add rfl ?_ | refine xG_sub rfl ?_ | refine xG_mul rfl ?_ | refine xG_putI rfl (by exact rfl) (by exact rfl) ?_ | refine xG_go (fun _ => rfl) ?_)
      refine xG_sld rfl (by omega) ?_
      refine xV2 rfl (by exact rfl) (by simp) (show xC sc 30 n_Mod_weather [mR 143, mI (sc.2 (4 * (c : Int) + 1).toNat)] M1 (fun r M' => r = some (mI z) ∧ R (c + 1) M') from ⟨nn, _, M2, ev, rfl, h'⟩) (fun r M' hq => ?_)
      obtain ⟨rfl, h'⟩ := hq
      refine xb_eq rfl hz hz (fun _ => ?_) (fun c1 => absurd rfl c1)
      exact step M' h'
    · iterate 2 (first | refine xG_getI rfl (by exact rfl) (by exact rfl) ?_ | refine xG_getR rfl (by exact rfl) (by exact rfl) ?_ | refine xG_add rfl ?_ | refine xG_sub rfl ?_ | refine xG_mul rfl ?_ | refine xG_putI rfl (by exact rfl) (by exact rfl) ?_ | refine xG_go (fun _ => rfl) ?_)
      refine xV1 rfl (by exact rfl) (by simp) (b_poll  hR) (fun r1 M1 hq => ?_)
      obtain ⟨nn, r2, M2, ev, ⟨z, hz, rfl, rfl⟩, h'⟩ := hq
      iterate 1 (first | refine xG_getI rfl (by exact rfl) (by exact rfl) ?_ | refine xG_getR rfl (by exact rfl) (by exact rfl) ?_ | refine xG_add rfl ?_ | refine xG_sub rfl ?_ | refine xG_mul rfl ?_ | refine xG_putI rfl (by exact rfl) (by exact rfl) ?_ | refine xG_go (fun _ => rfl) ?_)
      refine xV1 rfl (by exact rfl) (by simp) (show xC sc 30 n_Mod_poll [mR 143] M1 (fun r M' => r = some (mI z) ∧ R (c + 1) M') from ⟨nn, _, M2, ev, rfl, h'⟩) (fun r M' hq => ?_)
      obtain ⟨rfl, h'⟩ := hq
      refine xb_eq rfl hz hz (fun _ => ?_) (fun c1 => absurd rfl c1)
      exact step M' h'
    · iterate 2 (first | refine xG_getI rfl (by exact rfl) (by exact rfl) ?_ | refine xG_getR rfl (by exact rfl) (by exact rfl) ?_ | refine xG_add rfl ?_ | refine xG_sub rfl ?_ | refine xG_mul rfl ?_ | refine xG_putI rfl (by exact rfl) (by exact rfl) ?_ | refine xG_go (fun _ => rfl) ?_)
      refine xV1 rfl (by exact rfl) (by simp) (b_undo  hR) (fun r1 M1 hq => ?_)
      obtain ⟨nn, r2, M2, ev, ⟨z, hz, rfl, rfl⟩, h'⟩ := hq
      iterate 1 (first | refine xG_getI rfl (by exact rfl) (by exact rfl) ?_ | refine xG_getR rfl (by exact rfl) (by exact rfl) ?_ | refine xG_add rfl ?_ | refine xG_sub rfl ?_ | refine xG_mul rfl ?_ | refine xG_putI rfl (by exact rfl) (by exact rfl) ?_ | refine xG_go (fun _ => rfl) ?_)
      refine xV1 rfl (by exact rfl) (by simp) (show xC sc 30 n_Mod_undo [mR 143] M1 (fun r M' => r = some (mI z) ∧ R (c + 1) M') from ⟨nn, _, M2, ev, rfl, h'⟩) (fun r M' hq => ?_)
      obtain ⟨rfl, h'⟩ := hq
      refine xb_eq rfl hz hz (fun _ => ?_) (fun c1 => absurd rfl c1)
      exact step M' h'
    · iterate 2 (first | refine xG_getI rfl (by exact rfl) (by exact rfl) ?_ | refine xG_getR rfl (by exact rfl) (by exact rfl) ?_ | refine xG_add rfl ?_ | refine xG_sub rfl ?_ | refine xG_mul rfl ?_ | refine xG_putI rfl (by exact rfl) (by exact rfl) ?_ | refine xG_go (fun _ => rfl) ?_)
      iterate 4 (first | refine xG_getI rfl (by exact rfl) (by exact rfl) ?_ | refine xG_getR rfl (by exact rfl) (by exact rfl) ?_ | refine xG_add rfl ?_ | refine xG_sub rfl ?_ | refine xG_mul rfl ?_ | refine xG_putI rfl (by exact rfl) (by exact rfl) ?_ | refine xG_go (fun _ => rfl) ?_)
      refine xG_sld rfl (by omega) ?_
      refine xV2 rfl (by exact rfl) (by simp) ((H c M hR).2.1 _ (hs _)) (fun r1 M1 hq => ?_)
      obtain ⟨nn, r2, M2, ev, ⟨z, hz, rfl, rfl⟩, h'⟩ := hq
      iterate 1 (first | refine xG_getI rfl (by exact rfl) (by exact rfl) ?_ | refine xG_getR rfl (by exact rfl) (by exact rfl) ?_ | refine xG_add rfl ?_ | refine xG_sub rfl ?_ | refine xG_mul rfl ?_ | refine xG_putI rfl (by exact rfl) (by exact rfl) ?_ | refine xG_go (fun _ => rfl) ?_)
      iterate 4 (first | refine xG_getI rfl (by exact rfl) (by exact rfl) ?_ | refine xG_getR rfl (by exact rfl) (by exact rfl) ?_ | refine xG_add rfl ?_ | refine xG_sub rfl ?_ | refine xG_mul rfl ?_ | refine xG_putI rfl (by exact rfl) (by exact rfl) ?_ | refine xG_go (fun _ => rfl) ?_)
      refine xG_sld rfl (by omega) ?_
      refine xV2 rfl (by exact rfl) (by simp) (show xC sc 30 n_Mod_plan [mR 143, mI (sc.2 (4 * (c : Int) + 1).toNat)] M1 (fun r M' => r = some (mI z) ∧ R (c + 1) M') from ⟨nn, _, M2, ev, rfl, h'⟩) (fun r M' hq => ?_)
      obtain ⟨rfl, h'⟩ := hq
      refine xb_eq rfl hz hz (fun _ => ?_) (fun c1 => absurd rfl c1)
      exact step M' h'
    · iterate 2 (first | refine xG_getI rfl (by exact rfl) (by exact rfl) ?_ | refine xG_getR rfl (by exact rfl) (by exact rfl) ?_ | refine xG_add rfl ?_ | refine xG_sub rfl ?_ | refine xG_mul rfl ?_ | refine xG_putI rfl (by exact rfl) (by exact rfl) ?_ | refine xG_go (fun _ => rfl) ?_)
      iterate 4 (first | refine xG_getI rfl (by exact rfl) (by exact rfl) ?_ | refine xG_getR rfl (by exact rfl) (by exact rfl) ?_ | refine xG_add rfl ?_ | refine xG_sub rfl ?_ | refine xG_mul rfl ?_ | refine xG_putI rfl (by exact rfl) (by exact rfl) ?_ | refine xG_go (fun _ => rfl) ?_)
      refine xG_sld rfl (by omega) ?_
      iterate 4 (first | refine xG_getI rfl (by exact rfl) (by exact rfl) ?_ | refine xG_getR rfl (by exact rfl) (by exact rfl) ?_ | refine xG_add rfl ?_ | refine xG_sub rfl ?_ | refine xG_mul rfl ?_ | refine xG_putI rfl (by exact rfl) (by exact rfl) ?_ | refine xG_go (fun _ => rfl) ?_)
      refine xG_sld rfl (by omega) ?_
      refine xV3 rfl (by exact rfl) (by simp) (b_round (hs _) (hs _) hR) (fun r1 M1 hq => ?_)
      obtain ⟨nn, r2, M2, ev, ⟨z, hz, rfl, rfl⟩, h'⟩ := hq
      iterate 1 (first | refine xG_getI rfl (by exact rfl) (by exact rfl) ?_ | refine xG_getR rfl (by exact rfl) (by exact rfl) ?_ | refine xG_add rfl ?_ | refine xG_sub rfl ?_ | refine xG_mul rfl ?_ | refine xG_putI rfl (by exact rfl) (by exact rfl) ?_ | refine xG_go (fun _ => rfl) ?_)
      iterate 4 (first | refine xG_getI rfl (by exact rfl) (by exact rfl) ?_ | refine xG_getR rfl (by exact rfl) (by exact rfl) ?_ | refine xG_add rfl ?_ | refine xG_sub rfl ?_ | refine xG_mul rfl ?_ | refine xG_putI rfl (by exact rfl) (by exact rfl) ?_ | refine xG_go (fun _ => rfl) ?_)
      refine xG_sld rfl (by omega) ?_
      iterate 4 (first | refine xG_getI rfl (by exact rfl) (by exact rfl) ?_ | refine xG_getR rfl (by exact rfl) (by exact rfl) ?_ | refine xG_add rfl ?_ | refine xG_sub rfl ?_ | refine xG_mul rfl ?_ | refine xG_putI rfl (by exact rfl) (by exact rfl) ?_ | refine xG_go (fun _ => rfl) ?_)
      refine xG_sld rfl (by omega) ?_
      refine xV3 rfl (by exact rfl) (by simp) (show xC sc 30 n_Mod_round [mR 143, mI (sc.2 (4 * (c : Int) + 1).toNat), mI (sc.2 (4 * (c : Int) + 2).toNat)] M1 (fun r M' => r = some (mI z) ∧ R (c + 1) M') from ⟨nn, _, M2, ev, rfl, h'⟩) (fun r M' hq => ?_)
      obtain ⟨rfl, h'⟩ := hq
      refine xb_eq rfl hz hz (fun _ => ?_) (fun c1 => absurd rfl c1)
      exact step M' h'
    · iterate 2 (first | refine xG_getI rfl (by exact rfl) (by exact rfl) ?_ | refine xG_getR rfl (by exact rfl) (by exact rfl) ?_ | refine xG_add rfl ?_ | refine xG_sub rfl ?_ | refine xG_mul rfl ?_ | refine xG_putI rfl (by exact rfl) (by exact rfl) ?_ | refine xG_go (fun _ => rfl) ?_)
      iterate 4 (first | refine xG_getI rfl (by exact rfl) (by exact rfl) ?_ | refine xG_getR rfl (by exact rfl) (by exact rfl) ?_ | refine xG_add rfl ?_ | refine xG_sub rfl ?_ | refine xG_mul rfl ?_ | refine xG_putI rfl (by exact rfl) (by exact rfl) ?_ | refine xG_go (fun _ => rfl) ?_)
      refine xG_sld rfl (by omega) ?_
      refine xV2 rfl (by exact rfl) (by simp) ((H c M hR).2.2.1 _ (hs _)) (fun r1 M1 hq => ?_)
      obtain ⟨nn, r2, M2, ev, ⟨z, hz, rfl, rfl⟩, h'⟩ := hq
      iterate 1 (first | refine xG_getI rfl (by exact rfl) (by exact rfl) ?_ | refine xG_getR rfl (by exact rfl) (by exact rfl) ?_ | refine xG_add rfl ?_ | refine xG_sub rfl ?_ | refine xG_mul rfl ?_ | refine xG_putI rfl (by exact rfl) (by exact rfl) ?_ | refine xG_go (fun _ => rfl) ?_)
      iterate 4 (first | refine xG_getI rfl (by exact rfl) (by exact rfl) ?_ | refine xG_getR rfl (by exact rfl) (by exact rfl) ?_ | refine xG_add rfl ?_ | refine xG_sub rfl ?_ | refine xG_mul rfl ?_ | refine xG_putI rfl (by exact rfl) (by exact rfl) ?_ | refine xG_go (fun _ => rfl) ?_)
      refine xG_sld rfl (by omega) ?_
      refine xV2 rfl (by exact rfl) (by simp) (show xC sc 30 n_Mod_bribes [mR 143, mI (sc.2 (4 * (c : Int) + 1).toNat)] M1 (fun r M' => r = some (mI z) ∧ R (c + 1) M') from ⟨nn, _, M2, ev, rfl, h'⟩) (fun r M' hq => ?_)
      obtain ⟨rfl, h'⟩ := hq
      refine xb_eq rfl hz hz (fun _ => ?_) (fun c1 => absurd rfl c1)
      exact step M' h'
    · iterate 2 (first | refine xG_getI rfl (by exact rfl) (by exact rfl) ?_ | refine xG_getR rfl (by exact rfl) (by exact rfl) ?_ | refine xG_add rfl ?_ | refine xG_sub rfl ?_ | refine xG_mul rfl ?_ | refine xG_putI rfl (by exact rfl) (by exact rfl) ?_ | refine xG_go (fun _ => rfl) ?_)
      iterate 4 (first | refine xG_getI rfl (by exact rfl) (by exact rfl) ?_ | refine xG_getR rfl (by exact rfl) (by exact rfl) ?_ | refine xG_add rfl ?_ | refine xG_sub rfl ?_ | refine xG_mul rfl ?_ | refine xG_putI rfl (by exact rfl) (by exact rfl) ?_ | refine xG_go (fun _ => rfl) ?_)
      refine xG_sld rfl (by omega) ?_
      iterate 4 (first | refine xG_getI rfl (by exact rfl) (by exact rfl) ?_ | refine xG_getR rfl (by exact rfl) (by exact rfl) ?_ | refine xG_add rfl ?_ | refine xG_sub rfl ?_ | refine xG_mul rfl ?_ | refine xG_putI rfl (by exact rfl) (by exact rfl) ?_ | refine xG_go (fun _ => rfl) ?_)
      refine xG_sld rfl (by omega) ?_
      refine xV3 rfl (by exact rfl) (by simp) ((H c M hR).2.2.2.1 _ _ (hs _) (hs _)) (fun r1 M1 hq => ?_)
      obtain ⟨nn, r2, M2, ev, ⟨z, hz, rfl, rfl⟩, h'⟩ := hq
      iterate 1 (first | refine xG_getI rfl (by exact rfl) (by exact rfl) ?_ | refine xG_getR rfl (by exact rfl) (by exact rfl) ?_ | refine xG_add rfl ?_ | refine xG_sub rfl ?_ | refine xG_mul rfl ?_ | refine xG_putI rfl (by exact rfl) (by exact rfl) ?_ | refine xG_go (fun _ => rfl) ?_)
      iterate 4 (first | refine xG_getI rfl (by exact rfl) (by exact rfl) ?_ | refine xG_getR rfl (by exact rfl) (by exact rfl) ?_ | refine xG_add rfl ?_ | refine xG_sub rfl ?_ | refine xG_mul rfl ?_ | refine xG_putI rfl (by exact rfl) (by exact rfl) ?_ | refine xG_go (fun _ => rfl) ?_)
      refine xG_sld rfl (by omega) ?_
      iterate 4 (first | refine xG_getI rfl (by exact rfl) (by exact rfl) ?_ | refine xG_getR rfl (by exact rfl) (by exact rfl) ?_ | refine xG_add rfl ?_ | refine xG_sub rfl ?_ | refine xG_mul rfl ?_ | refine xG_putI rfl (by exact rfl) (by exact rfl) ?_ | refine xG_go (fun _ => rfl) ?_)
      refine xG_sld rfl (by omega) ?_
      refine xV3 rfl (by exact rfl) (by simp) (show xC sc 30 n_Mod_odds [mR 143, mI (sc.2 (4 * (c : Int) + 1).toNat), mI (sc.2 (4 * (c : Int) + 2).toNat)] M1 (fun r M' => r = some (mI z) ∧ R (c + 1) M') from ⟨nn, _, M2, ev, rfl, h'⟩) (fun r M' hq => ?_)
      obtain ⟨rfl, h'⟩ := hq
      refine xb_eq rfl hz hz (fun _ => ?_) (fun c1 => absurd rfl c1)
      exact step M' h'
    · iterate 2 (first | refine xG_getI rfl (by exact rfl) (by exact rfl) ?_ | refine xG_getR rfl (by exact rfl) (by exact rfl) ?_ | refine xG_add rfl ?_ | refine xG_sub rfl ?_ | refine xG_mul rfl ?_ | refine xG_putI rfl (by exact rfl) (by exact rfl) ?_ | refine xG_go (fun _ => rfl) ?_)
      iterate 4 (first | refine xG_getI rfl (by exact rfl) (by exact rfl) ?_ | refine xG_getR rfl (by exact rfl) (by exact rfl) ?_ | refine xG_add rfl ?_ | refine xG_sub rfl ?_ | refine xG_mul rfl ?_ | refine xG_putI rfl (by exact rfl) (by exact rfl) ?_ | refine xG_go (fun _ => rfl) ?_)
      refine xG_sld rfl (by omega) ?_
      iterate 4 (first | refine xG_getI rfl (by exact rfl) (by exact rfl) ?_ | refine xG_getR rfl (by exact rfl) (by exact rfl) ?_ | refine xG_add rfl ?_ | refine xG_sub rfl ?_ | refine xG_mul rfl ?_ | refine xG_putI rfl (by exact rfl) (by exact rfl) ?_ | refine xG_go (fun _ => rfl) ?_)
      refine xG_sld rfl (by omega) ?_
      iterate 4 (first | refine xG_getI rfl (by exact rfl) (by exact rfl) ?_ | refine xG_getR rfl (by exact rfl) (by exact rfl) ?_ | refine xG_add rfl ?_ | refine xG_sub rfl ?_ | refine xG_mul rfl ?_ | refine xG_putI rfl (by exact rfl) (by exact rfl) ?_ | refine xG_go (fun _ => rfl) ?_)
      refine xG_sld rfl (by omega) ?_
      refine xV4 rfl (by exact rfl) (by simp) (b_knows (hs _) (hs _) (hs _) hR) (fun r1 M1 hq => ?_)
      obtain ⟨nn, r2, M2, ev, ⟨z, hz, rfl, rfl⟩, h'⟩ := hq
      iterate 1 (first | refine xG_getI rfl (by exact rfl) (by exact rfl) ?_ | refine xG_getR rfl (by exact rfl) (by exact rfl) ?_ | refine xG_add rfl ?_ | refine xG_sub rfl ?_ | refine xG_mul rfl ?_ | refine xG_putI rfl (by exact rfl) (by exact rfl) ?_ | refine xG_go (fun _ => rfl) ?_)
      iterate 4 (first | refine xG_getI rfl (by exact rfl) (by exact rfl) ?_ | refine xG_getR rfl (by exact rfl) (by exact rfl) ?_ | refine xG_add rfl ?_ | refine xG_sub rfl ?_ | refine xG_mul rfl ?_ | refine xG_putI rfl (by exact rfl) (by exact rfl) ?_ | refine xG_go (fun _ => rfl) ?_)
      refine xG_sld rfl (by omega) ?_
      iterate 4 (first | refine xG_getI rfl (by exact rfl) (by exact rfl) ?_ | refine xG_getR rfl (by exact rfl) (by exact rfl) ?_ | refine xG_add rfl ?_ | refine xG_sub rfl ?_ | refine xG_mul rfl ?_ | refine xG_putI rfl (by exact rfl) (by exact rfl) ?_ | refine xG_go (fun _ => rfl) ?_)
      refine xG_sld rfl (by omega) ?_
      iterate 4 (first | refine xG_getI rfl (by exact rfl) (by exact rfl) ?_ | refine xG_getR rfl (by exact rfl) (by exact rfl) ?_ | refine xG_add rfl ?_ | refine xG_sub rfl ?_ | refine xG_mul rfl ?_ | refine xG_putI rfl (by exact rfl) (by exact rfl) ?_ | refine xG_go (fun _ => rfl) ?_)
      refine xG_sld rfl (by omega) ?_
      refine xV4 rfl (by exact rfl) (by simp) (show xC sc 30 n_Mod_knows [mR 143, mI (sc.2 (4 * (c : Int) + 1).toNat), mI (sc.2 (4 * (c : Int) + 2).toNat), mI (sc.2 (4 * (c : Int) + 3).toNat)] M1 (fun r M' => r = some (mI z) ∧ R (c + 1) M') from ⟨nn, _, M2, ev, rfl, h'⟩) (fun r M' hq => ?_)
      obtain ⟨rfl, h'⟩ := hq
      refine xb_eq rfl hz hz (fun _ => ?_) (fun c1 => absurd rfl c1)
      exact step M' h'
    · iterate 2 (first | refine xG_getI rfl (by exact rfl) (by exact rfl) ?_ | refine xG_getR rfl (by exact rfl) (by exact rfl) ?_ | refine xG_add rfl ?_ | refine xG_sub rfl ?_ | refine xG_mul rfl ?_ | refine xG_putI rfl (by exact rfl) (by exact rfl) ?_ | refine xG_go (fun _ => rfl) ?_)
      refine xV1 rfl (by exact rfl) (by simp) (b_forget  hR) (fun r1 M1 hq => ?_)
      obtain ⟨nn, r2, M2, ev, ⟨z, hz, rfl, rfl⟩, h'⟩ := hq
      iterate 1 (first | refine xG_getI rfl (by exact rfl) (by exact rfl) ?_ | refine xG_getR rfl (by exact rfl) (by exact rfl) ?_ | refine xG_add rfl ?_ | refine xG_sub rfl ?_ | refine xG_mul rfl ?_ | refine xG_putI rfl (by exact rfl) (by exact rfl) ?_ | refine xG_go (fun _ => rfl) ?_)
      refine xV1 rfl (by exact rfl) (by simp) (show xC sc 30 n_Mod_forget [mR 143] M1 (fun r M' => r = some (mI z) ∧ R (c + 1) M') from ⟨nn, _, M2, ev, rfl, h'⟩) (fun r M' hq => ?_)
      obtain ⟨rfl, h'⟩ := hq
      refine xb_eq rfl hz hz (fun _ => ?_) (fun c1 => absurd rfl c1)
      exact step M' h'
    · iterate 2 (first | refine xG_getI rfl (by exact rfl) (by exact rfl) ?_ | refine xG_getR rfl (by exact rfl) (by exact rfl) ?_ | refine xG_add rfl ?_ | refine xG_sub rfl ?_ | refine xG_mul rfl ?_ | refine xG_putI rfl (by exact rfl) (by exact rfl) ?_ | refine xG_go (fun _ => rfl) ?_)
      iterate 4 (first | refine xG_getI rfl (by exact rfl) (by exact rfl) ?_ | refine xG_getR rfl (by exact rfl) (by exact rfl) ?_ | refine xG_add rfl ?_ | refine xG_sub rfl ?_ | refine xG_mul rfl ?_ | refine xG_putI rfl (by exact rfl) (by exact rfl) ?_ | refine xG_go (fun _ => rfl) ?_)
      refine xG_sld rfl (by omega) ?_
      iterate 4 (first | refine xG_getI rfl (by exact rfl) (by exact rfl) ?_ | refine xG_getR rfl (by exact rfl) (by exact rfl) ?_ | refine xG_add rfl ?_ | refine xG_sub rfl ?_ | refine xG_mul rfl ?_ | refine xG_putI rfl (by exact rfl) (by exact rfl) ?_ | refine xG_go (fun _ => rfl) ?_)
      refine xG_sld rfl (by omega) ?_
      refine xV3 rfl (by exact rfl) (by simp) ((H c M hR).2.2.2.2.1 _ _ (hs _) (hs _)) (fun r1 M1 hq => ?_)
      obtain ⟨nn, r2, M2, ev, ⟨z, hz, rfl, rfl⟩, h'⟩ := hq
      iterate 1 (first | refine xG_getI rfl (by exact rfl) (by exact rfl) ?_ | refine xG_getR rfl (by exact rfl) (by exact rfl) ?_ | refine xG_add rfl ?_ | refine xG_sub rfl ?_ | refine xG_mul rfl ?_ | refine xG_putI rfl (by exact rfl) (by exact rfl) ?_ | refine xG_go (fun _ => rfl) ?_)
      iterate 4 (first | refine xG_getI rfl (by exact rfl) (by exact rfl) ?_ | refine xG_getR rfl (by exact rfl) (by exact rfl) ?_ | refine xG_add rfl ?_ | refine xG_sub rfl ?_ | refine xG_mul rfl ?_ | refine xG_putI rfl (by exact rfl) (by exact rfl) ?_ | refine xG_go (fun _ => rfl) ?_)
      refine xG_sld rfl (by omega) ?_
      iterate 4 (first | refine xG_getI rfl (by exact rfl) (by exact rfl) ?_ | refine xG_getR rfl (by exact rfl) (by exact rfl) ?_ | refine xG_add rfl ?_ | refine xG_sub rfl ?_ | refine xG_mul rfl ?_ | refine xG_putI rfl (by exact rfl) (by exact rfl) ?_ | refine xG_go (fun _ => rfl) ?_)
      refine xG_sld rfl (by omega) ?_
      refine xV3 rfl (by exact rfl) (by simp) (show xC sc 30 n_Mod_can [mR 143, mI (sc.2 (4 * (c : Int) + 1).toNat), mI (sc.2 (4 * (c : Int) + 2).toNat)] M1 (fun r M' => r = some (mI z) ∧ R (c + 1) M') from ⟨nn, _, M2, ev, rfl, h'⟩) (fun r M' hq => ?_)
      obtain ⟨rfl, h'⟩ := hq
      refine xb_eq rfl hz hz (fun _ => ?_) (fun c1 => absurd rfl c1)
      exact step M' h'
    · iterate 2 (first | refine xG_getI rfl (by exact rfl) (by exact rfl) ?_ | refine xG_getR rfl (by exact rfl) (by exact rfl) ?_ | refine xG_add rfl ?_ | refine xG_sub rfl ?_ | refine xG_mul rfl ?_ | refine xG_putI rfl (by exact rfl) (by exact rfl) ?_ | refine xG_go (fun _ => rfl) ?_)
      refine xV1 rfl (by exact rfl) (by simp) (H c M hR).2.2.2.2.2 (fun r1 M1 hq => ?_)
      obtain ⟨nn, r2, M2, ev, ⟨z, hz, rfl, rfl⟩, h'⟩ := hq
      iterate 1 (first | refine xG_getI rfl (by exact rfl) (by exact rfl) ?_ | refine xG_getR rfl (by exact rfl) (by exact rfl) ?_ | refine xG_add rfl ?_ | refine xG_sub rfl ?_ | refine xG_mul rfl ?_ | refine xG_putI rfl (by exact rfl) (by exact rfl) ?_ | refine xG_go (fun _ => rfl) ?_)
      refine xV1 rfl (by exact rfl) (by simp) (show xC sc 30 n_Mod_next [mR 143] M1 (fun r M' => r = some (mI z) ∧ R (c + 1) M') from ⟨nn, _, M2, ev, rfl, h'⟩) (fun r M' hq => ?_)
      obtain ⟨rfl, h'⟩ := hq
      refine xb_eq rfl hz hz (fun _ => ?_) (fun c1 => absurd rfl c1)
      exact step M' h'
    · iterate 2 (first | refine xG_getI rfl (by exact rfl) (by exact rfl) ?_ | refine xG_getR rfl (by exact rfl) (by exact rfl) ?_ | refine xG_add rfl ?_ | refine xG_sub rfl ?_ | refine xG_mul rfl ?_ | refine xG_putI rfl (by exact rfl) (by exact rfl) ?_ | refine xG_go (fun _ => rfl) ?_)
      iterate 4 (first | refine xG_getI rfl (by exact rfl) (by exact rfl) ?_ | refine xG_getR rfl (by exact rfl) (by exact rfl) ?_ | refine xG_add rfl ?_ | refine xG_sub rfl ?_ | refine xG_mul rfl ?_ | refine xG_putI rfl (by exact rfl) (by exact rfl) ?_ | refine xG_go (fun _ => rfl) ?_)
      refine xG_sld rfl (by omega) ?_
      iterate 4 (first | refine xG_getI rfl (by exact rfl) (by exact rfl) ?_ | refine xG_getR rfl (by exact rfl) (by exact rfl) ?_ | refine xG_add rfl ?_ | refine xG_sub rfl ?_ | refine xG_mul rfl ?_ | refine xG_putI rfl (by exact rfl) (by exact rfl) ?_ | refine xG_go (fun _ => rfl) ?_)
      refine xG_sld rfl (by omega) ?_
      refine xV3 rfl (by exact rfl) (by simp) (b_rate (hs _) (hs _) hR) (fun r1 M1 hq => ?_)
      obtain ⟨nn, r2, M2, ev, ⟨z, hz, rfl, rfl⟩, h'⟩ := hq
      iterate 1 (first | refine xG_getI rfl (by exact rfl) (by exact rfl) ?_ | refine xG_getR rfl (by exact rfl) (by exact rfl) ?_ | refine xG_add rfl ?_ | refine xG_sub rfl ?_ | refine xG_mul rfl ?_ | refine xG_putI rfl (by exact rfl) (by exact rfl) ?_ | refine xG_go (fun _ => rfl) ?_)
      iterate 4 (first | refine xG_getI rfl (by exact rfl) (by exact rfl) ?_ | refine xG_getR rfl (by exact rfl) (by exact rfl) ?_ | refine xG_add rfl ?_ | refine xG_sub rfl ?_ | refine xG_mul rfl ?_ | refine xG_putI rfl (by exact rfl) (by exact rfl) ?_ | refine xG_go (fun _ => rfl) ?_)
      refine xG_sld rfl (by omega) ?_
      iterate 4 (first | refine xG_getI rfl (by exact rfl) (by exact rfl) ?_ | refine xG_getR rfl (by exact rfl) (by exact rfl) ?_ | refine xG_add rfl ?_ | refine xG_sub rfl ?_ | refine xG_mul rfl ?_ | refine xG_putI rfl (by exact rfl) (by exact rfl) ?_ | refine xG_go (fun _ => rfl) ?_)
      refine xG_sld rfl (by omega) ?_
      refine xV3 rfl (by exact rfl) (by simp) (show xC sc 30 n_Mod_rate [mR 143, mI (sc.2 (4 * (c : Int) + 1).toNat), mI (sc.2 (4 * (c : Int) + 2).toNat)] M1 (fun r M' => r = some (mI z) ∧ R (c + 1) M') from ⟨nn, _, M2, ev, rfl, h'⟩) (fun r M' hq => ?_)
      obtain ⟨rfl, h'⟩ := hq
      refine xb_eq rfl hz hz (fun _ => ?_) (fun c1 => absurd rfl c1)
      exact step M' h'
    · iterate 2 (first | refine xG_getI rfl (by exact rfl) (by exact rfl) ?_ | refine xG_getR rfl (by exact rfl) (by exact rfl) ?_ | refine xG_add rfl ?_ | refine xG_sub rfl ?_ | refine xG_mul rfl ?_ | refine xG_putI rfl (by exact rfl) (by exact rfl) ?_ | refine xG_go (fun _ => rfl) ?_)
      iterate 4 (first | refine xG_getI rfl (by exact rfl) (by exact rfl) ?_ | refine xG_getR rfl (by exact rfl) (by exact rfl) ?_ | refine xG_add rfl ?_ | refine xG_sub rfl ?_ | refine xG_mul rfl ?_ | refine xG_putI rfl (by exact rfl) (by exact rfl) ?_ | refine xG_go (fun _ => rfl) ?_)
      refine xG_sld rfl (by omega) ?_
      refine xV2 rfl (by exact rfl) (by simp) (b_keep (hs _) hR) (fun r1 M1 hq => ?_)
      obtain ⟨nn, r2, M2, ev, ⟨z, hz, rfl, rfl⟩, h'⟩ := hq
      iterate 1 (first | refine xG_getI rfl (by exact rfl) (by exact rfl) ?_ | refine xG_getR rfl (by exact rfl) (by exact rfl) ?_ | refine xG_add rfl ?_ | refine xG_sub rfl ?_ | refine xG_mul rfl ?_ | refine xG_putI rfl (by exact rfl) (by exact rfl) ?_ | refine xG_go (fun _ => rfl) ?_)
      iterate 4 (first | refine xG_getI rfl (by exact rfl) (by exact rfl) ?_ | refine xG_getR rfl (by exact rfl) (by exact rfl) ?_ | refine xG_add rfl ?_ | refine xG_sub rfl ?_ | refine xG_mul rfl ?_ | refine xG_putI rfl (by exact rfl) (by exact rfl) ?_ | refine xG_go (fun _ => rfl) ?_)
      refine xG_sld rfl (by omega) ?_
      refine xV2 rfl (by exact rfl) (by simp) (show xC sc 30 n_Mod_keep [mR 143, mI (sc.2 (4 * (c : Int) + 1).toNat)] M1 (fun r M' => r = some (mI z) ∧ R (c + 1) M') from ⟨nn, _, M2, ev, rfl, h'⟩) (fun r M' hq => ?_)
      obtain ⟨rfl, h'⟩ := hq
      refine xb_eq rfl hz hz (fun _ => ?_) (fun c1 => absurd rfl c1)
      exact step M' h'
    · iterate 2 (first | refine xG_getI rfl (by exact rfl) (by exact rfl) ?_ | refine xG_getR rfl (by exact rfl) (by exact rfl) ?_ | refine xG_add rfl ?_ | refine xG_sub rfl ?_ | refine xG_mul rfl ?_ | refine xG_putI rfl (by exact rfl) (by exact rfl) ?_ | refine xG_go (fun _ => rfl) ?_)
      iterate 4 (first | refine xG_getI rfl (by exact rfl) (by exact rfl) ?_ | refine xG_getR rfl (by exact rfl) (by exact rfl) ?_ | refine xG_add rfl ?_ | refine xG_sub rfl ?_ | refine xG_mul rfl ?_ | refine xG_putI rfl (by exact rfl) (by exact rfl) ?_ | refine xG_go (fun _ => rfl) ?_)
      refine xG_sld rfl (by omega) ?_
      refine xV2 rfl (by exact rfl) (by simp) (b_back (hs _) hR) (fun r1 M1 hq => ?_)
      obtain ⟨nn, r2, M2, ev, ⟨z, hz, rfl, rfl⟩, h'⟩ := hq
      iterate 1 (first | refine xG_getI rfl (by exact rfl) (by exact rfl) ?_ | refine xG_getR rfl (by exact rfl) (by exact rfl) ?_ | refine xG_add rfl ?_ | refine xG_sub rfl ?_ | refine xG_mul rfl ?_ | refine xG_putI rfl (by exact rfl) (by exact rfl) ?_ | refine xG_go (fun _ => rfl) ?_)
      iterate 4 (first | refine xG_getI rfl (by exact rfl) (by exact rfl) ?_ | refine xG_getR rfl (by exact rfl) (by exact rfl) ?_ | refine xG_add rfl ?_ | refine xG_sub rfl ?_ | refine xG_mul rfl ?_ | refine xG_putI rfl (by exact rfl) (by exact rfl) ?_ | refine xG_go (fun _ => rfl) ?_)
      refine xG_sld rfl (by omega) ?_
      refine xV2 rfl (by exact rfl) (by simp) (show xC sc 30 n_Mod_back [mR 143, mI (sc.2 (4 * (c : Int) + 1).toNat)] M1 (fun r M' => r = some (mI z) ∧ R (c + 1) M') from ⟨nn, _, M2, ev, rfl, h'⟩) (fun r M' hq => ?_)
      obtain ⟨rfl, h'⟩ := hq
      refine xb_eq rfl hz hz (fun _ => ?_) (fun c1 => absurd rfl c1)
      exact step M' h'
    · iterate 2 (first | refine xG_getI rfl (by exact rfl) (by exact rfl) ?_ | refine xG_getR rfl (by exact rfl) (by exact rfl) ?_ | refine xG_add rfl ?_ | refine xG_sub rfl ?_ | refine xG_mul rfl ?_ | refine xG_putI rfl (by exact rfl) (by exact rfl) ?_ | refine xG_go (fun _ => rfl) ?_)
      iterate 4 (first | refine xG_getI rfl (by exact rfl) (by exact rfl) ?_ | refine xG_getR rfl (by exact rfl) (by exact rfl) ?_ | refine xG_add rfl ?_ | refine xG_sub rfl ?_ | refine xG_mul rfl ?_ | refine xG_putI rfl (by exact rfl) (by exact rfl) ?_ | refine xG_go (fun _ => rfl) ?_)
      refine xG_sld rfl (by omega) ?_
      refine xV2 rfl (by exact rfl) (by simp) (b_count (hs _) hR) (fun r1 M1 hq => ?_)
      obtain ⟨nn, r2, M2, ev, ⟨z, hz, rfl, rfl⟩, h'⟩ := hq
      iterate 1 (first | refine xG_getI rfl (by exact rfl) (by exact rfl) ?_ | refine xG_getR rfl (by exact rfl) (by exact rfl) ?_ | refine xG_add rfl ?_ | refine xG_sub rfl ?_ | refine xG_mul rfl ?_ | refine xG_putI rfl (by exact rfl) (by exact rfl) ?_ | refine xG_go (fun _ => rfl) ?_)
      iterate 4 (first | refine xG_getI rfl (by exact rfl) (by exact rfl) ?_ | refine xG_getR rfl (by exact rfl) (by exact rfl) ?_ | refine xG_add rfl ?_ | refine xG_sub rfl ?_ | refine xG_mul rfl ?_ | refine xG_putI rfl (by exact rfl) (by exact rfl) ?_ | refine xG_go (fun _ => rfl) ?_)
      refine xG_sld rfl (by omega) ?_
      refine xV2 rfl (by exact rfl) (by simp) (show xC sc 30 n_Mod_count [mR 143, mI (sc.2 (4 * (c : Int) + 1).toNat)] M1 (fun r M' => r = some (mI z) ∧ R (c + 1) M') from ⟨nn, _, M2, ev, rfl, h'⟩) (fun r M' hq => ?_)
      obtain ⟨rfl, h'⟩ := hq
      refine xb_eq rfl hz hz (fun _ => ?_) (fun c1 => absurd rfl c1)
      exact step M' h'
    · iterate 2 (first | refine xG_getI rfl (by exact rfl) (by exact rfl) ?_ | refine xG_getR rfl (by exact rfl) (by exact rfl) ?_ | refine xG_add rfl ?_ | refine xG_sub rfl ?_ | refine xG_mul rfl ?_ | refine xG_putI rfl (by exact rfl) (by exact rfl) ?_ | refine xG_go (fun _ => rfl) ?_)
      refine xV1 rfl (by exact rfl) (by simp) (b_trace hR) (fun r1 M1 hq => ?_)
      obtain ⟨nn, r2, M2, ev, ⟨rfl, rfl⟩, h'⟩ := hq
      iterate 1 (first | refine xG_getI rfl (by exact rfl) (by exact rfl) ?_ | refine xG_getR rfl (by exact rfl) (by exact rfl) ?_ | refine xG_add rfl ?_ | refine xG_sub rfl ?_ | refine xG_mul rfl ?_ | refine xG_putI rfl (by exact rfl) (by exact rfl) ?_ | refine xG_go (fun _ => rfl) ?_)
      refine xV1 rfl (by exact rfl) (by simp) (show xC sc 30 n_Mod_trace [mR 143] M1 (fun r M' => r = some (mL (M 132 2)) ∧ R (c + 1) M') from ⟨nn, _, M2, ev, rfl, h'⟩) (fun r M' hq => ?_)
      obtain ⟨rfl, h'⟩ := hq
      have t1 := hR.2.2.2.2.2.2.1.2
      have t2 : mv_in8 (M 132 2) := by unfold mv_in8; omega
      refine xG_by rfl (pc1 := 813) (L1 := [some (mR 9999), some (mR 0), some (mR 143), some (mI (4 * (c : Int)))]) (S1 := [mI 0]) (M1 := M') (fun call => ?_) ?_
      · simp only [mv_stp, Option.toList, List.append, List.cons_append, List.nil_append, List.singleton_append]
        rw [if_pos ⟨t2, t2⟩, if_neg (by omega), if_pos trivial]
        rfl
      · refine xe0 rfl ?_
        exact step M' h'
end YZ
