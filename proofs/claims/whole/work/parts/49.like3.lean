/-! WHAT ONE MAY LIKE: the class's spreads -/
section YR
variable {sc : Nat × (Nat → Int)} {d c : Nat} {M : mv_M}
theorem c_isAsKnown {row : Nat → Int} {n tu : Nat} (ht : tu ≤ 4) (h6 : n ≤ 6) (en : M 120 4 = n) (hr : ∀ t, t < tu → M 124 t = row t ∧ -3 ≤ row t ∧ row t ≤ 3) (hf : ∀ i, i < n → (0 ≤ M 121 i ∧ M 121 i < tu) ∧ (0 ≤ M 122 i ∧ M 122 i < tu) ∧ (-1 ≤ M 123 i ∧ M 123 i ≤ 1)) : xC sc (d + 2) n_Likings_isAsKnown [mR 120] M (fun r M' => M = M' ∧ r = some (mI (b01 (isso row (M 121) (M 122) (M 123) n = true)))) := by
  refine xC_in rfl rfl (by simp; decide) ?_
  iterate 2 (first | refine xG_getI rfl (by exact rfl) (by exact rfl) ?_ | refine xG_getR rfl (by exact rfl) (by exact rfl) ?_ | refine xG_add rfl ?_ | refine xG_sub rfl ?_ | refine xG_mul rfl ?_ | refine xG_putI rfl (by exact rfl) (by exact rfl) ?_ | refine xG_go (fun _ => rfl) ?_)
  exact l_isAsKnown ht h6 en hr hf n 0 (by omega) rfl
def sprow (M : mv_M) (num j : Nat) : Nat → Int := fun i => if i < j then lkin num i else M 124 i
theorem l_spreads {num tu : Nat} (hnum : num ≤ 3000) (ht : tu ≤ 4) (et : M 4 1 = tu) : ∀ (k j : Nat), j + k = tu → xG sc d y_Likings_spreads 4 [some (mR 120), some (mI num), some (mI ((num / 7 ^ j : Nat) : Int)), some (mI j)] [] (mv_row M 124 (sprow M num j)) (fun r M' => r = none ∧ M' = mv_row M 124 (sprow M num tu)) := by
  have e4 : ∀ g, mv_row M 124 g 4 = M 4 := fun g => mv_row_ne (by decide)
  intro k
  induction k with
  | zero =>
    intro j hk
    have : j = tu := by omega
    subst this
    iterate 4 (first | refine xG_getI rfl (by exact rfl) (by exact rfl) ?_ | refine xG_getR rfl (by exact rfl) (by exact rfl) ?_ | refine xG_add rfl ?_ | refine xG_sub rfl ?_ | refine xG_mul rfl ?_ | refine xG_putI rfl (by exact rfl) (by exact rfl) ?_ | refine xG_go (fun _ => rfl) ?_)
    rw [e4, et]
    refine xb_ge rfl (by omega) (by omega) (fun _ => ?_) (fun c1 => absurd c1 (by omega))
    exact xG_ret (fun _ => rfl) ⟨rfl, rfl⟩
  | succ k ih =>
    intro j hk
    have b : num / 7 ^ j ≤ num := Nat.div_le_self _ _
    have b1 : (0 : Int) ≤ ((num / 7 ^ j : Nat) : Int) := Int.natCast_nonneg _
    have b2 : ((num / 7 ^ j : Nat) : Int) ≤ 2147483647 := Int.le_trans (Int.ofNat_le.2 (Nat.le_trans b hnum)) (by decide)
    iterate 4 (first | refine xG_getI rfl (by exact rfl) (by exact rfl) ?_ | refine xG_getR rfl (by exact rfl) (by exact rfl) ?_ | refine xG_add rfl ?_ | refine xG_sub rfl ?_ | refine xG_mul rfl ?_ | refine xG_putI rfl (by exact rfl) (by exact rfl) ?_ | refine xG_go (fun _ => rfl) ?_)
    rw [e4, et]
    refine xb_ge rfl (by omega) (by omega) (fun c1 => absurd c1 (by omega)) (fun _ => ?_)
    iterate 5 (first | refine xG_getI rfl (by exact rfl) (by exact rfl) ?_ | refine xG_getR rfl (by exact rfl) (by exact rfl) ?_ | refine xG_add rfl ?_ | refine xG_sub rfl ?_ | refine xG_mul rfl ?_ | refine xG_putI rfl (by exact rfl) (by exact rfl) ?_ | refine xG_go (fun _ => rfl) ?_)
    refine xG_rem rfl ⟨b1, b2, by decide, by decide⟩ ?_
    iterate 2 (first | refine xG_getI rfl (by exact rfl) (by exact rfl) ?_ | refine xG_getR rfl (by exact rfl) (by exact rfl) ?_ | refine xG_add rfl ?_ | refine xG_sub rfl ?_ | refine xG_mul rfl ?_ | refine xG_putI rfl (by exact rfl) (by exact rfl) ?_ | refine xG_go (fun _ => rfl) ?_)
    refine xG_ast rfl (by exact rfl) (by omega) ?_
    rw [mv_up_row, Int.toNat_natCast]
    iterate 2 (first | refine xG_getI rfl (by exact rfl) (by exact rfl) ?_ | refine xG_getR rfl (by exact rfl) (by exact rfl) ?_ | refine xG_add rfl ?_ | refine xG_sub rfl ?_ | refine xG_mul rfl ?_ | refine xG_putI rfl (by exact rfl) (by exact rfl) ?_ | refine xG_go (fun _ => rfl) ?_)
    refine xG_div rfl ⟨b1, b2, by decide, by decide⟩ ?_
    iterate 3 (first | refine xG_getI rfl (by exact rfl) (by exact rfl) ?_ | refine xG_getR rfl (by exact rfl) (by exact rfl) ?_ | refine xG_add rfl ?_ | refine xG_sub rfl ?_ | refine xG_mul rfl ?_ | refine xG_putI rfl (by exact rfl) (by exact rfl) ?_ | refine xG_go (fun _ => rfl) ?_)
    have e : (fun i => if i = j then ((num / 7 ^ j : Nat) : Int) % 7 - 3 else sprow M num j i) = sprow M num (j + 1) := by
      funext i
      unfold sprow
      by_cases w : i = j
      · subst w
        rw [if_pos rfl, if_pos (by omega)]
        unfold lkin
        rw [Int.natCast_emod]
        rfl
      · rw [if_neg w]
        by_cases v : i < j
        · rw [if_pos v, if_pos (by omega)]
        · rw [if_neg v, if_neg (by omega)]
    have f : ((num / 7 ^ j : Nat) : Int) / 7 = ((num / 7 ^ (j + 1) : Nat) : Int) := by
      rw [Nat.pow_succ, ← Nat.div_div_eq_div_mul, Int.natCast_ediv (num / 7 ^ j) 7]
      rfl
    rw [e, f]
    exact ih (j + 1) (by omega)
theorem c_spreads {num tu : Nat} (hnum : num ≤ 3000) (ht : tu ≤ 4) (et : M 4 1 = tu) : xC sc (d + 1) n_Likings_spreads [mR 120, mI num] M (fun r M' => r = none ∧ M' = mv_row M 124 (sprow M num tu)) := by
  refine xC_in rfl rfl (by simp; decide) ?_
  iterate 4 (first | refine xG_getI rfl (by exact rfl) (by exact rfl) ?_ | refine xG_getR rfl (by exact rfl) (by exact rfl) ?_ | refine xG_add rfl ?_ | refine xG_sub rfl ?_ | refine xG_mul rfl ?_ | refine xG_putI rfl (by exact rfl) (by exact rfl) ?_ | refine xG_go (fun _ => rfl) ?_)
  have key := l_spreads (sc := sc) (d := d) (M := M) hnum ht et tu 0 (by omega)
  rw [← show M = mv_row M 124 (sprow M num 0) from (mv_row_self (fun i => by unfold sprow; rw [if_neg (by omega)])).symm, Nat.pow_zero, Nat.div_one] at key
  exact key
end YR
