/-! THE REFERENCE: powers -/
section YO
variable {sc : Nat × (Nat → Int)} {d c : Nat} {M : mv_M}
theorem l_sevens {n : Nat} (hn : n ≤ 6) : ∀ (k j : Nat), j + k = n → xG sc d y_Mod_sevens 4 [some (mI n), some (mI (7 ^ j)), some (mI j)] [] M (fun r M' => M = M' ∧ r = some (mI (7 ^ n))) := by
  intro k
  induction k with
  | zero =>
    intro j hk
    have : j = n := by omega
    subst this
    iterate 2 (first | refine xG_getI rfl (by exact rfl) (by exact rfl) ?_ | refine xG_getR rfl (by exact rfl) (by exact rfl) ?_ | refine xG_add rfl ?_ | refine xG_sub rfl ?_ | refine xG_mul rfl ?_ | refine xG_putI rfl (by exact rfl) (by exact rfl) ?_ | refine xG_go (fun _ => rfl) ?_)
    refine xb_ge rfl (by omega) (by omega) (fun _ => ?_) (fun c1 => absurd c1 (by omega))
    iterate 1 (first | refine xG_getI rfl (by exact rfl) (by exact rfl) ?_ | refine xG_getR rfl (by exact rfl) (by exact rfl) ?_ | refine xG_add rfl ?_ | refine xG_sub rfl ?_ | refine xG_mul rfl ?_ | refine xG_putI rfl (by exact rfl) (by exact rfl) ?_ | refine xG_go (fun _ => rfl) ?_)
    exact xG_ret (fun _ => rfl) ⟨rfl, rfl⟩
  | succ k ih =>
    intro j hk
    iterate 2 (first | refine xG_getI rfl (by exact rfl) (by exact rfl) ?_ | refine xG_getR rfl (by exact rfl) (by exact rfl) ?_ | refine xG_add rfl ?_ | refine xG_sub rfl ?_ | refine xG_mul rfl ?_ | refine xG_putI rfl (by exact rfl) (by exact rfl) ?_ | refine xG_go (fun _ => rfl) ?_)
    refine xb_ge rfl (by omega) (by omega) (fun c1 => absurd c1 (by omega)) (fun _ => ?_)
    iterate 6 (first | refine xG_getI rfl (by exact rfl) (by exact rfl) ?_ | refine xG_getR rfl (by exact rfl) (by exact rfl) ?_ | refine xG_add rfl ?_ | refine xG_sub rfl ?_ | refine xG_mul rfl ?_ | refine xG_putI rfl (by exact rfl) (by exact rfl) ?_ | refine xG_go (fun _ => rfl) ?_)
    have key := ih (j + 1) (by omega)
    rw [show (7 : Int) ^ (j + 1) = 7 ^ j * 7 from rfl] at key
    exact key
theorem m_sevens {n : Nat} (hn : n ≤ 6) : xC sc (d + 1) n_Mod_sevens [mI n] M (fun r M' => M = M' ∧ r = some (mI (7 ^ n))) := by
  refine xC_in rfl rfl (by simp; decide) ?_
  iterate 4 (first | refine xG_getI rfl (by exact rfl) (by exact rfl) ?_ | refine xG_getR rfl (by exact rfl) (by exact rfl) ?_ | refine xG_add rfl ?_ | refine xG_sub rfl ?_ | refine xG_mul rfl ?_ | refine xG_putI rfl (by exact rfl) (by exact rfl) ?_ | refine xG_go (fun _ => rfl) ?_)
  exact l_sevens hn n 0 (by omega)
theorem l_twelves {n : Nat} (hn : n ≤ 6) : ∀ (k j : Nat), j + k = n → xG sc d y_Mod_twelves 4 [some (mI n), some (mI (12 ^ j)), some (mI j)] [] M (fun r M' => M = M' ∧ r = some (mI (12 ^ n))) := by
  intro k
  induction k with
  | zero =>
    intro j hk
    have : j = n := by omega
    subst this
    iterate 2 (first | refine xG_getI rfl (by exact rfl) (by exact rfl) ?_ | refine xG_getR rfl (by exact rfl) (by exact rfl) ?_ | refine xG_add rfl ?_ | refine xG_sub rfl ?_ | refine xG_mul rfl ?_ | refine xG_putI rfl (by exact rfl) (by exact rfl) ?_ | refine xG_go (fun _ => rfl) ?_)
    refine xb_ge rfl (by omega) (by omega) (fun _ => ?_) (fun c1 => absurd c1 (by omega))
    iterate 1 (first | refine xG_getI rfl (by exact rfl) (by exact rfl) ?_ | refine xG_getR rfl (by exact rfl) (by exact rfl) ?_ | refine xG_add rfl ?_ | refine xG_sub rfl ?_ | refine xG_mul rfl ?_ | refine xG_putI rfl (by exact rfl) (by exact rfl) ?_ | refine xG_go (fun _ => rfl) ?_)
    exact xG_ret (fun _ => rfl) ⟨rfl, rfl⟩
  | succ k ih =>
    intro j hk
    iterate 2 (first | refine xG_getI rfl (by exact rfl) (by exact rfl) ?_ | refine xG_getR rfl (by exact rfl) (by exact rfl) ?_ | refine xG_add rfl ?_ | refine xG_sub rfl ?_ | refine xG_mul rfl ?_ | refine xG_putI rfl (by exact rfl) (by exact rfl) ?_ | refine xG_go (fun _ => rfl) ?_)
    refine xb_ge rfl (by omega) (by omega) (fun c1 => absurd c1 (by omega)) (fun _ => ?_)
    iterate 6 (first | refine xG_getI rfl (by exact rfl) (by exact rfl) ?_ | refine xG_getR rfl (by exact rfl) (by exact rfl) ?_ | refine xG_add rfl ?_ | refine xG_sub rfl ?_ | refine xG_mul rfl ?_ | refine xG_putI rfl (by exact rfl) (by exact rfl) ?_ | refine xG_go (fun _ => rfl) ?_)
    have key := ih (j + 1) (by omega)
    rw [show (12 : Int) ^ (j + 1) = 12 ^ j * 12 from rfl] at key
    exact key
theorem m_twelves {n : Nat} (hn : n ≤ 6) : xC sc (d + 1) n_Mod_twelves [mI n] M (fun r M' => M = M' ∧ r = some (mI (12 ^ n))) := by
  refine xC_in rfl rfl (by simp; decide) ?_
  iterate 4 (first | refine xG_getI rfl (by exact rfl) (by exact rfl) ?_ | refine xG_getR rfl (by exact rfl) (by exact rfl) ?_ | refine xG_add rfl ?_ | refine xG_sub rfl ?_ | refine xG_mul rfl ?_ | refine xG_putI rfl (by exact rfl) (by exact rfl) ?_ | refine xG_go (fun _ => rfl) ?_)
  exact l_twelves hn n 0 (by omega)
theorem l_threes {n : Nat} (hn : n ≤ 6) : ∀ (k j : Nat), j + k = n → xG sc d y_Mod_threes 4 [some (mI n), some (mI (3 ^ j)), some (mI j)] [] M (fun r M' => M = M' ∧ r = some (mI (3 ^ n))) := by
  intro k
  induction k with
  | zero =>
    intro j hk
    have : j = n := by omega
    subst this
    iterate 2 (first | refine xG_getI rfl (by exact rfl) (by exact rfl) ?_ | refine xG_getR rfl (by exact rfl) (by exact rfl) ?_ | refine xG_add rfl ?_ | refine xG_sub rfl ?_ | refine xG_mul rfl ?_ | refine xG_putI rfl (by exact rfl) (by exact rfl) ?_ | refine xG_go (fun _ => rfl) ?_)
    refine xb_ge rfl (by omega) (by omega) (fun _ => ?_) (fun c1 => absurd c1 (by omega))
    iterate 1 (first | refine xG_getI rfl (by exact rfl) (by exact rfl) ?_ | refine xG_getR rfl (by exact rfl) (by exact rfl) ?_ | refine xG_add rfl ?_ | refine xG_sub rfl ?_ | refine xG_mul rfl ?_ | refine xG_putI rfl (by exact rfl) (by exact rfl) ?_ | refine xG_go (fun _ => rfl) ?_)
    exact xG_ret (fun _ => rfl) ⟨rfl, rfl⟩
  | succ k ih =>
    intro j hk
    iterate 2 (first | refine xG_getI rfl (by exact rfl) (by exact rfl) ?_ | refine xG_getR rfl (by exact rfl) (by exact rfl) ?_ | refine xG_add rfl ?_ | refine xG_sub rfl ?_ | refine xG_mul rfl ?_ | refine xG_putI rfl (by exact rfl) (by exact rfl) ?_ | refine xG_go (fun _ => rfl) ?_)
    refine xb_ge rfl (by omega) (by omega) (fun c1 => absurd c1 (by omega)) (fun _ => ?_)
    iterate 6 (first | refine xG_getI rfl (by exact rfl) (by exact rfl) ?_ | refine xG_getR rfl (by exact rfl) (by exact rfl) ?_ | refine xG_add rfl ?_ | refine xG_sub rfl ?_ | refine xG_mul rfl ?_ | refine xG_putI rfl (by exact rfl) (by exact rfl) ?_ | refine xG_go (fun _ => rfl) ?_)
    have key := ih (j + 1) (by omega)
    rw [show (3 : Int) ^ (j + 1) = 3 ^ j * 3 from rfl] at key
    exact key
theorem m_threes {n : Nat} (hn : n ≤ 6) : xC sc (d + 1) n_Mod_threes [mI n] M (fun r M' => M = M' ∧ r = some (mI (3 ^ n))) := by
  refine xC_in rfl rfl (by simp; decide) ?_
  iterate 4 (first | refine xG_getI rfl (by exact rfl) (by exact rfl) ?_ | refine xG_getR rfl (by exact rfl) (by exact rfl) ?_ | refine xG_add rfl ?_ | refine xG_sub rfl ?_ | refine xG_mul rfl ?_ | refine xG_putI rfl (by exact rfl) (by exact rfl) ?_ | refine xG_go (fun _ => rfl) ?_)
  exact l_threes hn n 0 (by omega)
end YO
