/-! WHAT ONE MAY LIKE: the reference's isSo, the class's spreads and isAsKnown -/
section YQ
variable {sc : Nat × (Nat → Int)} {d c : Nat} {M : mv_M}
theorem m_isSo {num n : Nat} (hnum : num ≤ 3000) (h6 : n ≤ 6) (en : M 143 12 = n) (hf : ∀ i, i < n → (0 ≤ M 151 (3 * i) ∧ M 151 (3 * i) < 4) ∧ (0 ≤ M 151 (3 * i + 1) ∧ M 151 (3 * i + 1) < 4) ∧ (-1 ≤ M 151 (3 * i + 2) ∧ M 151 (3 * i + 2) ≤ 1)) : xC sc (d + 4) n_Mod_isSo [mR 143, mI num] M (fun r M' => M = M' ∧ r = some (mI (b01 (isso (lkin num) (fun i => M 151 (3 * i)) (fun i => M 151 (3 * i + 1)) (fun i => M 151 (3 * i + 2)) n = true)))) := by
  refine xC_in rfl rfl (by simp; decide) ?_
  iterate 4 (first | refine xG_getI rfl (by exact rfl) (by exact rfl) ?_ | refine xG_getR rfl (by exact rfl) (by exact rfl) ?_ | refine xG_add rfl ?_ | refine xG_sub rfl ?_ | refine xG_mul rfl ?_ | refine xG_putI rfl (by exact rfl) (by exact rfl) ?_ | refine xG_go (fun _ => rfl) ?_)
  have key := l_isSo (sc := sc) (d := d) hnum h6 en hf n 0 (by omega)
  rw [b01_t (p := isso (lkin num) (fun i => M 151 (3 * i)) (fun i => M 151 (3 * i + 1)) (fun i => M 151 (3 * i + 2)) 0 = true) rfl] at key
  exact key
theorem l_isAsKnown {row : Nat → Int} {n tu : Nat} (ht : tu ≤ 4) (h6 : n ≤ 6) (en : M 120 4 = n) (hr : ∀ t, t < tu → M 124 t = row t ∧ -3 ≤ row t ∧ row t ≤ 3) (hf : ∀ i, i < n → (0 ≤ M 121 i ∧ M 121 i < tu) ∧ (0 ≤ M 122 i ∧ M 122 i < tu) ∧ (-1 ≤ M 123 i ∧ M 123 i ≤ 1)) : ∀ (k j : Nat), j + k = n → isso row (M 121) (M 122) (M 123) j = true → xG sc (d + 1) y_Likings_isAsKnown 2 [some (mR 120), some (mI j)] [] M (fun r M' => M = M' ∧ r = some (mI (b01 (isso row (M 121) (M 122) (M 123) n = true)))) := by
  intro k
  induction k with
  | zero =>
    intro j hk hj
    have : j = n := by omega
    subst this
    iterate 3 (first | refine xG_getI rfl (by exact rfl) (by exact rfl) ?_ | refine xG_getR rfl (by exact rfl) (by exact rfl) ?_ | refine xG_add rfl ?_ | refine xG_sub rfl ?_ | refine xG_mul rfl ?_ | refine xG_putI rfl (by exact rfl) (by exact rfl) ?_ | refine xG_go (fun _ => rfl) ?_)
    rw [en]
    refine xb_ge rfl (by omega) (by omega) (fun _ => ?_) (fun c1 => absurd c1 (by omega))
    iterate 1 (first | refine xG_getI rfl (by exact rfl) (by exact rfl) ?_ | refine xG_getR rfl (by exact rfl) (by exact rfl) ?_ | refine xG_add rfl ?_ | refine xG_sub rfl ?_ | refine xG_mul rfl ?_ | refine xG_putI rfl (by exact rfl) (by exact rfl) ?_ | refine xG_go (fun _ => rfl) ?_)
    exact xG_ret (fun _ => rfl) ⟨rfl, by rw [b01_t hj]⟩
  | succ k ih =>
    intro j hk hj
    obtain ⟨f1, f2, f3⟩ := hf j (by omega)
    iterate 3 (first | refine xG_getI rfl (by exact rfl) (by exact rfl) ?_ | refine xG_getR rfl (by exact rfl) (by exact rfl) ?_ | refine xG_add rfl ?_ | refine xG_sub rfl ?_ | refine xG_mul rfl ?_ | refine xG_putI rfl (by exact rfl) (by exact rfl) ?_ | refine xG_go (fun _ => rfl) ?_)
    rw [en]
    refine xb_ge rfl (by omega) (by omega) (fun c1 => absurd c1 (by omega)) (fun _ => ?_)
    iterate 5 (first | refine xG_getI rfl (by exact rfl) (by exact rfl) ?_ | refine xG_getR rfl (by exact rfl) (by exact rfl) ?_ | refine xG_add rfl ?_ | refine xG_sub rfl ?_ | refine xG_mul rfl ?_ | refine xG_putI rfl (by exact rfl) (by exact rfl) ?_ | refine xG_go (fun _ => rfl) ?_)
    refine xG_ald rfl (by exact rfl) (by omega) ?_
    rw [Int.toNat_natCast]
    refine xG_ald rfl (by exact rfl) (by omega) ?_
    iterate 5 (first | refine xG_getI rfl (by exact rfl) (by exact rfl) ?_ | refine xG_getR rfl (by exact rfl) (by exact rfl) ?_ | refine xG_add rfl ?_ | refine xG_sub rfl ?_ | refine xG_mul rfl ?_ | refine xG_putI rfl (by exact rfl) (by exact rfl) ?_ | refine xG_go (fun _ => rfl) ?_)
    refine xG_ald rfl (by exact rfl) (by omega) ?_
    rw [Int.toNat_natCast]
    refine xG_ald rfl (by exact rfl) (by omega) ?_
    have r1 := hr (M 121 j).toNat (by omega)
    have r2 := hr (M 122 j).toNat (by omega)
    rw [r1.1, r2.1]
    iterate 2 (first | refine xG_getI rfl (by exact rfl) (by exact rfl) ?_ | refine xG_getR rfl (by exact rfl) (by exact rfl) ?_ | refine xG_add rfl ?_ | refine xG_sub rfl ?_ | refine xG_mul rfl ?_ | refine xG_putI rfl (by exact rfl) (by exact rfl) ?_ | refine xG_go (fun _ => rfl) ?_)
    refine xS2 rfl (by decide) (by simp) (c_compare (by omega) (by decide)) (fun r M' hq => ?_)
    obtain ⟨rfl, rfl⟩ := hq
    rw [Int.sub_zero]
    iterate 3 (first | refine xG_getI rfl (by exact rfl) (by exact rfl) ?_ | refine xG_getR rfl (by exact rfl) (by exact rfl) ?_ | refine xG_add rfl ?_ | refine xG_sub rfl ?_ | refine xG_mul rfl ?_ | refine xG_putI rfl (by exact rfl) (by exact rfl) ?_ | refine xG_go (fun _ => rfl) ?_)
    refine xG_ald rfl (by exact rfl) (by omega) ?_
    rw [Int.toNat_natCast]
    have l3 := sg_in (row (M 121 j).toNat + row (M 122 j).toNat)
    refine xb_eq rfl (by omega) (by omega) (fun c1 => ?_) (fun c1 => ?_)
    · iterate 2 (first | refine xG_getI rfl (by exact rfl) (by exact rfl) ?_ | refine xG_getR rfl (by exact rfl) (by exact rfl) ?_ | refine xG_add rfl ?_ | refine xG_sub rfl ?_ | refine xG_mul rfl ?_ | refine xG_putI rfl (by exact rfl) (by exact rfl) ?_ | refine xG_go (fun _ => rfl) ?_)
      exact ih (j + 1) (by omega) (isso_s.2 ⟨hj, c1⟩)
    · iterate 1 (first | refine xG_getI rfl (by exact rfl) (by exact rfl) ?_ | refine xG_getR rfl (by exact rfl) (by exact rfl) ?_ | refine xG_add rfl ?_ | refine xG_sub rfl ?_ | refine xG_mul rfl ?_ | refine xG_putI rfl (by exact rfl) (by exact rfl) ?_ | refine xG_go (fun _ => rfl) ?_)
      refine xG_ret (fun _ => rfl) ⟨rfl, ?_⟩
      have no : ∀ q, j + 1 + q ≤ n → ¬ isso row (M 121) (M 122) (M 123) (j + 1 + q) = true := by
        intro q
        induction q with
        | zero => intro _ z; exact c1 (isso_s.1 z).2
        | succ q iq => intro hq z; exact iq (by omega) (isso_s.1 z).1
      have := no (n - (j + 1)) (by omega)
      rw [show j + 1 + (n - (j + 1)) = n by omega] at this
      rw [b01_f this]
end YQ
