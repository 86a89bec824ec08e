/-! WHAT ONE MAY LIKE: a number as a row -/
section YP
variable {sc : Nat × (Nat → Int)} {d c : Nat} {M : mv_M}
def lkin (num t : Nat) : Int := (num / 7 ^ t % 7 : Nat) - 3
theorem lkin_in (num t : Nat) : -3 ≤ lkin num t ∧ lkin num t ≤ 3 := by
  unfold lkin
  have := Nat.mod_lt (num / 7 ^ t) (show 7 > 0 by decide)
  omega
theorem pow7 {t : Nat} (ht : t < 4) : (0 : Int) < 7 ^ t ∧ (7 : Int) ^ t ≤ 343 := by
  rcases (show t = 0 ∨ t = 1 ∨ t = 2 ∨ t = 3 by omega) with rfl | rfl | rfl | rfl <;> decide
theorem m_likeIn {num t : Nat} (hn : num ≤ 3000) (ht : t < 4) : xC sc (d + 2) n_Mod_likeIn [mI num, mI t] M (fun r M' => M = M' ∧ r = some (mI (lkin num t))) := by
  have h7 := pow7 ht
  refine xC_in rfl rfl (by simp; decide) ?_
  iterate 2 (first | refine xG_getI rfl (by exact rfl) (by exact rfl) ?_ | refine xG_getR rfl (by exact rfl) (by exact rfl) ?_ | refine xG_add rfl ?_ | refine xG_sub rfl ?_ | refine xG_mul rfl ?_ | refine xG_putI rfl (by exact rfl) (by exact rfl) ?_ | refine xG_go (fun _ => rfl) ?_)
  refine xS1 rfl (by decide) (by simp) (m_sevens (show t ≤ 6 by omega)) (fun r M' hq => ?_)
  obtain ⟨rfl, rfl⟩ := hq
  refine xG_div rfl (by omega) ?_
  iterate 1 (first | refine xG_getI rfl (by exact rfl) (by exact rfl) ?_ | refine xG_getR rfl (by exact rfl) (by exact rfl) ?_ | refine xG_add rfl ?_ | refine xG_sub rfl ?_ | refine xG_mul rfl ?_ | refine xG_putI rfl (by exact rfl) (by exact rfl) ?_ | refine xG_go (fun _ => rfl) ?_)
  have e : (num : Int) / 7 ^ t = ((num / 7 ^ t : Nat) : Int) := by
    rw [Int.natCast_ediv, Int.natCast_pow]
    rfl
  have b : num / 7 ^ t ≤ num := Nat.div_le_self _ _
  rw [e]
  refine xG_rem rfl ⟨Int.natCast_nonneg _, Int.le_trans (Int.ofNat_le.2 (Nat.le_trans b hn)) (by decide), by decide, by decide⟩ ?_
  iterate 2 (first | refine xG_getI rfl (by exact rfl) (by exact rfl) ?_ | refine xG_getR rfl (by exact rfl) (by exact rfl) ?_ | refine xG_add rfl ?_ | refine xG_sub rfl ?_ | refine xG_mul rfl ?_ | refine xG_putI rfl (by exact rfl) (by exact rfl) ?_ | refine xG_go (fun _ => rfl) ?_)
  refine xG_ret (fun _ => rfl) ⟨rfl, ?_⟩
  unfold lkin
  rw [Int.natCast_emod]
  rfl
/-- what is known holds of a row, up to the i-th -/
def isso (row first second voted : Nat → Int) : Nat → Bool
  | 0 => true
  | i + 1 => isso row first second voted i && decide (sg (row (first i).toNat + row (second i).toNat) = voted i)
theorem isso_s {row first second voted : Nat → Int} {i : Nat} : isso row first second voted (i + 1) = true ↔ isso row first second voted i = true ∧ sg (row (first i).toNat + row (second i).toNat) = voted i := by
  simp [isso]
theorem l_isSo {num n : Nat} (hnum : num ≤ 3000) (h6 : n ≤ 6) (en : M 143 12 = n) (hf : ∀ i, i < n → (0 ≤ M 151 (3 * i) ∧ M 151 (3 * i) < 4) ∧ (0 ≤ M 151 (3 * i + 1) ∧ M 151 (3 * i + 1) < 4) ∧ (-1 ≤ M 151 (3 * i + 2) ∧ M 151 (3 * i + 2) ≤ 1)) : ∀ (k j : Nat), j + k = n → xG sc (d + 3) y_Mod_isSo 4 [some (mR 143), some (mI num), some (mI (b01 (isso (lkin num) (fun i => M 151 (3 * i)) (fun i => M 151 (3 * i + 1)) (fun i => M 151 (3 * i + 2)) j = true))), some (mI j)] [] M (fun r M' => M = M' ∧ r = some (mI (b01 (isso (lkin num) (fun i => M 151 (3 * i)) (fun i => M 151 (3 * i + 1)) (fun i => M 151 (3 * i + 2)) n = true)))) := by
  intro k
  induction k with
  | zero =>
    intro j hk
    have : j = n := by omega
    subst this
    iterate 3 (first | refine xG_getI rfl (by exact rfl) (by exact rfl) ?_ | refine xG_getR rfl (by exact rfl) (by exact rfl) ?_ | refine xG_add rfl ?_ | refine xG_sub rfl ?_ | refine xG_mul rfl ?_ | refine xG_putI rfl (by exact rfl) (by exact rfl) ?_ | refine xG_go (fun _ => rfl) ?_)
    rw [en]
    refine xb_ge rfl (by omega) (by omega) (fun _ => ?_) (fun c1 => absurd c1 (by omega))
    iterate 1 (first | refine xG_getI rfl (by exact rfl) (by exact rfl) ?_ | refine xG_getR rfl (by exact rfl) (by exact rfl) ?_ | refine xG_add rfl ?_ | refine xG_sub rfl ?_ | refine xG_mul rfl ?_ | refine xG_putI rfl (by exact rfl) (by exact rfl) ?_ | refine xG_go (fun _ => rfl) ?_)
    exact m_bret rfl ⟨rfl, rfl⟩
  | succ k ih =>
    intro j hk
    obtain ⟨f1, f2, f3⟩ := hf j (by omega)
    have key := ih (j + 1) (by omega)
    iterate 3 (first | refine xG_getI rfl (by exact rfl) (by exact rfl) ?_ | refine xG_getR rfl (by exact rfl) (by exact rfl) ?_ | refine xG_add rfl ?_ | refine xG_sub rfl ?_ | refine xG_mul rfl ?_ | refine xG_putI rfl (by exact rfl) (by exact rfl) ?_ | refine xG_go (fun _ => rfl) ?_)
    rw [en]
    refine xb_ge rfl (by omega) (by omega) (fun c1 => absurd c1 (by omega)) (fun _ => ?_)
    iterate 1 (first | refine xG_getI rfl (by exact rfl) (by exact rfl) ?_ | refine xG_getR rfl (by exact rfl) (by exact rfl) ?_ | refine xG_add rfl ?_ | refine xG_sub rfl ?_ | refine xG_mul rfl ?_ | refine xG_putI rfl (by exact rfl) (by exact rfl) ?_ | refine xG_go (fun _ => rfl) ?_)
    by_cases q : isso (lkin num) (fun i => M 151 (3 * i)) (fun i => M 151 (3 * i + 1)) (fun i => M 151 (3 * i + 2)) j = true
    · rw [b01_t q]
      refine xe1 rfl ?_
      iterate 6 (first | refine xG_getI rfl (by exact rfl) (by exact rfl) ?_ | refine xG_getR rfl (by exact rfl) (by exact rfl) ?_ | refine xG_add rfl ?_ | refine xG_sub rfl ?_ | refine xG_mul rfl ?_ | refine xG_putI rfl (by exact rfl) (by exact rfl) ?_ | refine xG_go (fun _ => rfl) ?_)
      refine xG_ald rfl (by exact rfl) (by omega) ?_
      rw [show ((3 : Int) * (j : Int)).toNat = 3 * j by omega]
      obtain ⟨u, eu⟩ := Int.eq_ofNat_of_zero_le f1.1
      obtain ⟨v, ev⟩ := Int.eq_ofNat_of_zero_le f2.1
      rw [eu]
      refine xS2 rfl (by decide) (by simp) (m_likeIn hnum (show u < 4 by omega)) (fun r M' hq => ?_)
      obtain ⟨rfl, rfl⟩ := hq
      iterate 8 (first | refine xG_getI rfl (by exact rfl) (by exact rfl) ?_ | refine xG_getR rfl (by exact rfl) (by exact rfl) ?_ | refine xG_add rfl ?_ | refine xG_sub rfl ?_ | refine xG_mul rfl ?_ | refine xG_putI rfl (by exact rfl) (by exact rfl) ?_ | refine xG_go (fun _ => rfl) ?_)
      refine xG_ald rfl (by exact rfl) (by omega) ?_
      rw [show ((3 : Int) * (j : Int) + 1).toNat = 3 * j + 1 by omega, ev]
      refine xS2 rfl (by decide) (by simp) (m_likeIn hnum (show v < 4 by omega)) (fun r M' hq => ?_)
      obtain ⟨rfl, rfl⟩ := hq
      have l1 := lkin_in num u
      have l2 := lkin_in num v
      iterate 1 (first | refine xG_getI rfl (by exact rfl) (by exact rfl) ?_ | refine xG_getR rfl (by exact rfl) (by exact rfl) ?_ | refine xG_add rfl ?_ | refine xG_sub rfl ?_ | refine xG_mul rfl ?_ | refine xG_putI rfl (by exact rfl) (by exact rfl) ?_ | refine xG_go (fun _ => rfl) ?_)
      refine xS1 rfl (by decide) (by simp) (m_sign (by omega)) (fun r M' hq => ?_)
      obtain ⟨rfl, rfl⟩ := hq
      iterate 7 (first | refine xG_getI rfl (by exact rfl) (by exact rfl) ?_ | refine xG_getR rfl (by exact rfl) (by exact rfl) ?_ | refine xG_add rfl ?_ | refine xG_sub rfl ?_ | refine xG_mul rfl ?_ | refine xG_putI rfl (by exact rfl) (by exact rfl) ?_ | refine xG_go (fun _ => rfl) ?_)
      refine xG_ald rfl (by exact rfl) (by omega) ?_
      rw [show ((3 : Int) * (j : Int) + 2).toNat = 3 * j + 2 by omega]
      have l3 := sg_in (lkin num u + lkin num v)
      refine xb_ne rfl (by omega) (by omega) (fun c1 => ?_) (fun c1 => ?_)
      · rw [b01_f (p := isso (lkin num) (fun i => M 151 (3 * i)) (fun i => M 151 (3 * i + 1)) (fun i => M 151 (3 * i + 2)) (j + 1) = true) (fun z => c1 (by have := (isso_s.1 z).2; simp only [eu, ev, Int.toNat_natCast] at this; exact this))] at key
        iterate 4 (first | refine xG_getI rfl (by exact rfl) (by exact rfl) ?_ | refine xG_getR rfl (by exact rfl) (by exact rfl) ?_ | refine xG_add rfl ?_ | refine xG_sub rfl ?_ | refine xG_mul rfl ?_ | refine xG_putI rfl (by exact rfl) (by exact rfl) ?_ | refine xG_go (fun _ => rfl) ?_)
        exact key
      · rw [b01_t (p := isso (lkin num) (fun i => M 151 (3 * i)) (fun i => M 151 (3 * i + 1)) (fun i => M 151 (3 * i + 2)) (j + 1) = true) (isso_s.2 ⟨q, by simp only [eu, ev, Int.toNat_natCast]; exact c1⟩)] at key
        iterate 5 (first | refine xG_getI rfl (by exact rfl) (by exact rfl) ?_ | refine xG_getR rfl (by exact rfl) (by exact rfl) ?_ | refine xG_add rfl ?_ | refine xG_sub rfl ?_ | refine xG_mul rfl ?_ | refine xG_putI rfl (by exact rfl) (by exact rfl) ?_ | refine xG_go (fun _ => rfl) ?_)
        exact key
    · rw [b01_f q]
      refine xe0 rfl ?_
      rw [b01_f (p := isso (lkin num) (fun i => M 151 (3 * i)) (fun i => M 151 (3 * i + 1)) (fun i => M 151 (3 * i + 2)) (j + 1) = true) (fun z => q (isso_s.1 z).1)] at key
      iterate 4 (first | refine xG_getI rfl (by exact rfl) (by exact rfl) ?_ | refine xG_getR rfl (by exact rfl) (by exact rfl) ?_ | refine xG_add rfl ?_ | refine xG_sub rfl ?_ | refine xG_mul rfl ?_ | refine xG_putI rfl (by exact rfl) (by exact rfl) ?_ | refine xG_go (fun _ => rfl) ?_)
      exact key
end YP
