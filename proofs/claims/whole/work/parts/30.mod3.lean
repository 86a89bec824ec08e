/-! THE REFERENCE: remembers -/
section XP
variable {sc : Nat × (Nat → Int)} {d : Nat} {M : mv_M}
def shf (M : mv_M) (j : Nat) : Nat → Int := fun i => if i < j then M 148 (i + 21) else M 148 i
theorem l_shift {Q : Option mv_V → mv_M → Prop} (kk : xG sc d y_Mod_remembers 39 [some (mR 143), some (mI 189)] [] (mv_row M 148 (shf M 189)) Q) : ∀ (k j : Nat), j + k = 189 → xG sc d y_Mod_remembers 11 [some (mR 143), some (mI j)] [] (mv_row M 148 (shf M j)) Q := by
  intro k
  induction k with
  | zero =>
    intro j hk
    have : j = 189 := by omega
    subst this
    iterate 2 (first | refine xG_getI rfl (by exact rfl) (by exact rfl) ?_ | refine xG_getR rfl (by exact rfl) (by exact rfl) ?_ | refine xG_add rfl ?_ | refine xG_sub rfl ?_ | refine xG_mul rfl ?_ | refine xG_putI rfl (by exact rfl) (by exact rfl) ?_ | refine xG_go (fun _ => rfl) ?_)
    iterate 1 (first | refine xG_getI rfl (by exact rfl) (by exact rfl) ?_ | refine xG_getR rfl (by exact rfl) (by exact rfl) ?_ | refine xG_add rfl ?_ | refine xG_sub rfl ?_ | refine xG_mul rfl ?_ | refine xG_putI rfl (by exact rfl) (by exact rfl) ?_ | refine xG_go (fun _ => rfl) ?_)
    exact kk
  | succ k ih =>
    intro j hk
    iterate 2 (first | refine xG_getI rfl (by exact rfl) (by exact rfl) ?_ | refine xG_getR rfl (by exact rfl) (by exact rfl) ?_ | refine xG_add rfl ?_ | refine xG_sub rfl ?_ | refine xG_mul rfl ?_ | refine xG_putI rfl (by exact rfl) (by exact rfl) ?_ | refine xG_go (fun _ => rfl) ?_)
    refine xb_ge rfl (by omega) (by omega) (fun c1 => absurd c1 (by omega)) (fun c1 => ?_)
    iterate 8 (first | refine xG_getI rfl (by exact rfl) (by exact rfl) ?_ | refine xG_getR rfl (by exact rfl) (by exact rfl) ?_ | refine xG_add rfl ?_ | refine xG_sub rfl ?_ | refine xG_mul rfl ?_ | refine xG_putI rfl (by exact rfl) (by exact rfl) ?_ | refine xG_go (fun _ => rfl) ?_)
    refine xG_ald rfl (by exact rfl) (by omega) ?_
    refine xG_ast rfl (by exact rfl) (by omega) ?_
    rw [mv_row_at, mv_up_row, show ((j : Int) + 21).toNat = j + 21 by omega, Int.toNat_natCast, show shf M j (j + 21) = M 148 (j + 21) by unfold shf; rw [if_neg (by omega)]]
    iterate 2 (first | refine xG_getI rfl (by exact rfl) (by exact rfl) ?_ | refine xG_getR rfl (by exact rfl) (by exact rfl) ?_ | refine xG_add rfl ?_ | refine xG_sub rfl ?_ | refine xG_mul rfl ?_ | refine xG_putI rfl (by exact rfl) (by exact rfl) ?_ | refine xG_go (fun _ => rfl) ?_)
    have e : (fun i => if i = j then M 148 (j + 21) else shf M j i) = shf M (j + 1) := by
      funext i
      unfold shf
      by_cases w : i = j
      · subst w
        rw [if_pos rfl, if_pos (by omega)]
      · rw [if_neg w]
        by_cases v : i < j
        · rw [if_pos v, if_pos (by omega)]
        · rw [if_neg v, if_neg (by omega)]
    rw [e]
    exact ih (j + 1) (by omega)
/-- the reference's past, when a day is remembered -/
def remd (M M' : mv_M) (n : Nat) : Prop := (∀ a, a ≠ 143 → a ≠ 148 → M' a = M a) ∧ (∀ j, j ≠ 9 → M' 143 j = M 143 j) ∧ M' 143 9 = (if n < 10 then (n : Int) + 1 else 10) ∧ (n < 10 → M' 148 = crow M 148 (21 * n) 147 0 21) ∧ (n = 10 → ∀ i, i < 210 → M' 148 i = if i < 189 then M 148 (i + 21) else M 147 (i - 189))
theorem m_remembers {n : Nat} (hn : n ≤ 10) (en : M 143 9 = n) : xC sc (d + 2) n_Mod_remembers [mR 143] M (fun ro M' => ro = none ∧ remd M M' n) := by
  have tail : ∀ (M1 : mv_M) (k : Nat) (x1 : Option mv_V) (Q : Option mv_V → mv_M → Prop), k < 10 → M1 143 9 = k → Q none (mv_up (mv_row M1 148 (crow M1 148 (21 * k) 147 0 21)) 143 9 (k + 1)) → xG sc (d + 1) y_Mod_remembers 49 [some (mR 143), x1] [] M1 Q := by
    intro M1 k x1 Q hk ek hQ
    iterate 9 (first | refine xG_getI rfl (by exact rfl) (by exact rfl) ?_ | refine xG_getR rfl (by exact rfl) (by exact rfl) ?_ | refine xG_add rfl ?_ | refine xG_sub rfl ?_ | refine xG_mul rfl ?_ | refine xG_putI rfl (by exact rfl) (by exact rfl) ?_ | refine xG_go (fun _ => rfl) ?_)
    rw [ek, show (21 : Int) * (k : Int) = ((21 * k : Nat) : Int) by omega]
    refine xS4 rfl (by decide) (by simp) (m_copy (a := 21 * k) (f := 0) (n1 := 210) (n2 := 21) rfl rfl (by decide) (by omega) (by decide) (by decide) (by decide)) (fun r M' hq => ?_)
    obtain ⟨rfl, rfl⟩ := hq
    iterate 6 (first | refine xG_getI rfl (by exact rfl) (by exact rfl) ?_ | refine xG_getR rfl (by exact rfl) (by exact rfl) ?_ | refine xG_add rfl ?_ | refine xG_sub rfl ?_ | refine xG_mul rfl ?_ | refine xG_putI rfl (by exact rfl) (by exact rfl) ?_ | refine xG_go (fun _ => rfl) ?_)
    rw [mv_row_ne (by decide), ek]
    exact xG_ret (fun _ => rfl) hQ
  refine xC_in rfl rfl (by simp; decide) ?_
  iterate 3 (first | refine xG_getI rfl (by exact rfl) (by exact rfl) ?_ | refine xG_getR rfl (by exact rfl) (by exact rfl) ?_ | refine xG_add rfl ?_ | refine xG_sub rfl ?_ | refine xG_mul rfl ?_ | refine xG_putI rfl (by exact rfl) (by exact rfl) ?_ | refine xG_go (fun _ => rfl) ?_)
  rw [en]
  refine xb_ne rfl (by omega) (by omega) (fun c1 => ?_) (fun c1 => ?_)
  · refine tail M n none _ (by omega) en ⟨rfl, ?_, ?_, ?_, ?_, ?_⟩
    · intro a h1 h2
      rw [mv_upne h1, mv_row_ne h2]
    · intro j hj
      rw [mv_up_j hj, mv_row_ne (by decide)]
    · rw [mv_up_at, if_pos (by omega)]
    · intro _
      rw [mv_upne (by decide), mv_row_at]
    · intro h
      omega
  · have n10 : n = 10 := by omega
    iterate 2 (first | refine xG_getI rfl (by exact rfl) (by exact rfl) ?_ | refine xG_getR rfl (by exact rfl) (by exact rfl) ?_ | refine xG_add rfl ?_ | refine xG_sub rfl ?_ | refine xG_mul rfl ?_ | refine xG_putI rfl (by exact rfl) (by exact rfl) ?_ | refine xG_go (fun _ => rfl) ?_)
    have e : M = mv_row M 148 (shf M 0) := (mv_row_self (fun i => by unfold shf; rw [if_neg (by omega)])).symm
    have key := l_shift (sc := sc) (d := d + 1) (M := M) (Q := fun ro M' => ro = none ∧ remd M M' n) ?_ 189 0 (by omega)
    · rw [← e] at key
      exact key
    · iterate 6 (first | refine xG_getI rfl (by exact rfl) (by exact rfl) ?_ | refine xG_getR rfl (by exact rfl) (by exact rfl) ?_ | refine xG_add rfl ?_ | refine xG_sub rfl ?_ | refine xG_mul rfl ?_ | refine xG_putI rfl (by exact rfl) (by exact rfl) ?_ | refine xG_go (fun _ => rfl) ?_)
      rw [mv_row_ne (by decide), en]
      refine tail _ 9 _ _ (by omega) (by rw [mv_up_at, n10]; rfl) ⟨rfl, ?_, ?_, ?_, ?_, ?_⟩
      · intro a h1 h2
        rw [mv_upne h1, mv_row_ne h2, mv_upne h1, mv_row_ne h2]
      · intro j hj
        rw [mv_up_j hj, mv_row_ne (by decide), mv_up_j hj, mv_row_ne (by decide)]
      · rw [mv_up_at, if_neg (by omega)]
        rfl
      · intro h
        omega
      · intro _ i hi
        rw [mv_upne (by decide), mv_row_at]
        unfold crow
        by_cases v : i < 189
        · rw [if_neg (by omega), mv_upne (by decide), mv_row_at, if_pos v]
          unfold shf
          rw [if_pos v]
        · rw [if_pos (by omega), mv_upne (by decide), mv_row_ne (by decide), if_neg v, show 0 + (i - 21 * 9) = i - 189 by omega]
end XP
