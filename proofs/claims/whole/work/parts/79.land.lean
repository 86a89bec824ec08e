/-! THE TEXT: the class's land becomes as told -/
section ZP
variable {sc : Nat × (Nat → Int)} {d c : Nat} {M : mv_M}
/-- the told land's likings, up to the monkey j -/
def lkc (M N : mv_M) (j : Nat) : Prop := (∀ a, ¬ (8 ≤ a ∧ a ≤ 13) → N a = M a) ∧ ∀ m, m < j → ∀ t, t < 4 → N (8 + m) t = M (21 + m) t
theorem l_lbec {Q : Option mv_V → mv_M → Prop} (kk : ∀ N, lkc M N 6 → xG sc d y_Land_becomes 94 [some (mR 4), some (mR 17), some (mI 6)] [] N Q) : ∀ (k j : Nat) (N : mv_M), j + k = 6 → lkc M N j → xG sc d y_Land_becomes 64 [some (mR 4), some (mR 17), some (mI j)] [] N Q := by
  intro k
  induction k with
  | zero =>
    intro j N hj hN
    have : j = 6 := by omega
    subst this
    iterate 2 (first | refine xG_getI rfl (by exact rfl) (by exact rfl) ?_ | refine xG_getR rfl (by exact rfl) (by exact rfl) ?_ | refine xG_add rfl ?_ | refine xG_sub rfl ?_ | refine xG_mul rfl ?_ | refine xG_putI rfl (by exact rfl) (by exact rfl) ?_ | refine xG_go (fun _ => rfl) ?_)
    refine xb_ge rfl (by omega) (by omega) (fun _ => ?_) (fun c1 => absurd c1 (by omega))
    exact kk N hN
  | succ k ik =>
    intro j N hj hN
    have s1 := sk_tlike (m := j) (by omega)
    have s2 := sk_like (m := j) (by omega)
    iterate 2 (first | refine xG_getI rfl (by exact rfl) (by exact rfl) ?_ | refine xG_getR rfl (by exact rfl) (by exact rfl) ?_ | refine xG_add rfl ?_ | refine xG_sub rfl ?_ | refine xG_mul rfl ?_ | refine xG_putI rfl (by exact rfl) (by exact rfl) ?_ | refine xG_go (fun _ => rfl) ?_)
    refine xb_ge rfl (by omega) (by omega) (fun c1 => absurd c1 (by omega)) (fun _ => ?_)
    iterate 3 (first | refine xG_getI rfl (by exact rfl) (by exact rfl) ?_ | refine xG_getR rfl (by exact rfl) (by exact rfl) ?_ | refine xG_add rfl ?_ | refine xG_sub rfl ?_ | refine xG_mul rfl ?_ | refine xG_putI rfl (by exact rfl) (by exact rfl) ?_ | refine xG_go (fun _ => rfl) ?_)
    refine xG_aald rfl (by exact rfl) (Or.inr rfl) (by omega) (by rw [Int.toNat_natCast]; exact s1.2) ?_
    iterate 4 (first | refine xG_getI rfl (by exact rfl) (by exact rfl) ?_ | refine xG_getR rfl (by exact rfl) (by exact rfl) ?_ | refine xG_add rfl ?_ | refine xG_sub rfl ?_ | refine xG_mul rfl ?_ | refine xG_putI rfl (by exact rfl) (by exact rfl) ?_ | refine xG_go (fun _ => rfl) ?_)
    refine xG_aald rfl (by exact rfl) (Or.inr rfl) (by omega) (by rw [Int.toNat_natCast]; exact s2.2) ?_
    iterate 2 (first | refine xG_getI rfl (by exact rfl) (by exact rfl) ?_ | refine xG_getR rfl (by exact rfl) (by exact rfl) ?_ | refine xG_add rfl ?_ | refine xG_sub rfl ?_ | refine xG_mul rfl ?_ | refine xG_putI rfl (by exact rfl) (by exact rfl) ?_ | refine xG_go (fun _ => rfl) ?_)
    refine xG_copy rfl s1.1 s2.1 (by simp) (by omega) ?_
    iterate 2 (first | refine xG_getI rfl (by exact rfl) (by exact rfl) ?_ | refine xG_getR rfl (by exact rfl) (by exact rfl) ?_ | refine xG_add rfl ?_ | refine xG_sub rfl ?_ | refine xG_mul rfl ?_ | refine xG_putI rfl (by exact rfl) (by exact rfl) ?_ | refine xG_go (fun _ => rfl) ?_)
    refine ik (j + 1) _ (by omega) ⟨fun a ha => by rw [mv_row_ne (by omega), hN.1 a ha], fun m hm t ht => ?_⟩
    by_cases w : m = j
    · subst w
      rw [mv_row_at, if_pos (by omega), hN.1 (21 + m) (by omega)]
      congr 1
      omega
    · rw [mv_row_ne (by omega)]
      exact hN.2 m (by omega) t ht
def bec (M N : mv_M) : Prop := (∀ a, ¬ (4 ≤ a ∧ a ≤ 15) → N a = M a) ∧ N 4 0 = M 17 0 ∧ N 4 1 = M 17 1 ∧ N 4 2 = M 17 2 ∧ N 4 3 = M 17 3 ∧ (∀ m, m < 6 → N 5 m = M 18 m ∧ N 6 m = M 19 m ∧ ∀ t, t < 4 → N (8 + m) t = M (21 + m) t) ∧ ∀ o, o < 3 → N 14 o = M 27 o ∧ N 15 o = M 28 o
theorem c_lbecomes : xC sc (d + 1) n_Land_becomes [mR 4, mR 17] M (fun r N => r = none ∧ bec M N) := by
  refine xC_in rfl rfl (by simp; decide) ?_
  iterate 23 (first | refine xG_getI rfl (by exact rfl) (by exact rfl) ?_ | refine xG_getR rfl (by exact rfl) (by exact rfl) ?_ | refine xG_add rfl ?_ | refine xG_sub rfl ?_ | refine xG_mul rfl ?_ | refine xG_putI rfl (by exact rfl) (by exact rfl) ?_ | refine xG_go (fun _ => rfl) ?_)
  refine xG_copy rfl (by exact rfl) (by exact rfl) (by simp) (by decide) ?_
  iterate 7 (first | refine xG_getI rfl (by exact rfl) (by exact rfl) ?_ | refine xG_getR rfl (by exact rfl) (by exact rfl) ?_ | refine xG_add rfl ?_ | refine xG_sub rfl ?_ | refine xG_mul rfl ?_ | refine xG_putI rfl (by exact rfl) (by exact rfl) ?_ | refine xG_go (fun _ => rfl) ?_)
  refine xG_copy rfl (by exact rfl) (by exact rfl) (by simp) (by decide) ?_
  iterate 2 (first | refine xG_getI rfl (by exact rfl) (by exact rfl) ?_ | refine xG_getR rfl (by exact rfl) (by exact rfl) ?_ | refine xG_add rfl ?_ | refine xG_sub rfl ?_ | refine xG_mul rfl ?_ | refine xG_putI rfl (by exact rfl) (by exact rfl) ?_ | refine xG_go (fun _ => rfl) ?_)
  refine l_lbec (fun N hN => ?_) 6 0 _ (by omega) ⟨fun _ _ => rfl, fun m hm => absurd hm (by omega)⟩
  iterate 7 (first | refine xG_getI rfl (by exact rfl) (by exact rfl) ?_ | refine xG_getR rfl (by exact rfl) (by exact rfl) ?_ | refine xG_add rfl ?_ | refine xG_sub rfl ?_ | refine xG_mul rfl ?_ | refine xG_putI rfl (by exact rfl) (by exact rfl) ?_ | refine xG_go (fun _ => rfl) ?_)
  refine xG_copy rfl (by exact rfl) (by exact rfl) (by simp) (by decide) ?_
  iterate 7 (first | refine xG_getI rfl (by exact rfl) (by exact rfl) ?_ | refine xG_getR rfl (by exact rfl) (by exact rfl) ?_ | refine xG_add rfl ?_ | refine xG_sub rfl ?_ | refine xG_mul rfl ?_ | refine xG_putI rfl (by exact rfl) (by exact rfl) ?_ | refine xG_go (fun _ => rfl) ?_)
  refine xG_copy rfl (by exact rfl) (by exact rfl) (by simp) (by decide) ?_
  obtain ⟨h1, h2⟩ := hN
  have z0 : (0 : Int).toNat = 0 := rfl
  have z6 : (6 : Int).toNat = 6 := rfl
  have z3 : (3 : Int).toNat = 3 := rfl
  refine xG_ret (fun _ => rfl) ⟨rfl, fun a ha => ?_, ?_, ?_, ?_, ?_, fun m hm => ⟨?_, ?_, fun t ht => ?_⟩, fun o ho => ⟨?_, ?_⟩⟩
  · rw [mv_row_ne (by omega), mv_row_ne (by omega), h1 a (by omega), mv_row_ne (by omega), mv_row_ne (by omega), mv_upne (by omega), mv_upne (by omega), mv_upne (by omega), mv_upne (by omega)]
  · rw [mv_row_ne (by omega), mv_row_ne (by omega), h1 4 (by omega), mv_row_ne (by omega), mv_row_ne (by omega)]
    simp [mv_up]
  · rw [mv_row_ne (by omega), mv_row_ne (by omega), h1 4 (by omega), mv_row_ne (by omega), mv_row_ne (by omega)]
    simp [mv_up]
  · rw [mv_row_ne (by omega), mv_row_ne (by omega), h1 4 (by omega), mv_row_ne (by omega), mv_row_ne (by omega)]
    simp [mv_up]
  · rw [mv_row_ne (by omega), mv_row_ne (by omega), h1 4 (by omega), mv_row_ne (by omega), mv_row_ne (by omega)]
    simp [mv_up]
  · rw [mv_row_ne (by omega), mv_row_ne (by omega), h1 5 (by omega), mv_row_ne (by omega), mv_row_at, if_pos (by omega), mv_upne (by omega), mv_upne (by omega), mv_upne (by omega), mv_upne (by omega), z0, Nat.zero_add, Nat.sub_zero]
  · rw [mv_row_ne (by omega), mv_row_ne (by omega), h1 6 (by omega), mv_row_at, if_pos (by omega), mv_row_ne (by omega), mv_upne (by omega), mv_upne (by omega), mv_upne (by omega), mv_upne (by omega), z0, Nat.zero_add, Nat.sub_zero]
  · rw [mv_row_ne (by omega), mv_row_ne (by omega), h2 m hm t ht, mv_row_ne (by omega), mv_row_ne (by omega), mv_upne (by omega), mv_upne (by omega), mv_upne (by omega), mv_upne (by omega)]
  · rw [mv_row_ne (by omega), mv_row_at, if_pos (by omega), h1 27 (by omega), mv_row_ne (by omega), mv_row_ne (by omega), mv_upne (by omega), mv_upne (by omega), mv_upne (by omega), mv_upne (by omega), z0, Nat.zero_add, Nat.sub_zero]
  · rw [mv_row_at, if_pos (by omega), mv_row_ne (by omega), h1 28 (by omega), mv_row_ne (by omega), mv_row_ne (by omega), mv_upne (by omega), mv_upne (by omega), mv_upne (by omega), mv_upne (by omega), z0, Nat.zero_add, Nat.sub_zero]
end ZP
