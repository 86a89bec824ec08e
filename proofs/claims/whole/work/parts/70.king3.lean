/-! THE TEXT: the class's reader -/
section ZH
variable {sc : Nat × (Nat → Int)} {d c : Nat} {M : mv_M}
def oQ (o : Option mv_M) (M : mv_M) (r : Option mv_V) (M' : mv_M) : Prop := (∃ S, o = some S ∧ r = some (mI 1) ∧ M' = S) ∨ (o = none ∧ r = some (mI 0) ∧ M' = M)
theorem due_s {S : mv_M} (i : S 16 1 = 115) : due S = 1 := by unfold due; rw [i]; rfl
theorem due_t {S : mv_M} (i : S 16 1 = 116) : due S = 1 := by unfold due; rw [i]; rfl
theorem due_m {S : mv_M} (i : S 16 1 = 109) : due S = 2 + S 17 1 := by unfold due; rw [i]; rfl
theorem due_o {S : mv_M} (i : S 16 1 = 111) : due S = 2 := by unfold due; rw [i]; rfl
theorem due_0 {S : mv_M} (i : S 16 1 = 0) : due S = 0 := by unfold due; rw [i]; rfl
theorem item_in (h : wf M) : 0 ≤ M 16 1 ∧ M 16 1 ≤ 116 := by
  have := h.1
  omega
theorem c_empties : xC sc (d + 1) n_Land_empties [mR 17] M (fun r M' => r = none ∧ M' = mv_up (mv_up (mv_up (mv_up M 17 0 3) 17 1 3) 17 2 0) 17 3 0) := by
  refine xC_in rfl rfl (by simp; decide) ?_
  iterate 12 (first | refine xG_getI rfl (by exact rfl) (by exact rfl) ?_ | refine xG_getR rfl (by exact rfl) (by exact rfl) ?_ | refine xG_add rfl ?_ | refine xG_sub rfl ?_ | refine xG_mul rfl ?_ | refine xG_putI rfl (by exact rfl) (by exact rfl) ?_ | refine xG_go (fun _ => rfl) ?_)
  exact xG_ret (fun _ => rfl) ⟨rfl, rfl⟩
theorem c_isDigit {x : Int} (hx : mv_in x) : xC sc (d + 1) n_Reader_isDigit [mI x] M (fun r M' => M = M' ∧ r = some (mI (b01 (fig x)))) := by
  refine xC_in rfl rfl (by simp; decide) ?_
  iterate 2 (first | refine xG_getI rfl (by exact rfl) (by exact rfl) ?_ | refine xG_getR rfl (by exact rfl) (by exact rfl) ?_ | refine xG_add rfl ?_ | refine xG_sub rfl ?_ | refine xG_mul rfl ?_ | refine xG_putI rfl (by exact rfl) (by exact rfl) ?_ | refine xG_go (fun _ => rfl) ?_)
  refine xb_lt rfl hx (by decide) (fun c1 => ?_) (fun c1 => ?_)
  · iterate 1 (first | refine xG_getI rfl (by exact rfl) (by exact rfl) ?_ | refine xG_getR rfl (by exact rfl) (by exact rfl) ?_ | refine xG_add rfl ?_ | refine xG_sub rfl ?_ | refine xG_mul rfl ?_ | refine xG_putI rfl (by exact rfl) (by exact rfl) ?_ | refine xG_go (fun _ => rfl) ?_)
    exact xG_ret (fun _ => rfl) ⟨rfl, by rw [b01_f (by omega)]⟩
  · iterate 2 (first | refine xG_getI rfl (by exact rfl) (by exact rfl) ?_ | refine xG_getR rfl (by exact rfl) (by exact rfl) ?_ | refine xG_add rfl ?_ | refine xG_sub rfl ?_ | refine xG_mul rfl ?_ | refine xG_putI rfl (by exact rfl) (by exact rfl) ?_ | refine xG_go (fun _ => rfl) ?_)
    refine xb_gt rfl hx (by decide) (fun c2 => ?_) (fun c2 => ?_)
    · iterate 1 (first | refine xG_getI rfl (by exact rfl) (by exact rfl) ?_ | refine xG_getR rfl (by exact rfl) (by exact rfl) ?_ | refine xG_add rfl ?_ | refine xG_sub rfl ?_ | refine xG_mul rfl ?_ | refine xG_putI rfl (by exact rfl) (by exact rfl) ?_ | refine xG_go (fun _ => rfl) ?_)
      exact xG_ret (fun _ => rfl) ⟨rfl, by rw [b01_f (by omega)]⟩
    · iterate 2 (first | refine xG_getI rfl (by exact rfl) (by exact rfl) ?_ | refine xG_getR rfl (by exact rfl) (by exact rfl) ?_ | refine xG_add rfl ?_ | refine xG_sub rfl ?_ | refine xG_mul rfl ?_ | refine xG_putI rfl (by exact rfl) (by exact rfl) ?_ | refine xG_go (fun _ => rfl) ?_)
      exact xG_ret (fun _ => rfl) ⟨rfl, by rw [b01_t (by omega)]⟩
theorem c_numberOf {p q : Nat} (hp : p ≤ q) (hq : q < 150) (ht : ∀ i, i ≤ q → 0 ≤ M 1 i ∧ M 1 i ≤ 255) : xC sc (d + 1) n_Reader_numberOf [mR 1, mI p, mI q] M (fun r M' => M = M' ∧ r = some (mI (numOf (M 1) p (q + 1)))) := by
  have t1 := ht p hp
  have t2 := ht q (Nat.le_refl _)
  refine xC_in rfl rfl (by simp; decide) ?_
  iterate 2 (first | refine xG_getI rfl (by exact rfl) (by exact rfl) ?_ | refine xG_getR rfl (by exact rfl) (by exact rfl) ?_ | refine xG_add rfl ?_ | refine xG_sub rfl ?_ | refine xG_mul rfl ?_ | refine xG_putI rfl (by exact rfl) (by exact rfl) ?_ | refine xG_go (fun _ => rfl) ?_)
  unfold numOf
  refine xb_ne rfl (by omega) (by omega) (fun c1 => ?_) (fun c1 => ?_)
  · rw [if_neg (by omega)]
    iterate 4 (first | refine xG_getI rfl (by exact rfl) (by exact rfl) ?_ | refine xG_getR rfl (by exact rfl) (by exact rfl) ?_ | refine xG_add rfl ?_ | refine xG_sub rfl ?_ | refine xG_mul rfl ?_ | refine xG_putI rfl (by exact rfl) (by exact rfl) ?_ | refine xG_go (fun _ => rfl) ?_)
    refine xb_gt rfl (by omega) (by omega) (fun c2 => ?_) (fun c2 => ?_)
    · rw [if_pos (by omega)]
      iterate 1 (first | refine xG_getI rfl (by exact rfl) (by exact rfl) ?_ | refine xG_getR rfl (by exact rfl) (by exact rfl) ?_ | refine xG_add rfl ?_ | refine xG_sub rfl ?_ | refine xG_mul rfl ?_ | refine xG_putI rfl (by exact rfl) (by exact rfl) ?_ | refine xG_go (fun _ => rfl) ?_)
      exact xG_ret (fun _ => rfl) ⟨rfl, rfl⟩
    · iterate 2 (first | refine xG_getI rfl (by exact rfl) (by exact rfl) ?_ | refine xG_getR rfl (by exact rfl) (by exact rfl) ?_ | refine xG_add rfl ?_ | refine xG_sub rfl ?_ | refine xG_mul rfl ?_ | refine xG_putI rfl (by exact rfl) (by exact rfl) ?_ | refine xG_go (fun _ => rfl) ?_)
      refine xG_cald rfl (by exact rfl) (by omega) ?_
      rw [Int.toNat_natCast]
      iterate 1 (first | refine xG_getI rfl (by exact rfl) (by exact rfl) ?_ | refine xG_getR rfl (by exact rfl) (by exact rfl) ?_ | refine xG_add rfl ?_ | refine xG_sub rfl ?_ | refine xG_mul rfl ?_ | refine xG_putI rfl (by exact rfl) (by exact rfl) ?_ | refine xG_go (fun _ => rfl) ?_)
      refine xb_ne rfl (by omega) (by omega) (fun c3 => ?_) (fun c3 => ?_)
      · rw [if_neg (by omega)]
        iterate 3 (first | refine xG_getI rfl (by exact rfl) (by exact rfl) ?_ | refine xG_getR rfl (by exact rfl) (by exact rfl) ?_ | refine xG_add rfl ?_ | refine xG_sub rfl ?_ | refine xG_mul rfl ?_ | refine xG_putI rfl (by exact rfl) (by exact rfl) ?_ | refine xG_go (fun _ => rfl) ?_)
        refine xG_cald rfl (by exact rfl) (by omega) ?_
        rw [Int.toNat_natCast]
        iterate 5 (first | refine xG_getI rfl (by exact rfl) (by exact rfl) ?_ | refine xG_getR rfl (by exact rfl) (by exact rfl) ?_ | refine xG_add rfl ?_ | refine xG_sub rfl ?_ | refine xG_mul rfl ?_ | refine xG_putI rfl (by exact rfl) (by exact rfl) ?_ | refine xG_go (fun _ => rfl) ?_)
        refine xG_cald rfl (by exact rfl) (by omega) ?_
        rw [Int.toNat_natCast, show q = p + 1 by omega]
        iterate 3 (first | refine xG_getI rfl (by exact rfl) (by exact rfl) ?_ | refine xG_getR rfl (by exact rfl) (by exact rfl) ?_ | refine xG_add rfl ?_ | refine xG_sub rfl ?_ | refine xG_mul rfl ?_ | refine xG_putI rfl (by exact rfl) (by exact rfl) ?_ | refine xG_go (fun _ => rfl) ?_)
        refine xG_ret (fun _ => rfl) ⟨rfl, ?_⟩
        congr 2
        omega
      · rw [if_pos (by omega)]
        iterate 1 (first | refine xG_getI rfl (by exact rfl) (by exact rfl) ?_ | refine xG_getR rfl (by exact rfl) (by exact rfl) ?_ | refine xG_add rfl ?_ | refine xG_sub rfl ?_ | refine xG_mul rfl ?_ | refine xG_putI rfl (by exact rfl) (by exact rfl) ?_ | refine xG_go (fun _ => rfl) ?_)
        exact xG_ret (fun _ => rfl) ⟨rfl, rfl⟩
  · rw [if_pos (by omega)]
    iterate 2 (first | refine xG_getI rfl (by exact rfl) (by exact rfl) ?_ | refine xG_getR rfl (by exact rfl) (by exact rfl) ?_ | refine xG_add rfl ?_ | refine xG_sub rfl ?_ | refine xG_mul rfl ?_ | refine xG_putI rfl (by exact rfl) (by exact rfl) ?_ | refine xG_go (fun _ => rfl) ?_)
    refine xG_cald rfl (by exact rfl) (by omega) ?_
    rw [Int.toNat_natCast]
    iterate 2 (first | refine xG_getI rfl (by exact rfl) (by exact rfl) ?_ | refine xG_getR rfl (by exact rfl) (by exact rfl) ?_ | refine xG_add rfl ?_ | refine xG_sub rfl ?_ | refine xG_mul rfl ?_ | refine xG_putI rfl (by exact rfl) (by exact rfl) ?_ | refine xG_go (fun _ => rfl) ?_)
    exact xG_ret (fun _ => rfl) ⟨rfl, rfl⟩
theorem c_numbersDue (h : wf M) : xC sc (d + 1) n_Reader_numbersDue [mR 16] M (fun r M' => M = M' ∧ r = some (mI (due M))) := by
  refine xC_in rfl rfl (by simp; decide) ?_
  iterate 2 (first | refine xG_getI rfl (by exact rfl) (by exact rfl) ?_ | refine xG_getR rfl (by exact rfl) (by exact rfl) ?_ | refine xG_add rfl ?_ | refine xG_sub rfl ?_ | refine xG_mul rfl ?_ | refine xG_putI rfl (by exact rfl) (by exact rfl) ?_ | refine xG_go (fun _ => rfl) ?_)
  rcases h.1 with i | ⟨i, _⟩ | ⟨i, _⟩ | ⟨i, _⟩ | ⟨i, _⟩
  · rw [due_0 i, i]
    refine xG_go (pc1 := 68) (fun _ => rfl) ?_
    iterate 1 (first | refine xG_getI rfl (by exact rfl) (by exact rfl) ?_ | refine xG_getR rfl (by exact rfl) (by exact rfl) ?_ | refine xG_add rfl ?_ | refine xG_sub rfl ?_ | refine xG_mul rfl ?_ | refine xG_putI rfl (by exact rfl) (by exact rfl) ?_ | refine xG_go (fun _ => rfl) ?_)
    exact xG_ret (fun _ => rfl) ⟨rfl, rfl⟩
  · rw [due_s i, i]
    refine xG_go (pc1 := 52) (fun _ => rfl) ?_
    iterate 1 (first | refine xG_getI rfl (by exact rfl) (by exact rfl) ?_ | refine xG_getR rfl (by exact rfl) (by exact rfl) ?_ | refine xG_add rfl ?_ | refine xG_sub rfl ?_ | refine xG_mul rfl ?_ | refine xG_putI rfl (by exact rfl) (by exact rfl) ?_ | refine xG_go (fun _ => rfl) ?_)
    exact xG_ret (fun _ => rfl) ⟨rfl, rfl⟩
  · rw [due_t i, i]
    refine xG_go (pc1 := 54) (fun _ => rfl) ?_
    iterate 1 (first | refine xG_getI rfl (by exact rfl) (by exact rfl) ?_ | refine xG_getR rfl (by exact rfl) (by exact rfl) ?_ | refine xG_add rfl ?_ | refine xG_sub rfl ?_ | refine xG_mul rfl ?_ | refine xG_putI rfl (by exact rfl) (by exact rfl) ?_ | refine xG_go (fun _ => rfl) ?_)
    exact xG_ret (fun _ => rfl) ⟨rfl, rfl⟩
  · rw [due_m i, i]
    refine xG_go (pc1 := 56) (fun _ => rfl) ?_
    iterate 5 (first | refine xG_getI rfl (by exact rfl) (by exact rfl) ?_ | refine xG_getR rfl (by exact rfl) (by exact rfl) ?_ | refine xG_add rfl ?_ | refine xG_sub rfl ?_ | refine xG_mul rfl ?_ | refine xG_putI rfl (by exact rfl) (by exact rfl) ?_ | refine xG_go (fun _ => rfl) ?_)
    exact xG_ret (fun _ => rfl) ⟨rfl, rfl⟩
  · rw [due_o i, i]
    refine xG_go (pc1 := 66) (fun _ => rfl) ?_
    iterate 1 (first | refine xG_getI rfl (by exact rfl) (by exact rfl) ?_ | refine xG_getR rfl (by exact rfl) (by exact rfl) ?_ | refine xG_add rfl ?_ | refine xG_sub rfl ?_ | refine xG_mul rfl ?_ | refine xG_putI rfl (by exact rfl) (by exact rfl) ?_ | refine xG_go (fun _ => rfl) ?_)
    exact xG_ret (fun _ => rfl) ⟨rfl, rfl⟩
theorem c_leastDue (h : wf M) : xC sc (d + 1) n_Reader_leastDue [mR 16] M (fun r M' => M = M' ∧ r = some (mI (lea M))) := by
  have hi := item_in h
  refine xC_in rfl rfl (by simp; decide) ?_
  iterate 3 (first | refine xG_getI rfl (by exact rfl) (by exact rfl) ?_ | refine xG_getR rfl (by exact rfl) (by exact rfl) ?_ | refine xG_add rfl ?_ | refine xG_sub rfl ?_ | refine xG_mul rfl ?_ | refine xG_putI rfl (by exact rfl) (by exact rfl) ?_ | refine xG_go (fun _ => rfl) ?_)
  unfold lea
  refine xb_eq rfl (by omega) (by decide) (fun c1 => ?_) (fun c1 => ?_)
  · rw [if_pos (Or.inl c1)]
    iterate 2 (first | refine xG_getI rfl (by exact rfl) (by exact rfl) ?_ | refine xG_getR rfl (by exact rfl) (by exact rfl) ?_ | refine xG_add rfl ?_ | refine xG_sub rfl ?_ | refine xG_mul rfl ?_ | refine xG_putI rfl (by exact rfl) (by exact rfl) ?_ | refine xG_go (fun _ => rfl) ?_)
    exact xG_ret (fun _ => rfl) ⟨rfl, rfl⟩
  · iterate 3 (first | refine xG_getI rfl (by exact rfl) (by exact rfl) ?_ | refine xG_getR rfl (by exact rfl) (by exact rfl) ?_ | refine xG_add rfl ?_ | refine xG_sub rfl ?_ | refine xG_mul rfl ?_ | refine xG_putI rfl (by exact rfl) (by exact rfl) ?_ | refine xG_go (fun _ => rfl) ?_)
    refine xb_ne rfl (by omega) (by decide) (fun c2 => ?_) (fun c2 => ?_)
    · rw [if_neg (by omega)]
      iterate 1 (first | refine xG_getI rfl (by exact rfl) (by exact rfl) ?_ | refine xG_getR rfl (by exact rfl) (by exact rfl) ?_ | refine xG_add rfl ?_ | refine xG_sub rfl ?_ | refine xG_mul rfl ?_ | refine xG_putI rfl (by exact rfl) (by exact rfl) ?_ | refine xG_go (fun _ => rfl) ?_)
      exact xG_ret (fun _ => rfl) ⟨rfl, rfl⟩
    · rw [if_pos (Or.inr c2)]
      iterate 2 (first | refine xG_getI rfl (by exact rfl) (by exact rfl) ?_ | refine xG_getR rfl (by exact rfl) (by exact rfl) ?_ | refine xG_add rfl ?_ | refine xG_sub rfl ?_ | refine xG_mul rfl ?_ | refine xG_putI rfl (by exact rfl) (by exact rfl) ?_ | refine xG_go (fun _ => rfl) ?_)
      exact xG_ret (fun _ => rfl) ⟨rfl, rfl⟩
theorem c_greatestDue (h : wf M) : xC sc (d + 1) n_Reader_greatestDue [mR 16] M (fun r M' => M = M' ∧ r = some (mI (gre M))) := by
  have hi := item_in h
  have hn := h.2.2.2.2.2.1
  refine xC_in rfl rfl (by simp; decide) ?_
  iterate 3 (first | refine xG_getI rfl (by exact rfl) (by exact rfl) ?_ | refine xG_getR rfl (by exact rfl) (by exact rfl) ?_ | refine xG_add rfl ?_ | refine xG_sub rfl ?_ | refine xG_mul rfl ?_ | refine xG_putI rfl (by exact rfl) (by exact rfl) ?_ | refine xG_go (fun _ => rfl) ?_)
  unfold gre
  refine xb_ne rfl (by omega) (by decide) (fun c1 => ?_) (fun c1 => ?_)
  · rw [if_neg c1]
    iterate 3 (first | refine xG_getI rfl (by exact rfl) (by exact rfl) ?_ | refine xG_getR rfl (by exact rfl) (by exact rfl) ?_ | refine xG_add rfl ?_ | refine xG_sub rfl ?_ | refine xG_mul rfl ?_ | refine xG_putI rfl (by exact rfl) (by exact rfl) ?_ | refine xG_go (fun _ => rfl) ?_)
    refine xb_ne rfl (by omega) (by decide) (fun c2 => ?_) (fun c2 => ?_)
    · rw [if_neg c2]
      iterate 2 (first | refine xG_getI rfl (by exact rfl) (by exact rfl) ?_ | refine xG_getR rfl (by exact rfl) (by exact rfl) ?_ | refine xG_add rfl ?_ | refine xG_sub rfl ?_ | refine xG_mul rfl ?_ | refine xG_putI rfl (by exact rfl) (by exact rfl) ?_ | refine xG_go (fun _ => rfl) ?_)
      refine xi_ne rfl (by omega) (fun c3 => ?_) (fun c3 => ?_)
      · rw [if_neg c3]
        iterate 3 (first | refine xG_getI rfl (by exact rfl) (by exact rfl) ?_ | refine xG_getR rfl (by exact rfl) (by exact rfl) ?_ | refine xG_add rfl ?_ | refine xG_sub rfl ?_ | refine xG_mul rfl ?_ | refine xG_putI rfl (by exact rfl) (by exact rfl) ?_ | refine xG_go (fun _ => rfl) ?_)
        refine xb_ne rfl (by omega) (by decide) (fun c4 => ?_) (fun c4 => ?_)
        · rw [if_neg c4]
          iterate 3 (first | refine xG_getI rfl (by exact rfl) (by exact rfl) ?_ | refine xG_getR rfl (by exact rfl) (by exact rfl) ?_ | refine xG_add rfl ?_ | refine xG_sub rfl ?_ | refine xG_mul rfl ?_ | refine xG_putI rfl (by exact rfl) (by exact rfl) ?_ | refine xG_go (fun _ => rfl) ?_)
          refine xb_ne rfl (by omega) (by decide) (fun c5 => ?_) (fun c5 => ?_)
          · rw [if_neg c5]
            iterate 1 (first | refine xG_getI rfl (by exact rfl) (by exact rfl) ?_ | refine xG_getR rfl (by exact rfl) (by exact rfl) ?_ | refine xG_add rfl ?_ | refine xG_sub rfl ?_ | refine xG_mul rfl ?_ | refine xG_putI rfl (by exact rfl) (by exact rfl) ?_ | refine xG_go (fun _ => rfl) ?_)
            exact xG_ret (fun _ => rfl) ⟨rfl, rfl⟩
          · rw [if_pos c5]
            iterate 2 (first | refine xG_getI rfl (by exact rfl) (by exact rfl) ?_ | refine xG_getR rfl (by exact rfl) (by exact rfl) ?_ | refine xG_add rfl ?_ | refine xG_sub rfl ?_ | refine xG_mul rfl ?_ | refine xG_putI rfl (by exact rfl) (by exact rfl) ?_ | refine xG_go (fun _ => rfl) ?_)
            exact xG_ret (fun _ => rfl) ⟨rfl, rfl⟩
        · rw [if_pos c4]
          iterate 1 (first | refine xG_getI rfl (by exact rfl) (by exact rfl) ?_ | refine xG_getR rfl (by exact rfl) (by exact rfl) ?_ | refine xG_add rfl ?_ | refine xG_sub rfl ?_ | refine xG_mul rfl ?_ | refine xG_putI rfl (by exact rfl) (by exact rfl) ?_ | refine xG_go (fun _ => rfl) ?_)
          exact xG_ret (fun _ => rfl) ⟨rfl, rfl⟩
      · rw [if_pos c3]
        iterate 5 (first | refine xG_getI rfl (by exact rfl) (by exact rfl) ?_ | refine xG_getR rfl (by exact rfl) (by exact rfl) ?_ | refine xG_add rfl ?_ | refine xG_sub rfl ?_ | refine xG_mul rfl ?_ | refine xG_putI rfl (by exact rfl) (by exact rfl) ?_ | refine xG_go (fun _ => rfl) ?_)
        exact xG_ret (fun _ => rfl) ⟨rfl, rfl⟩
    · rw [if_pos c2]
      iterate 1 (first | refine xG_getI rfl (by exact rfl) (by exact rfl) ?_ | refine xG_getR rfl (by exact rfl) (by exact rfl) ?_ | refine xG_add rfl ?_ | refine xG_sub rfl ?_ | refine xG_mul rfl ?_ | refine xG_putI rfl (by exact rfl) (by exact rfl) ?_ | refine xG_go (fun _ => rfl) ?_)
      exact xG_ret (fun _ => rfl) ⟨rfl, rfl⟩
  · rw [if_pos c1]
    iterate 1 (first | refine xG_getI rfl (by exact rfl) (by exact rfl) ?_ | refine xG_getR rfl (by exact rfl) (by exact rfl) ?_ | refine xG_add rfl ?_ | refine xG_sub rfl ?_ | refine xG_mul rfl ?_ | refine xG_putI rfl (by exact rfl) (by exact rfl) ?_ | refine xG_go (fun _ => rfl) ?_)
    exact xG_ret (fun _ => rfl) ⟨rfl, rfl⟩
theorem sk_tlike {m : Nat} (hm : m < 6) : SK[21 + m]? = some (.inl (0, 4)) ∧ [some 21, some 22, some 23, some 24, some 25, some 26][m]? = some (some (21 + m)) := by
  rcases (show m = 0 ∨ m = 1 ∨ m = 2 ∨ m = 3 ∨ m = 4 ∨ m = 5 by omega) with rfl | rfl | rfl | rfl | rfl | rfl <;> exact ⟨rfl, rfl⟩
theorem c_tellsOfMonkey {m : Nat} {v : Int} (hm : m < 6) (hn : 0 ≤ M 16 2 ∧ M 16 2 < 6) : xC sc (d + 1) n_Reader_tellsOfMonkey [mR 16, mI m, mI v] M (fun r M' => r = none ∧ M' = putm M m v) := by
  have sk := sk_tlike hm
  refine xC_in rfl rfl (by simp; decide) ?_
  iterate 2 (first | refine xG_getI rfl (by exact rfl) (by exact rfl) ?_ | refine xG_getR rfl (by exact rfl) (by exact rfl) ?_ | refine xG_add rfl ?_ | refine xG_sub rfl ?_ | refine xG_mul rfl ?_ | refine xG_putI rfl (by exact rfl) (by exact rfl) ?_ | refine xG_go (fun _ => rfl) ?_)
  unfold putm
  refine xi_ne rfl (by omega) (fun c1 => ?_) (fun c1 => ?_)
  · rw [if_neg c1]
    iterate 3 (first | refine xG_getI rfl (by exact rfl) (by exact rfl) ?_ | refine xG_getR rfl (by exact rfl) (by exact rfl) ?_ | refine xG_add rfl ?_ | refine xG_sub rfl ?_ | refine xG_mul rfl ?_ | refine xG_putI rfl (by exact rfl) (by exact rfl) ?_ | refine xG_go (fun _ => rfl) ?_)
    refine xb_ne rfl (by omega) (by decide) (fun c2 => ?_) (fun c2 => ?_)
    · rw [if_neg c2]
      iterate 4 (first | refine xG_getI rfl (by exact rfl) (by exact rfl) ?_ | refine xG_getR rfl (by exact rfl) (by exact rfl) ?_ | refine xG_add rfl ?_ | refine xG_sub rfl ?_ | refine xG_mul rfl ?_ | refine xG_putI rfl (by exact rfl) (by exact rfl) ?_ | refine xG_go (fun _ => rfl) ?_)
      refine xG_aald rfl (by exact rfl) (Or.inr rfl) (by omega) (by rw [Int.toNat_natCast]; exact sk.2) ?_
      iterate 7 (first | refine xG_getI rfl (by exact rfl) (by exact rfl) ?_ | refine xG_getR rfl (by exact rfl) (by exact rfl) ?_ | refine xG_add rfl ?_ | refine xG_sub rfl ?_ | refine xG_mul rfl ?_ | refine xG_putI rfl (by exact rfl) (by exact rfl) ?_ | refine xG_go (fun _ => rfl) ?_)
      refine xG_ast rfl sk.1 (by omega) ?_
      exact xG_ret (fun _ => rfl) ⟨rfl, rfl⟩
    · rw [if_pos c2]
      iterate 5 (first | refine xG_getI rfl (by exact rfl) (by exact rfl) ?_ | refine xG_getR rfl (by exact rfl) (by exact rfl) ?_ | refine xG_add rfl ?_ | refine xG_sub rfl ?_ | refine xG_mul rfl ?_ | refine xG_putI rfl (by exact rfl) (by exact rfl) ?_ | refine xG_go (fun _ => rfl) ?_)
      refine xG_ast rfl (by exact rfl) (by omega) ?_
      rw [Int.toNat_natCast]
      iterate 1 (first | refine xG_getI rfl (by exact rfl) (by exact rfl) ?_ | refine xG_getR rfl (by exact rfl) (by exact rfl) ?_ | refine xG_add rfl ?_ | refine xG_sub rfl ?_ | refine xG_mul rfl ?_ | refine xG_putI rfl (by exact rfl) (by exact rfl) ?_ | refine xG_go (fun _ => rfl) ?_)
      exact xG_ret (fun _ => rfl) ⟨rfl, rfl⟩
  · rw [if_pos c1]
    iterate 5 (first | refine xG_getI rfl (by exact rfl) (by exact rfl) ?_ | refine xG_getR rfl (by exact rfl) (by exact rfl) ?_ | refine xG_add rfl ?_ | refine xG_sub rfl ?_ | refine xG_mul rfl ?_ | refine xG_putI rfl (by exact rfl) (by exact rfl) ?_ | refine xG_go (fun _ => rfl) ?_)
    refine xG_ast rfl (by exact rfl) (by omega) ?_
    rw [Int.toNat_natCast]
    iterate 1 (first | refine xG_getI rfl (by exact rfl) (by exact rfl) ?_ | refine xG_getR rfl (by exact rfl) (by exact rfl) ?_ | refine xG_add rfl ?_ | refine xG_sub rfl ?_ | refine xG_mul rfl ?_ | refine xG_putI rfl (by exact rfl) (by exact rfl) ?_ | refine xG_go (fun _ => rfl) ?_)
    exact xG_ret (fun _ => rfl) ⟨rfl, rfl⟩
theorem c_tellsOfOrgan {o : Nat} {v : Int} (ho : o < 3) (hn : 0 ≤ M 16 2 ∧ M 16 2 < 6) : xC sc (d + 1) n_Reader_tellsOfOrgan [mR 16, mI o, mI v] M (fun r M' => r = none ∧ M' = puto M o v) := by
  refine xC_in rfl rfl (by simp; decide) ?_
  iterate 2 (first | refine xG_getI rfl (by exact rfl) (by exact rfl) ?_ | refine xG_getR rfl (by exact rfl) (by exact rfl) ?_ | refine xG_add rfl ?_ | refine xG_sub rfl ?_ | refine xG_mul rfl ?_ | refine xG_putI rfl (by exact rfl) (by exact rfl) ?_ | refine xG_go (fun _ => rfl) ?_)
  unfold puto
  refine xi_ne rfl (by omega) (fun c1 => ?_) (fun c1 => ?_)
  · rw [if_neg c1]
    iterate 5 (first | refine xG_getI rfl (by exact rfl) (by exact rfl) ?_ | refine xG_getR rfl (by exact rfl) (by exact rfl) ?_ | refine xG_add rfl ?_ | refine xG_sub rfl ?_ | refine xG_mul rfl ?_ | refine xG_putI rfl (by exact rfl) (by exact rfl) ?_ | refine xG_go (fun _ => rfl) ?_)
    refine xG_ast rfl (by exact rfl) (by omega) ?_
    rw [Int.toNat_natCast]
    exact xG_ret (fun _ => rfl) ⟨rfl, rfl⟩
  · rw [if_pos c1]
    iterate 5 (first | refine xG_getI rfl (by exact rfl) (by exact rfl) ?_ | refine xG_getR rfl (by exact rfl) (by exact rfl) ?_ | refine xG_add rfl ?_ | refine xG_sub rfl ?_ | refine xG_mul rfl ?_ | refine xG_putI rfl (by exact rfl) (by exact rfl) ?_ | refine xG_go (fun _ => rfl) ?_)
    refine xG_ast rfl (by exact rfl) (by omega) ?_
    rw [Int.toNat_natCast]
    iterate 1 (first | refine xG_getI rfl (by exact rfl) (by exact rfl) ?_ | refine xG_getR rfl (by exact rfl) (by exact rfl) ?_ | refine xG_add rfl ?_ | refine xG_sub rfl ?_ | refine xG_mul rfl ?_ | refine xG_putI rfl (by exact rfl) (by exact rfl) ?_ | refine xG_go (fun _ => rfl) ?_)
    exact xG_ret (fun _ => rfl) ⟨rfl, rfl⟩
theorem putm_16 {S : mv_M} {m : Nat} {v : Int} : putm S m v 16 = S 16 := by
  unfold putm
  split
  · exact mv_upne (by decide)
  · split
    · exact mv_upne (by decide)
    · exact mv_upne (by omega)
theorem puto_16 {S : mv_M} {m : Nat} {v : Int} : puto S m v 16 = S 16 := by
  unfold puto
  split <;> exact mv_upne (by decide)
theorem putn_s {S : mv_M} {v : Int} (i : S 16 1 = 115) : putn S v = mv_up S 17 0 v := by unfold putn; rw [i]; rfl
theorem putn_t {S : mv_M} {v : Int} (i : S 16 1 = 116) : putn S v = mv_up S 17 1 v := by unfold putn; rw [i]; rfl
theorem putn_m {S : mv_M} {v : Int} (i : S 16 1 = 109) : putn S v = putm S (S 17 2).toNat v := by unfold putn; rw [i]; rfl
theorem putn_o {S : mv_M} {v : Int} (i : S 16 1 = 111) : putn S v = puto S (S 17 3).toNat v := by unfold putn; rw [i]; rfl
theorem c_takesNumber {v : Int} (hv : mv_in v) (h : wf M) : xC sc (d + 2) n_Reader_takesNumber [mR 16, mI v] M (oQ (tnP M v) M) := by
  have hi := item_in h
  have hd := due_in h
  have hn := h.2.2.2.2.2.1
  have hs := h.2.1
  have lb : 0 ≤ lea M ∧ lea M ≤ 1 := by unfold lea; split <;> omega
  have gb : 0 ≤ gre M ∧ gre M ≤ 15 := by
    unfold gre
    split
    · omega
    · split
      · omega
      · split
        · omega
        · split
          · omega
          · split <;> omega
  refine xC_in rfl rfl (by simp; decide) ?_
  iterate 3 (first | refine xG_getI rfl (by exact rfl) (by exact rfl) ?_ | refine xG_getR rfl (by exact rfl) (by exact rfl) ?_ | refine xG_add rfl ?_ | refine xG_sub rfl ?_ | refine xG_mul rfl ?_ | refine xG_putI rfl (by exact rfl) (by exact rfl) ?_ | refine xG_go (fun _ => rfl) ?_)
  refine xV1 rfl (by exact rfl) (by simp) (c_numbersDue h) (fun r M' hq => ?_)
  obtain ⟨rfl, rfl⟩ := hq
  refine xb_ge rfl (by omega) (by omega) (fun c1 => ?_) (fun c1 => ?_)
  · iterate 1 (first | refine xG_getI rfl (by exact rfl) (by exact rfl) ?_ | refine xG_getR rfl (by exact rfl) (by exact rfl) ?_ | refine xG_add rfl ?_ | refine xG_sub rfl ?_ | refine xG_mul rfl ?_ | refine xG_putI rfl (by exact rfl) (by exact rfl) ?_ | refine xG_go (fun _ => rfl) ?_)
    exact xG_ret (fun _ => rfl) (Or.inr ⟨if_neg (by omega), rfl, rfl⟩)
  iterate 2 (first | refine xG_getI rfl (by exact rfl) (by exact rfl) ?_ | refine xG_getR rfl (by exact rfl) (by exact rfl) ?_ | refine xG_add rfl ?_ | refine xG_sub rfl ?_ | refine xG_mul rfl ?_ | refine xG_putI rfl (by exact rfl) (by exact rfl) ?_ | refine xG_go (fun _ => rfl) ?_)
  refine xV1 rfl (by exact rfl) (by simp) (c_leastDue h) (fun r M' hq => ?_)
  obtain ⟨rfl, rfl⟩ := hq
  refine xb_lt rfl hv (by omega) (fun c2 => ?_) (fun c2 => ?_)
  · iterate 1 (first | refine xG_getI rfl (by exact rfl) (by exact rfl) ?_ | refine xG_getR rfl (by exact rfl) (by exact rfl) ?_ | refine xG_add rfl ?_ | refine xG_sub rfl ?_ | refine xG_mul rfl ?_ | refine xG_putI rfl (by exact rfl) (by exact rfl) ?_ | refine xG_go (fun _ => rfl) ?_)
    exact xG_ret (fun _ => rfl) (Or.inr ⟨if_neg (by omega), rfl, rfl⟩)
  iterate 2 (first | refine xG_getI rfl (by exact rfl) (by exact rfl) ?_ | refine xG_getR rfl (by exact rfl) (by exact rfl) ?_ | refine xG_add rfl ?_ | refine xG_sub rfl ?_ | refine xG_mul rfl ?_ | refine xG_putI rfl (by exact rfl) (by exact rfl) ?_ | refine xG_go (fun _ => rfl) ?_)
  refine xV1 rfl (by exact rfl) (by simp) (c_greatestDue h) (fun r M' hq => ?_)
  obtain ⟨rfl, rfl⟩ := hq
  refine xb_le rfl hv (by omega) (fun c3 => ?_) (fun c3 => ?_)
  · have et : tnP M v = some (mv_up (putn M v) 16 2 (M 16 2 + 1)) := if_pos ⟨by omega, by omega, c3⟩
    iterate 2 (first | refine xG_getI rfl (by exact rfl) (by exact rfl) ?_ | refine xG_getR rfl (by exact rfl) (by exact rfl) ?_ | refine xG_add rfl ?_ | refine xG_sub rfl ?_ | refine xG_mul rfl ?_ | refine xG_putI rfl (by exact rfl) (by exact rfl) ?_ | refine xG_go (fun _ => rfl) ?_)
    rcases h.1 with i | ⟨i, _⟩ | ⟨i, _⟩ | ⟨i, j⟩ | ⟨i, j⟩
    · have := due_0 i
      omega
    · rw [i]
      rw [putn_s i] at et
      refine xG_go (pc1 := 68) (fun _ => rfl) ?_
      iterate 12 (first | refine xG_getI rfl (by exact rfl) (by exact rfl) ?_ | refine xG_getR rfl (by exact rfl) (by exact rfl) ?_ | refine xG_add rfl ?_ | refine xG_sub rfl ?_ | refine xG_mul rfl ?_ | refine xG_putI rfl (by exact rfl) (by exact rfl) ?_ | refine xG_go (fun _ => rfl) ?_)
      rw [mv_upne (show 16 ≠ 17 by decide)]
      exact xG_ret (fun _ => rfl) (Or.inl ⟨_, et, rfl, rfl⟩)
    · rw [i]
      rw [putn_t i] at et
      refine xG_go (pc1 := 79) (fun _ => rfl) ?_
      iterate 12 (first | refine xG_getI rfl (by exact rfl) (by exact rfl) ?_ | refine xG_getR rfl (by exact rfl) (by exact rfl) ?_ | refine xG_add rfl ?_ | refine xG_sub rfl ?_ | refine xG_mul rfl ?_ | refine xG_putI rfl (by exact rfl) (by exact rfl) ?_ | refine xG_go (fun _ => rfl) ?_)
      rw [mv_upne (show 16 ≠ 17 by decide)]
      exact xG_ret (fun _ => rfl) (Or.inl ⟨_, et, rfl, rfl⟩)
    · rw [i]
      rw [putn_m i] at et
      have dm := due_m i
      refine xG_go (pc1 := 90) (fun _ => rfl) ?_
      obtain ⟨m, em⟩ := Int.eq_ofNat_of_zero_le h.2.2.2.1.1
      iterate 5 (first | refine xG_getI rfl (by exact rfl) (by exact rfl) ?_ | refine xG_getR rfl (by exact rfl) (by exact rfl) ?_ | refine xG_add rfl ?_ | refine xG_sub rfl ?_ | refine xG_mul rfl ?_ | refine xG_putI rfl (by exact rfl) (by exact rfl) ?_ | refine xG_go (fun _ => rfl) ?_)
      rw [em] at et ⊢
      refine xV3 rfl (by exact rfl) (by simp) (c_tellsOfMonkey (m := m) (by omega) (by have := h.2.2.1; omega)) (fun r M' hq => ?_)
      obtain ⟨rfl, rfl⟩ := hq
      iterate 8 (first | refine xG_getI rfl (by exact rfl) (by exact rfl) ?_ | refine xG_getR rfl (by exact rfl) (by exact rfl) ?_ | refine xG_add rfl ?_ | refine xG_sub rfl ?_ | refine xG_mul rfl ?_ | refine xG_putI rfl (by exact rfl) (by exact rfl) ?_ | refine xG_go (fun _ => rfl) ?_)
      rw [putm_16]
      exact xG_ret (fun _ => rfl) (Or.inl ⟨_, et, rfl, rfl⟩)
    · rw [i]
      rw [putn_o i] at et
      have dm := due_o i
      refine xG_go (pc1 := 105) (fun _ => rfl) ?_
      obtain ⟨m, em⟩ := Int.eq_ofNat_of_zero_le h.2.2.2.2.1.1
      iterate 5 (first | refine xG_getI rfl (by exact rfl) (by exact rfl) ?_ | refine xG_getR rfl (by exact rfl) (by exact rfl) ?_ | refine xG_add rfl ?_ | refine xG_sub rfl ?_ | refine xG_mul rfl ?_ | refine xG_putI rfl (by exact rfl) (by exact rfl) ?_ | refine xG_go (fun _ => rfl) ?_)
      rw [em] at et ⊢
      refine xV3 rfl (by exact rfl) (by simp) (c_tellsOfOrgan (o := m) (by omega) (by omega)) (fun r M' hq => ?_)
      obtain ⟨rfl, rfl⟩ := hq
      iterate 7 (first | refine xG_getI rfl (by exact rfl) (by exact rfl) ?_ | refine xG_getR rfl (by exact rfl) (by exact rfl) ?_ | refine xG_add rfl ?_ | refine xG_sub rfl ?_ | refine xG_mul rfl ?_ | refine xG_putI rfl (by exact rfl) (by exact rfl) ?_ | refine xG_go (fun _ => rfl) ?_)
      rw [puto_16]
      exact xG_ret (fun _ => rfl) (Or.inl ⟨_, et, rfl, rfl⟩)
  · iterate 1 (first | refine xG_getI rfl (by exact rfl) (by exact rfl) ?_ | refine xG_getR rfl (by exact rfl) (by exact rfl) ?_ | refine xG_add rfl ?_ | refine xG_sub rfl ?_ | refine xG_mul rfl ?_ | refine xG_putI rfl (by exact rfl) (by exact rfl) ?_ | refine xG_go (fun _ => rfl) ?_)
    exact xG_ret (fun _ => rfl) (Or.inr ⟨if_neg (by omega), rfl, rfl⟩)
theorem c_endsItem (h : wf M) : xC sc (d + 2) n_Reader_endsItem [mR 16] M (oQ (enP M) M) := by
  have hi := item_in h
  have hd := due_in h
  have hn := h.2.2.2.2.2.1
  refine xC_in rfl rfl (by simp; decide) ?_
  iterate 2 (first | refine xG_getI rfl (by exact rfl) (by exact rfl) ?_ | refine xG_getR rfl (by exact rfl) (by exact rfl) ?_ | refine xG_add rfl ?_ | refine xG_sub rfl ?_ | refine xG_mul rfl ?_ | refine xG_putI rfl (by exact rfl) (by exact rfl) ?_ | refine xG_go (fun _ => rfl) ?_)
  refine xi_eq rfl (by omega) (fun c1 => ?_) (fun c1 => ?_)
  · iterate 1 (first | refine xG_getI rfl (by exact rfl) (by exact rfl) ?_ | refine xG_getR rfl (by exact rfl) (by exact rfl) ?_ | refine xG_add rfl ?_ | refine xG_sub rfl ?_ | refine xG_mul rfl ?_ | refine xG_putI rfl (by exact rfl) (by exact rfl) ?_ | refine xG_go (fun _ => rfl) ?_)
    exact xG_ret (fun _ => rfl) (Or.inr ⟨if_pos (Or.inl c1), rfl, rfl⟩)
  iterate 3 (first | refine xG_getI rfl (by exact rfl) (by exact rfl) ?_ | refine xG_getR rfl (by exact rfl) (by exact rfl) ?_ | refine xG_add rfl ?_ | refine xG_sub rfl ?_ | refine xG_mul rfl ?_ | refine xG_putI rfl (by exact rfl) (by exact rfl) ?_ | refine xG_go (fun _ => rfl) ?_)
  refine xV1 rfl (by exact rfl) (by simp) (c_numbersDue h) (fun r M' hq => ?_)
  obtain ⟨rfl, rfl⟩ := hq
  refine xb_ge rfl (by omega) (by omega) (fun c2 => ?_) (fun c2 => ?_)
  · have ee : enP M = some (mv_up (mv_up (enS M) 16 1 0) 16 3 (M 16 3 + 1)) := if_neg (by omega)
    iterate 3 (first | refine xG_getI rfl (by exact rfl) (by exact rfl) ?_ | refine xG_getR rfl (by exact rfl) (by exact rfl) ?_ | refine xG_add rfl ?_ | refine xG_sub rfl ?_ | refine xG_mul rfl ?_ | refine xG_putI rfl (by exact rfl) (by exact rfl) ?_ | refine xG_go (fun _ => rfl) ?_)
    unfold enS at ee
    refine xb_ne rfl (by omega) (by decide) (fun c3 => ?_) (fun c3 => ?_)
    · rw [if_neg c3] at ee
      iterate 3 (first | refine xG_getI rfl (by exact rfl) (by exact rfl) ?_ | refine xG_getR rfl (by exact rfl) (by exact rfl) ?_ | refine xG_add rfl ?_ | refine xG_sub rfl ?_ | refine xG_mul rfl ?_ | refine xG_putI rfl (by exact rfl) (by exact rfl) ?_ | refine xG_go (fun _ => rfl) ?_)
      refine xb_ne rfl (by omega) (by decide) (fun c4 => ?_) (fun c4 => ?_)
      · rw [if_neg c4] at ee
        iterate 10 (first | refine xG_getI rfl (by exact rfl) (by exact rfl) ?_ | refine xG_getR rfl (by exact rfl) (by exact rfl) ?_ | refine xG_add rfl ?_ | refine xG_sub rfl ?_ | refine xG_mul rfl ?_ | refine xG_putI rfl (by exact rfl) (by exact rfl) ?_ | refine xG_go (fun _ => rfl) ?_)
        rw [mv_up_j (show 3 ≠ 1 by decide)]
        exact xG_ret (fun _ => rfl) (Or.inl ⟨_, ee, rfl, rfl⟩)
      · rw [if_pos c4] at ee
        iterate 17 (first | refine xG_getI rfl (by exact rfl) (by exact rfl) ?_ | refine xG_getR rfl (by exact rfl) (by exact rfl) ?_ | refine xG_add rfl ?_ | refine xG_sub rfl ?_ | refine xG_mul rfl ?_ | refine xG_putI rfl (by exact rfl) (by exact rfl) ?_ | refine xG_go (fun _ => rfl) ?_)
        rw [mv_up_j (show 3 ≠ 1 by decide), mv_upne (show 16 ≠ 17 by decide)]
        exact xG_ret (fun _ => rfl) (Or.inl ⟨_, ee, rfl, rfl⟩)
    · rw [if_pos c3] at ee
      iterate 18 (first | refine xG_getI rfl (by exact rfl) (by exact rfl) ?_ | refine xG_getR rfl (by exact rfl) (by exact rfl) ?_ | refine xG_add rfl ?_ | refine xG_sub rfl ?_ | refine xG_mul rfl ?_ | refine xG_putI rfl (by exact rfl) (by exact rfl) ?_ | refine xG_go (fun _ => rfl) ?_)
      rw [mv_up_j (show 3 ≠ 1 by decide), mv_upne (show 16 ≠ 17 by decide)]
      exact xG_ret (fun _ => rfl) (Or.inl ⟨_, ee, rfl, rfl⟩)
  · iterate 1 (first | refine xG_getI rfl (by exact rfl) (by exact rfl) ?_ | refine xG_getR rfl (by exact rfl) (by exact rfl) ?_ | refine xG_add rfl ?_ | refine xG_sub rfl ?_ | refine xG_mul rfl ?_ | refine xG_putI rfl (by exact rfl) (by exact rfl) ?_ | refine xG_go (fun _ => rfl) ?_)
    exact xG_ret (fun _ => rfl) (Or.inr ⟨if_pos (Or.inr (by omega)), rfl, rfl⟩)
end ZH
