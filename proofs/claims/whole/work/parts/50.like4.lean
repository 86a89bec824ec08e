/-! WHAT ONE MAY LIKE: counts, the class's takesIn -/
section YS
variable {sc : Nat × (Nat → Int)} {d c : Nat} {M : mv_M}
def cntP (P : Nat → Bool) : Nat → Int
  | 0 => 0
  | j + 1 => cntP P j + if P j = true then 1 else 0
def mnl (P : Nat → Bool) (t : Nat) (b : Int) : Nat → Int
  | 0 => b
  | j + 1 => if P j = true then (if lkin j t < mnl P t b j then lkin j t else mnl P t b j) else mnl P t b j
def mxl (P : Nat → Bool) (t : Nat) (b : Int) : Nat → Int
  | 0 => b
  | j + 1 => if P j = true then (if mxl P t b j < lkin j t then lkin j t else mxl P t b j) else mxl P t b j
def ptP (P : Nat → Bool) (t : Nat) (v : Int) : Nat → Int
  | 0 => 0
  | j + 1 => ptP P t v j + if P j = true ∧ sg (lkin j t) + 1 = v then 1 else 0
theorem cntP_in (P : Nat → Bool) : ∀ j : Nat, 0 ≤ cntP P j ∧ cntP P j ≤ j
  | 0 => by simp [cntP]
  | j + 1 => by
    have := cntP_in P j
    simp only [cntP]
    split <;> omega
theorem ptP_in (P : Nat → Bool) (t : Nat) (v : Int) : ∀ j : Nat, 0 ≤ ptP P t v j ∧ ptP P t v j ≤ j
  | 0 => by simp [ptP]
  | j + 1 => by
    have := ptP_in P t v j
    simp only [ptP]
    split <;> omega
theorem mnl_in (P : Nat → Bool) (t : Nat) (b : Int) (hb : -9 ≤ b ∧ b ≤ 9) : ∀ j : Nat, -9 ≤ mnl P t b j ∧ mnl P t b j ≤ 9
  | 0 => hb
  | j + 1 => by
    have := mnl_in P t b hb j
    have := lkin_in j t
    simp only [mnl]
    split
    · split <;> omega
    · omega
theorem mxl_in (P : Nat → Bool) (t : Nat) (b : Int) (hb : -9 ≤ b ∧ b ≤ 9) : ∀ j : Nat, -9 ≤ mxl P t b j ∧ mxl P t b j ≤ 9
  | 0 => hb
  | j + 1 => by
    have := mxl_in P t b hb j
    have := lkin_in j t
    simp only [mxl]
    split
    · split <;> omega
    · omega
theorem mnl_eq (P : Nat → Bool) (t : Nat) : ∀ j : Nat, (cntP P j = 0 ∧ mnl P t 3 j = 3 ∧ mnl P t 9 j = 9) ∨ (mnl P t 3 j = mnl P t 9 j ∧ mnl P t 3 j ≤ 3)
  | 0 => Or.inl ⟨rfl, rfl, rfl⟩
  | j + 1 => by
    have h1 := mnl_eq P t j
    have h2 := lkin_in j t
    simp only [mnl, cntP]
    by_cases w : P j = true
    · rw [if_pos w, if_pos w, if_pos w]
      right
      split <;> split <;> omega
    · rw [if_neg w, if_neg w, if_neg w]
      omega
theorem mxl_eq (P : Nat → Bool) (t : Nat) : ∀ j : Nat, (cntP P j = 0 ∧ mxl P t (-3) j = -3 ∧ mxl P t (-9) j = -9) ∨ (mxl P t (-3) j = mxl P t (-9) j ∧ -3 ≤ mxl P t (-3) j)
  | 0 => Or.inl ⟨rfl, rfl, rfl⟩
  | j + 1 => by
    have h1 := mxl_eq P t j
    have h2 := lkin_in j t
    simp only [mxl, cntP]
    by_cases w : P j = true
    · rw [if_pos w, if_pos w, if_pos w]
      right
      split <;> split <;> omega
    · rw [if_neg w, if_neg w, if_neg w]
      omega
theorem sk_parts {t : Nat} (ht : t < 4) : SK[128 + t]? = some (.inl (0, 3)) ∧ [some 128, some 129, some 130, some 131][t]? = some (some (128 + t)) := by
  rcases (show t = 0 ∨ t = 1 ∨ t = 2 ∨ t = 3 by omega) with rfl | rfl | rfl | rfl <;> exact ⟨rfl, rfl⟩
/-- a row is taken in, up to the tune j -/
def tkn (M N : mv_M) (j : Nat) : Prop := (∀ a, a ≠ 120 → ¬ (125 ≤ a ∧ a ≤ 126) → ¬ (128 ≤ a ∧ a ≤ 131) → N a = M a) ∧ N 120 4 = M 120 4 ∧ N 120 6 = M 120 6 + 1 ∧ ∀ t, t < 4 → (N 125 t = if t < j ∧ M 124 t < M 125 t then M 124 t else M 125 t) ∧ (N 126 t = if t < j ∧ M 126 t < M 124 t then M 124 t else M 126 t) ∧ ∀ v, v < 3 → N (128 + t) v = M (128 + t) v + if t < j ∧ sg (M 124 t) + 1 = (v : Int) then 1 else 0
theorem l_takesIn {tu : Nat} (h4 : tu ≤ 4) (et : M 4 1 = tu) (hr : ∀ t, t < tu → (-9 ≤ M 124 t ∧ M 124 t ≤ 9) ∧ (-9 ≤ M 125 t ∧ M 125 t ≤ 9) ∧ (-9 ≤ M 126 t ∧ M 126 t ≤ 9)) : ∀ (k j : Nat) (N : mv_M), j + k = tu → tkn M N j → xG sc (d + 1) y_Likings_takesIn 12 [some (mR 120), some (mI j)] [] N (fun r N' => r = none ∧ tkn M N' tu) := by
  intro k
  induction k with
  | zero =>
    intro j N hk hN
    have : j = tu := by omega
    subst this
    iterate 4 (first | refine xG_getI rfl (by exact rfl) (by exact rfl) ?_ | refine xG_getR rfl (by exact rfl) (by exact rfl) ?_ | refine xG_add rfl ?_ | refine xG_sub rfl ?_ | refine xG_mul rfl ?_ | refine xG_putI rfl (by exact rfl) (by exact rfl) ?_ | refine xG_go (fun _ => rfl) ?_)
    rw [hN.1 4 (by decide) (by decide) (by decide), et]
    refine xb_ge rfl (by omega) (by omega) (fun _ => ?_) (fun c1 => absurd c1 (by omega))
    exact xG_ret (fun _ => rfl) ⟨rfl, hN⟩
  | succ k ih =>
    intro j N hk hN
    obtain ⟨n1, n2, n3, n4⟩ := hN
    obtain ⟨q1, q2, q3⟩ := n4 j (by omega)
    rw [if_neg (by omega)] at q1 q2
    obtain ⟨r1, r2, r3⟩ := hr j (by omega)
    have sp := sk_parts (show j < 4 by omega)
    have e4 : N 124 = M 124 := n1 124 (by decide) (by decide) (by decide)
    iterate 4 (first | refine xG_getI rfl (by exact rfl) (by exact rfl) ?_ | refine xG_getR rfl (by exact rfl) (by exact rfl) ?_ | refine xG_add rfl ?_ | refine xG_sub rfl ?_ | refine xG_mul rfl ?_ | refine xG_putI rfl (by exact rfl) (by exact rfl) ?_ | refine xG_go (fun _ => rfl) ?_)
    rw [n1 4 (by decide) (by decide) (by decide), et]
    refine xb_ge rfl (by omega) (by omega) (fun c1 => absurd c1 (by omega)) (fun _ => ?_)
    iterate 6 (first | refine xG_getI rfl (by exact rfl) (by exact rfl) ?_ | refine xG_getR rfl (by exact rfl) (by exact rfl) ?_ | refine xG_add rfl ?_ | refine xG_sub rfl ?_ | refine xG_mul rfl ?_ | refine xG_putI rfl (by exact rfl) (by exact rfl) ?_ | refine xG_go (fun _ => rfl) ?_)
    refine xG_ald rfl (by exact rfl) (by omega) ?_
    iterate 3 (first | refine xG_getI rfl (by exact rfl) (by exact rfl) ?_ | refine xG_getR rfl (by exact rfl) (by exact rfl) ?_ | refine xG_add rfl ?_ | refine xG_sub rfl ?_ | refine xG_mul rfl ?_ | refine xG_putI rfl (by exact rfl) (by exact rfl) ?_ | refine xG_go (fun _ => rfl) ?_)
    refine xG_ald rfl (by exact rfl) (by omega) ?_
    rw [Int.toNat_natCast, e4, q1]
    refine xG_min rfl (by omega) (by omega) (by simp) ?_
    refine xG_ast rfl (by exact rfl) (by omega) ?_
    rw [Int.toNat_natCast]
    iterate 6 (first | refine xG_getI rfl (by exact rfl) (by exact rfl) ?_ | refine xG_getR rfl (by exact rfl) (by exact rfl) ?_ | refine xG_add rfl ?_ | refine xG_sub rfl ?_ | refine xG_mul rfl ?_ | refine xG_putI rfl (by exact rfl) (by exact rfl) ?_ | refine xG_go (fun _ => rfl) ?_)
    refine xG_ald rfl (by exact rfl) (by omega) ?_
    iterate 3 (first | refine xG_getI rfl (by exact rfl) (by exact rfl) ?_ | refine xG_getR rfl (by exact rfl) (by exact rfl) ?_ | refine xG_add rfl ?_ | refine xG_sub rfl ?_ | refine xG_mul rfl ?_ | refine xG_putI rfl (by exact rfl) (by exact rfl) ?_ | refine xG_go (fun _ => rfl) ?_)
    refine xG_ald rfl (by exact rfl) (by omega) ?_
    rw [Int.toNat_natCast, mv_upne (show 126 ≠ 125 by decide), mv_upne (show 124 ≠ 125 by decide), e4, q2]
    refine xG_max rfl (by omega) (by omega) (by simp) ?_
    refine xG_ast rfl (by exact rfl) (by omega) ?_
    rw [Int.toNat_natCast]
    iterate 3 (first | refine xG_getI rfl (by exact rfl) (by exact rfl) ?_ | refine xG_getR rfl (by exact rfl) (by exact rfl) ?_ | refine xG_add rfl ?_ | refine xG_sub rfl ?_ | refine xG_mul rfl ?_ | refine xG_putI rfl (by exact rfl) (by exact rfl) ?_ | refine xG_go (fun _ => rfl) ?_)
    refine xG_aald rfl (by exact rfl) (Or.inr rfl) (by omega) (by rw [Int.toNat_natCast]; exact sp.2) ?_
    iterate 3 (first | refine xG_getI rfl (by exact rfl) (by exact rfl) ?_ | refine xG_getR rfl (by exact rfl) (by exact rfl) ?_ | refine xG_add rfl ?_ | refine xG_sub rfl ?_ | refine xG_mul rfl ?_ | refine xG_putI rfl (by exact rfl) (by exact rfl) ?_ | refine xG_go (fun _ => rfl) ?_)
    refine xG_ald rfl (by exact rfl) (by omega) ?_
    rw [Int.toNat_natCast, mv_upne (show 124 ≠ 126 by decide), mv_upne (show 124 ≠ 125 by decide), e4]
    iterate 1 (first | refine xG_getI rfl (by exact rfl) (by exact rfl) ?_ | refine xG_getR rfl (by exact rfl) (by exact rfl) ?_ | refine xG_add rfl ?_ | refine xG_sub rfl ?_ | refine xG_mul rfl ?_ | refine xG_putI rfl (by exact rfl) (by exact rfl) ?_ | refine xG_go (fun _ => rfl) ?_)
    refine xS2 rfl (by decide) (by simp) (c_compare (by omega) (by decide)) (fun r M' hq => ?_)
    obtain ⟨rfl, rfl⟩ := hq
    rw [Int.sub_zero]
    have l3 := sg_in (M 124 j)
    iterate 3 (first | refine xG_getI rfl (by exact rfl) (by exact rfl) ?_ | refine xG_getR rfl (by exact rfl) (by exact rfl) ?_ | refine xG_add rfl ?_ | refine xG_sub rfl ?_ | refine xG_mul rfl ?_ | refine xG_putI rfl (by exact rfl) (by exact rfl) ?_ | refine xG_go (fun _ => rfl) ?_)
    refine xG_ald rfl sp.1 (by omega) ?_
    iterate 2 (first | refine xG_getI rfl (by exact rfl) (by exact rfl) ?_ | refine xG_getR rfl (by exact rfl) (by exact rfl) ?_ | refine xG_add rfl ?_ | refine xG_sub rfl ?_ | refine xG_mul rfl ?_ | refine xG_putI rfl (by exact rfl) (by exact rfl) ?_ | refine xG_go (fun _ => rfl) ?_)
    refine xG_ast rfl sp.1 (by omega) ?_
    rw [mv_upne (show 128 + j ≠ 126 by omega), mv_upne (show 128 + j ≠ 125 by omega)]
    iterate 2 (first | refine xG_getI rfl (by exact rfl) (by exact rfl) ?_ | refine xG_getR rfl (by exact rfl) (by exact rfl) ?_ | refine xG_add rfl ?_ | refine xG_sub rfl ?_ | refine xG_mul rfl ?_ | refine xG_putI rfl (by exact rfl) (by exact rfl) ?_ | refine xG_go (fun _ => rfl) ?_)
    refine ih (j + 1) _ (by omega) ⟨fun a h1 h2 h3 => ?_, ?_, ?_, fun t ht => ⟨?_, ?_, fun v hv => ?_⟩⟩
    · rw [mv_upne (by omega), mv_upne (by omega), mv_upne (by omega)]
      exact n1 a h1 h2 h3
    · rw [mv_upne (by omega), mv_upne (by omega), mv_upne (by omega)]
      exact n2
    · rw [mv_upne (by omega), mv_upne (by omega), mv_upne (by omega)]
      exact n3
    · rw [mv_upne (by omega), mv_upne (by omega)]
      by_cases w : t = j
      · subst w
        rw [mv_up_at]
        by_cases u : M 124 t < M 125 t
        · rw [if_pos u, if_pos ⟨by omega, u⟩]
        · rw [if_neg u, if_neg (fun z => u z.2)]
      · rw [mv_up_j w, (n4 t ht).1]
        by_cases u : t < j ∧ M 124 t < M 125 t
        · rw [if_pos u, if_pos ⟨by omega, u.2⟩]
        · rw [if_neg u, if_neg (fun z => u ⟨by omega, z.2⟩)]
    · rw [mv_upne (by omega)]
      by_cases w : t = j
      · subst w
        rw [mv_up_at]
        by_cases u : M 126 t < M 124 t
        · rw [if_pos u, if_pos ⟨by omega, u⟩]
        · rw [if_neg u, if_neg (fun z => u z.2)]
      · rw [mv_up_j w, mv_upne (by omega), (n4 t ht).2.1]
        by_cases u : t < j ∧ M 126 t < M 124 t
        · rw [if_pos u, if_pos ⟨by omega, u.2⟩]
        · rw [if_neg u, if_neg (fun z => u ⟨by omega, z.2⟩)]
    · have n5 := (n4 t ht).2.2 v hv
      by_cases w : t = j
      · subst w
        rw [if_neg (fun z => absurd z.1 (by omega)), Int.add_zero] at n5
        by_cases u : v = (sg (M 124 t) + 1).toNat
        · rw [← u, mv_up_at, n5, if_pos ⟨by omega, by omega⟩]
        · rw [mv_up_j u, mv_upne (by omega), mv_upne (by omega), n5, if_neg (fun z => u (by omega)), Int.add_zero]
      · rw [mv_upne (by omega), mv_upne (by omega), mv_upne (by omega), n5]
        by_cases u : t < j ∧ sg (M 124 t) + 1 = (v : Int)
        · rw [if_pos u, if_pos ⟨by omega, u.2⟩]
        · rw [if_neg u, if_neg (fun z => u ⟨by omega, z.2⟩)]
theorem c_takesIn {tu : Nat} (h4 : tu ≤ 4) (et : M 4 1 = tu) (hr : ∀ t, t < tu → (-9 ≤ M 124 t ∧ M 124 t ≤ 9) ∧ (-9 ≤ M 125 t ∧ M 125 t ≤ 9) ∧ (-9 ≤ M 126 t ∧ M 126 t ≤ 9)) : xC sc (d + 2) n_Likings_takesIn [mR 120] M (fun r N' => r = none ∧ tkn M N' tu) := by
  refine xC_in rfl rfl (by simp; decide) ?_
  iterate 8 (first | refine xG_getI rfl (by exact rfl) (by exact rfl) ?_ | refine xG_getR rfl (by exact rfl) (by exact rfl) ?_ | refine xG_add rfl ?_ | refine xG_sub rfl ?_ | refine xG_mul rfl ?_ | refine xG_putI rfl (by exact rfl) (by exact rfl) ?_ | refine xG_go (fun _ => rfl) ?_)
  refine l_takesIn h4 et hr tu 0 _ (by omega) ⟨fun a h1 h2 h3 => mv_upne h1, mv_up_j (by decide), mv_up_at, fun t ht => ⟨?_, ?_, fun v hv => ?_⟩⟩
  · rw [mv_upne (by decide), if_neg (fun z => absurd z.1 (by omega))]
  · rw [mv_upne (by decide), if_neg (fun z => absurd z.1 (by omega))]
  · rw [mv_upne (by omega), if_neg (fun z => absurd z.1 (by omega)), Int.add_zero]
end YS
