/-! WHAT ONE MAY LIKE: the class's surveys -/
section YT
variable {sc : Nat × (Nat → Int)} {d c : Nat} {M : mv_M}
def svy0 (M N : mv_M) (j : Nat) : Prop := (∀ a, a ≠ 120 → ¬ (124 ≤ a ∧ a ≤ 131) → N a = M a) ∧ N 120 4 = M 120 4 ∧ N 120 6 = 0 ∧ ∀ t, t < j → N 125 t = 3 ∧ N 126 t = -3 ∧ ∀ v, v < 3 → N (128 + t) v = 0
def svy (M N : mv_M) (P : Nat → Bool) (tu j : Nat) : Prop := (∀ a, a ≠ 120 → ¬ (124 ≤ a ∧ a ≤ 131) → N a = M a) ∧ N 120 4 = M 120 4 ∧ N 120 6 = cntP P j ∧ ∀ t, t < tu → N 125 t = mnl P t 3 j ∧ N 126 t = mxl P t (-3) j ∧ ∀ v : Nat, v < 3 → N (128 + t) v = ptP P t v j
theorem l_sv0 {tu : Nat} (h4 : tu ≤ 4) (et : M 4 1 = tu) {Q : Option mv_V → mv_M → Prop} (kk : ∀ N, svy0 M N tu → xG sc (d + 1) y_Likings_surveys 56 [some (mR 120), some (mI (7 ^ tu)), some (mI tu)] [] N Q) : ∀ (k j : Nat) (N : mv_M), j + k = tu → svy0 M N j → xG sc (d + 1) y_Likings_surveys 9 [some (mR 120), some (mI (7 ^ j)), some (mI j)] [] N Q := by
  intro k
  induction k with
  | zero =>
    intro j N hk hN
    have : j = tu := by omega
    subst this
    iterate 4 (first | refine xG_getI rfl (by exact rfl) (by exact rfl) ?_ | refine xG_getR rfl (by exact rfl) (by exact rfl) ?_ | refine xG_add rfl ?_ | refine xG_sub rfl ?_ | refine xG_mul rfl ?_ | refine xG_putI rfl (by exact rfl) (by exact rfl) ?_ | refine xG_go (fun _ => rfl) ?_)
    rw [hN.1 4 (by decide) (by decide), et]
    refine xb_ge rfl (by omega) (by omega) (fun _ => ?_) (fun c1 => absurd c1 (by omega))
    exact kk N hN
  | succ k ih =>
    intro j N hk hN
    obtain ⟨n1, n2, n3, n4⟩ := hN
    have sp := sk_parts (show j < 4 by omega)
    iterate 4 (first | refine xG_getI rfl (by exact rfl) (by exact rfl) ?_ | refine xG_getR rfl (by exact rfl) (by exact rfl) ?_ | refine xG_add rfl ?_ | refine xG_sub rfl ?_ | refine xG_mul rfl ?_ | refine xG_putI rfl (by exact rfl) (by exact rfl) ?_ | refine xG_go (fun _ => rfl) ?_)
    rw [n1 4 (by decide) (by decide), et]
    refine xb_ge rfl (by omega) (by omega) (fun c1 => absurd c1 (by omega)) (fun _ => ?_)
    iterate 4 (first | refine xG_getI rfl (by exact rfl) (by exact rfl) ?_ | refine xG_getR rfl (by exact rfl) (by exact rfl) ?_ | refine xG_add rfl ?_ | refine xG_sub rfl ?_ | refine xG_mul rfl ?_ | refine xG_putI rfl (by exact rfl) (by exact rfl) ?_ | refine xG_go (fun _ => rfl) ?_)
    refine xG_ast rfl (by exact rfl) (by omega) ?_
    iterate 4 (first | refine xG_getI rfl (by exact rfl) (by exact rfl) ?_ | refine xG_getR rfl (by exact rfl) (by exact rfl) ?_ | refine xG_add rfl ?_ | refine xG_sub rfl ?_ | refine xG_mul rfl ?_ | refine xG_putI rfl (by exact rfl) (by exact rfl) ?_ | refine xG_go (fun _ => rfl) ?_)
    refine xG_ast rfl (by exact rfl) (by omega) ?_
    rw [Int.toNat_natCast]
    iterate 3 (first | refine xG_getI rfl (by exact rfl) (by exact rfl) ?_ | refine xG_getR rfl (by exact rfl) (by exact rfl) ?_ | refine xG_add rfl ?_ | refine xG_sub rfl ?_ | refine xG_mul rfl ?_ | refine xG_putI rfl (by exact rfl) (by exact rfl) ?_ | refine xG_go (fun _ => rfl) ?_)
    refine xG_aald rfl (by exact rfl) (Or.inr rfl) (by omega) (by rw [Int.toNat_natCast]; exact sp.2) ?_
    iterate 1 (first | refine xG_getI rfl (by exact rfl) (by exact rfl) ?_ | refine xG_getR rfl (by exact rfl) (by exact rfl) ?_ | refine xG_add rfl ?_ | refine xG_sub rfl ?_ | refine xG_mul rfl ?_ | refine xG_putI rfl (by exact rfl) (by exact rfl) ?_ | refine xG_go (fun _ => rfl) ?_)
    refine xS2 rfl (by decide) (by simp) (c_fill sp.1 (by decide)) (fun r N1 hq => ?_)
    obtain ⟨rfl, eN⟩ := hq
    iterate 6 (first | refine xG_getI rfl (by exact rfl) (by exact rfl) ?_ | refine xG_getR rfl (by exact rfl) (by exact rfl) ?_ | refine xG_add rfl ?_ | refine xG_sub rfl ?_ | refine xG_mul rfl ?_ | refine xG_putI rfl (by exact rfl) (by exact rfl) ?_ | refine xG_go (fun _ => rfl) ?_)
    have key := ih (j + 1) N1 (by omega) ⟨fun a h1 h2 => by rw [eN, mv_row_ne (by omega), mv_upne (by omega), mv_upne (by omega)]; exact n1 a h1 h2, by rw [eN, mv_row_ne (by omega), mv_upne (by omega), mv_upne (by omega)]; exact n2, by rw [eN, mv_row_ne (by omega), mv_upne (by omega), mv_upne (by omega)]; exact n3, fun t ht => ?_⟩
    · rw [show (7 : Int) ^ (j + 1) = 7 ^ j * 7 from rfl] at key
      exact key
    · by_cases w : t = j
      · subst w
        refine ⟨?_, ?_, fun v hv => ?_⟩
        · rw [eN, mv_row_ne (by omega), mv_upne (by decide), mv_up_at]
        · rw [eN, mv_row_ne (by omega), mv_up_at]
        · rw [eN, mv_row_at]
          unfold zrow
          rw [if_pos hv]
      · obtain ⟨m1, m2, m3⟩ := n4 t (by omega)
        refine ⟨?_, ?_, fun v hv => ?_⟩
        · rw [eN, mv_row_ne (by omega), mv_upne (by decide), mv_up_j w, m1]
        · rw [eN, mv_row_ne (by omega), mv_up_j w, mv_upne (by decide), m2]
        · rw [eN, mv_row_ne (by omega), mv_upne (by omega), mv_upne (by omega), m3 v hv]
def pK (M : mv_M) (n : Nat) : Nat → Bool := fun num => isso (lkin num) (M 121) (M 122) (M 123) n
theorem l_sv {tu n A : Nat} (h4 : tu ≤ 4) (et : M 4 1 = tu) (hA : A ≤ 2401) (h6 : n ≤ 6) (en : M 120 4 = n) (hf : ∀ i, i < n → (0 ≤ M 121 i ∧ M 121 i < tu) ∧ (0 ≤ M 122 i ∧ M 122 i < tu) ∧ (-1 ≤ M 123 i ∧ M 123 i ≤ 1)) : ∀ (k j : Nat) (N : mv_M), j + k = A → svy M N (pK M n) tu j → xG sc (d + 2) y_Likings_surveys 58 [some (mR 120), some (mI A), some (mI j)] [] N (fun r N' => r = none ∧ svy M N' (pK M n) tu A) := by
  intro k
  induction k with
  | zero =>
    intro j N hk hN
    have : j = A := by omega
    subst this
    iterate 2 (first | refine xG_getI rfl (by exact rfl) (by exact rfl) ?_ | refine xG_getR rfl (by exact rfl) (by exact rfl) ?_ | refine xG_add rfl ?_ | refine xG_sub rfl ?_ | refine xG_mul rfl ?_ | refine xG_putI rfl (by exact rfl) (by exact rfl) ?_ | refine xG_go (fun _ => rfl) ?_)
    refine xb_ge rfl (by omega) (by omega) (fun _ => ?_) (fun c1 => absurd c1 (by omega))
    exact xG_ret (fun _ => rfl) ⟨rfl, hN⟩
  | succ k ih =>
    intro j N hk hN
    obtain ⟨n1, n2, n3, n4⟩ := hN
    iterate 2 (first | refine xG_getI rfl (by exact rfl) (by exact rfl) ?_ | refine xG_getR rfl (by exact rfl) (by exact rfl) ?_ | refine xG_add rfl ?_ | refine xG_sub rfl ?_ | refine xG_mul rfl ?_ | refine xG_putI rfl (by exact rfl) (by exact rfl) ?_ | refine xG_go (fun _ => rfl) ?_)
    refine xb_ge rfl (by omega) (by omega) (fun c1 => absurd c1 (by omega)) (fun _ => ?_)
    iterate 2 (first | refine xG_getI rfl (by exact rfl) (by exact rfl) ?_ | refine xG_getR rfl (by exact rfl) (by exact rfl) ?_ | refine xG_add rfl ?_ | refine xG_sub rfl ?_ | refine xG_mul rfl ?_ | refine xG_putI rfl (by exact rfl) (by exact rfl) ?_ | refine xG_go (fun _ => rfl) ?_)
    refine xV2 rfl (by exact rfl) (by simp) (c_spreads (num := j) (tu := tu) (by omega) h4 (by rw [n1 4 (by decide) (by decide), et])) (fun r N1 hq => ?_)
    obtain ⟨rfl, eN⟩ := hq
    have f1 : ∀ a, a ≠ 124 → N1 a = N a := fun a ha => by rw [eN, mv_row_ne ha]
    have f4 : ∀ t, t < tu → N1 124 t = lkin j t := fun t ht => by rw [eN, mv_row_at]; unfold sprow; rw [if_pos ht]
    have g1 : N1 121 = M 121 := by rw [f1 _ (by decide), n1 _ (by decide) (by decide)]
    have g2 : N1 122 = M 122 := by rw [f1 _ (by decide), n1 _ (by decide) (by decide)]
    have g3 : N1 123 = M 123 := by rw [f1 _ (by decide), n1 _ (by decide) (by decide)]
    iterate 1 (first | refine xG_getI rfl (by exact rfl) (by exact rfl) ?_ | refine xG_getR rfl (by exact rfl) (by exact rfl) ?_ | refine xG_add rfl ?_ | refine xG_sub rfl ?_ | refine xG_mul rfl ?_ | refine xG_putI rfl (by exact rfl) (by exact rfl) ?_ | refine xG_go (fun _ => rfl) ?_)
    refine xV1 rfl (by exact rfl) (by simp) (c_isAsKnown (row := lkin j) (n := n) (tu := tu) h4 h6 (by rw [f1 _ (by decide), n2, en]) (fun t ht => ⟨f4 t ht, lkin_in j t⟩) (by rw [g1, g2, g3]; exact hf)) (fun r M' hq => ?_)
    obtain ⟨rfl, rfl⟩ := hq
    rw [g1, g2, g3]
    by_cases w : pK M n j = true
    · rw [b01_t (p := isso (lkin j) (M 121) (M 122) (M 123) n = true) w]
      refine xe1 rfl ?_
      iterate 1 (first | refine xG_getI rfl (by exact rfl) (by exact rfl) ?_ | refine xG_getR rfl (by exact rfl) (by exact rfl) ?_ | refine xG_add rfl ?_ | refine xG_sub rfl ?_ | refine xG_mul rfl ?_ | refine xG_putI rfl (by exact rfl) (by exact rfl) ?_ | refine xG_go (fun _ => rfl) ?_)
      refine xV1 rfl (by exact rfl) (by simp) (c_takesIn (tu := tu) h4 (by rw [f1 4 (by decide), n1 4 (by decide) (by decide), et]) (fun t ht => ⟨?_, ?_, ?_⟩)) (fun r N2 hq => ?_)
      · rw [f4 t ht]
        have := lkin_in j t
        omega
      · rw [f1 125 (by decide), (n4 t ht).1]
        exact mnl_in _ _ _ (by decide) _
      · rw [f1 126 (by decide), (n4 t ht).2.1]
        exact mxl_in _ _ _ (by decide) _
      obtain ⟨rfl, t1, t2, t3, t4⟩ := hq
      iterate 2 (first | refine xG_getI rfl (by exact rfl) (by exact rfl) ?_ | refine xG_getR rfl (by exact rfl) (by exact rfl) ?_ | refine xG_add rfl ?_ | refine xG_sub rfl ?_ | refine xG_mul rfl ?_ | refine xG_putI rfl (by exact rfl) (by exact rfl) ?_ | refine xG_go (fun _ => rfl) ?_)
      refine ih (j + 1) N2 (by omega) ⟨fun a h1 h2 => by rw [t1 a h1 (by omega) (by omega), f1 a (by omega), n1 a h1 h2], by rw [t2, f1 120 (by decide), n2], ?_, fun t ht => ?_⟩
      · rw [t3, f1 120 (by decide), n3]
        simp only [cntP]
        rw [if_pos w]
      · obtain ⟨q1, q2, q3⟩ := t4 t (by omega)
        obtain ⟨m1, m2, m3⟩ := n4 t ht
        refine ⟨?_, ?_, fun v hv => ?_⟩
        · rw [q1, f4 t ht, f1 125 (by decide), m1]
          simp only [mnl]
          rw [if_pos w]
          by_cases u : lkin j t < mnl (pK M n) t 3 j
          · rw [if_pos u, if_pos ⟨ht, u⟩]
          · rw [if_neg u, if_neg (fun z => u z.2)]
        · rw [q2, f4 t ht, f1 126 (by decide), m2]
          simp only [mxl]
          rw [if_pos w]
          by_cases u : mxl (pK M n) t (-3) j < lkin j t
          · rw [if_pos u, if_pos ⟨ht, u⟩]
          · rw [if_neg u, if_neg (fun z => u z.2)]
        · rw [q3 v hv, f4 t ht, f1 _ (by omega), m3 v hv]
          simp only [ptP]
          by_cases u : sg (lkin j t) + 1 = (v : Int)
          · rw [if_pos ⟨ht, u⟩, if_pos ⟨w, u⟩]
          · rw [if_neg (fun z => u z.2), if_neg (fun z => u z.2)]
    · rw [b01_f (p := isso (lkin j) (M 121) (M 122) (M 123) n = true) w]
      refine xe0 rfl ?_
      iterate 2 (first | refine xG_getI rfl (by exact rfl) (by exact rfl) ?_ | refine xG_getR rfl (by exact rfl) (by exact rfl) ?_ | refine xG_add rfl ?_ | refine xG_sub rfl ?_ | refine xG_mul rfl ?_ | refine xG_putI rfl (by exact rfl) (by exact rfl) ?_ | refine xG_go (fun _ => rfl) ?_)
      refine ih (j + 1) N1 (by omega) ⟨fun a h1 h2 => by rw [f1 a (by omega), n1 a h1 h2], by rw [f1 120 (by decide), n2], ?_, fun t ht => ?_⟩
      · rw [f1 120 (by decide), n3]
        simp only [cntP]
        rw [if_neg w, Int.add_zero]
      · obtain ⟨m1, m2, m3⟩ := n4 t ht
        refine ⟨?_, ?_, fun v hv => ?_⟩
        · rw [f1 125 (by decide), m1]
          simp only [mnl]
          rw [if_neg w]
        · rw [f1 126 (by decide), m2]
          simp only [mxl]
          rw [if_neg w]
        · rw [f1 _ (by omega), m3 v hv]
          simp only [ptP]
          rw [if_neg (fun z => w z.1), Int.add_zero]
theorem pow7n {tu : Nat} (h : tu ≤ 4) : 7 ^ tu ≤ 2401 ∧ ((7 ^ tu : Nat) : Int) = 7 ^ tu := by
  rcases (show tu = 0 ∨ tu = 1 ∨ tu = 2 ∨ tu = 3 ∨ tu = 4 by omega) with rfl | rfl | rfl | rfl | rfl <;> decide
theorem c_surveys {tu n : Nat} (h4 : tu ≤ 4) (et : M 4 1 = tu) (h6 : n ≤ 6) (en : M 120 4 = n) (hf : ∀ i, i < n → (0 ≤ M 121 i ∧ M 121 i < tu) ∧ (0 ≤ M 122 i ∧ M 122 i < tu) ∧ (-1 ≤ M 123 i ∧ M 123 i ≤ 1)) : xC sc (d + 3) n_Likings_surveys [mR 120] M (fun r N' => r = none ∧ svy M N' (pK M n) tu (7 ^ tu)) := by
  refine xC_in rfl rfl (by simp; decide) ?_
  iterate 7 (first | refine xG_getI rfl (by exact rfl) (by exact rfl) ?_ | refine xG_getR rfl (by exact rfl) (by exact rfl) ?_ | refine xG_add rfl ?_ | refine xG_sub rfl ?_ | refine xG_mul rfl ?_ | refine xG_putI rfl (by exact rfl) (by exact rfl) ?_ | refine xG_go (fun _ => rfl) ?_)
  refine l_sv0 (d := d + 1) (M := M) h4 et (fun N hN => ?_) tu 0 _ (by omega) ⟨fun a h1 h2 => mv_upne h1, mv_up_j (by decide), mv_up_at, fun t ht => absurd ht (by omega)⟩
  obtain ⟨n1, n2, n3, n4⟩ := hN
  iterate 2 (first | refine xG_getI rfl (by exact rfl) (by exact rfl) ?_ | refine xG_getR rfl (by exact rfl) (by exact rfl) ?_ | refine xG_add rfl ?_ | refine xG_sub rfl ?_ | refine xG_mul rfl ?_ | refine xG_putI rfl (by exact rfl) (by exact rfl) ?_ | refine xG_go (fun _ => rfl) ?_)
  rw [← (pow7n h4).2]
  exact l_sv h4 et (pow7n h4).1 h6 en hf (7 ^ tu) 0 N (by omega) ⟨n1, n2, n3, fun t ht => ⟨(n4 t ht).1, (n4 t ht).2.1, fun v hv => (n4 t ht).2.2 v hv⟩⟩
end YT
