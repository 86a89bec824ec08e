/-! THE BRIBES: the reference -/
def nd (coat g : Nat → Int) (m e : Nat) : Int := if cst coat g m e = 1000 then 99 else cst coat g m e
def sumR (coat g : Nat → Int) (nm n : Nat) : Nat → Int
  | 0 => 0
  | j + 1 => sumR coat g nm n j + if nd coat g j (dgt nm n j) = 99 then 999 else nd coat g j (dgt nm n j)
theorem nd_or {coat g : Nat → Int} (hd : dok g) {m e : Nat} (he : e ≤ 2) : (cst coat g m e = 1000 ∧ nd coat g m e = 99) ∨ (0 ≤ cst coat g m e ∧ cst coat g m e ≤ 9 ∧ nd coat g m e = cst coat g m e) := by
  have := (cst_ok (coat := coat) hd).2.1 m e he
  unfold nd
  split <;> omega
theorem sumR_or {coat g : Nat → Int} (hd : dok g) {nm n : Nat} : ∀ j : Nat, (sumR coat g nm n j = sumc (cst coat g) nm n j ∧ 0 ≤ sumc (cst coat g) nm n j ∧ sumc (cst coat g) nm n j ≤ 9 * j ∧ ∀ i, i < j → cst coat g i (dgt nm n i) ≤ 9) ∨ (999 ≤ sumR coat g nm n j ∧ sumR coat g nm n j ≤ 1000 * j ∧ 1000 ≤ sumc (cst coat g) nm n j)
  | 0 => Or.inl ⟨rfl, by simp [sumc], by simp [sumc], fun i hi => absurd hi (by omega)⟩
  | j + 1 => by
    have ih := sumR_or (coat := coat) hd (nm := nm) (n := n) j
    have h2 := nd_or (coat := coat) hd (m := j) (dgt_lt nm n j)
    simp only [sumR, sumc]
    rcases h2 with h2 | h2
    · right
      rw [if_pos h2.2]
      omega
    · rw [if_neg (by omega)]
      rcases ih with ih | ih
      · left
        refine ⟨by omega, by omega, by omega, fun i hi => ?_⟩
        by_cases w : i = j
        · rw [w]; omega
        · exact ih.2.2.2 i (by omega)
      · right
        omega
/-- how it votes with what it was given -/
theorem vote_nd {coat g w : Nat → Int} (hd : dok g) {m e : Nat} (hm : m < 6) (he : e ≤ 2) (hc : cst coat g m e ≤ 9) (e0 : w 0 = g 0) (e3 : w (3 + m) = g (3 + m)) (e9 : w (9 + m) = g (9 + m) + nd coat g m e) : vote coat w m = vote coat g m + e ∧ 0 ≤ w (9 + m) ∧ w (9 + m) ≤ 9 := by
  have n0 := hd.2.2.2.2.1 m hm
  have hn := nd_or (coat := coat) hd (m := m) he
  have en : nd coat g m e = cst coat g m e := by omega
  rw [en] at e9
  by_cases z : e = 0
  · have : cst coat g m e = 0 := by unfold cst; rw [if_pos z]
    rw [this] at e9
    refine ⟨?_, by omega, by omega⟩
    subst z
    unfold vote
    rw [e0, e3, e9, Int.add_zero]
    omega
  · have ec : ¬ (6 ≤ m ∨ coat m < g 0 ∨ 1 < vote coat g m + e ∨ 9 < vote coat g m + e - g (3 + m)) := by
      intro y
      unfold cst at hc
      rw [if_neg z, if_pos y] at hc
      omega
    have ed : cst coat g m e = vote coat g m + e - g (3 + m) - g (9 + m) := by
      unfold cst
      rw [if_neg z, if_neg ec]
    have vi := vote_in coat g m
    rw [ed] at e9
    refine ⟨?_, by omega, by omega⟩
    have : vote coat w m = sg (vote coat g m + e) := by
      show (if coat m < w 0 then 0 else sg (w (3 + m) + w (9 + m))) = _
      rw [e0, e3, e9, if_neg (by omega)]
      congr 1
      omega
    rw [this]
    unfold sg
    split
    · omega
    · split <;> omega
section ZF
variable {sc : Nat × (Nat → Int)} {d c : Nat} {M : mv_M}
theorem m_needs {m e : Nat} (hk : mok M) (hd : dok (M 147)) (hm : m < 6) (he : e ≤ 2) : xC sc (d + 2) n_Mod_needs [mR 143, mI m, mI e] M (fun r M' => M = M' ∧ r = some (mI (nd (M 145) (M 147) m e))) := by
  have h0 := hd.1
  have h1 := hk.2.2.2.2.2.1 m hm
  have h2 := hd.2.2.2.1 m hm
  have h3 := hd.2.2.2.2.1 m hm
  have vi := vote_in (M 145) (M 147) m
  refine xC_in rfl rfl (by simp; decide) ?_
  iterate 1 (first | refine xG_getI rfl (by exact rfl) (by exact rfl) ?_ | refine xG_getR rfl (by exact rfl) (by exact rfl) ?_ | refine xG_add rfl ?_ | refine xG_sub rfl ?_ | refine xG_mul rfl ?_ | refine xG_putI rfl (by exact rfl) (by exact rfl) ?_ | refine xG_go (fun _ => rfl) ?_)
  refine xi_ne rfl (by omega) (fun c1 => ?_) (fun c1 => ?_)
  · iterate 5 (first | refine xG_getI rfl (by exact rfl) (by exact rfl) ?_ | refine xG_getR rfl (by exact rfl) (by exact rfl) ?_ | refine xG_add rfl ?_ | refine xG_sub rfl ?_ | refine xG_mul rfl ?_ | refine xG_putI rfl (by exact rfl) (by exact rfl) ?_ | refine xG_go (fun _ => rfl) ?_)
    refine xG_ald rfl (by exact rfl) (by omega) ?_
    iterate 5 (first | refine xG_getI rfl (by exact rfl) (by exact rfl) ?_ | refine xG_getR rfl (by exact rfl) (by exact rfl) ?_ | refine xG_add rfl ?_ | refine xG_sub rfl ?_ | refine xG_mul rfl ?_ | refine xG_putI rfl (by exact rfl) (by exact rfl) ?_ | refine xG_go (fun _ => rfl) ?_)
    refine xG_ald rfl (by exact rfl) (by omega) ?_
    rw [show ((3 : Int) + (m : Int)).toNat = 3 + m by omega, show ((9 : Int) + (m : Int)).toNat = 9 + m by omega]
    iterate 3 (first | refine xG_getI rfl (by exact rfl) (by exact rfl) ?_ | refine xG_getR rfl (by exact rfl) (by exact rfl) ?_ | refine xG_add rfl ?_ | refine xG_sub rfl ?_ | refine xG_mul rfl ?_ | refine xG_putI rfl (by exact rfl) (by exact rfl) ?_ | refine xG_go (fun _ => rfl) ?_)
    refine xS1 rfl (by decide) (by simp) (m_sign (by omega)) (fun r M' hq => ?_)
    obtain ⟨rfl, rfl⟩ := hq
    have si := sg_in (M 147 (3 + m) + M 147 (9 + m))
    iterate 6 (first | refine xG_getI rfl (by exact rfl) (by exact rfl) ?_ | refine xG_getR rfl (by exact rfl) (by exact rfl) ?_ | refine xG_add rfl ?_ | refine xG_sub rfl ?_ | refine xG_mul rfl ?_ | refine xG_putI rfl (by exact rfl) (by exact rfl) ?_ | refine xG_go (fun _ => rfl) ?_)
    refine xG_ald rfl (by exact rfl) (by omega) ?_
    iterate 3 (first | refine xG_getI rfl (by exact rfl) (by exact rfl) ?_ | refine xG_getR rfl (by exact rfl) (by exact rfl) ?_ | refine xG_add rfl ?_ | refine xG_sub rfl ?_ | refine xG_mul rfl ?_ | refine xG_putI rfl (by exact rfl) (by exact rfl) ?_ | refine xG_go (fun _ => rfl) ?_)
    refine xG_ald rfl (by exact rfl) (by omega) ?_
    rw [Int.toNat_natCast, show (0 : Int).toNat = 0 from rfl]
    have big : (6 ≤ m ∨ M 145 m < M 147 0 ∨ 1 < vote (M 145) (M 147) m + e ∨ 9 < vote (M 145) (M 147) m + e - M 147 (3 + m)) → nd (M 145) (M 147) m e = 99 := by
      intro z
      unfold nd
      rw [if_pos]
      unfold cst
      rw [if_neg (by omega), if_pos z]
    have f99 : (6 ≤ m ∨ M 145 m < M 147 0 ∨ 1 < vote (M 145) (M 147) m + e ∨ 9 < vote (M 145) (M 147) m + e - M 147 (3 + m)) → xG sc (d + 1) y_Mod_needs 54 [some (mR 143), some (mI m), some (mI e), some (mI (M 147 (3 + m) + M 147 (9 + m))), some (mI (sg (M 147 (3 + m) + M 147 (9 + m)) + e)), none] [] M (fun r M' => M = M' ∧ r = some (mI (nd (M 145) (M 147) m e))) := by
      intro z
      rw [big z]
      iterate 10 (first | refine xG_getI rfl (by exact rfl) (by exact rfl) ?_ | refine xG_getR rfl (by exact rfl) (by exact rfl) ?_ | refine xG_add rfl ?_ | refine xG_sub rfl ?_ | refine xG_mul rfl ?_ | refine xG_putI rfl (by exact rfl) (by exact rfl) ?_ | refine xG_go (fun _ => rfl) ?_)
      refine xG_ald rfl (by exact rfl) (by omega) ?_
      rw [show ((9 : Int) + (m : Int)).toNat = 9 + m by omega]
      iterate 1 (first | refine xG_getI rfl (by exact rfl) (by exact rfl) ?_ | refine xG_getR rfl (by exact rfl) (by exact rfl) ?_ | refine xG_add rfl ?_ | refine xG_sub rfl ?_ | refine xG_mul rfl ?_ | refine xG_putI rfl (by exact rfl) (by exact rfl) ?_ | refine xG_go (fun _ => rfl) ?_)
      refine xb_le rfl (by omega) (by omega) (fun c2 => absurd c2 (by omega)) (fun _ => ?_)
      iterate 2 (first | refine xG_getI rfl (by exact rfl) (by exact rfl) ?_ | refine xG_getR rfl (by exact rfl) (by exact rfl) ?_ | refine xG_add rfl ?_ | refine xG_sub rfl ?_ | refine xG_mul rfl ?_ | refine xG_putI rfl (by exact rfl) (by exact rfl) ?_ | refine xG_go (fun _ => rfl) ?_)
      exact xG_ret (fun _ => rfl) ⟨rfl, rfl⟩
    refine xb_gt rfl (by omega) (by omega) (fun c2 => ?_) (fun c2 => ?_)
    · exact f99 (Or.inr (Or.inl c2))
    · have ev : vote (M 145) (M 147) m = sg (M 147 (3 + m) + M 147 (9 + m)) := by
        unfold vote
        rw [if_neg (by omega)]
      iterate 2 (first | refine xG_getI rfl (by exact rfl) (by exact rfl) ?_ | refine xG_getR rfl (by exact rfl) (by exact rfl) ?_ | refine xG_add rfl ?_ | refine xG_sub rfl ?_ | refine xG_mul rfl ?_ | refine xG_putI rfl (by exact rfl) (by exact rfl) ?_ | refine xG_go (fun _ => rfl) ?_)
      refine xb_le rfl (by omega) (by omega) (fun c3 => ?_) (fun c3 => ?_)
      · iterate 11 (first | refine xG_getI rfl (by exact rfl) (by exact rfl) ?_ | refine xG_getR rfl (by exact rfl) (by exact rfl) ?_ | refine xG_add rfl ?_ | refine xG_sub rfl ?_ | refine xG_mul rfl ?_ | refine xG_putI rfl (by exact rfl) (by exact rfl) ?_ | refine xG_go (fun _ => rfl) ?_)
        refine xG_ald rfl (by exact rfl) (by omega) ?_
        rw [show ((9 : Int) + (m : Int)).toNat = 9 + m by omega]
        iterate 1 (first | refine xG_getI rfl (by exact rfl) (by exact rfl) ?_ | refine xG_getR rfl (by exact rfl) (by exact rfl) ?_ | refine xG_add rfl ?_ | refine xG_sub rfl ?_ | refine xG_mul rfl ?_ | refine xG_putI rfl (by exact rfl) (by exact rfl) ?_ | refine xG_go (fun _ => rfl) ?_)
        refine xb_le rfl (by omega) (by omega) (fun c4 => ?_) (fun c4 => ?_)
        · iterate 1 (first | refine xG_getI rfl (by exact rfl) (by exact rfl) ?_ | refine xG_getR rfl (by exact rfl) (by exact rfl) ?_ | refine xG_add rfl ?_ | refine xG_sub rfl ?_ | refine xG_mul rfl ?_ | refine xG_putI rfl (by exact rfl) (by exact rfl) ?_ | refine xG_go (fun _ => rfl) ?_)
          refine xG_ret (fun _ => rfl) ⟨rfl, ?_⟩
          have : cst (M 145) (M 147) m e = vote (M 145) (M 147) m + e - M 147 (3 + m) - M 147 (9 + m) := by
            unfold cst
            rw [if_neg (by omega), if_neg (by omega)]
          unfold nd
          rw [this, if_neg (by omega), ev]
          congr 2
          omega
        · iterate 2 (first | refine xG_getI rfl (by exact rfl) (by exact rfl) ?_ | refine xG_getR rfl (by exact rfl) (by exact rfl) ?_ | refine xG_add rfl ?_ | refine xG_sub rfl ?_ | refine xG_mul rfl ?_ | refine xG_putI rfl (by exact rfl) (by exact rfl) ?_ | refine xG_go (fun _ => rfl) ?_)
          refine xG_ret (fun _ => rfl) ⟨rfl, ?_⟩
          rw [big (by omega)]
      · exact f99 (by omega)
  · iterate 1 (first | refine xG_getI rfl (by exact rfl) (by exact rfl) ?_ | refine xG_getR rfl (by exact rfl) (by exact rfl) ?_ | refine xG_add rfl ?_ | refine xG_sub rfl ?_ | refine xG_mul rfl ?_ | refine xG_putI rfl (by exact rfl) (by exact rfl) ?_ | refine xG_go (fun _ => rfl) ?_)
    refine xG_ret (fun _ => rfl) ⟨rfl, ?_⟩
    have : cst (M 145) (M 147) m e = 0 := by
      unfold cst
      rw [if_pos (by omega)]
    unfold nd
    rw [this, if_neg (by decide)]
theorem pw3 {m : Nat} (h : m ≤ 6) : 1 ≤ 3 ^ m ∧ 3 ^ m ≤ 729 ∧ ((3 ^ m : Nat) : Int) = (3 : Int) ^ m := by
  rcases (show m = 0 ∨ m = 1 ∨ m = 2 ∨ m = 3 ∨ m = 4 ∨ m = 5 ∨ m = 6 by omega) with rfl | rfl | rfl | rfl | rfl | rfl | rfl <;> decide
def wrw (M N : mv_M) (nm n j : Nat) : Prop := (∀ a, a ≠ 158 → a ≠ 160 → a ≠ 161 → N a = M a) ∧ (∀ i, i < 21 → N 158 i = M 147 i + if 9 ≤ i ∧ i < 9 + j then nd (M 145) (M 147) (i - 9) (dgt nm n (i - 9)) else 0) ∧ ∀ i, i < j → N 160 i = nd (M 145) (M 147) i (dgt nm n i)
theorem l_ways {nm n : Nat} (hk : mok M) (hd : dok (M 147)) (n6 : nm ≤ 6) (hn : n < 3 ^ nm) (en : M 143 2 = nm) {N0 : mv_M} : ∀ (k j : Nat) (N : mv_M), j + k = nm → wrw M N nm n j → N 161 = N0 161 → xG sc (d + 3) y_Mod_waysBy 8 [some (mR 143), some (mI n), some (mI (sumR (M 145) (M 147) nm n j)), some (mI j)] [] N (fun r N' => wrw M N' nm n nm ∧ N' 161 = N0 161 ∧ r = some (mI (if 999 < sumR (M 145) (M 147) nm n nm then 999 else sumR (M 145) (M 147) nm n nm))) := by
  have p3 := pw3 n6
  have sb := sumR_or (coat := M 145) hd (nm := nm) (n := n) nm
  intro k
  induction k with
  | zero =>
    intro j N hj hN h161
    have : j = nm := by omega
    subst this
    iterate 3 (first | refine xG_getI rfl (by exact rfl) (by exact rfl) ?_ | refine xG_getR rfl (by exact rfl) (by exact rfl) ?_ | refine xG_add rfl ?_ | refine xG_sub rfl ?_ | refine xG_mul rfl ?_ | refine xG_putI rfl (by exact rfl) (by exact rfl) ?_ | refine xG_go (fun _ => rfl) ?_)
    rw [hN.1 143 (by decide) (by decide) (by decide), en]
    refine xb_ge rfl (by omega) (by omega) (fun _ => ?_) (fun c1 => absurd c1 (by omega))
    iterate 2 (first | refine xG_getI rfl (by exact rfl) (by exact rfl) ?_ | refine xG_getR rfl (by exact rfl) (by exact rfl) ?_ | refine xG_add rfl ?_ | refine xG_sub rfl ?_ | refine xG_mul rfl ?_ | refine xG_putI rfl (by exact rfl) (by exact rfl) ?_ | refine xG_go (fun _ => rfl) ?_)
    refine xb_le rfl (by omega) (by omega) (fun c1 => ?_) (fun c1 => ?_)
    · rw [if_neg (by omega)]
      iterate 1 (first | refine xG_getI rfl (by exact rfl) (by exact rfl) ?_ | refine xG_getR rfl (by exact rfl) (by exact rfl) ?_ | refine xG_add rfl ?_ | refine xG_sub rfl ?_ | refine xG_mul rfl ?_ | refine xG_putI rfl (by exact rfl) (by exact rfl) ?_ | refine xG_go (fun _ => rfl) ?_)
      exact xG_ret (fun _ => rfl) ⟨hN, h161, rfl⟩
    · rw [if_pos (by omega)]
      iterate 2 (first | refine xG_getI rfl (by exact rfl) (by exact rfl) ?_ | refine xG_getR rfl (by exact rfl) (by exact rfl) ?_ | refine xG_add rfl ?_ | refine xG_sub rfl ?_ | refine xG_mul rfl ?_ | refine xG_putI rfl (by exact rfl) (by exact rfl) ?_ | refine xG_go (fun _ => rfl) ?_)
      exact xG_ret (fun _ => rfl) ⟨hN, h161, rfl⟩
  | succ k ik =>
    intro j N hj hN h161
    obtain ⟨f1, f2, f3⟩ := hN
    have kN : mok N := by
      unfold mok
      rw [f1 143 (by decide) (by decide) (by decide), f1 144 (by decide) (by decide) (by decide), f1 145 (by decide) (by decide) (by decide), f1 146 (by decide) (by decide) (by decide)]
      exact hk
    have dl := dgt_lt nm n j
    have q3 := pw3 (m := nm - 1 - j) (by omega)
    have nn := nd_or (coat := M 145) hd (m := j) dl
    have d9 := f2 (9 + j) (by omega)
    rw [if_neg (by omega), Int.add_zero] at d9
    iterate 3 (first | refine xG_getI rfl (by exact rfl) (by exact rfl) ?_ | refine xG_getR rfl (by exact rfl) (by exact rfl) ?_ | refine xG_add rfl ?_ | refine xG_sub rfl ?_ | refine xG_mul rfl ?_ | refine xG_putI rfl (by exact rfl) (by exact rfl) ?_ | refine xG_go (fun _ => rfl) ?_)
    rw [f1 143 (by decide) (by decide) (by decide), en]
    refine xb_ge rfl (by omega) (by omega) (fun c1 => absurd c1 (by omega)) (fun _ => ?_)
    iterate 12 (first | refine xG_getI rfl (by exact rfl) (by exact rfl) ?_ | refine xG_getR rfl (by exact rfl) (by exact rfl) ?_ | refine xG_add rfl ?_ | refine xG_sub rfl ?_ | refine xG_mul rfl ?_ | refine xG_putI rfl (by exact rfl) (by exact rfl) ?_ | refine xG_go (fun _ => rfl) ?_)
    rw [f1 143 (by decide) (by decide) (by decide), en, show (nm : Int) - 1 - (j : Int) = ((nm - 1 - j : Nat) : Int) by omega]
    refine xS1w rfl (by decide) ⟨by simp, rfl⟩ (m_threes (show nm - 1 - j ≤ 6 by omega)) (fun r M' hq => ?_)
    obtain ⟨rfl, rfl⟩ := hq
    rw [← q3.2.2]
    refine xG_div rfl (by omega) ?_
    rw [← Int.natCast_ediv]
    iterate 1 (first | refine xG_getI rfl (by exact rfl) (by exact rfl) ?_ | refine xG_getR rfl (by exact rfl) (by exact rfl) ?_ | refine xG_add rfl ?_ | refine xG_sub rfl ?_ | refine xG_mul rfl ?_ | refine xG_putI rfl (by exact rfl) (by exact rfl) ?_ | refine xG_go (fun _ => rfl) ?_)
    have bn : n / 3 ^ (nm - 1 - j) ≤ n := Nat.div_le_self _ _
    refine xG_rem rfl ⟨Int.natCast_nonneg _, Int.le_trans (Int.ofNat_le.2 (show n / 3 ^ (nm - 1 - j) ≤ 729 by omega)) (by decide), by decide, by decide⟩ ?_
    rw [show ((n / 3 ^ (nm - 1 - j) : Nat) : Int) % 3 = (dgt nm n j : Int) by unfold dgt; rw [Int.natCast_emod]; rfl]
    have kn := m_needs (sc := sc) (d := d + 1) (M := N) (m := j) (e := dgt nm n j) kN (by rw [f1 147 (by decide) (by decide) (by decide)]; exact hd) (by omega) dl
    rw [f1 147 (by decide) (by decide) (by decide), f1 145 (by decide) (by decide) (by decide)] at kn
    refine xV3 rfl (by exact rfl) (by simp) kn (fun r M' hq => ?_)
    obtain ⟨rfl, rfl⟩ := hq
    refine xG_ast rfl (by exact rfl) (by omega) ?_
    rw [Int.toNat_natCast]
    iterate 4 (first | refine xG_getI rfl (by exact rfl) (by exact rfl) ?_ | refine xG_getR rfl (by exact rfl) (by exact rfl) ?_ | refine xG_add rfl ?_ | refine xG_sub rfl ?_ | refine xG_mul rfl ?_ | refine xG_putI rfl (by exact rfl) (by exact rfl) ?_ | refine xG_go (fun _ => rfl) ?_)
    refine xG_ald rfl (by exact rfl) (by omega) ?_
    rw [Int.toNat_natCast, mv_up_at]
    iterate 1 (first | refine xG_getI rfl (by exact rfl) (by exact rfl) ?_ | refine xG_getR rfl (by exact rfl) (by exact rfl) ?_ | refine xG_add rfl ?_ | refine xG_sub rfl ?_ | refine xG_mul rfl ?_ | refine xG_putI rfl (by exact rfl) (by exact rfl) ?_ | refine xG_go (fun _ => rfl) ?_)
    have fin : xG sc (d + 3) y_Mod_waysBy 67 [some (mR 143), some (mI n), some (mI (sumR (M 145) (M 147) nm n j)), some (mI j)] [mI (sumR (M 145) (M 147) nm n (j + 1))] (mv_up N 160 j (nd (M 145) (M 147) j (dgt nm n j))) (fun r N' => wrw M N' nm n nm ∧ N' 161 = N0 161 ∧ r = some (mI (if 999 < sumR (M 145) (M 147) nm n nm then 999 else sumR (M 145) (M 147) nm n nm))) := by
      iterate 7 (first | refine xG_getI rfl (by exact rfl) (by exact rfl) ?_ | refine xG_getR rfl (by exact rfl) (by exact rfl) ?_ | refine xG_add rfl ?_ | refine xG_sub rfl ?_ | refine xG_mul rfl ?_ | refine xG_putI rfl (by exact rfl) (by exact rfl) ?_ | refine xG_go (fun _ => rfl) ?_)
      refine xG_ald rfl (by exact rfl) (by omega) ?_
      rw [show ((9 : Int) + (j : Int)).toNat = 9 + j by omega, mv_upne (show 158 ≠ 160 by decide), d9]
      iterate 3 (first | refine xG_getI rfl (by exact rfl) (by exact rfl) ?_ | refine xG_getR rfl (by exact rfl) (by exact rfl) ?_ | refine xG_add rfl ?_ | refine xG_sub rfl ?_ | refine xG_mul rfl ?_ | refine xG_putI rfl (by exact rfl) (by exact rfl) ?_ | refine xG_go (fun _ => rfl) ?_)
      refine xG_ald rfl (by exact rfl) (by omega) ?_
      rw [Int.toNat_natCast, mv_up_at]
      iterate 1 (first | refine xG_getI rfl (by exact rfl) (by exact rfl) ?_ | refine xG_getR rfl (by exact rfl) (by exact rfl) ?_ | refine xG_add rfl ?_ | refine xG_sub rfl ?_ | refine xG_mul rfl ?_ | refine xG_putI rfl (by exact rfl) (by exact rfl) ?_ | refine xG_go (fun _ => rfl) ?_)
      refine xG_ast rfl (by exact rfl) (by omega) ?_
      rw [show ((9 : Int) + (j : Int)).toNat = 9 + j by omega]
      iterate 2 (first | refine xG_getI rfl (by exact rfl) (by exact rfl) ?_ | refine xG_getR rfl (by exact rfl) (by exact rfl) ?_ | refine xG_add rfl ?_ | refine xG_sub rfl ?_ | refine xG_mul rfl ?_ | refine xG_putI rfl (by exact rfl) (by exact rfl) ?_ | refine xG_go (fun _ => rfl) ?_)
      refine ik (j + 1) _ (by omega) ⟨fun a h1 h2 h3 => by rw [mv_upne h1, mv_upne h2, f1 a h1 h2 h3], fun i hi => ?_, fun i hi => ?_⟩ (by rw [mv_upne (by decide), mv_upne (by decide), h161])
      · by_cases w : i = 9 + j
        · subst w
          rw [mv_up_at, if_pos (by omega), show 9 + j - 9 = j by omega]
        · rw [mv_up_j w, mv_upne (by decide), f2 i hi]
          by_cases u : 9 ≤ i ∧ i < 9 + j
          · rw [if_pos u, if_pos (by omega)]
          · rw [if_neg u, if_neg (by omega)]
      · rw [mv_upne (by decide)]
        by_cases w : i = j
        · rw [w, mv_up_at]
        · rw [mv_up_j w, f3 i (by omega)]
    simp only [sumR] at fin
    refine xb_ne rfl (by omega) (by omega) (fun c1 => ?_) (fun c1 => ?_)
    · rw [if_neg c1] at fin
      iterate 3 (first | refine xG_getI rfl (by exact rfl) (by exact rfl) ?_ | refine xG_getR rfl (by exact rfl) (by exact rfl) ?_ | refine xG_add rfl ?_ | refine xG_sub rfl ?_ | refine xG_mul rfl ?_ | refine xG_putI rfl (by exact rfl) (by exact rfl) ?_ | refine xG_go (fun _ => rfl) ?_)
      refine xG_ald rfl (by exact rfl) (by omega) ?_
      rw [Int.toNat_natCast, mv_up_at]
      iterate 1 (first | refine xG_getI rfl (by exact rfl) (by exact rfl) ?_ | refine xG_getR rfl (by exact rfl) (by exact rfl) ?_ | refine xG_add rfl ?_ | refine xG_sub rfl ?_ | refine xG_mul rfl ?_ | refine xG_putI rfl (by exact rfl) (by exact rfl) ?_ | refine xG_go (fun _ => rfl) ?_)
      exact fin
    · rw [if_pos c1] at fin
      iterate 3 (first | refine xG_getI rfl (by exact rfl) (by exact rfl) ?_ | refine xG_getR rfl (by exact rfl) (by exact rfl) ?_ | refine xG_add rfl ?_ | refine xG_sub rfl ?_ | refine xG_mul rfl ?_ | refine xG_putI rfl (by exact rfl) (by exact rfl) ?_ | refine xG_go (fun _ => rfl) ?_)
      exact fin
theorem marg_mgc {coat g w : Nat → Int} {nm n : Nat} : ∀ j : Nat, (∀ i, i < j → vote coat w i = vote coat g i + dgt nm n i) → marg coat w j = mgc (vote coat g) nm n j
  | 0, _ => rfl
  | j + 1, h => by
    simp only [marg, mgc]
    rw [marg_mgc j (fun i hi => h i (by omega)), h j (by omega)]
    omega
theorem m_waysBy {nm n : Nat} (hk : mok M) (hd : dok (M 147)) (n6 : nm ≤ 6) (hn : n < 3 ^ nm) (en : M 143 2 = nm) {N : mv_M} (hN : ∀ a, a ≠ 158 → a ≠ 160 → a ≠ 161 → N a = M a) : xC sc (d + 4) n_Mod_waysBy [mR 143, mI n] N (fun r N' => (∀ a, a ≠ 158 → a ≠ 160 → a ≠ 161 → N' a = M a) ∧ N' 161 = N 161 ∧ (∀ i, i < nm → N' 160 i = nd (M 145) (M 147) i (dgt nm n i)) ∧ ∃ z : Int, r = some (mI z) ∧ ((z = sumc (cst (M 145) (M 147)) nm n nm ∧ 0 ≤ z ∧ z ≤ 54 ∧ dok (N' 158) ∧ marg (M 145) (N' 158) nm = mgc (vote (M 145) (M 147)) nm n nm) ∨ (z = 999 ∧ 1000 ≤ sumc (cst (M 145) (M 147)) nm n nm))) := by
  refine xC_in rfl rfl (by simp; decide) ?_
  iterate 3 (first | refine xG_getI rfl (by exact rfl) (by exact rfl) ?_ | refine xG_getR rfl (by exact rfl) (by exact rfl) ?_ | refine xG_add rfl ?_ | refine xG_sub rfl ?_ | refine xG_mul rfl ?_ | refine xG_putI rfl (by exact rfl) (by exact rfl) ?_ | refine xG_go (fun _ => rfl) ?_)
  refine xV1 rfl (by exact rfl) (by simp) m_asItIs (fun r M' hq => ?_)
  obtain ⟨rfl, rfl⟩ := hq
  change xG sc (d + 3) y_Mod_waysBy _ _ _ (aM N) _
  iterate 2 (first | refine xG_getI rfl (by exact rfl) (by exact rfl) ?_ | refine xG_getR rfl (by exact rfl) (by exact rfl) ?_ | refine xG_add rfl ?_ | refine xG_sub rfl ?_ | refine xG_mul rfl ?_ | refine xG_putI rfl (by exact rfl) (by exact rfl) ?_ | refine xG_go (fun _ => rfl) ?_)
  refine xG_mono (l_ways (N0 := N) hk hd n6 hn en nm 0 (aM N) (by omega) ⟨fun a h1 h2 h3 => by rw [aM_ne h1, hN a h1 h2 h3], fun i hi => by rw [aM_at hi, hN 147 (by decide) (by decide) (by decide), if_neg (by omega), Int.add_zero], fun i hi => absurd hi (by omega)⟩ (aM_ne (by decide))) (fun r N' hq => ?_)
  obtain ⟨⟨g1, g2, g3⟩, g4, rfl⟩ := hq
  refine ⟨g1, g4, g3, _, rfl, ?_⟩
  rcases sumR_or (coat := M 145) hd (nm := nm) (n := n) nm with q | q
  · left
    rw [if_neg (by omega)]
    have lo : ∀ i, i < 9 → N' 158 i = M 147 i := fun i hi => by rw [g2 i (by omega), if_neg (by omega), Int.add_zero]
    have mid : ∀ m, m < nm → N' 158 (9 + m) = M 147 (9 + m) + nd (M 145) (M 147) m (dgt nm n m) := fun m hm => by rw [g2 (9 + m) (by omega), if_pos (by omega), show 9 + m - 9 = m by omega]
    have hi' : ∀ i, 9 + nm ≤ i → i < 21 → N' 158 i = M 147 i := fun i h1 h2 => by rw [g2 i h2, if_neg (by omega), Int.add_zero]
    have vn : ∀ m, m < nm → vote (M 145) (N' 158) m = vote (M 145) (M 147) m + dgt nm n m ∧ 0 ≤ N' 158 (9 + m) ∧ N' 158 (9 + m) ≤ 9 := fun m hm => vote_nd hd (by omega) (dgt_lt ..) (q.2.2.2 m hm) (lo 0 (by omega)) (lo (3 + m) (by omega)) (mid m hm)
    refine ⟨q.1, by omega, by omega, ⟨?_, ?_, ?_, fun m hm => ?_, fun m hm => ?_, fun m hm => ?_, fun m hm => ?_⟩, marg_mgc nm (fun i hi => (vn i hi).1)⟩
    · rw [lo 0 (by omega)]; exact hd.1
    · rw [lo 1 (by omega)]; exact hd.2.1
    · rw [lo 2 (by omega)]; exact hd.2.2.1
    · rw [lo (3 + m) (by omega)]; exact hd.2.2.2.1 m hm
    · by_cases w : m < nm
      · exact (vn m w).2
      · rw [hi' _ (by omega) (by omega)]; exact hd.2.2.2.2.1 m hm
    · rw [hi' _ (by omega) (by omega)]; exact hd.2.2.2.2.2.1 m hm
    · rw [hi' _ (by omega) (by omega)]; exact hd.2.2.2.2.2.2 m hm
  · right
    refine ⟨?_, q.2.2⟩
    split <;> omega
end ZF
