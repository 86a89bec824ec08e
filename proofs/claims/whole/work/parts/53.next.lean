/-! THE CALLS: next -/
section YV
variable {sc : Nat × (Nat → Int)} {d c : Nat} {M : mv_M}
def mx2 (a b : Int) : Int := if a < b then b else a
theorem mx2_or (a b : Int) : (mx2 a b = a ∧ b ≤ a) ∨ (mx2 a b = b ∧ a < b) := by
  unfold mx2
  split <;> omega
def gp (P : Nat → Bool) (t A : Nat) : Int := mx2 (ptP P t 0 A) (mx2 (ptP P t 1 A) (ptP P t 2 A))
theorem gp_in (P : Nat → Bool) (t A : Nat) : 0 ≤ gp P t A ∧ gp P t A ≤ A := by
  have h0 := ptP_in P t 0 A
  have h1 := ptP_in P t 1 A
  have h2 := ptP_in P t 2 A
  have m1 := mx2_or (ptP P t 1 A) (ptP P t 2 A)
  have m2 := mx2_or (ptP P t 0 A) (mx2 (ptP P t 1 A) (ptP P t 2 A))
  unfold gp
  omega
theorem gp_step (P : Nat → Bool) (t j : Nat) {v : Int} (hv : v = sg (lkin j t) + 1) : gp P t (j + 1) = if gp P t j < ptP P t v (j + 1) then ptP P t v (j + 1) else gp P t j := by
  have hs := sg_in (lkin j t)
  have b0 := ptP_in P t 0 j
  have b1 := ptP_in P t 1 j
  have b2 := ptP_in P t 2 j
  have s0 : ptP P t 0 (j + 1) = ptP P t 0 j + if P j = true ∧ sg (lkin j t) + 1 = 0 then 1 else 0 := rfl
  have s1 : ptP P t 1 (j + 1) = ptP P t 1 j + if P j = true ∧ sg (lkin j t) + 1 = 1 then 1 else 0 := rfl
  have s2 : ptP P t 2 (j + 1) = ptP P t 2 j + if P j = true ∧ sg (lkin j t) + 1 = 2 then 1 else 0 := rfl
  have m1 := mx2_or (ptP P t 1 j) (ptP P t 2 j)
  have m2 := mx2_or (ptP P t 0 j) (mx2 (ptP P t 1 j) (ptP P t 2 j))
  have m3 := mx2_or (ptP P t 1 (j + 1)) (ptP P t 2 (j + 1))
  have m4 := mx2_or (ptP P t 0 (j + 1)) (mx2 (ptP P t 1 (j + 1)) (ptP P t 2 (j + 1)))
  unfold gp
  by_cases w : P j = true
  · rcases (show v = 0 ∨ v = 1 ∨ v = 2 by omega) with rfl | rfl | rfl
    · rw [if_pos ⟨w, by omega⟩] at s0
      rw [if_neg (by omega)] at s1 s2
      split <;> omega
    · rw [if_pos ⟨w, by omega⟩] at s1
      rw [if_neg (by omega)] at s0 s2
      split <;> omega
    · rw [if_pos ⟨w, by omega⟩] at s2
      rw [if_neg (by omega)] at s1 s0
      split <;> omega
  · rw [if_neg (fun z => w z.1)] at s0 s1 s2
    rcases (show v = 0 ∨ v = 1 ∨ v = 2 by omega) with rfl | rfl | rfl <;> split <;> omega
def bst (f : Nat → Int) : Nat → Nat
  | 0 => 0
  | t + 1 => if f (t + 1) < f (bst f t) then t + 1 else bst f t
theorem bst_le (f : Nat → Int) : ∀ t, bst f t ≤ t
  | 0 => Nat.le_refl _
  | t + 1 => by
    have := bst_le f t
    simp only [bst]
    split <;> omega
theorem c_greatestPart {P : Nat → Bool} {t A : Nat} (ht : t < 4) (hA : A ≤ 2401) (hp : ∀ v : Nat, v < 3 → M (128 + t) v = ptP P t v A) : xC sc (d + 1) n_Likings_greatestPart [mR 120, mI t] M (fun r M' => M = M' ∧ r = some (mI (gp P t A))) := by
  have sp := sk_parts ht
  have h0 := ptP_in P t 0 A
  have h1 := ptP_in P t 1 A
  have h2 := ptP_in P t 2 A
  have m1 := mx2_or (ptP P t 1 A) (ptP P t 2 A)
  have p0 : M (128 + t) 0 = ptP P t 0 A := hp 0 (by decide)
  have p1 : M (128 + t) 1 = ptP P t 1 A := hp 1 (by decide)
  have p2 : M (128 + t) 2 = ptP P t 2 A := hp 2 (by decide)
  refine xC_in rfl rfl (by simp; decide) ?_
  iterate 3 (first | refine xG_getI rfl (by exact rfl) (by exact rfl) ?_ | refine xG_getR rfl (by exact rfl) (by exact rfl) ?_ | refine xG_add rfl ?_ | refine xG_sub rfl ?_ | refine xG_mul rfl ?_ | refine xG_putI rfl (by exact rfl) (by exact rfl) ?_ | refine xG_go (fun _ => rfl) ?_)
  refine xG_aald rfl (by exact rfl) (Or.inr rfl) (by omega) (by rw [Int.toNat_natCast]; exact sp.2) ?_
  iterate 1 (first | refine xG_getI rfl (by exact rfl) (by exact rfl) ?_ | refine xG_getR rfl (by exact rfl) (by exact rfl) ?_ | refine xG_add rfl ?_ | refine xG_sub rfl ?_ | refine xG_mul rfl ?_ | refine xG_putI rfl (by exact rfl) (by exact rfl) ?_ | refine xG_go (fun _ => rfl) ?_)
  refine xG_ald rfl sp.1 (by omega) ?_
  iterate 3 (first | refine xG_getI rfl (by exact rfl) (by exact rfl) ?_ | refine xG_getR rfl (by exact rfl) (by exact rfl) ?_ | refine xG_add rfl ?_ | refine xG_sub rfl ?_ | refine xG_mul rfl ?_ | refine xG_putI rfl (by exact rfl) (by exact rfl) ?_ | refine xG_go (fun _ => rfl) ?_)
  refine xG_aald rfl (by exact rfl) (Or.inr rfl) (by omega) (by rw [Int.toNat_natCast]; exact sp.2) ?_
  iterate 1 (first | refine xG_getI rfl (by exact rfl) (by exact rfl) ?_ | refine xG_getR rfl (by exact rfl) (by exact rfl) ?_ | refine xG_add rfl ?_ | refine xG_sub rfl ?_ | refine xG_mul rfl ?_ | refine xG_putI rfl (by exact rfl) (by exact rfl) ?_ | refine xG_go (fun _ => rfl) ?_)
  refine xG_ald rfl sp.1 (by omega) ?_
  iterate 3 (first | refine xG_getI rfl (by exact rfl) (by exact rfl) ?_ | refine xG_getR rfl (by exact rfl) (by exact rfl) ?_ | refine xG_add rfl ?_ | refine xG_sub rfl ?_ | refine xG_mul rfl ?_ | refine xG_putI rfl (by exact rfl) (by exact rfl) ?_ | refine xG_go (fun _ => rfl) ?_)
  refine xG_aald rfl (by exact rfl) (Or.inr rfl) (by omega) (by rw [Int.toNat_natCast]; exact sp.2) ?_
  iterate 1 (first | refine xG_getI rfl (by exact rfl) (by exact rfl) ?_ | refine xG_getR rfl (by exact rfl) (by exact rfl) ?_ | refine xG_add rfl ?_ | refine xG_sub rfl ?_ | refine xG_mul rfl ?_ | refine xG_putI rfl (by exact rfl) (by exact rfl) ?_ | refine xG_go (fun _ => rfl) ?_)
  refine xG_ald rfl sp.1 (by omega) ?_
  rw [show (0 : Int).toNat = 0 from rfl, show (1 : Int).toNat = 1 from rfl, show (2 : Int).toNat = 2 from rfl, p0, p1, p2]
  refine xG_max rfl (by omega) (by omega) (by simp) ?_
  refine xG_max rfl (by omega) (by change mv_in (mx2 _ _); omega) (by simp) ?_
  exact xG_ret (fun _ => rfl) ⟨rfl, rfl⟩
theorem l_best {P : Nat → Bool} {tu A : Nat} (h4 : tu ≤ 4) (et : M 4 1 = tu) (hA : A ≤ 2401) (hp : ∀ t, t < tu → ∀ v : Nat, v < 3 → M (128 + t) v = ptP P t v A) : ∀ (k j : Nat), j + 1 + k = tu → xG sc (d + 1) y_Likings_bestToTry 4 [some (mR 120), some (mI (bst (fun t => gp P t A) j)), some (mI ((j + 1 : Nat) : Int))] [] M (fun r M' => M = M' ∧ r = some (mI (bst (fun t => gp P t A) (tu - 1)))) := by
  intro k
  induction k with
  | zero =>
    intro j hk
    iterate 4 (first | refine xG_getI rfl (by exact rfl) (by exact rfl) ?_ | refine xG_getR rfl (by exact rfl) (by exact rfl) ?_ | refine xG_add rfl ?_ | refine xG_sub rfl ?_ | refine xG_mul rfl ?_ | refine xG_putI rfl (by exact rfl) (by exact rfl) ?_ | refine xG_go (fun _ => rfl) ?_)
    rw [et]
    refine xb_ge rfl (by omega) (by omega) (fun _ => ?_) (fun c1 => absurd c1 (by omega))
    iterate 1 (first | refine xG_getI rfl (by exact rfl) (by exact rfl) ?_ | refine xG_getR rfl (by exact rfl) (by exact rfl) ?_ | refine xG_add rfl ?_ | refine xG_sub rfl ?_ | refine xG_mul rfl ?_ | refine xG_putI rfl (by exact rfl) (by exact rfl) ?_ | refine xG_go (fun _ => rfl) ?_)
    rw [show tu - 1 = j by omega]
    exact xG_ret (fun _ => rfl) ⟨rfl, rfl⟩
  | succ k ih =>
    intro j hk
    have bl := bst_le (fun t => gp P t A) j
    have g1 := gp_in P (j + 1) A
    have g2 := gp_in P (bst (fun t => gp P t A) j) A
    iterate 4 (first | refine xG_getI rfl (by exact rfl) (by exact rfl) ?_ | refine xG_getR rfl (by exact rfl) (by exact rfl) ?_ | refine xG_add rfl ?_ | refine xG_sub rfl ?_ | refine xG_mul rfl ?_ | refine xG_putI rfl (by exact rfl) (by exact rfl) ?_ | refine xG_go (fun _ => rfl) ?_)
    rw [et]
    refine xb_ge rfl (by omega) (by omega) (fun c1 => absurd c1 (by omega)) (fun _ => ?_)
    iterate 2 (first | refine xG_getI rfl (by exact rfl) (by exact rfl) ?_ | refine xG_getR rfl (by exact rfl) (by exact rfl) ?_ | refine xG_add rfl ?_ | refine xG_sub rfl ?_ | refine xG_mul rfl ?_ | refine xG_putI rfl (by exact rfl) (by exact rfl) ?_ | refine xG_go (fun _ => rfl) ?_)
    refine xV2 rfl (by exact rfl) (by simp) (c_greatestPart (P := P) (A := A) (show j + 1 < 4 by omega) hA (hp _ (by omega))) (fun r M' hq => ?_)
    obtain ⟨rfl, rfl⟩ := hq
    iterate 2 (first | refine xG_getI rfl (by exact rfl) (by exact rfl) ?_ | refine xG_getR rfl (by exact rfl) (by exact rfl) ?_ | refine xG_add rfl ?_ | refine xG_sub rfl ?_ | refine xG_mul rfl ?_ | refine xG_putI rfl (by exact rfl) (by exact rfl) ?_ | refine xG_go (fun _ => rfl) ?_)
    refine xV2 rfl (by exact rfl) (by simp) (c_greatestPart (P := P) (A := A) (show bst (fun t => gp P t A) j < 4 by omega) hA (hp _ (by omega))) (fun r M' hq => ?_)
    obtain ⟨rfl, rfl⟩ := hq
    have key := ih (j + 1) (by omega)
    simp only [bst] at key
    refine xb_ge rfl (by omega) (by omega) (fun c1 => ?_) (fun c1 => ?_)
    · rw [if_neg (by omega)] at key
      iterate 2 (first | refine xG_getI rfl (by exact rfl) (by exact rfl) ?_ | refine xG_getR rfl (by exact rfl) (by exact rfl) ?_ | refine xG_add rfl ?_ | refine xG_sub rfl ?_ | refine xG_mul rfl ?_ | refine xG_putI rfl (by exact rfl) (by exact rfl) ?_ | refine xG_go (fun _ => rfl) ?_)
      exact key
    · rw [if_pos (by omega)] at key
      iterate 4 (first | refine xG_getI rfl (by exact rfl) (by exact rfl) ?_ | refine xG_getR rfl (by exact rfl) (by exact rfl) ?_ | refine xG_add rfl ?_ | refine xG_sub rfl ?_ | refine xG_mul rfl ?_ | refine xG_putI rfl (by exact rfl) (by exact rfl) ?_ | refine xG_go (fun _ => rfl) ?_)
      exact key
theorem c_bestToTry {P : Nat → Bool} {tu A : Nat} (h1 : 1 ≤ tu) (h4 : tu ≤ 4) (et : M 4 1 = tu) (hA : A ≤ 2401) (hp : ∀ t, t < tu → ∀ v : Nat, v < 3 → M (128 + t) v = ptP P t v A) : xC sc (d + 2) n_Likings_bestToTry [mR 120] M (fun r M' => M = M' ∧ r = some (mI (bst (fun t => gp P t A) (tu - 1)))) := by
  refine xC_in rfl rfl (by simp; decide) ?_
  iterate 4 (first | refine xG_getI rfl (by exact rfl) (by exact rfl) ?_ | refine xG_getR rfl (by exact rfl) (by exact rfl) ?_ | refine xG_add rfl ?_ | refine xG_sub rfl ?_ | refine xG_mul rfl ?_ | refine xG_putI rfl (by exact rfl) (by exact rfl) ?_ | refine xG_go (fun _ => rfl) ?_)
  exact l_best h4 et hA hp (tu - 1) 0 (by omega)
/-! the reference -/
theorem l_gp0 {t : Int} {Q : Option mv_V → mv_M → Prop} {x3 x4 : Option mv_V} (kk : ∀ N, (∀ a, a ≠ 162 → N a = M a) → (∀ v, v < 3 → N 162 v = 0) → xG sc d y_Mod_greatestPart 20 [some (mR 143), some (mI t), some (mI 3), x3, x4] [] N Q) : ∀ (k j : Nat) (N : mv_M), j + k = 3 → (∀ a, a ≠ 162 → N a = M a) → (∀ v, v < j → N 162 v = 0) → xG sc d y_Mod_greatestPart 2 [some (mR 143), some (mI t), some (mI j), x3, x4] [] N Q := by
  intro k
  induction k with
  | zero =>
    intro j N hk h1 h2
    have : j = 3 := by omega
    subst this
    iterate 2 (first | refine xG_getI rfl (by exact rfl) (by exact rfl) ?_ | refine xG_getR rfl (by exact rfl) (by exact rfl) ?_ | refine xG_add rfl ?_ | refine xG_sub rfl ?_ | refine xG_mul rfl ?_ | refine xG_putI rfl (by exact rfl) (by exact rfl) ?_ | refine xG_go (fun _ => rfl) ?_)
    refine xb_ge rfl (by omega) (by omega) (fun _ => ?_) (fun c1 => absurd c1 (by omega))
    exact kk N h1 h2
  | succ k ih =>
    intro j N hk h1 h2
    iterate 2 (first | refine xG_getI rfl (by exact rfl) (by exact rfl) ?_ | refine xG_getR rfl (by exact rfl) (by exact rfl) ?_ | refine xG_add rfl ?_ | refine xG_sub rfl ?_ | refine xG_mul rfl ?_ | refine xG_putI rfl (by exact rfl) (by exact rfl) ?_ | refine xG_go (fun _ => rfl) ?_)
    refine xb_ge rfl (by omega) (by omega) (fun c1 => absurd c1 (by omega)) (fun _ => ?_)
    iterate 4 (first | refine xG_getI rfl (by exact rfl) (by exact rfl) ?_ | refine xG_getR rfl (by exact rfl) (by exact rfl) ?_ | refine xG_add rfl ?_ | refine xG_sub rfl ?_ | refine xG_mul rfl ?_ | refine xG_putI rfl (by exact rfl) (by exact rfl) ?_ | refine xG_go (fun _ => rfl) ?_)
    refine xG_ast rfl (by exact rfl) (by omega) ?_
    rw [Int.toNat_natCast]
    iterate 2 (first | refine xG_getI rfl (by exact rfl) (by exact rfl) ?_ | refine xG_getR rfl (by exact rfl) (by exact rfl) ?_ | refine xG_add rfl ?_ | refine xG_sub rfl ?_ | refine xG_mul rfl ?_ | refine xG_putI rfl (by exact rfl) (by exact rfl) ?_ | refine xG_go (fun _ => rfl) ?_)
    refine ih (j + 1) _ (by omega) (fun a ha => by rw [mv_upne ha, h1 a ha]) (fun v hv => ?_)
    by_cases w : v = j
    · rw [w, mv_up_at]
    · rw [mv_up_j w, h2 v (by omega)]
theorem l_mgp {tu n A t : Nat} (h4 : tu ≤ 4) (et : M 143 1 = tu) (hA : A ≤ 2401) (eA : ((7 : Int) ^ tu) = A) (ht : t < 4) (tk : tok M n) : ∀ (k j : Nat) (N : mv_M) (x4 : Option mv_V), j + k = A → (∀ a, a ≠ 162 → N a = M a) → (∀ v : Nat, v < 3 → N 162 v = ptP (mK M n) t v j) → xG sc (d + 4) y_Mod_greatestPart 24 [some (mR 143), some (mI t), some (mI (gp (mK M n) t j)), some (mI j), x4] [] N (fun r N' => (∀ a, a ≠ 162 → N' a = M a) ∧ r = some (mI (gp (mK M n) t A))) := by
  intro k
  induction k with
  | zero =>
    intro j N x4 hk h1 h2
    have : j = A := by omega
    subst this
    iterate 3 (first | refine xG_getI rfl (by exact rfl) (by exact rfl) ?_ | refine xG_getR rfl (by exact rfl) (by exact rfl) ?_ | refine xG_add rfl ?_ | refine xG_sub rfl ?_ | refine xG_mul rfl ?_ | refine xG_putI rfl (by exact rfl) (by exact rfl) ?_ | refine xG_go (fun _ => rfl) ?_)
    rw [h1 143 (by decide), et]
    refine xS1 rfl (by decide) (by simp) (m_sevens (show tu ≤ 6 by omega)) (fun r M' hq => ?_)
    obtain ⟨rfl, rfl⟩ := hq
    rw [eA]
    refine xb_ge rfl (by omega) (by omega) (fun _ => ?_) (fun c1 => absurd c1 (by omega))
    iterate 1 (first | refine xG_getI rfl (by exact rfl) (by exact rfl) ?_ | refine xG_getR rfl (by exact rfl) (by exact rfl) ?_ | refine xG_add rfl ?_ | refine xG_sub rfl ?_ | refine xG_mul rfl ?_ | refine xG_putI rfl (by exact rfl) (by exact rfl) ?_ | refine xG_go (fun _ => rfl) ?_)
    exact xG_ret (fun _ => rfl) ⟨h1, rfl⟩
  | succ k ih =>
    intro j N x4 hk h1 h2
    have tkN : tok N n := by unfold tok; rw [h1 151 (by decide), h1 143 (by decide)]; exact tk
    have eK : mK N n = mK M n := by unfold mK; rw [h1 151 (by decide)]
    have l1 := lkin_in j t
    have l2 := sg_in (lkin j t)
    obtain ⟨v, ev⟩ := Int.eq_ofNat_of_zero_le (show 0 ≤ sg (lkin j t) + 1 by omega)
    have gs := gp_step (mK M n) t j (v := (v : Int)) ev.symm
    have gi := gp_in (mK M n) t j
    have pi := ptP_in (mK M n) t v j
    have q0 := h2 v (by omega)
    iterate 3 (first | refine xG_getI rfl (by exact rfl) (by exact rfl) ?_ | refine xG_getR rfl (by exact rfl) (by exact rfl) ?_ | refine xG_add rfl ?_ | refine xG_sub rfl ?_ | refine xG_mul rfl ?_ | refine xG_putI rfl (by exact rfl) (by exact rfl) ?_ | refine xG_go (fun _ => rfl) ?_)
    rw [h1 143 (by decide), et]
    refine xS1 rfl (by decide) (by simp) (m_sevens (show tu ≤ 6 by omega)) (fun r M' hq => ?_)
    obtain ⟨rfl, rfl⟩ := hq
    rw [eA]
    refine xb_ge rfl (by omega) (by omega) (fun c1 => absurd c1 (by omega)) (fun _ => ?_)
    iterate 2 (first | refine xG_getI rfl (by exact rfl) (by exact rfl) ?_ | refine xG_getR rfl (by exact rfl) (by exact rfl) ?_ | refine xG_add rfl ?_ | refine xG_sub rfl ?_ | refine xG_mul rfl ?_ | refine xG_putI rfl (by exact rfl) (by exact rfl) ?_ | refine xG_go (fun _ => rfl) ?_)
    refine xS2 rfl (by decide) (by simp) (m_likeIn (show j ≤ 3000 by omega) ht) (fun r M' hq => ?_)
    obtain ⟨rfl, rfl⟩ := hq
    refine xS1 rfl (by decide) (by simp) (m_sign (by omega)) (fun r M' hq => ?_)
    obtain ⟨rfl, rfl⟩ := hq
    iterate 2 (first | refine xG_getI rfl (by exact rfl) (by exact rfl) ?_ | refine xG_getR rfl (by exact rfl) (by exact rfl) ?_ | refine xG_add rfl ?_ | refine xG_sub rfl ?_ | refine xG_mul rfl ?_ | refine xG_putI rfl (by exact rfl) (by exact rfl) ?_ | refine xG_go (fun _ => rfl) ?_)
    rw [ev]
    iterate 5 (first | refine xG_getI rfl (by exact rfl) (by exact rfl) ?_ | refine xG_getR rfl (by exact rfl) (by exact rfl) ?_ | refine xG_add rfl ?_ | refine xG_sub rfl ?_ | refine xG_mul rfl ?_ | refine xG_putI rfl (by exact rfl) (by exact rfl) ?_ | refine xG_go (fun _ => rfl) ?_)
    refine xG_ald rfl (by exact rfl) (by omega) ?_
    rw [Int.toNat_natCast, q0]
    iterate 2 (first | refine xG_getI rfl (by exact rfl) (by exact rfl) ?_ | refine xG_getR rfl (by exact rfl) (by exact rfl) ?_ | refine xG_add rfl ?_ | refine xG_sub rfl ?_ | refine xG_mul rfl ?_ | refine xG_putI rfl (by exact rfl) (by exact rfl) ?_ | refine xG_go (fun _ => rfl) ?_)
    refine xV2 rfl (by exact rfl) (by simp) (m_isSo (num := j) (n := n) (by omega) tkN.1 tkN.2.1 tkN.2.2) (fun r M' hq => ?_)
    obtain ⟨rfl, rfl⟩ := hq
    change xG sc (d + 4) y_Mod_greatestPart _ _ ((some (mI (b01 (mK N n j = true)))).toList ++ _) _ _
    rw [eK]
    have pst : ptP (mK M n) t v (j + 1) = ptP (mK M n) t v j + b01 (mK M n j = true) := by
      show ptP (mK M n) t v j + (if mK M n j = true ∧ sg (lkin j t) + 1 = (v : Int) then 1 else 0) = _
      by_cases w : mK M n j = true
      · rw [b01_t w, if_pos ⟨w, ev⟩]
      · rw [b01_f w, if_neg (fun z => w z.1)]
    have po : ∀ u : Nat, u ≠ v → ptP (mK M n) t u (j + 1) = ptP (mK M n) t u j := by
      intro u hu
      show ptP (mK M n) t u j + (if mK M n j = true ∧ sg (lkin j t) + 1 = (u : Int) then 1 else 0) = _
      rw [if_neg (fun z => hu (by omega)), Int.add_zero]
    have fin : xG sc (d + 4) y_Mod_greatestPart 69 [some (mR 143), some (mI t), some (mI (gp (mK M n) t j)), some (mI j), some (mI v)] [mI (ptP (mK M n) t v (j + 1)), mI v, mR 162] N (fun r N' => (∀ a, a ≠ 162 → N' a = M a) ∧ r = some (mI (gp (mK M n) t A))) := by
      have pi2 := ptP_in (mK M n) t v (j + 1)
      refine xG_ast rfl (by exact rfl) (by omega) ?_
      rw [Int.toNat_natCast]
      iterate 3 (first | refine xG_getI rfl (by exact rfl) (by exact rfl) ?_ | refine xG_getR rfl (by exact rfl) (by exact rfl) ?_ | refine xG_add rfl ?_ | refine xG_sub rfl ?_ | refine xG_mul rfl ?_ | refine xG_putI rfl (by exact rfl) (by exact rfl) ?_ | refine xG_go (fun _ => rfl) ?_)
      refine xG_ald rfl (by exact rfl) (by omega) ?_
      rw [Int.toNat_natCast, mv_up_at]
      have key := fun x4 => ih (j + 1) (mv_up N 162 v (ptP (mK M n) t v (j + 1))) x4 (by omega) (fun a ha => by rw [mv_upne ha, h1 a ha]) (fun u hu => by
        by_cases w : u = v
        · rw [w, mv_up_at]
        · rw [mv_up_j w, h2 u hu, po u w])
      rw [gs] at key
      iterate 1 (first | refine xG_getI rfl (by exact rfl) (by exact rfl) ?_ | refine xG_getR rfl (by exact rfl) (by exact rfl) ?_ | refine xG_add rfl ?_ | refine xG_sub rfl ?_ | refine xG_mul rfl ?_ | refine xG_putI rfl (by exact rfl) (by exact rfl) ?_ | refine xG_go (fun _ => rfl) ?_)
      refine xb_le rfl (by omega) (by omega) (fun c1 => ?_) (fun c1 => ?_)
      · rw [if_neg (by omega)] at key
        iterate 4 (first | refine xG_getI rfl (by exact rfl) (by exact rfl) ?_ | refine xG_getR rfl (by exact rfl) (by exact rfl) ?_ | refine xG_add rfl ?_ | refine xG_sub rfl ?_ | refine xG_mul rfl ?_ | refine xG_putI rfl (by exact rfl) (by exact rfl) ?_ | refine xG_go (fun _ => rfl) ?_)
        exact key _
      · rw [if_pos (by omega)] at key
        iterate 3 (first | refine xG_getI rfl (by exact rfl) (by exact rfl) ?_ | refine xG_getR rfl (by exact rfl) (by exact rfl) ?_ | refine xG_add rfl ?_ | refine xG_sub rfl ?_ | refine xG_mul rfl ?_ | refine xG_putI rfl (by exact rfl) (by exact rfl) ?_ | refine xG_go (fun _ => rfl) ?_)
        refine xG_ald rfl (by exact rfl) (by omega) ?_
        rw [Int.toNat_natCast, mv_up_at]
        iterate 4 (first | refine xG_getI rfl (by exact rfl) (by exact rfl) ?_ | refine xG_getR rfl (by exact rfl) (by exact rfl) ?_ | refine xG_add rfl ?_ | refine xG_sub rfl ?_ | refine xG_mul rfl ?_ | refine xG_putI rfl (by exact rfl) (by exact rfl) ?_ | refine xG_go (fun _ => rfl) ?_)
        exact key _
    rw [pst] at fin
    by_cases w : mK M n j = true
    · rw [b01_t w]
      rw [b01_t w] at fin
      refine xe1 rfl ?_
      iterate 3 (first | refine xG_getI rfl (by exact rfl) (by exact rfl) ?_ | refine xG_getR rfl (by exact rfl) (by exact rfl) ?_ | refine xG_add rfl ?_ | refine xG_sub rfl ?_ | refine xG_mul rfl ?_ | refine xG_putI rfl (by exact rfl) (by exact rfl) ?_ | refine xG_go (fun _ => rfl) ?_)
      exact fin
    · rw [b01_f w]
      rw [b01_f w] at fin
      refine xe0 rfl ?_
      iterate 2 (first | refine xG_getI rfl (by exact rfl) (by exact rfl) ?_ | refine xG_getR rfl (by exact rfl) (by exact rfl) ?_ | refine xG_add rfl ?_ | refine xG_sub rfl ?_ | refine xG_mul rfl ?_ | refine xG_putI rfl (by exact rfl) (by exact rfl) ?_ | refine xG_go (fun _ => rfl) ?_)
      exact fin
theorem m_greatestPart {tu n t : Nat} (h4 : tu ≤ 4) (et : M 143 1 = tu) (ht : t < 4) (tk : tok M n) : xC sc (d + 5) n_Mod_greatestPart [mR 143, mI t] M (fun r N' => (∀ a, a ≠ 162 → N' a = M a) ∧ r = some (mI (gp (mK M n) t (7 ^ tu)))) := by
  refine xC_in rfl rfl (by simp; decide) ?_
  iterate 2 (first | refine xG_getI rfl (by exact rfl) (by exact rfl) ?_ | refine xG_getR rfl (by exact rfl) (by exact rfl) ?_ | refine xG_add rfl ?_ | refine xG_sub rfl ?_ | refine xG_mul rfl ?_ | refine xG_putI rfl (by exact rfl) (by exact rfl) ?_ | refine xG_go (fun _ => rfl) ?_)
  refine l_gp0 (M := M) (fun N h1 h2 => ?_) 3 0 M (by omega) (fun _ _ => rfl) (fun v hv => absurd hv (by omega))
  iterate 4 (first | refine xG_getI rfl (by exact rfl) (by exact rfl) ?_ | refine xG_getR rfl (by exact rfl) (by exact rfl) ?_ | refine xG_add rfl ?_ | refine xG_sub rfl ?_ | refine xG_mul rfl ?_ | refine xG_putI rfl (by exact rfl) (by exact rfl) ?_ | refine xG_go (fun _ => rfl) ?_)
  exact l_mgp h4 et (pow7n h4).1 (pow7n h4).2.symm ht tk (7 ^ tu) 0 N _ (by omega) h1 h2
end YV
