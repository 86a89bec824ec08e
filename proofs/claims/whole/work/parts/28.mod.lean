/-! THE REFERENCE: small methods, votes, what is played -/
section XN
variable {sc : Nat × (Nat → Int)} {d : Nat} {M : mv_M}
/-- the reference's land is in its ranges -/
def mok (M : mv_M) : Prop := (1 ≤ M 143 0 ∧ M 143 0 ≤ 5) ∧ (1 ≤ M 143 1 ∧ M 143 1 ≤ 4) ∧ (0 ≤ M 143 2 ∧ M 143 2 ≤ 6) ∧ (0 ≤ M 143 6 ∧ M 143 6 ≤ 3) ∧ (∀ m, m < 6 → 0 ≤ M 144 m ∧ M 144 m ≤ 9) ∧ (∀ m, m < 6 → 0 ≤ M 145 m ∧ M 145 m ≤ 9) ∧ (∀ k, k < 24 → -3 ≤ M 146 k ∧ M 146 k ≤ 3)
def b01 (p : Prop) [Decidable p] : Int := if p then 1 else 0
theorem b01_t {p : Prop} [Decidable p] (h : p) : b01 p = 1 := if_pos h
theorem b01_f {p : Prop} [Decidable p] (h : ¬ p) : b01 p = 0 := if_neg h
theorem b01_in {p : Prop} [Decidable p] : b01 p = 0 ∨ b01 p = 1 := by
  by_cases h : p
  · exact Or.inr (b01_t h)
  · exact Or.inl (b01_f h)
theorem m_in {v a b : Int} (hv : mv_in v) (ha : mv_in a) (hb : mv_in b) : xC sc (d + 1) n_Mod_in [mI v, mI a, mI b] M (fun r M' => M = M' ∧ r = some (mI (b01 (a ≤ v ∧ v ≤ b)))) := by
  refine xC_in rfl rfl (by simp; decide) ?_
  iterate 2 (first | refine xG_getI rfl (by exact rfl) (by exact rfl) ?_ | refine xG_getR rfl (by exact rfl) (by exact rfl) ?_ | refine xG_add rfl ?_ | refine xG_sub rfl ?_ | refine xG_mul rfl ?_ | refine xG_putI rfl (by exact rfl) (by exact rfl) ?_ | refine xG_go (fun _ => rfl) ?_)
  refine xb_lt rfl hv ha (fun c1 => ?_) (fun c1 => ?_)
  · iterate 1 (first | refine xG_getI rfl (by exact rfl) (by exact rfl) ?_ | refine xG_getR rfl (by exact rfl) (by exact rfl) ?_ | refine xG_add rfl ?_ | refine xG_sub rfl ?_ | refine xG_mul rfl ?_ | refine xG_putI rfl (by exact rfl) (by exact rfl) ?_ | refine xG_go (fun _ => rfl) ?_)
    exact xG_ret (fun _ => rfl) ⟨rfl, by rw [b01_f (by omega)]⟩
  · iterate 2 (first | refine xG_getI rfl (by exact rfl) (by exact rfl) ?_ | refine xG_getR rfl (by exact rfl) (by exact rfl) ?_ | refine xG_add rfl ?_ | refine xG_sub rfl ?_ | refine xG_mul rfl ?_ | refine xG_putI rfl (by exact rfl) (by exact rfl) ?_ | refine xG_go (fun _ => rfl) ?_)
    refine xb_gt rfl hv hb (fun c2 => ?_) (fun c2 => ?_)
    · iterate 1 (first | refine xG_getI rfl (by exact rfl) (by exact rfl) ?_ | refine xG_getR rfl (by exact rfl) (by exact rfl) ?_ | refine xG_add rfl ?_ | refine xG_sub rfl ?_ | refine xG_mul rfl ?_ | refine xG_putI rfl (by exact rfl) (by exact rfl) ?_ | refine xG_go (fun _ => rfl) ?_)
      exact xG_ret (fun _ => rfl) ⟨rfl, by rw [b01_f (by omega)]⟩
    · iterate 2 (first | refine xG_getI rfl (by exact rfl) (by exact rfl) ?_ | refine xG_getR rfl (by exact rfl) (by exact rfl) ?_ | refine xG_add rfl ?_ | refine xG_sub rfl ?_ | refine xG_mul rfl ?_ | refine xG_putI rfl (by exact rfl) (by exact rfl) ?_ | refine xG_go (fun _ => rfl) ?_)
      exact xG_ret (fun _ => rfl) ⟨rfl, by rw [b01_t (by omega)]⟩
theorem m_sign {v : Int} (hv : mv_in v) : xC sc (d + 1) n_Mod_sign [mI v] M (fun r M' => M = M' ∧ r = some (mI (sg v))) := by
  refine xC_in rfl rfl (by simp; decide) ?_
  iterate 1 (first | refine xG_getI rfl (by exact rfl) (by exact rfl) ?_ | refine xG_getR rfl (by exact rfl) (by exact rfl) ?_ | refine xG_add rfl ?_ | refine xG_sub rfl ?_ | refine xG_mul rfl ?_ | refine xG_putI rfl (by exact rfl) (by exact rfl) ?_ | refine xG_go (fun _ => rfl) ?_)
  refine xi_le rfl hv (fun c1 => ?_) (fun c1 => ?_)
  · iterate 1 (first | refine xG_getI rfl (by exact rfl) (by exact rfl) ?_ | refine xG_getR rfl (by exact rfl) (by exact rfl) ?_ | refine xG_add rfl ?_ | refine xG_sub rfl ?_ | refine xG_mul rfl ?_ | refine xG_putI rfl (by exact rfl) (by exact rfl) ?_ | refine xG_go (fun _ => rfl) ?_)
    refine xi_ge rfl hv (fun c2 => ?_) (fun c2 => ?_)
    · iterate 1 (first | refine xG_getI rfl (by exact rfl) (by exact rfl) ?_ | refine xG_getR rfl (by exact rfl) (by exact rfl) ?_ | refine xG_add rfl ?_ | refine xG_sub rfl ?_ | refine xG_mul rfl ?_ | refine xG_putI rfl (by exact rfl) (by exact rfl) ?_ | refine xG_go (fun _ => rfl) ?_)
      exact xG_ret (fun _ => rfl) ⟨rfl, by unfold sg; rw [if_neg (by omega), if_pos (by omega)]⟩
    · iterate 2 (first | refine xG_getI rfl (by exact rfl) (by exact rfl) ?_ | refine xG_getR rfl (by exact rfl) (by exact rfl) ?_ | refine xG_add rfl ?_ | refine xG_sub rfl ?_ | refine xG_mul rfl ?_ | refine xG_putI rfl (by exact rfl) (by exact rfl) ?_ | refine xG_go (fun _ => rfl) ?_)
      exact xG_ret (fun _ => rfl) ⟨rfl, by unfold sg; rw [if_pos (by omega)]⟩
  · iterate 2 (first | refine xG_getI rfl (by exact rfl) (by exact rfl) ?_ | refine xG_getR rfl (by exact rfl) (by exact rfl) ?_ | refine xG_add rfl ?_ | refine xG_sub rfl ?_ | refine xG_mul rfl ?_ | refine xG_putI rfl (by exact rfl) (by exact rfl) ?_ | refine xG_go (fun _ => rfl) ?_)
    exact xG_ret (fun _ => rfl) ⟨rfl, by unfold sg; rw [if_neg (by omega), if_neg (by omega)]⟩
theorem m_bret {y : mv_Y} {pc : Nat} {L : mv_L} {p : Prop} [Decidable p] {b len : Nat} {z0 : Int} {Q : Option mv_V → mv_M → Prop} (hf : mv_find y.2.2 pc = some (.ireturn, len, 1, b, z0)) (hq : Q (some (mI (b01 p))) M) : xG sc d y pc L [mI (b01 p)] M Q := by
  refine xG_ret (r := some (mI (b01 p))) (fun call => ?_) hq
  rw [mv_at_of hf]
  simp only [mv_stp]
  rw [if_pos (Or.inr b01_in)]
theorem m_isMonkey {m : Int} (hm : mv_in m) (h : mok M) : xC sc (d + 2) n_Mod_isMonkey [mR 143, mI m] M (fun r M' => M = M' ∧ r = some (mI (b01 (0 ≤ m ∧ m ≤ M 143 2 - 1)))) := by
  have h0 := h.2.2.1
  refine xC_in rfl rfl (by simp; decide) ?_
  iterate 6 (first | refine xG_getI rfl (by exact rfl) (by exact rfl) ?_ | refine xG_getR rfl (by exact rfl) (by exact rfl) ?_ | refine xG_add rfl ?_ | refine xG_sub rfl ?_ | refine xG_mul rfl ?_ | refine xG_putI rfl (by exact rfl) (by exact rfl) ?_ | refine xG_go (fun _ => rfl) ?_)
  refine xS3 rfl (by decide) (by simp) (m_in hm (by decide) (by omega)) (fun r M' hq => ?_)
  obtain ⟨rfl, rfl⟩ := hq
  exact m_bret rfl ⟨rfl, rfl⟩
theorem m_isOrgan {m : Int} (hm : mv_in m) (h : mok M) : xC sc (d + 2) n_Mod_isOrgan [mR 143, mI m] M (fun r M' => M = M' ∧ r = some (mI (b01 (0 ≤ m ∧ m ≤ M 143 6 - 1)))) := by
  have h0 := h.2.2.2.1
  refine xC_in rfl rfl (by simp; decide) ?_
  iterate 6 (first | refine xG_getI rfl (by exact rfl) (by exact rfl) ?_ | refine xG_getR rfl (by exact rfl) (by exact rfl) ?_ | refine xG_add rfl ?_ | refine xG_sub rfl ?_ | refine xG_mul rfl ?_ | refine xG_putI rfl (by exact rfl) (by exact rfl) ?_ | refine xG_go (fun _ => rfl) ?_)
  refine xS3 rfl (by decide) (by simp) (m_in hm (by decide) (by omega)) (fun r M' hq => ?_)
  obtain ⟨rfl, rfl⟩ := hq
  exact m_bret rfl ⟨rfl, rfl⟩
theorem m_isTune {m : Int} (hm : mv_in m) (h : mok M) : xC sc (d + 2) n_Mod_isTune [mR 143, mI m] M (fun r M' => M = M' ∧ r = some (mI (b01 (0 ≤ m ∧ m ≤ M 143 1 - 1)))) := by
  have h0 := h.2.1
  refine xC_in rfl rfl (by simp; decide) ?_
  iterate 6 (first | refine xG_getI rfl (by exact rfl) (by exact rfl) ?_ | refine xG_getR rfl (by exact rfl) (by exact rfl) ?_ | refine xG_add rfl ?_ | refine xG_sub rfl ?_ | refine xG_mul rfl ?_ | refine xG_putI rfl (by exact rfl) (by exact rfl) ?_ | refine xG_go (fun _ => rfl) ?_)
  refine xS3 rfl (by decide) (by simp) (m_in hm (by decide) (by omega)) (fun r M' hq => ?_)
  obtain ⟨rfl, rfl⟩ := hq
  exact m_bret rfl ⟨rfl, rfl⟩
/-- 21 places of a row from another -/
def crow (M : mv_M) (r a q f : Nat) (n : Nat) : Nat → Int := fun i => if a ≤ i ∧ i < a + n then M q (f + (i - a)) else M r i
theorem l_copy {r q a f n1 n2 : Nat} (hr : SK[r]? = some (.inl (0, n1))) (hq : SK[q]? = some (.inl (0, n2))) (hne : q ≠ r) (ha : a + 21 ≤ n1) (hf : f + 21 ≤ n2) (h1 : n1 ≤ 1000) (h2 : n2 ≤ 1000) : ∀ (k j : Nat), j + k = 21 → xG sc d y_Mod_copy 3 [some (mR r), some (mI a), some (mR q), some (mI f), some (mI j)] [] (mv_row M r (crow M r a q f j)) (fun ro M' => ro = none ∧ M' = mv_row M r (crow M r a q f 21)) := by
  intro k
  induction k with
  | zero =>
    intro j hk
    have : j = 21 := by omega
    subst this
    iterate 2 (first | refine xG_getI rfl (by exact rfl) (by exact rfl) ?_ | refine xG_getR rfl (by exact rfl) (by exact rfl) ?_ | refine xG_add rfl ?_ | refine xG_sub rfl ?_ | refine xG_mul rfl ?_ | refine xG_putI rfl (by exact rfl) (by exact rfl) ?_ | refine xG_go (fun _ => rfl) ?_)
    iterate 1 (first | refine xG_getI rfl (by exact rfl) (by exact rfl) ?_ | refine xG_getR rfl (by exact rfl) (by exact rfl) ?_ | refine xG_add rfl ?_ | refine xG_sub rfl ?_ | refine xG_mul rfl ?_ | refine xG_putI rfl (by exact rfl) (by exact rfl) ?_ | refine xG_go (fun _ => rfl) ?_)
    exact xG_ret (fun _ => rfl) ⟨rfl, rfl⟩
  | succ k ih =>
    intro j hk
    iterate 2 (first | refine xG_getI rfl (by exact rfl) (by exact rfl) ?_ | refine xG_getR rfl (by exact rfl) (by exact rfl) ?_ | refine xG_add rfl ?_ | refine xG_sub rfl ?_ | refine xG_mul rfl ?_ | refine xG_putI rfl (by exact rfl) (by exact rfl) ?_ | refine xG_go (fun _ => rfl) ?_)
    refine xb_ge rfl (by omega) (by omega) (fun c1 => absurd c1 (by omega)) (fun c1 => ?_)
    iterate 8 (first | refine xG_getI rfl (by exact rfl) (by exact rfl) ?_ | refine xG_getR rfl (by exact rfl) (by exact rfl) ?_ | refine xG_add rfl ?_ | refine xG_sub rfl ?_ | refine xG_mul rfl ?_ | refine xG_putI rfl (by exact rfl) (by exact rfl) ?_ | refine xG_go (fun _ => rfl) ?_)
    refine xG_ald rfl hq (by omega) ?_
    refine xG_ast rfl hr (by omega) ?_
    rw [mv_row_ne hne, mv_up_row, show ((f : Int) + (j : Int)).toNat = f + j by omega, show ((a : Int) + (j : Int)).toNat = a + j by omega]
    iterate 2 (first | refine xG_getI rfl (by exact rfl) (by exact rfl) ?_ | refine xG_getR rfl (by exact rfl) (by exact rfl) ?_ | refine xG_add rfl ?_ | refine xG_sub rfl ?_ | refine xG_mul rfl ?_ | refine xG_putI rfl (by exact rfl) (by exact rfl) ?_ | refine xG_go (fun _ => rfl) ?_)
    have e : (fun i => if i = a + j then M q (f + j) else crow M r a q f j i) = crow M r a q f (j + 1) := by
      funext i
      unfold crow
      by_cases w : i = a + j
      · subst w
        rw [if_pos rfl, if_pos (by omega), show a + j - a = j by omega]
      · rw [if_neg w]
        by_cases v : a ≤ i ∧ i < a + j
        · rw [if_pos v, if_pos (by omega)]
        · rw [if_neg v, if_neg (by omega)]
    rw [e]
    exact ih (j + 1) (by omega)
theorem m_copy {r q a f n1 n2 : Nat} (hr : SK[r]? = some (.inl (0, n1))) (hq : SK[q]? = some (.inl (0, n2))) (hne : q ≠ r) (ha : a + 21 ≤ n1) (hf : f + 21 ≤ n2) (h1 : n1 ≤ 1000) (h2 : n2 ≤ 1000) : xC sc (d + 1) n_Mod_copy [mR r, mI a, mR q, mI f] M (fun ro M' => ro = none ∧ M' = mv_row M r (crow M r a q f 21)) := by
  refine xC_in rfl rfl (by simp; decide) ?_
  iterate 2 (first | refine xG_getI rfl (by exact rfl) (by exact rfl) ?_ | refine xG_getR rfl (by exact rfl) (by exact rfl) ?_ | refine xG_add rfl ?_ | refine xG_sub rfl ?_ | refine xG_mul rfl ?_ | refine xG_putI rfl (by exact rfl) (by exact rfl) ?_ | refine xG_go (fun _ => rfl) ?_)
  have e : M = mv_row M r (crow M r a q f 0) := (mv_row_self (fun i => by unfold crow; rw [if_neg (by omega)])).symm
  have key := l_copy (sc := sc) (d := d) (M := M) hr hq hne ha hf h1 h2 21 0 (by omega)
  rw [← e] at key
  exact key
theorem m_asItIs : xC sc (d + 2) n_Mod_asItIs [mR 143] M (fun ro M' => ro = none ∧ M' = mv_row M 158 (crow M 158 0 147 0 21)) := by
  refine xC_in rfl rfl (by simp; decide) ?_
  iterate 6 (first | refine xG_getI rfl (by exact rfl) (by exact rfl) ?_ | refine xG_getR rfl (by exact rfl) (by exact rfl) ?_ | refine xG_add rfl ?_ | refine xG_sub rfl ?_ | refine xG_mul rfl ?_ | refine xG_putI rfl (by exact rfl) (by exact rfl) ?_ | refine xG_go (fun _ => rfl) ?_)
  refine xS4 rfl (by decide) (by simp) (m_copy (a := 0) (f := 0) (n1 := 21) (n2 := 21) rfl rfl (by decide) (by decide) (by decide) (by decide) (by decide)) (fun r M' hq => ?_)
  obtain ⟨rfl, e⟩ := hq
  exact xG_ret (fun _ => rfl) ⟨rfl, e⟩
theorem m_voteOf (h : mok M) (hd : dok (M 158)) {m : Nat} (hm : m < 6) : xC sc (d + 2) n_Mod_voteOf [mR 143, mI m] M (fun r M' => M = M' ∧ r = some (mI (vote (M 145) (M 158) m))) := by
  have h0 := hd.1
  have h1 := h.2.2.2.2.2.1 m hm
  have h2 := hd.2.2.2.1 m hm
  have h3 := hd.2.2.2.2.1 m hm
  refine xC_in rfl rfl (by simp; decide) ?_
  iterate 3 (first | refine xG_getI rfl (by exact rfl) (by exact rfl) ?_ | refine xG_getR rfl (by exact rfl) (by exact rfl) ?_ | refine xG_add rfl ?_ | refine xG_sub rfl ?_ | refine xG_mul rfl ?_ | refine xG_putI rfl (by exact rfl) (by exact rfl) ?_ | refine xG_go (fun _ => rfl) ?_)
  refine xG_ald rfl (by exact rfl) (by omega) ?_
  iterate 3 (first | refine xG_getI rfl (by exact rfl) (by exact rfl) ?_ | refine xG_getR rfl (by exact rfl) (by exact rfl) ?_ | refine xG_add rfl ?_ | refine xG_sub rfl ?_ | refine xG_mul rfl ?_ | refine xG_putI rfl (by exact rfl) (by exact rfl) ?_ | refine xG_go (fun _ => rfl) ?_)
  refine xG_ald rfl (by exact rfl) (by omega) ?_
  simp only [Int.toNat_natCast, Int.toNat_zero]
  refine xb_le rfl (by omega) (by omega) (fun c1 => ?_) (fun c1 => ?_)
  · iterate 5 (first | refine xG_getI rfl (by exact rfl) (by exact rfl) ?_ | refine xG_getR rfl (by exact rfl) (by exact rfl) ?_ | refine xG_add rfl ?_ | refine xG_sub rfl ?_ | refine xG_mul rfl ?_ | refine xG_putI rfl (by exact rfl) (by exact rfl) ?_ | refine xG_go (fun _ => rfl) ?_)
    refine xG_ald rfl (by exact rfl) (by omega) ?_
    iterate 5 (first | refine xG_getI rfl (by exact rfl) (by exact rfl) ?_ | refine xG_getR rfl (by exact rfl) (by exact rfl) ?_ | refine xG_add rfl ?_ | refine xG_sub rfl ?_ | refine xG_mul rfl ?_ | refine xG_putI rfl (by exact rfl) (by exact rfl) ?_ | refine xG_go (fun _ => rfl) ?_)
    refine xG_ald rfl (by exact rfl) (by omega) ?_
    rw [show ((3 : Int) + (m : Int)).toNat = 3 + m by omega, show ((9 : Int) + (m : Int)).toNat = 9 + m by omega]
    iterate 1 (first | refine xG_getI rfl (by exact rfl) (by exact rfl) ?_ | refine xG_getR rfl (by exact rfl) (by exact rfl) ?_ | refine xG_add rfl ?_ | refine xG_sub rfl ?_ | refine xG_mul rfl ?_ | refine xG_putI rfl (by exact rfl) (by exact rfl) ?_ | refine xG_go (fun _ => rfl) ?_)
    refine xS1 rfl (by decide) (by simp) (m_sign (by omega)) (fun r M' hq => ?_)
    obtain ⟨rfl, rfl⟩ := hq
    refine xG_ret (fun _ => rfl) ⟨rfl, ?_⟩
    unfold vote
    rw [if_neg (by omega)]
  · iterate 2 (first | refine xG_getI rfl (by exact rfl) (by exact rfl) ?_ | refine xG_getR rfl (by exact rfl) (by exact rfl) ?_ | refine xG_add rfl ?_ | refine xG_sub rfl ?_ | refine xG_mul rfl ?_ | refine xG_putI rfl (by exact rfl) (by exact rfl) ?_ | refine xG_go (fun _ => rfl) ?_)
    refine xG_ret (fun _ => rfl) ⟨rfl, ?_⟩
    unfold vote
    rw [if_pos (by omega)]
theorem l_mvotes (h : mok M) (hd : dok (M 158)) {nm : Nat} (hn : M 143 2 = nm) {v : Int} (hv : -1 ≤ v ∧ v ≤ 1) : ∀ (k j : Nat), j + k = nm → xG sc (d + 2) y_Mod_votes 4 [some (mR 143), some (mI v), some (mI (vcnt (M 145) (M 158) v j)), some (mI j)] [] M (fun r M' => M = M' ∧ r = some (mI (vcnt (M 145) (M 158) v nm))) := by
  intro k
  induction k with
  | zero =>
    intro j hk
    have h0 := h.2.2.1
    iterate 3 (first | refine xG_getI rfl (by exact rfl) (by exact rfl) ?_ | refine xG_getR rfl (by exact rfl) (by exact rfl) ?_ | refine xG_add rfl ?_ | refine xG_sub rfl ?_ | refine xG_mul rfl ?_ | refine xG_putI rfl (by exact rfl) (by exact rfl) ?_ | refine xG_go (fun _ => rfl) ?_)
    refine xb_ge rfl (by omega) (by omega) (fun c1 => ?_) (fun c1 => absurd c1 (by omega))
    have : j = nm := by omega
    subst this
    iterate 1 (first | refine xG_getI rfl (by exact rfl) (by exact rfl) ?_ | refine xG_getR rfl (by exact rfl) (by exact rfl) ?_ | refine xG_add rfl ?_ | refine xG_sub rfl ?_ | refine xG_mul rfl ?_ | refine xG_putI rfl (by exact rfl) (by exact rfl) ?_ | refine xG_go (fun _ => rfl) ?_)
    exact xG_ret (fun _ => rfl) ⟨rfl, rfl⟩
  | succ k ih =>
    intro j hk
    have h0 := h.2.2.1
    have h1 := vcnt_in (M 145) (M 158) v j
    have h2 := vote_in (M 145) (M 158) j
    iterate 3 (first | refine xG_getI rfl (by exact rfl) (by exact rfl) ?_ | refine xG_getR rfl (by exact rfl) (by exact rfl) ?_ | refine xG_add rfl ?_ | refine xG_sub rfl ?_ | refine xG_mul rfl ?_ | refine xG_putI rfl (by exact rfl) (by exact rfl) ?_ | refine xG_go (fun _ => rfl) ?_)
    refine xb_ge rfl (by omega) (by omega) (fun c1 => absurd c1 (by omega)) (fun c1 => ?_)
    iterate 3 (first | refine xG_getI rfl (by exact rfl) (by exact rfl) ?_ | refine xG_getR rfl (by exact rfl) (by exact rfl) ?_ | refine xG_add rfl ?_ | refine xG_sub rfl ?_ | refine xG_mul rfl ?_ | refine xG_putI rfl (by exact rfl) (by exact rfl) ?_ | refine xG_go (fun _ => rfl) ?_)
    refine xV2 rfl (by exact rfl) (by simp) (m_voteOf h hd (by omega)) (fun r M' hq => ?_)
    obtain ⟨rfl, rfl⟩ := hq
    have ih2 := ih (j + 1) (by omega)
    simp only [vcnt] at ih2
    iterate 1 (first | refine xG_getI rfl (by exact rfl) (by exact rfl) ?_ | refine xG_getR rfl (by exact rfl) (by exact rfl) ?_ | refine xG_add rfl ?_ | refine xG_sub rfl ?_ | refine xG_mul rfl ?_ | refine xG_putI rfl (by exact rfl) (by exact rfl) ?_ | refine xG_go (fun _ => rfl) ?_)
    refine xb_ne rfl (by omega) (by omega) (fun c2 => ?_) (fun c2 => ?_)
    · rw [if_neg c2] at ih2
      iterate 5 (first | refine xG_getI rfl (by exact rfl) (by exact rfl) ?_ | refine xG_getR rfl (by exact rfl) (by exact rfl) ?_ | refine xG_add rfl ?_ | refine xG_sub rfl ?_ | refine xG_mul rfl ?_ | refine xG_putI rfl (by exact rfl) (by exact rfl) ?_ | refine xG_go (fun _ => rfl) ?_)
      exact ih2
    · rw [if_pos c2] at ih2
      iterate 6 (first | refine xG_getI rfl (by exact rfl) (by exact rfl) ?_ | refine xG_getR rfl (by exact rfl) (by exact rfl) ?_ | refine xG_add rfl ?_ | refine xG_sub rfl ?_ | refine xG_mul rfl ?_ | refine xG_putI rfl (by exact rfl) (by exact rfl) ?_ | refine xG_go (fun _ => rfl) ?_)
      exact ih2
theorem m_votes (h : mok M) (hd : dok (M 158)) {nm : Nat} (hn : M 143 2 = nm) {v : Int} (hv : -1 ≤ v ∧ v ≤ 1) : xC sc (d + 3) n_Mod_votes [mR 143, mI v] M (fun r M' => M = M' ∧ r = some (mI (vcnt (M 145) (M 158) v nm))) := by
  refine xC_in rfl rfl (by simp; decide) ?_
  iterate 4 (first | refine xG_getI rfl (by exact rfl) (by exact rfl) ?_ | refine xG_getR rfl (by exact rfl) (by exact rfl) ?_ | refine xG_add rfl ?_ | refine xG_sub rfl ?_ | refine xG_mul rfl ?_ | refine xG_putI rfl (by exact rfl) (by exact rfl) ?_ | refine xG_go (fun _ => rfl) ?_)
  exact l_mvotes h hd hn hv nm 0 (by omega)
theorem m_carries (h : mok M) (hd : dok (M 158)) {nm : Nat} (hn : M 143 2 = nm) : xC sc (d + 4) n_Mod_carries [mR 143] M (fun r M' => M = M' ∧ r = some (mI (b01 (0 < marg (M 145) (M 158) nm)))) := by
  have h0 := h.2.2.1
  have h1 := vcnt_in (M 145) (M 158) 1 nm
  have h2 := vcnt_in (M 145) (M 158) (-1) nm
  have h3 := marg_eq (M 145) (M 158) nm
  refine xC_in rfl rfl (by simp; decide) ?_
  iterate 2 (first | refine xG_getI rfl (by exact rfl) (by exact rfl) ?_ | refine xG_getR rfl (by exact rfl) (by exact rfl) ?_ | refine xG_add rfl ?_ | refine xG_sub rfl ?_ | refine xG_mul rfl ?_ | refine xG_putI rfl (by exact rfl) (by exact rfl) ?_ | refine xG_go (fun _ => rfl) ?_)
  refine xV2 rfl (by exact rfl) (by simp) (m_votes h hd hn (by omega)) (fun r M' hq => ?_)
  obtain ⟨rfl, rfl⟩ := hq
  iterate 2 (first | refine xG_getI rfl (by exact rfl) (by exact rfl) ?_ | refine xG_getR rfl (by exact rfl) (by exact rfl) ?_ | refine xG_add rfl ?_ | refine xG_sub rfl ?_ | refine xG_mul rfl ?_ | refine xG_putI rfl (by exact rfl) (by exact rfl) ?_ | refine xG_go (fun _ => rfl) ?_)
  refine xV2 rfl (by exact rfl) (by simp) (m_votes h hd hn (by omega)) (fun r M' hq => ?_)
  obtain ⟨rfl, rfl⟩ := hq
  refine xb_le rfl (by omega) (by omega) (fun c1 => ?_) (fun c1 => ?_)
  · iterate 1 (first | refine xG_getI rfl (by exact rfl) (by exact rfl) ?_ | refine xG_getR rfl (by exact rfl) (by exact rfl) ?_ | refine xG_add rfl ?_ | refine xG_sub rfl ?_ | refine xG_mul rfl ?_ | refine xG_putI rfl (by exact rfl) (by exact rfl) ?_ | refine xG_go (fun _ => rfl) ?_)
    exact xG_ret (fun _ => rfl) ⟨rfl, by rw [b01_f (by omega)]⟩
  · iterate 2 (first | refine xG_getI rfl (by exact rfl) (by exact rfl) ?_ | refine xG_getR rfl (by exact rfl) (by exact rfl) ?_ | refine xG_add rfl ?_ | refine xG_sub rfl ?_ | refine xG_mul rfl ?_ | refine xG_putI rfl (by exact rfl) (by exact rfl) ?_ | refine xG_go (fun _ => rfl) ?_)
    exact xG_ret (fun _ => rfl) ⟨rfl, by rw [b01_t (by omega)]⟩
/-- the reference's likings -/
def mlk (M : mv_M) : Nat → Nat → Int := fun m t => M 146 (4 * m + t)
theorem m_heardBy (h : mok M) (hd : dok (M 158)) {o : Nat} (ho : o < 3) {t : Int} (ht : 0 ≤ t ∧ t < M 143 1) : xC sc (d + 1) n_Mod_heardBy [mR 143, mI o, mI t] M (fun r M' => M = M' ∧ r = some (mI (heard (M 143 1) (M 158) o t))) := by
  have h0 := h.2.1
  have h1 := hd.2.2.2.2.2.2 o ho
  refine xC_in rfl rfl (by simp; decide) ?_
  iterate 6 (first | refine xG_getI rfl (by exact rfl) (by exact rfl) ?_ | refine xG_getR rfl (by exact rfl) (by exact rfl) ?_ | refine xG_add rfl ?_ | refine xG_sub rfl ?_ | refine xG_mul rfl ?_ | refine xG_putI rfl (by exact rfl) (by exact rfl) ?_ | refine xG_go (fun _ => rfl) ?_)
  refine xG_ald rfl (by exact rfl) (by omega) ?_
  rw [show ((18 : Int) + (o : Int)).toNat = 18 + o by omega]
  iterate 1 (first | refine xG_getI rfl (by exact rfl) (by exact rfl) ?_ | refine xG_getR rfl (by exact rfl) (by exact rfl) ?_ | refine xG_add rfl ?_ | refine xG_sub rfl ?_ | refine xG_mul rfl ?_ | refine xG_putI rfl (by exact rfl) (by exact rfl) ?_ | refine xG_go (fun _ => rfl) ?_)
  refine xG_div rfl (by omega) ?_
  iterate 3 (first | refine xG_getI rfl (by exact rfl) (by exact rfl) ?_ | refine xG_getR rfl (by exact rfl) (by exact rfl) ?_ | refine xG_add rfl ?_ | refine xG_sub rfl ?_ | refine xG_mul rfl ?_ | refine xG_putI rfl (by exact rfl) (by exact rfl) ?_ | refine xG_go (fun _ => rfl) ?_)
  refine xG_rem rfl (by omega) ?_
  exact xG_ret (fun _ => rfl) ⟨rfl, rfl⟩
end XN
