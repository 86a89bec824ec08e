/-! THE CALLS: can -/
section YU
variable {sc : Nat × (Nat → Int)} {d c : Nat} {M : mv_M}
theorem isso_cong {row f s v f' s' v' : Nat → Int} : ∀ n : Nat, (∀ i, i < n → f' i = f i ∧ s' i = s i ∧ v' i = v i) → isso row f' s' v' n = isso row f s v n
  | 0, _ => rfl
  | n + 1, h => by
    simp only [isso]
    rw [isso_cong n (fun i hi => h i (by omega)), (h n (by omega)).1, (h n (by omega)).2.1, (h n (by omega)).2.2]
def mK (M : mv_M) (n : Nat) : Nat → Bool := fun num => isso (lkin num) (fun i => M 151 (3 * i)) (fun i => M 151 (3 * i + 1)) (fun i => M 151 (3 * i + 2)) n
/-- what is told to the reference is in range -/
def tok (M : mv_M) (n : Nat) : Prop := n ≤ 6 ∧ M 143 12 = n ∧ ∀ i, i < n → (0 ≤ M 151 (3 * i) ∧ M 151 (3 * i) < 4) ∧ (0 ≤ M 151 (3 * i + 1) ∧ M 151 (3 * i + 1) < 4) ∧ (-1 ≤ M 151 (3 * i + 2) ∧ M 151 (3 * i + 2) ≤ 1)
theorem l_mcan {tu n A t : Nat} {w : Int} (h4 : tu ≤ 4) (et : M 143 1 = tu) (hA : A ≤ 2401) (eA : ((7 : Int) ^ tu) = A) (ht : t < 4) (tk : tok M n) {Q : Option mv_V → mv_M → Prop} (kk : ∀ x7, xG sc (d + 4) y_Mod_can 103 [some (mR 143), some (mI t), some (mI w), some (mI (cntP (mK M n) A)), some (mI (mnl (mK M n) t 9 A)), some (mI (mxl (mK M n) t (-9) A)), some (mI A), x7] [] M Q) : ∀ (k j : Nat) (x7 : Option mv_V), j + k = A → xG sc (d + 4) y_Mod_can 33 [some (mR 143), some (mI t), some (mI w), some (mI (cntP (mK M n) j)), some (mI (mnl (mK M n) t 9 j)), some (mI (mxl (mK M n) t (-9) j)), some (mI j), x7] [] M Q := by
  intro k
  induction k with
  | zero =>
    intro j x7 hk
    have : j = A := by omega
    subst this
    iterate 3 (first | refine xG_getI rfl (by exact rfl) (by exact rfl) ?_ | refine xG_getR rfl (by exact rfl) (by exact rfl) ?_ | refine xG_add rfl ?_ | refine xG_sub rfl ?_ | refine xG_mul rfl ?_ | refine xG_putI rfl (by exact rfl) (by exact rfl) ?_ | refine xG_go (fun _ => rfl) ?_)
    rw [et]
    refine xS1 rfl (by decide) (by simp) (m_sevens (show tu ≤ 6 by omega)) (fun r M' hq => ?_)
    obtain ⟨rfl, rfl⟩ := hq
    rw [eA]
    refine xb_ge rfl (by omega) (by omega) (fun _ => ?_) (fun c1 => absurd c1 (by omega))
    exact kk x7
  | succ k ih =>
    intro j x7 hk
    iterate 3 (first | refine xG_getI rfl (by exact rfl) (by exact rfl) ?_ | refine xG_getR rfl (by exact rfl) (by exact rfl) ?_ | refine xG_add rfl ?_ | refine xG_sub rfl ?_ | refine xG_mul rfl ?_ | refine xG_putI rfl (by exact rfl) (by exact rfl) ?_ | refine xG_go (fun _ => rfl) ?_)
    rw [et]
    refine xS1 rfl (by decide) (by simp) (m_sevens (show tu ≤ 6 by omega)) (fun r M' hq => ?_)
    obtain ⟨rfl, rfl⟩ := hq
    rw [eA]
    refine xb_ge rfl (by omega) (by omega) (fun c1 => absurd c1 (by omega)) (fun _ => ?_)
    iterate 2 (first | refine xG_getI rfl (by exact rfl) (by exact rfl) ?_ | refine xG_getR rfl (by exact rfl) (by exact rfl) ?_ | refine xG_add rfl ?_ | refine xG_sub rfl ?_ | refine xG_mul rfl ?_ | refine xG_putI rfl (by exact rfl) (by exact rfl) ?_ | refine xG_go (fun _ => rfl) ?_)
    refine xV2 rfl (by exact rfl) (by simp) (m_isSo (num := j) (n := n) (by omega) tk.1 tk.2.1 tk.2.2) (fun r M' hq => ?_)
    obtain ⟨rfl, rfl⟩ := hq
    change xG sc (d + 4) y_Mod_can _ _ ((some (mI (b01 (mK M n j = true)))).toList ++ _) _ _
    have ihn := fun x7 => ih (j + 1) x7 (by omega)
    simp only [cntP, mnl, mxl] at ihn
    by_cases q : mK M n j = true
    · rw [b01_t q]
      rw [if_pos q, if_pos q, if_pos q] at ihn
      refine xe1 rfl ?_
      iterate 2 (first | refine xG_getI rfl (by exact rfl) (by exact rfl) ?_ | refine xG_getR rfl (by exact rfl) (by exact rfl) ?_ | refine xG_add rfl ?_ | refine xG_sub rfl ?_ | refine xG_mul rfl ?_ | refine xG_putI rfl (by exact rfl) (by exact rfl) ?_ | refine xG_go (fun _ => rfl) ?_)
      refine xS2 rfl (by decide) (by simp) (m_likeIn (show j ≤ 3000 by omega) ht) (fun r M' hq => ?_)
      obtain ⟨rfl, rfl⟩ := hq
      have l1 := lkin_in j t
      have l2 := mnl_in (mK M n) t 9 (by decide) j
      have l3 := mxl_in (mK M n) t (-9) (by decide) j
      iterate 3 (first | refine xG_getI rfl (by exact rfl) (by exact rfl) ?_ | refine xG_getR rfl (by exact rfl) (by exact rfl) ?_ | refine xG_add rfl ?_ | refine xG_sub rfl ?_ | refine xG_mul rfl ?_ | refine xG_putI rfl (by exact rfl) (by exact rfl) ?_ | refine xG_go (fun _ => rfl) ?_)
      refine xb_ge rfl (by omega) (by omega) (fun c1 => ?_) (fun c1 => ?_)
      · rw [if_neg (by omega)] at ihn
        iterate 4 (first | refine xG_getI rfl (by exact rfl) (by exact rfl) ?_ | refine xG_getR rfl (by exact rfl) (by exact rfl) ?_ | refine xG_add rfl ?_ | refine xG_sub rfl ?_ | refine xG_mul rfl ?_ | refine xG_putI rfl (by exact rfl) (by exact rfl) ?_ | refine xG_go (fun _ => rfl) ?_)
        refine xb_le rfl (by omega) (by omega) (fun c2 => ?_) (fun c2 => ?_)
        · rw [if_neg (by omega)] at ihn
          iterate 5 (first | refine xG_getI rfl (by exact rfl) (by exact rfl) ?_ | refine xG_getR rfl (by exact rfl) (by exact rfl) ?_ | refine xG_add rfl ?_ | refine xG_sub rfl ?_ | refine xG_mul rfl ?_ | refine xG_putI rfl (by exact rfl) (by exact rfl) ?_ | refine xG_go (fun _ => rfl) ?_)
          exact ihn _
        · rw [if_pos (by omega)] at ihn
          iterate 6 (first | refine xG_getI rfl (by exact rfl) (by exact rfl) ?_ | refine xG_getR rfl (by exact rfl) (by exact rfl) ?_ | refine xG_add rfl ?_ | refine xG_sub rfl ?_ | refine xG_mul rfl ?_ | refine xG_putI rfl (by exact rfl) (by exact rfl) ?_ | refine xG_go (fun _ => rfl) ?_)
          exact ihn _
      · rw [if_pos (by omega)] at ihn
        iterate 5 (first | refine xG_getI rfl (by exact rfl) (by exact rfl) ?_ | refine xG_getR rfl (by exact rfl) (by exact rfl) ?_ | refine xG_add rfl ?_ | refine xG_sub rfl ?_ | refine xG_mul rfl ?_ | refine xG_putI rfl (by exact rfl) (by exact rfl) ?_ | refine xG_go (fun _ => rfl) ?_)
        refine xb_le rfl (by omega) (by omega) (fun c2 => ?_) (fun c2 => ?_)
        · rw [if_neg (by omega)] at ihn
          iterate 5 (first | refine xG_getI rfl (by exact rfl) (by exact rfl) ?_ | refine xG_getR rfl (by exact rfl) (by exact rfl) ?_ | refine xG_add rfl ?_ | refine xG_sub rfl ?_ | refine xG_mul rfl ?_ | refine xG_putI rfl (by exact rfl) (by exact rfl) ?_ | refine xG_go (fun _ => rfl) ?_)
          exact ihn _
        · rw [if_pos (by omega)] at ihn
          iterate 6 (first | refine xG_getI rfl (by exact rfl) (by exact rfl) ?_ | refine xG_getR rfl (by exact rfl) (by exact rfl) ?_ | refine xG_add rfl ?_ | refine xG_sub rfl ?_ | refine xG_mul rfl ?_ | refine xG_putI rfl (by exact rfl) (by exact rfl) ?_ | refine xG_go (fun _ => rfl) ?_)
          exact ihn _
    · rw [b01_f q]
      rw [if_neg q, if_neg q, if_neg q, Int.add_zero] at ihn
      refine xe0 rfl ?_
      iterate 2 (first | refine xG_getI rfl (by exact rfl) (by exact rfl) ?_ | refine xG_getR rfl (by exact rfl) (by exact rfl) ?_ | refine xG_add rfl ?_ | refine xG_sub rfl ?_ | refine xG_mul rfl ?_ | refine xG_putI rfl (by exact rfl) (by exact rfl) ?_ | refine xG_go (fun _ => rfl) ?_)
      exact ihn _
theorem m_can {tu n t : Nat} {w : Int} (hk : mok M) (et : M 143 1 = tu) (ht : t < tu) (hw : 0 ≤ w ∧ w ≤ 2) (tk : tok M n) : xC sc (d + 5) n_Mod_can [mR 143, mI t, mI w] M (fun r M' => M = M' ∧ r = some (mI (if w = 0 then cntP (mK M n) (7 ^ tu) else if cntP (mK M n) (7 ^ tu) = 0 then -9 else if w = 1 then mnl (mK M n) t 9 (7 ^ tu) else mxl (mK M n) t (-9) (7 ^ tu)))) := by
  have h1 := hk.2.1
  have h4 : tu ≤ 4 := by omega
  have b := cntP_in (mK M n) (7 ^ tu)
  have b2 := (pow7n h4).1
  refine xC_in rfl rfl (by simp; decide) ?_
  iterate 2 (first | refine xG_getI rfl (by exact rfl) (by exact rfl) ?_ | refine xG_getR rfl (by exact rfl) (by exact rfl) ?_ | refine xG_add rfl ?_ | refine xG_sub rfl ?_ | refine xG_mul rfl ?_ | refine xG_putI rfl (by exact rfl) (by exact rfl) ?_ | refine xG_go (fun _ => rfl) ?_)
  refine xV2 rfl (by exact rfl) (by simp) (m_isTune (by omega) hk) (fun r M' hq => ?_)
  obtain ⟨rfl, rfl⟩ := hq
  rw [b01_t (by omega)]
  refine xe1 rfl ?_
  iterate 3 (first | refine xG_getI rfl (by exact rfl) (by exact rfl) ?_ | refine xG_getR rfl (by exact rfl) (by exact rfl) ?_ | refine xG_add rfl ?_ | refine xG_sub rfl ?_ | refine xG_mul rfl ?_ | refine xG_putI rfl (by exact rfl) (by exact rfl) ?_ | refine xG_go (fun _ => rfl) ?_)
  refine xS3 rfl (by decide) (by simp) (m_in (by omega) (by decide) (by decide)) (fun r M' hq => ?_)
  obtain ⟨rfl, rfl⟩ := hq
  rw [b01_t hw]
  refine xn1 rfl ?_
  iterate 8 (first | refine xG_getI rfl (by exact rfl) (by exact rfl) ?_ | refine xG_getR rfl (by exact rfl) (by exact rfl) ?_ | refine xG_add rfl ?_ | refine xG_sub rfl ?_ | refine xG_mul rfl ?_ | refine xG_putI rfl (by exact rfl) (by exact rfl) ?_ | refine xG_go (fun _ => rfl) ?_)
  refine l_mcan (w := w) h4 et b2 (pow7n h4).2.symm (show t < 4 by omega) tk (fun x7 => ?_) (7 ^ tu) 0 _ (by omega)
  iterate 1 (first | refine xG_getI rfl (by exact rfl) (by exact rfl) ?_ | refine xG_getR rfl (by exact rfl) (by exact rfl) ?_ | refine xG_add rfl ?_ | refine xG_sub rfl ?_ | refine xG_mul rfl ?_ | refine xG_putI rfl (by exact rfl) (by exact rfl) ?_ | refine xG_go (fun _ => rfl) ?_)
  refine xi_ne rfl (by omega) (fun c1 => ?_) (fun c1 => ?_)
  · iterate 1 (first | refine xG_getI rfl (by exact rfl) (by exact rfl) ?_ | refine xG_getR rfl (by exact rfl) (by exact rfl) ?_ | refine xG_add rfl ?_ | refine xG_sub rfl ?_ | refine xG_mul rfl ?_ | refine xG_putI rfl (by exact rfl) (by exact rfl) ?_ | refine xG_go (fun _ => rfl) ?_)
    refine xi_ne rfl (by omega) (fun c2 => ?_) (fun c2 => ?_)
    · iterate 2 (first | refine xG_getI rfl (by exact rfl) (by exact rfl) ?_ | refine xG_getR rfl (by exact rfl) (by exact rfl) ?_ | refine xG_add rfl ?_ | refine xG_sub rfl ?_ | refine xG_mul rfl ?_ | refine xG_putI rfl (by exact rfl) (by exact rfl) ?_ | refine xG_go (fun _ => rfl) ?_)
      refine xb_ne rfl (by omega) (by omega) (fun c3 => ?_) (fun c3 => ?_)
      · iterate 1 (first | refine xG_getI rfl (by exact rfl) (by exact rfl) ?_ | refine xG_getR rfl (by exact rfl) (by exact rfl) ?_ | refine xG_add rfl ?_ | refine xG_sub rfl ?_ | refine xG_mul rfl ?_ | refine xG_putI rfl (by exact rfl) (by exact rfl) ?_ | refine xG_go (fun _ => rfl) ?_)
        exact xG_ret (fun _ => rfl) ⟨rfl, by rw [if_neg c1, if_neg c2, if_neg c3]⟩
      · iterate 2 (first | refine xG_getI rfl (by exact rfl) (by exact rfl) ?_ | refine xG_getR rfl (by exact rfl) (by exact rfl) ?_ | refine xG_add rfl ?_ | refine xG_sub rfl ?_ | refine xG_mul rfl ?_ | refine xG_putI rfl (by exact rfl) (by exact rfl) ?_ | refine xG_go (fun _ => rfl) ?_)
        exact xG_ret (fun _ => rfl) ⟨rfl, by rw [if_neg c1, if_neg c2, if_pos c3]⟩
    · iterate 2 (first | refine xG_getI rfl (by exact rfl) (by exact rfl) ?_ | refine xG_getR rfl (by exact rfl) (by exact rfl) ?_ | refine xG_add rfl ?_ | refine xG_sub rfl ?_ | refine xG_mul rfl ?_ | refine xG_putI rfl (by exact rfl) (by exact rfl) ?_ | refine xG_go (fun _ => rfl) ?_)
      exact xG_ret (fun _ => rfl) ⟨rfl, by rw [if_neg c1, if_pos c2]⟩
  · iterate 2 (first | refine xG_getI rfl (by exact rfl) (by exact rfl) ?_ | refine xG_getR rfl (by exact rfl) (by exact rfl) ?_ | refine xG_add rfl ?_ | refine xG_sub rfl ?_ | refine xG_mul rfl ?_ | refine xG_putI rfl (by exact rfl) (by exact rfl) ?_ | refine xG_go (fun _ => rfl) ?_)
    exact xG_ret (fun _ => rfl) ⟨rfl, by rw [if_pos c1]⟩
theorem R_tok (h : R c M) : ∃ n : Nat, n ≤ 6 ∧ M 120 4 = n ∧ tok M n ∧ (∀ tu : Nat, M 4 1 = tu → ∀ i, i < n → (0 ≤ M 121 i ∧ M 121 i < tu) ∧ (0 ≤ M 122 i ∧ M 122 i < tu) ∧ (-1 ≤ M 123 i ∧ M 123 i ≤ 1)) ∧ mK M n = pK M n := by
  have h4 := h.1.1.2.1
  obtain ⟨n, n6, e1, e2, hh⟩ := h.2.2.2.2.1
  refine ⟨n, n6, e1, ⟨n6, e2, fun i hi => ?_⟩, fun tu et i hi => ?_, ?_⟩
  · obtain ⟨a1, a2, a3, a4, a5, a6⟩ := hh i hi
    rw [a4, a5, a6]
    omega
  · obtain ⟨a1, a2, a3, a4, a5, a6⟩ := hh i hi
    omega
  · funext num
    exact isso_cong n (fun i hi => ⟨(hh i hi).2.2.2.1, (hh i hi).2.2.2.2.1, (hh i hi).2.2.2.2.2⟩)
theorem svy_Sc {N : mv_M} {P : Nat → Bool} {tu j : Nat} (s : svy M N P tu j) : Sc M N := ⟨fun a ha => s.1 a (by omega) (by omega), by rw [s.1 0 (by decide) (by decide)], s.2.1, fun j _ => by rw [s.1 143 (by decide) (by decide)]⟩
theorem b_can {t w : Int} (ht : mv_in t) (hw : mv_in w) (h : R c M) : both sc 30 n_MV_can n_Mod_can [mI t, mI w] M c := by
  have hl := h.1.1
  obtain ⟨_, hk, e0, e1, e2, e3, _⟩ := h.1
  have h1 := hl.2.1
  obtain ⟨tu, et⟩ := Int.eq_ofNat_of_zero_le (show 0 ≤ M 4 1 by omega)
  have h4 : tu ≤ 4 := by omega
  obtain ⟨n, n6, en, tk, hf, eK⟩ := R_tok h
  by_cases p : 0 ≤ t ∧ t < M 4 1
  · by_cases q : 0 ≤ w ∧ w ≤ 2
    · obtain ⟨j, rfl⟩ := Int.eq_ofNat_of_zero_le p.1
      have j3 : j < tu := by omega
      have b := cntP_in (pK M n) (7 ^ tu)
      have b2 := (pow7n h4).1
      have k1 : xC sc 30 n_MV_can [mR 0, mI (j : Int), mI w] M (fun r M' => r = some (mI (if w = 0 then cntP (pK M n) (7 ^ tu) else if cntP (pK M n) (7 ^ tu) = 0 then -9 else if w = 1 then mnl (pK M n) j 3 (7 ^ tu) else mxl (pK M n) j (-3) (7 ^ tu))) ∧ svy M M' (pK M n) tu (7 ^ tu)) := by
        refine xC_in rfl rfl (by simp; decide) ?_
        iterate 3 (first | refine xG_getI rfl (by exact rfl) (by exact rfl) ?_ | refine xG_getR rfl (by exact rfl) (by exact rfl) ?_ | refine xG_add rfl ?_ | refine xG_sub rfl ?_ | refine xG_mul rfl ?_ | refine xG_putI rfl (by exact rfl) (by exact rfl) ?_ | refine xG_go (fun _ => rfl) ?_)
        refine xV2 rfl (by exact rfl) (by simp) (c_hasTune ht hl) (fun r M' hq => ?_)
        obtain ⟨rfl, rfl⟩ := hq
        rw [if_pos p]
        refine xe1 rfl ?_
        iterate 1 (first | refine xG_getI rfl (by exact rfl) (by exact rfl) ?_ | refine xG_getR rfl (by exact rfl) (by exact rfl) ?_ | refine xG_add rfl ?_ | refine xG_sub rfl ?_ | refine xG_mul rfl ?_ | refine xG_putI rfl (by exact rfl) (by exact rfl) ?_ | refine xG_go (fun _ => rfl) ?_)
        refine xi_lt rfl hw (fun c1 => absurd c1 (by omega)) (fun _ => ?_)
        iterate 2 (first | refine xG_getI rfl (by exact rfl) (by exact rfl) ?_ | refine xG_getR rfl (by exact rfl) (by exact rfl) ?_ | refine xG_add rfl ?_ | refine xG_sub rfl ?_ | refine xG_mul rfl ?_ | refine xG_putI rfl (by exact rfl) (by exact rfl) ?_ | refine xG_go (fun _ => rfl) ?_)
        refine xb_le rfl hw (by decide) (fun _ => ?_) (fun c1 => absurd c1 (by omega))
        iterate 2 (first | refine xG_getI rfl (by exact rfl) (by exact rfl) ?_ | refine xG_getR rfl (by exact rfl) (by exact rfl) ?_ | refine xG_add rfl ?_ | refine xG_sub rfl ?_ | refine xG_mul rfl ?_ | refine xG_putI rfl (by exact rfl) (by exact rfl) ?_ | refine xG_go (fun _ => rfl) ?_)
        refine xV1 rfl (by exact rfl) (by simp) (c_surveys h4 et n6 en (hf tu et)) (fun r N hq => ?_)
        obtain ⟨rfl, s⟩ := hq
        have s3 := s.2.2.1
        obtain ⟨s4, s5, _⟩ := s.2.2.2 j j3
        iterate 1 (first | refine xG_getI rfl (by exact rfl) (by exact rfl) ?_ | refine xG_getR rfl (by exact rfl) (by exact rfl) ?_ | refine xG_add rfl ?_ | refine xG_sub rfl ?_ | refine xG_mul rfl ?_ | refine xG_putI rfl (by exact rfl) (by exact rfl) ?_ | refine xG_go (fun _ => rfl) ?_)
        refine xi_ne rfl hw (fun c1 => ?_) (fun c1 => ?_)
        · iterate 3 (first | refine xG_getI rfl (by exact rfl) (by exact rfl) ?_ | refine xG_getR rfl (by exact rfl) (by exact rfl) ?_ | refine xG_add rfl ?_ | refine xG_sub rfl ?_ | refine xG_mul rfl ?_ | refine xG_putI rfl (by exact rfl) (by exact rfl) ?_ | refine xG_go (fun _ => rfl) ?_)
          rw [s3]
          refine xi_ne rfl (by omega) (fun c2 => ?_) (fun c2 => ?_)
          · iterate 2 (first | refine xG_getI rfl (by exact rfl) (by exact rfl) ?_ | refine xG_getR rfl (by exact rfl) (by exact rfl) ?_ | refine xG_add rfl ?_ | refine xG_sub rfl ?_ | refine xG_mul rfl ?_ | refine xG_putI rfl (by exact rfl) (by exact rfl) ?_ | refine xG_go (fun _ => rfl) ?_)
            refine xb_ne rfl hw (by decide) (fun c3 => ?_) (fun c3 => ?_)
            · iterate 4 (first | refine xG_getI rfl (by exact rfl) (by exact rfl) ?_ | refine xG_getR rfl (by exact rfl) (by exact rfl) ?_ | refine xG_add rfl ?_ | refine xG_sub rfl ?_ | refine xG_mul rfl ?_ | refine xG_putI rfl (by exact rfl) (by exact rfl) ?_ | refine xG_go (fun _ => rfl) ?_)
              refine xG_ald rfl (by exact rfl) (by omega) ?_
              rw [Int.toNat_natCast, s5]
              exact xG_ret (fun _ => rfl) ⟨by rw [if_neg c1, if_neg c2, if_neg c3], s⟩
            · iterate 4 (first | refine xG_getI rfl (by exact rfl) (by exact rfl) ?_ | refine xG_getR rfl (by exact rfl) (by exact rfl) ?_ | refine xG_add rfl ?_ | refine xG_sub rfl ?_ | refine xG_mul rfl ?_ | refine xG_putI rfl (by exact rfl) (by exact rfl) ?_ | refine xG_go (fun _ => rfl) ?_)
              refine xG_ald rfl (by exact rfl) (by omega) ?_
              rw [Int.toNat_natCast, s4]
              iterate 1 (first | refine xG_getI rfl (by exact rfl) (by exact rfl) ?_ | refine xG_getR rfl (by exact rfl) (by exact rfl) ?_ | refine xG_add rfl ?_ | refine xG_sub rfl ?_ | refine xG_mul rfl ?_ | refine xG_putI rfl (by exact rfl) (by exact rfl) ?_ | refine xG_go (fun _ => rfl) ?_)
              exact xG_ret (fun _ => rfl) ⟨by rw [if_neg c1, if_neg c2, if_pos c3], s⟩
          · iterate 1 (first | refine xG_getI rfl (by exact rfl) (by exact rfl) ?_ | refine xG_getR rfl (by exact rfl) (by exact rfl) ?_ | refine xG_add rfl ?_ | refine xG_sub rfl ?_ | refine xG_mul rfl ?_ | refine xG_putI rfl (by exact rfl) (by exact rfl) ?_ | refine xG_go (fun _ => rfl) ?_)
            exact xG_ret (fun _ => rfl) ⟨by rw [if_neg c1, if_pos c2], s⟩
        · iterate 3 (first | refine xG_getI rfl (by exact rfl) (by exact rfl) ?_ | refine xG_getR rfl (by exact rfl) (by exact rfl) ?_ | refine xG_add rfl ?_ | refine xG_sub rfl ?_ | refine xG_mul rfl ?_ | refine xG_putI rfl (by exact rfl) (by exact rfl) ?_ | refine xG_go (fun _ => rfl) ?_)
          rw [s3]
          exact xG_ret (fun _ => rfl) ⟨by rw [if_pos c1], s⟩
      refine xC_mono k1 (fun r1 M1 hq => ?_)
      obtain ⟨rfl, s⟩ := hq
      have sS := svy_Sc s
      have hk1 : mok M1 := Sl_mok (Sc_Sl sS) hk
      have e151 : M1 151 = M 151 := s.1 151 (by decide) (by decide)
      have e143 : M1 143 = M 143 := s.1 143 (by decide) (by decide)
      have tk1 : tok M1 n := by unfold tok; rw [e151, e143]; exact tk
      have eK1 : mK M1 n = pK M n := by rw [← eK]; unfold mK; rw [e151]
      refine xC_mono (m_can (tu := tu) (n := n) (t := j) hk1 (by rw [e143, e1, et]) j3 q tk1) (fun r2 M2 hq => ?_)
      obtain ⟨rfl, rfl⟩ := hq
      rw [eK1]
      have q1 := mnl_eq (pK M n) j (7 ^ tu)
      have q2 := mxl_eq (pK M n) j (7 ^ tu)
      have q3 := mnl_in (pK M n) j 3 (by decide) (7 ^ tu)
      have q4 := mxl_in (pK M n) j (-3) (by decide) (7 ^ tu)
      refine ⟨⟨_, ?_, rfl, ?_⟩, Sc_R sS h⟩
      · split
        · omega
        · split
          · decide
          · split <;> omega
      · by_cases u1 : w = 0
        · rw [if_pos u1, if_pos u1]
        · rw [if_neg u1, if_neg u1]
          by_cases u2 : cntP (pK M n) (7 ^ tu) = 0
          · rw [if_pos u2, if_pos u2]
          · rw [if_neg u2, if_neg u2]
            rcases q1 with q1 | q1
            · exact absurd q1.1 u2
            rcases q2 with q2 | q2
            · exact absurd q2.1 u2
            rw [q1.1, q2.1]
    · refine both_of (z := -1000000) (by decide) h ?_ ?_
      · refine xC_in rfl rfl (by simp; decide) ?_
        iterate 3 (first | refine xG_getI rfl (by exact rfl) (by exact rfl) ?_ | refine xG_getR rfl (by exact rfl) (by exact rfl) ?_ | refine xG_add rfl ?_ | refine xG_sub rfl ?_ | refine xG_mul rfl ?_ | refine xG_putI rfl (by exact rfl) (by exact rfl) ?_ | refine xG_go (fun _ => rfl) ?_)
        refine xV2 rfl (by exact rfl) (by simp) (c_hasTune ht hl) (fun r M' hq => ?_)
        obtain ⟨rfl, rfl⟩ := hq
        rw [if_pos p]
        refine xe1 rfl ?_
        iterate 1 (first | refine xG_getI rfl (by exact rfl) (by exact rfl) ?_ | refine xG_getR rfl (by exact rfl) (by exact rfl) ?_ | refine xG_add rfl ?_ | refine xG_sub rfl ?_ | refine xG_mul rfl ?_ | refine xG_putI rfl (by exact rfl) (by exact rfl) ?_ | refine xG_go (fun _ => rfl) ?_)
        refine xi_lt rfl hw (fun _ => ?_) (fun c1 => ?_)
        · iterate 1 (first | refine xG_getI rfl (by exact rfl) (by exact rfl) ?_ | refine xG_getR rfl (by exact rfl) (by exact rfl) ?_ | refine xG_add rfl ?_ | refine xG_sub rfl ?_ | refine xG_mul rfl ?_ | refine xG_putI rfl (by exact rfl) (by exact rfl) ?_ | refine xG_go (fun _ => rfl) ?_)
          exact xG_ret (fun _ => rfl) ⟨rfl, rfl⟩
        · iterate 2 (first | refine xG_getI rfl (by exact rfl) (by exact rfl) ?_ | refine xG_getR rfl (by exact rfl) (by exact rfl) ?_ | refine xG_add rfl ?_ | refine xG_sub rfl ?_ | refine xG_mul rfl ?_ | refine xG_putI rfl (by exact rfl) (by exact rfl) ?_ | refine xG_go (fun _ => rfl) ?_)
          refine xb_le rfl hw (by decide) (fun c2 => absurd c2 (by omega)) (fun _ => ?_)
          iterate 1 (first | refine xG_getI rfl (by exact rfl) (by exact rfl) ?_ | refine xG_getR rfl (by exact rfl) (by exact rfl) ?_ | refine xG_add rfl ?_ | refine xG_sub rfl ?_ | refine xG_mul rfl ?_ | refine xG_putI rfl (by exact rfl) (by exact rfl) ?_ | refine xG_go (fun _ => rfl) ?_)
          exact xG_ret (fun _ => rfl) ⟨rfl, rfl⟩
      · refine xC_in rfl rfl (by simp; decide) ?_
        iterate 2 (first | refine xG_getI rfl (by exact rfl) (by exact rfl) ?_ | refine xG_getR rfl (by exact rfl) (by exact rfl) ?_ | refine xG_add rfl ?_ | refine xG_sub rfl ?_ | refine xG_mul rfl ?_ | refine xG_putI rfl (by exact rfl) (by exact rfl) ?_ | refine xG_go (fun _ => rfl) ?_)
        refine xV2 rfl (by exact rfl) (by simp) (m_isTune ht hk) (fun r M' hq => ?_)
        obtain ⟨rfl, rfl⟩ := hq
        rw [b01_t (by omega)]
        refine xe1 rfl ?_
        iterate 3 (first | refine xG_getI rfl (by exact rfl) (by exact rfl) ?_ | refine xG_getR rfl (by exact rfl) (by exact rfl) ?_ | refine xG_add rfl ?_ | refine xG_sub rfl ?_ | refine xG_mul rfl ?_ | refine xG_putI rfl (by exact rfl) (by exact rfl) ?_ | refine xG_go (fun _ => rfl) ?_)
        refine xS3 rfl (by decide) (by simp) (m_in hw (by decide) (by decide)) (fun r M' hq => ?_)
        obtain ⟨rfl, rfl⟩ := hq
        rw [b01_f q]
        refine xn0 rfl ?_
        iterate 1 (first | refine xG_getI rfl (by exact rfl) (by exact rfl) ?_ | refine xG_getR rfl (by exact rfl) (by exact rfl) ?_ | refine xG_add rfl ?_ | refine xG_sub rfl ?_ | refine xG_mul rfl ?_ | refine xG_putI rfl (by exact rfl) (by exact rfl) ?_ | refine xG_go (fun _ => rfl) ?_)
        exact xG_ret (fun _ => rfl) ⟨Sc_refl, rfl⟩
  · refine both_of (z := -1000000) (by decide) h ?_ ?_
    · refine xC_in rfl rfl (by simp; decide) ?_
      iterate 3 (first | refine xG_getI rfl (by exact rfl) (by exact rfl) ?_ | refine xG_getR rfl (by exact rfl) (by exact rfl) ?_ | refine xG_add rfl ?_ | refine xG_sub rfl ?_ | refine xG_mul rfl ?_ | refine xG_putI rfl (by exact rfl) (by exact rfl) ?_ | refine xG_go (fun _ => rfl) ?_)
      refine xV2 rfl (by exact rfl) (by simp) (c_hasTune ht hl) (fun r M' hq => ?_)
      obtain ⟨rfl, rfl⟩ := hq
      rw [if_neg p]
      refine xe0 rfl ?_
      iterate 1 (first | refine xG_getI rfl (by exact rfl) (by exact rfl) ?_ | refine xG_getR rfl (by exact rfl) (by exact rfl) ?_ | refine xG_add rfl ?_ | refine xG_sub rfl ?_ | refine xG_mul rfl ?_ | refine xG_putI rfl (by exact rfl) (by exact rfl) ?_ | refine xG_go (fun _ => rfl) ?_)
      exact xG_ret (fun _ => rfl) ⟨rfl, rfl⟩
    · refine xC_in rfl rfl (by simp; decide) ?_
      iterate 2 (first | refine xG_getI rfl (by exact rfl) (by exact rfl) ?_ | refine xG_getR rfl (by exact rfl) (by exact rfl) ?_ | refine xG_add rfl ?_ | refine xG_sub rfl ?_ | refine xG_mul rfl ?_ | refine xG_putI rfl (by exact rfl) (by exact rfl) ?_ | refine xG_go (fun _ => rfl) ?_)
      refine xV2 rfl (by exact rfl) (by simp) (m_isTune ht hk) (fun r M' hq => ?_)
      obtain ⟨rfl, rfl⟩ := hq
      rw [b01_f (by omega)]
      refine xe0 rfl ?_
      iterate 1 (first | refine xG_getI rfl (by exact rfl) (by exact rfl) ?_ | refine xG_getR rfl (by exact rfl) (by exact rfl) ?_ | refine xG_add rfl ?_ | refine xG_sub rfl ?_ | refine xG_mul rfl ?_ | refine xG_putI rfl (by exact rfl) (by exact rfl) ?_ | refine xG_go (fun _ => rfl) ?_)
      exact xG_ret (fun _ => rfl) ⟨Sc_refl, rfl⟩
end YU
