/-! THE CALLS: monkey, now -/
section YC
variable {sc : Nat × (Nat → Int)} {d c : Nat} {M : mv_M}
theorem vote_cong {ca cb g h : Nat → Int} {m : Nat} (e : cb m = ca m) (e0 : g 0 = h 0) (e1 : g (3 + m) = h (3 + m)) (e2 : g (9 + m) = h (9 + m)) : vote cb h m = vote ca g m := by
  unfold vote
  rw [e, e0, e1, e2]
theorem marg_cong {ca cb g h : Nat → Int} : ∀ n : Nat, (∀ m, m < n → vote cb h m = vote ca g m) → marg cb h n = marg ca g n
  | 0, _ => rfl
  | n + 1, e => by
    simp only [marg]
    rw [marg_cong n (fun m hm => e m (by omega)), e n (by omega)]
theorem vcnt_cong {ca cb g h : Nat → Int} {v : Int} : ∀ n : Nat, (∀ m, m < n → vote cb h m = vote ca g m) → vcnt cb h v n = vcnt ca g v n
  | 0, _ => rfl
  | n + 1, e => by
    simp only [vcnt]
    rw [vcnt_cong n (fun m hm => e m (by omega)), e n (by omega)]
def aM (M : mv_M) : mv_M := mv_row M 158 (crow M 158 0 147 0 21)
theorem aM_at {k : Nat} (hk : k < 21) : aM M 158 k = M 147 k := by
  unfold aM
  rw [mv_row_at]
  unfold crow
  rw [if_pos (by omega), show 0 + (k - 0) = k by omega]
theorem aM_ne {a : Nat} (h : a ≠ 158) : aM M a = M a := mv_row_ne h
theorem aM_Sc : Sc M (aM M) := Sc_all (fun a _ _ h => aM_ne (by omega))
theorem aM_dok (h : dok (M 147)) : dok (aM M 158) := dok_cong (fun k hk => aM_at hk) h
theorem R_nm (h : R c M) : ∃ nm : Nat, nm ≤ 6 ∧ M 4 2 = nm ∧ M 143 2 = nm := by
  have h2 := h.1.1.2.2.1
  obtain ⟨nm, e⟩ := Int.eq_ofNat_of_zero_le h2.1
  exact ⟨nm, by omega, e, by rw [h.1.2.2.2.2.1, e]⟩
theorem R_vote (h : R c M) {m : Nat} (hm : (m : Int) < M 4 2) : vote (aM M 145) (aM M 158) m = vote (M 6) (dv M 29) m := by
  have h2 := h.1.1.2.2.1
  have hd := h.2.1.2.2.1
  refine vote_cong (by rw [aM_ne (by decide)]; exact (h.1.2.2.2.2.2.2 m hm).2.1) ?_ ?_ ?_
  · rw [aM_at (by decide), hd 0 (by decide)]
  · rw [aM_at (by omega), hd (3 + m) (by omega)]
  · rw [aM_at (by omega), hd (9 + m) (by omega)]
theorem b_monkey {m x : Int} (hm : mv_in m) (hx : mv_in x) (h : R c M) : both sc 30 n_MV_monkey n_Mod_monkey [mI m, mI x] M c := by
  have hl := h.1.1
  have hdd := h.2.1.1
  obtain ⟨_, hk, e0, e1, e2, e3, e4⟩ := h.1
  obtain ⟨_, dm, de, _⟩ := h.2.1
  have h2 := hl.2.2.1
  by_cases p : 0 ≤ m ∧ m < M 4 2
  · obtain ⟨j, rfl⟩ := Int.eq_ofNat_of_zero_le p.1
    have j6 : j < 6 := by omega
    have b1 : ∀ {Q : Option mv_V → mv_M → Prop}, xG sc 29 y_MV_monkey 14 [some (mR 0), some (mI (j : Int)), some (mI x)] [] M Q → xC sc 30 n_MV_monkey [mR 0, mI (j : Int), mI x] M Q := by
      intro Q kk
      refine xC_in rfl rfl (by simp; decide) ?_
      iterate 3 (first | refine xG_getI rfl (by exact rfl) (by exact rfl) ?_ | refine xG_getR rfl (by exact rfl) (by exact rfl) ?_ | refine xG_add rfl ?_ | refine xG_sub rfl ?_ | refine xG_mul rfl ?_ | refine xG_putI rfl (by exact rfl) (by exact rfl) ?_ | refine xG_go (fun _ => rfl) ?_)
      refine xV2 rfl (by exact rfl) (by simp) (c_hasMonkey hm hl) (fun r M' hq => ?_)
      obtain ⟨rfl, rfl⟩ := hq
      rw [if_pos p]
      refine xn1 rfl ?_
      exact kk
    have b2 : ∀ {Q : Option mv_V → mv_M → Prop}, xG sc 29 y_Mod_monkey 15 [some (mR 143), some (mI (j : Int)), some (mI x)] [] (aM M) Q → xC sc 30 n_Mod_monkey [mR 143, mI (j : Int), mI x] M Q := by
      intro Q kk
      refine xC_in rfl rfl (by simp; decide) ?_
      iterate 2 (first | refine xG_getI rfl (by exact rfl) (by exact rfl) ?_ | refine xG_getR rfl (by exact rfl) (by exact rfl) ?_ | refine xG_add rfl ?_ | refine xG_sub rfl ?_ | refine xG_mul rfl ?_ | refine xG_putI rfl (by exact rfl) (by exact rfl) ?_ | refine xG_go (fun _ => rfl) ?_)
      refine xV2 rfl (by exact rfl) (by simp) (m_isMonkey hm hk) (fun r M' hq => ?_)
      obtain ⟨rfl, rfl⟩ := hq
      rw [b01_t (by omega)]
      refine xn1 rfl ?_
      iterate 1 (first | refine xG_getI rfl (by exact rfl) (by exact rfl) ?_ | refine xG_getR rfl (by exact rfl) (by exact rfl) ?_ | refine xG_add rfl ?_ | refine xG_sub rfl ?_ | refine xG_mul rfl ?_ | refine xG_putI rfl (by exact rfl) (by exact rfl) ?_ | refine xG_go (fun _ => rfl) ?_)
      refine xV1 rfl (by exact rfl) (by simp) m_asItIs (fun r M' hq => ?_)
      obtain ⟨rfl, rfl⟩ := hq
      exact kk
    have r1 := hl.2.2.2.2.1 j j6
    have r2 := hl.2.2.2.2.2.1 j j6
    have r3 := hdd.2.2.2.1 j j6
    have r4 := hdd.2.2.2.2.1 j j6
    by_cases q : x < 0 ∨ 4 < x
    · refine both_of (z := -1000000) (by decide) h (b1 ?_) (b2 ?_)
      · iterate 1 (first | refine xG_getI rfl (by exact rfl) (by exact rfl) ?_ | refine xG_getR rfl (by exact rfl) (by exact rfl) ?_ | refine xG_add rfl ?_ | refine xG_sub rfl ?_ | refine xG_mul rfl ?_ | refine xG_putI rfl (by exact rfl) (by exact rfl) ?_ | refine xG_go (fun _ => rfl) ?_)
        refine xT_out rfl hx q ?_
        iterate 1 (first | refine xG_getI rfl (by exact rfl) (by exact rfl) ?_ | refine xG_getR rfl (by exact rfl) (by exact rfl) ?_ | refine xG_add rfl ?_ | refine xG_sub rfl ?_ | refine xG_mul rfl ?_ | refine xG_putI rfl (by exact rfl) (by exact rfl) ?_ | refine xG_go (fun _ => rfl) ?_)
        exact xG_ret (fun _ => rfl) ⟨rfl, rfl⟩
      · iterate 1 (first | refine xG_getI rfl (by exact rfl) (by exact rfl) ?_ | refine xG_getR rfl (by exact rfl) (by exact rfl) ?_ | refine xG_add rfl ?_ | refine xG_sub rfl ?_ | refine xG_mul rfl ?_ | refine xG_putI rfl (by exact rfl) (by exact rfl) ?_ | refine xG_go (fun _ => rfl) ?_)
        refine xT_out rfl hx q ?_
        iterate 1 (first | refine xG_getI rfl (by exact rfl) (by exact rfl) ?_ | refine xG_getR rfl (by exact rfl) (by exact rfl) ?_ | refine xG_add rfl ?_ | refine xG_sub rfl ?_ | refine xG_mul rfl ?_ | refine xG_putI rfl (by exact rfl) (by exact rfl) ?_ | refine xG_go (fun _ => rfl) ?_)
        exact xG_ret (fun _ => rfl) ⟨aM_Sc, rfl⟩
    · rcases (show x = 0 ∨ x = 1 ∨ x = 2 ∨ x = 3 ∨ x = 4 by omega) with rfl | rfl | rfl | rfl | rfl
      · refine both_of (z := M 5 j) (by omega) h (b1 ?_) (b2 ?_)
        · iterate 6 (first | refine xG_getI rfl (by exact rfl) (by exact rfl) ?_ | refine xG_getR rfl (by exact rfl) (by exact rfl) ?_ | refine xG_add rfl ?_ | refine xG_sub rfl ?_ | refine xG_mul rfl ?_ | refine xG_putI rfl (by exact rfl) (by exact rfl) ?_ | refine xG_go (fun _ => rfl) ?_)
          refine xG_ald rfl (by exact rfl) (by omega) ?_
          exact xG_ret (fun _ => rfl) ⟨rfl, by rw [Int.toNat_natCast]⟩
        · iterate 5 (first | refine xG_getI rfl (by exact rfl) (by exact rfl) ?_ | refine xG_getR rfl (by exact rfl) (by exact rfl) ?_ | refine xG_add rfl ?_ | refine xG_sub rfl ?_ | refine xG_mul rfl ?_ | refine xG_putI rfl (by exact rfl) (by exact rfl) ?_ | refine xG_go (fun _ => rfl) ?_)
          refine xG_ald rfl (by exact rfl) (by omega) ?_
          exact xG_ret (fun _ => rfl) ⟨aM_Sc, by rw [Int.toNat_natCast, aM_ne (by decide), (e4 j p.2).1]⟩
      · refine both_of (z := M 6 j) (by omega) h (b1 ?_) (b2 ?_)
        · iterate 6 (first | refine xG_getI rfl (by exact rfl) (by exact rfl) ?_ | refine xG_getR rfl (by exact rfl) (by exact rfl) ?_ | refine xG_add rfl ?_ | refine xG_sub rfl ?_ | refine xG_mul rfl ?_ | refine xG_putI rfl (by exact rfl) (by exact rfl) ?_ | refine xG_go (fun _ => rfl) ?_)
          refine xG_ald rfl (by exact rfl) (by omega) ?_
          exact xG_ret (fun _ => rfl) ⟨rfl, by rw [Int.toNat_natCast]⟩
        · iterate 5 (first | refine xG_getI rfl (by exact rfl) (by exact rfl) ?_ | refine xG_getR rfl (by exact rfl) (by exact rfl) ?_ | refine xG_add rfl ?_ | refine xG_sub rfl ?_ | refine xG_mul rfl ?_ | refine xG_putI rfl (by exact rfl) (by exact rfl) ?_ | refine xG_go (fun _ => rfl) ?_)
          refine xG_ald rfl (by exact rfl) (by omega) ?_
          exact xG_ret (fun _ => rfl) ⟨aM_Sc, by rw [Int.toNat_natCast, aM_ne (by decide), (e4 j p.2).2.1]⟩
      · refine both_of (z := dv M 29 (3 + j)) (by omega) h (b1 ?_) (b2 ?_)
        · iterate 6 (first | refine xG_getI rfl (by exact rfl) (by exact rfl) ?_ | refine xG_getR rfl (by exact rfl) (by exact rfl) ?_ | refine xG_add rfl ?_ | refine xG_sub rfl ?_ | refine xG_mul rfl ?_ | refine xG_putI rfl (by exact rfl) (by exact rfl) ?_ | refine xG_go (fun _ => rfl) ?_)
          refine xG_ald rfl (by exact rfl) (by omega) ?_
          exact xG_ret (fun _ => rfl) ⟨rfl, by rw [Int.toNat_natCast, dv_m j6]⟩
        · iterate 7 (first | refine xG_getI rfl (by exact rfl) (by exact rfl) ?_ | refine xG_getR rfl (by exact rfl) (by exact rfl) ?_ | refine xG_add rfl ?_ | refine xG_sub rfl ?_ | refine xG_mul rfl ?_ | refine xG_putI rfl (by exact rfl) (by exact rfl) ?_ | refine xG_go (fun _ => rfl) ?_)
          refine xG_ald rfl (by exact rfl) (by omega) ?_
          exact xG_ret (fun _ => rfl) ⟨aM_Sc, by rw [show ((3 : Int) + (j : Int)).toNat = 3 + j by omega, aM_ne (by decide), de _ (by omega)]⟩
      · refine both_of (z := dv M 29 (9 + j)) (by omega) h (b1 ?_) (b2 ?_)
        · iterate 6 (first | refine xG_getI rfl (by exact rfl) (by exact rfl) ?_ | refine xG_getR rfl (by exact rfl) (by exact rfl) ?_ | refine xG_add rfl ?_ | refine xG_sub rfl ?_ | refine xG_mul rfl ?_ | refine xG_putI rfl (by exact rfl) (by exact rfl) ?_ | refine xG_go (fun _ => rfl) ?_)
          refine xG_ald rfl (by exact rfl) (by omega) ?_
          exact xG_ret (fun _ => rfl) ⟨rfl, by rw [Int.toNat_natCast, dv_n j6]⟩
        · iterate 7 (first | refine xG_getI rfl (by exact rfl) (by exact rfl) ?_ | refine xG_getR rfl (by exact rfl) (by exact rfl) ?_ | refine xG_add rfl ?_ | refine xG_sub rfl ?_ | refine xG_mul rfl ?_ | refine xG_putI rfl (by exact rfl) (by exact rfl) ?_ | refine xG_go (fun _ => rfl) ?_)
          refine xG_ald rfl (by exact rfl) (by omega) ?_
          exact xG_ret (fun _ => rfl) ⟨aM_Sc, by rw [show ((9 : Int) + (j : Int)).toNat = 9 + j by omega, aM_ne (by decide), de _ (by omega)]⟩
      · have r5 := vote_in (M 6) (dv M 29) j
        refine both_of (z := vote (M 6) (dv M 29) j) (by omega) h (b1 ?_) (b2 ?_)
        · iterate 5 (first | refine xG_getI rfl (by exact rfl) (by exact rfl) ?_ | refine xG_getR rfl (by exact rfl) (by exact rfl) ?_ | refine xG_add rfl ?_ | refine xG_sub rfl ?_ | refine xG_mul rfl ?_ | refine xG_putI rfl (by exact rfl) (by exact rfl) ?_ | refine xG_go (fun _ => rfl) ?_)
          refine xV2 rfl (by exact rfl) (by simp) (c_voteOf isDay_today hl hdd j6) (fun r M' hq => ?_)
          obtain ⟨rfl, rfl⟩ := hq
          exact xG_ret (fun _ => rfl) ⟨rfl, rfl⟩
        · iterate 4 (first | refine xG_getI rfl (by exact rfl) (by exact rfl) ?_ | refine xG_getR rfl (by exact rfl) (by exact rfl) ?_ | refine xG_add rfl ?_ | refine xG_sub rfl ?_ | refine xG_mul rfl ?_ | refine xG_putI rfl (by exact rfl) (by exact rfl) ?_ | refine xG_go (fun _ => rfl) ?_)
          refine xV2 rfl (by exact rfl) (by simp) (m_voteOf (Sl_mok (Sc_Sl aM_Sc) hk) (aM_dok dm) j6) (fun r M' hq => ?_)
          obtain ⟨rfl, rfl⟩ := hq
          exact xG_ret (fun _ => rfl) ⟨aM_Sc, by rw [R_vote h p.2]⟩
  · refine both_of (z := -1000000) (by decide) h ?_ ?_
    · refine xC_in rfl rfl (by simp; decide) ?_
      iterate 3 (first | refine xG_getI rfl (by exact rfl) (by exact rfl) ?_ | refine xG_getR rfl (by exact rfl) (by exact rfl) ?_ | refine xG_add rfl ?_ | refine xG_sub rfl ?_ | refine xG_mul rfl ?_ | refine xG_putI rfl (by exact rfl) (by exact rfl) ?_ | refine xG_go (fun _ => rfl) ?_)
      refine xV2 rfl (by exact rfl) (by simp) (c_hasMonkey hm hl) (fun r M' hq => ?_)
      obtain ⟨rfl, rfl⟩ := hq
      rw [if_neg p]
      refine xn0 rfl ?_
      iterate 1 (first | refine xG_getI rfl (by exact rfl) (by exact rfl) ?_ | refine xG_getR rfl (by exact rfl) (by exact rfl) ?_ | refine xG_add rfl ?_ | refine xG_sub rfl ?_ | refine xG_mul rfl ?_ | refine xG_putI rfl (by exact rfl) (by exact rfl) ?_ | refine xG_go (fun _ => rfl) ?_)
      exact xG_ret (fun _ => rfl) ⟨rfl, rfl⟩
    · refine xC_in rfl rfl (by simp; decide) ?_
      iterate 2 (first | refine xG_getI rfl (by exact rfl) (by exact rfl) ?_ | refine xG_getR rfl (by exact rfl) (by exact rfl) ?_ | refine xG_add rfl ?_ | refine xG_sub rfl ?_ | refine xG_mul rfl ?_ | refine xG_putI rfl (by exact rfl) (by exact rfl) ?_ | refine xG_go (fun _ => rfl) ?_)
      refine xV2 rfl (by exact rfl) (by simp) (m_isMonkey hm hk) (fun r M' hq => ?_)
      obtain ⟨rfl, rfl⟩ := hq
      rw [b01_f (by omega)]
      refine xn0 rfl ?_
      iterate 1 (first | refine xG_getI rfl (by exact rfl) (by exact rfl) ?_ | refine xG_getR rfl (by exact rfl) (by exact rfl) ?_ | refine xG_add rfl ?_ | refine xG_sub rfl ?_ | refine xG_mul rfl ?_ | refine xG_putI rfl (by exact rfl) (by exact rfl) ?_ | refine xG_go (fun _ => rfl) ?_)
      exact xG_ret (fun _ => rfl) ⟨Sc_refl, rfl⟩
theorem b_now {x : Int} (hx : mv_in x) (h : R c M) : both sc 30 n_MV_now n_Mod_now [mI x] M c := by
  have hl := h.1.1
  have hdd := h.2.1.1
  have hk := h.1.2.1
  obtain ⟨_, dm, de, _⟩ := h.2.1
  obtain ⟨nm, n6, en, en2⟩ := R_nm h
  obtain ⟨f, n, _, hn, _, f1, f2, _⟩ := h.2.2.1
  have hv : ∀ m, m < nm → vote (aM M 145) (aM M 158) m = vote (M 6) (dv M 29) m := fun m hm => R_vote h (by omega)
  have en3 : aM M 143 2 = nm := by rw [aM_ne (by decide), en2]
  have hk2 := Sl_mok (Sc_Sl aM_Sc) hk
  have dm2 := aM_dok dm
  have b2 : ∀ {Q : Option mv_V → mv_M → Prop}, xG sc 29 y_Mod_now 4 [some (mR 143), some (mI x)] [] (aM M) Q → xC sc 30 n_Mod_now [mR 143, mI x] M Q := by
    intro Q kk
    refine xC_in rfl rfl (by simp; decide) ?_
    iterate 1 (first | refine xG_getI rfl (by exact rfl) (by exact rfl) ?_ | refine xG_getR rfl (by exact rfl) (by exact rfl) ?_ | refine xG_add rfl ?_ | refine xG_sub rfl ?_ | refine xG_mul rfl ?_ | refine xG_putI rfl (by exact rfl) (by exact rfl) ?_ | refine xG_go (fun _ => rfl) ?_)
    refine xV1 rfl (by exact rfl) (by simp) m_asItIs (fun r M' hq => ?_)
    obtain ⟨rfl, rfl⟩ := hq
    exact kk
  have d0 := hdd.1
  have d1 := hdd.2.1
  have d2 := hdd.2.2.1
  by_cases p : x < 0 ∨ 6 < x
  · refine both_of (z := -1) (by decide) h ?_ (b2 ?_)
    · refine xC_in rfl rfl (by simp; decide) ?_
      iterate 1 (first | refine xG_getI rfl (by exact rfl) (by exact rfl) ?_ | refine xG_getR rfl (by exact rfl) (by exact rfl) ?_ | refine xG_add rfl ?_ | refine xG_sub rfl ?_ | refine xG_mul rfl ?_ | refine xG_putI rfl (by exact rfl) (by exact rfl) ?_ | refine xG_go (fun _ => rfl) ?_)
      refine xT_out rfl hx p ?_
      iterate 1 (first | refine xG_getI rfl (by exact rfl) (by exact rfl) ?_ | refine xG_getR rfl (by exact rfl) (by exact rfl) ?_ | refine xG_add rfl ?_ | refine xG_sub rfl ?_ | refine xG_mul rfl ?_ | refine xG_putI rfl (by exact rfl) (by exact rfl) ?_ | refine xG_go (fun _ => rfl) ?_)
      exact xG_ret (fun _ => rfl) ⟨rfl, rfl⟩
    · iterate 1 (first | refine xG_getI rfl (by exact rfl) (by exact rfl) ?_ | refine xG_getR rfl (by exact rfl) (by exact rfl) ?_ | refine xG_add rfl ?_ | refine xG_sub rfl ?_ | refine xG_mul rfl ?_ | refine xG_putI rfl (by exact rfl) (by exact rfl) ?_ | refine xG_go (fun _ => rfl) ?_)
      refine xT_out rfl hx p ?_
      iterate 1 (first | refine xG_getI rfl (by exact rfl) (by exact rfl) ?_ | refine xG_getR rfl (by exact rfl) (by exact rfl) ?_ | refine xG_add rfl ?_ | refine xG_sub rfl ?_ | refine xG_mul rfl ?_ | refine xG_putI rfl (by exact rfl) (by exact rfl) ?_ | refine xG_go (fun _ => rfl) ?_)
      exact xG_ret (fun _ => rfl) ⟨aM_Sc, rfl⟩
  · rcases (show x = 0 ∨ x = 1 ∨ x = 2 ∨ x = 3 ∨ x = 4 ∨ x = 5 ∨ x = 6 by omega) with rfl | rfl | rfl | rfl | rfl | rfl | rfl
    · refine both_of (z := dv M 29 0) (by omega) h ?_ (b2 ?_)
      · refine xC_in rfl rfl (by simp; decide) ?_
        iterate 5 (first | refine xG_getI rfl (by exact rfl) (by exact rfl) ?_ | refine xG_getR rfl (by exact rfl) (by exact rfl) ?_ | refine xG_add rfl ?_ | refine xG_sub rfl ?_ | refine xG_mul rfl ?_ | refine xG_putI rfl (by exact rfl) (by exact rfl) ?_ | refine xG_go (fun _ => rfl) ?_)
        exact xG_ret (fun _ => rfl) ⟨rfl, rfl⟩
      · iterate 5 (first | refine xG_getI rfl (by exact rfl) (by exact rfl) ?_ | refine xG_getR rfl (by exact rfl) (by exact rfl) ?_ | refine xG_add rfl ?_ | refine xG_sub rfl ?_ | refine xG_mul rfl ?_ | refine xG_putI rfl (by exact rfl) (by exact rfl) ?_ | refine xG_go (fun _ => rfl) ?_)
        refine xG_ald rfl (by exact rfl) (by decide) ?_
        exact xG_ret (fun _ => rfl) ⟨aM_Sc, by rw [aM_ne (by decide), de 0 (by decide)]; rfl⟩
    · refine both_of (z := dv M 29 1) (by omega) h ?_ (b2 ?_)
      · refine xC_in rfl rfl (by simp; decide) ?_
        iterate 5 (first | refine xG_getI rfl (by exact rfl) (by exact rfl) ?_ | refine xG_getR rfl (by exact rfl) (by exact rfl) ?_ | refine xG_add rfl ?_ | refine xG_sub rfl ?_ | refine xG_mul rfl ?_ | refine xG_putI rfl (by exact rfl) (by exact rfl) ?_ | refine xG_go (fun _ => rfl) ?_)
        exact xG_ret (fun _ => rfl) ⟨rfl, rfl⟩
      · iterate 5 (first | refine xG_getI rfl (by exact rfl) (by exact rfl) ?_ | refine xG_getR rfl (by exact rfl) (by exact rfl) ?_ | refine xG_add rfl ?_ | refine xG_sub rfl ?_ | refine xG_mul rfl ?_ | refine xG_putI rfl (by exact rfl) (by exact rfl) ?_ | refine xG_go (fun _ => rfl) ?_)
        refine xG_ald rfl (by exact rfl) (by decide) ?_
        exact xG_ret (fun _ => rfl) ⟨aM_Sc, by rw [aM_ne (by decide), de 1 (by decide)]; rfl⟩
    · refine both_of (z := dv M 29 2) (by omega) h ?_ (b2 ?_)
      · refine xC_in rfl rfl (by simp; decide) ?_
        iterate 5 (first | refine xG_getI rfl (by exact rfl) (by exact rfl) ?_ | refine xG_getR rfl (by exact rfl) (by exact rfl) ?_ | refine xG_add rfl ?_ | refine xG_sub rfl ?_ | refine xG_mul rfl ?_ | refine xG_putI rfl (by exact rfl) (by exact rfl) ?_ | refine xG_go (fun _ => rfl) ?_)
        exact xG_ret (fun _ => rfl) ⟨rfl, rfl⟩
      · iterate 5 (first | refine xG_getI rfl (by exact rfl) (by exact rfl) ?_ | refine xG_getR rfl (by exact rfl) (by exact rfl) ?_ | refine xG_add rfl ?_ | refine xG_sub rfl ?_ | refine xG_mul rfl ?_ | refine xG_putI rfl (by exact rfl) (by exact rfl) ?_ | refine xG_go (fun _ => rfl) ?_)
        refine xG_ald rfl (by exact rfl) (by decide) ?_
        exact xG_ret (fun _ => rfl) ⟨aM_Sc, by rw [aM_ne (by decide), de 2 (by decide)]; rfl⟩
    · have r := vcnt_in (M 6) (dv M 29) 1 nm
      refine both_of (z := vcnt (M 6) (dv M 29) 1 nm) (by omega) h ?_ (b2 ?_)
      · refine xC_in rfl rfl (by simp; decide) ?_
        iterate 5 (first | refine xG_getI rfl (by exact rfl) (by exact rfl) ?_ | refine xG_getR rfl (by exact rfl) (by exact rfl) ?_ | refine xG_add rfl ?_ | refine xG_sub rfl ?_ | refine xG_mul rfl ?_ | refine xG_putI rfl (by exact rfl) (by exact rfl) ?_ | refine xG_go (fun _ => rfl) ?_)
        refine xV2 rfl (by exact rfl) (by simp) (c_votesOf isDay_today hl hdd en (by decide)) (fun r M' hq => ?_)
        obtain ⟨rfl, rfl⟩ := hq
        exact xG_ret (fun _ => rfl) ⟨rfl, rfl⟩
      · iterate 4 (first | refine xG_getI rfl (by exact rfl) (by exact rfl) ?_ | refine xG_getR rfl (by exact rfl) (by exact rfl) ?_ | refine xG_add rfl ?_ | refine xG_sub rfl ?_ | refine xG_mul rfl ?_ | refine xG_putI rfl (by exact rfl) (by exact rfl) ?_ | refine xG_go (fun _ => rfl) ?_)
        refine xV2 rfl (by exact rfl) (by simp) (m_votes hk2 dm2 en3 (by decide)) (fun r M' hq => ?_)
        obtain ⟨rfl, rfl⟩ := hq
        exact xG_ret (fun _ => rfl) ⟨aM_Sc, by rw [vcnt_cong nm hv]⟩
    · have r := vcnt_in (M 6) (dv M 29) (-1) nm
      refine both_of (z := vcnt (M 6) (dv M 29) (-1) nm) (by omega) h ?_ (b2 ?_)
      · refine xC_in rfl rfl (by simp; decide) ?_
        iterate 5 (first | refine xG_getI rfl (by exact rfl) (by exact rfl) ?_ | refine xG_getR rfl (by exact rfl) (by exact rfl) ?_ | refine xG_add rfl ?_ | refine xG_sub rfl ?_ | refine xG_mul rfl ?_ | refine xG_putI rfl (by exact rfl) (by exact rfl) ?_ | refine xG_go (fun _ => rfl) ?_)
        refine xV2 rfl (by exact rfl) (by simp) (c_votesOf isDay_today hl hdd en (by decide)) (fun r M' hq => ?_)
        obtain ⟨rfl, rfl⟩ := hq
        exact xG_ret (fun _ => rfl) ⟨rfl, rfl⟩
      · iterate 4 (first | refine xG_getI rfl (by exact rfl) (by exact rfl) ?_ | refine xG_getR rfl (by exact rfl) (by exact rfl) ?_ | refine xG_add rfl ?_ | refine xG_sub rfl ?_ | refine xG_mul rfl ?_ | refine xG_putI rfl (by exact rfl) (by exact rfl) ?_ | refine xG_go (fun _ => rfl) ?_)
        refine xV2 rfl (by exact rfl) (by simp) (m_votes hk2 dm2 en3 (by decide)) (fun r M' hq => ?_)
        obtain ⟨rfl, rfl⟩ := hq
        exact xG_ret (fun _ => rfl) ⟨aM_Sc, by rw [vcnt_cong nm hv]⟩
    · refine both_of (z := b01 (0 < marg (M 6) (dv M 29) nm)) b01_mv h ?_ (b2 ?_)
      · refine xC_in rfl rfl (by simp; decide) ?_
        iterate 4 (first | refine xG_getI rfl (by exact rfl) (by exact rfl) ?_ | refine xG_getR rfl (by exact rfl) (by exact rfl) ?_ | refine xG_add rfl ?_ | refine xG_sub rfl ?_ | refine xG_mul rfl ?_ | refine xG_putI rfl (by exact rfl) (by exact rfl) ?_ | refine xG_go (fun _ => rfl) ?_)
        refine xV1 rfl (by exact rfl) (by simp) (c_carries isDay_today hl hdd en) (fun r M' hq => ?_)
        obtain ⟨rfl, rfl⟩ := hq
        by_cases q : 0 < marg (M 6) (dv M 29) nm
        · rw [b01_t q, if_pos q]
          refine xe1 rfl ?_
          iterate 2 (first | refine xG_getI rfl (by exact rfl) (by exact rfl) ?_ | refine xG_getR rfl (by exact rfl) (by exact rfl) ?_ | refine xG_add rfl ?_ | refine xG_sub rfl ?_ | refine xG_mul rfl ?_ | refine xG_putI rfl (by exact rfl) (by exact rfl) ?_ | refine xG_go (fun _ => rfl) ?_)
          exact xG_ret (fun _ => rfl) ⟨rfl, rfl⟩
        · rw [b01_f q, if_neg q]
          refine xe0 rfl ?_
          iterate 1 (first | refine xG_getI rfl (by exact rfl) (by exact rfl) ?_ | refine xG_getR rfl (by exact rfl) (by exact rfl) ?_ | refine xG_add rfl ?_ | refine xG_sub rfl ?_ | refine xG_mul rfl ?_ | refine xG_putI rfl (by exact rfl) (by exact rfl) ?_ | refine xG_go (fun _ => rfl) ?_)
          exact xG_ret (fun _ => rfl) ⟨rfl, rfl⟩
      · iterate 3 (first | refine xG_getI rfl (by exact rfl) (by exact rfl) ?_ | refine xG_getR rfl (by exact rfl) (by exact rfl) ?_ | refine xG_add rfl ?_ | refine xG_sub rfl ?_ | refine xG_mul rfl ?_ | refine xG_putI rfl (by exact rfl) (by exact rfl) ?_ | refine xG_go (fun _ => rfl) ?_)
        refine xV1 rfl (by exact rfl) (by simp) (m_carries hk2 dm2 en3) (fun r M' hq => ?_)
        obtain ⟨rfl, rfl⟩ := hq
        rw [marg_cong nm hv]
        by_cases q : 0 < marg (M 6) (dv M 29) nm
        · rw [b01_t q]
          refine xe1 rfl ?_
          iterate 2 (first | refine xG_getI rfl (by exact rfl) (by exact rfl) ?_ | refine xG_getR rfl (by exact rfl) (by exact rfl) ?_ | refine xG_add rfl ?_ | refine xG_sub rfl ?_ | refine xG_mul rfl ?_ | refine xG_putI rfl (by exact rfl) (by exact rfl) ?_ | refine xG_go (fun _ => rfl) ?_)
          exact xG_ret (fun _ => rfl) ⟨aM_Sc, rfl⟩
        · rw [b01_f q]
          refine xe0 rfl ?_
          iterate 1 (first | refine xG_getI rfl (by exact rfl) (by exact rfl) ?_ | refine xG_getR rfl (by exact rfl) (by exact rfl) ?_ | refine xG_add rfl ?_ | refine xG_sub rfl ?_ | refine xG_mul rfl ?_ | refine xG_putI rfl (by exact rfl) (by exact rfl) ?_ | refine xG_go (fun _ => rfl) ?_)
          exact xG_ret (fun _ => rfl) ⟨aM_Sc, rfl⟩
    · refine both_of (z := n) (by omega) h ?_ (b2 ?_)
      · refine xC_in rfl rfl (by simp; decide) ?_
        iterate 5 (first | refine xG_getI rfl (by exact rfl) (by exact rfl) ?_ | refine xG_getR rfl (by exact rfl) (by exact rfl) ?_ | refine xG_add rfl ?_ | refine xG_sub rfl ?_ | refine xG_mul rfl ?_ | refine xG_putI rfl (by exact rfl) (by exact rfl) ?_ | refine xG_go (fun _ => rfl) ?_)
        exact xG_ret (fun _ => rfl) ⟨rfl, by rw [f1]⟩
      · iterate 4 (first | refine xG_getI rfl (by exact rfl) (by exact rfl) ?_ | refine xG_getR rfl (by exact rfl) (by exact rfl) ?_ | refine xG_add rfl ?_ | refine xG_sub rfl ?_ | refine xG_mul rfl ?_ | refine xG_putI rfl (by exact rfl) (by exact rfl) ?_ | refine xG_go (fun _ => rfl) ?_)
        exact xG_ret (fun _ => rfl) ⟨aM_Sc, by rw [aM_ne (by decide), f2]⟩
end YC
