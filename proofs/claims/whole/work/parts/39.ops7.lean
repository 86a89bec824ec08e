/-! THE CALLS: plays, moves -/
section YH
variable {sc : Nat × (Nat → Int)} {d c : Nat} {M : mv_M}
theorem clampM_in (x : Int) : -99 ≤ clampM x ∧ clampM x ≤ 99 := by
  unfold clampM
  split
  · omega
  · split <;> omega
theorem play_dok {nm : Nat} {tu : Int} {home : Nat → Int} {like : Nat → Nat → Int} {g : Nat → Int} {o : Nat} {t : Int} (hn : nm ≤ 6) (h : dok g) : dok (play nm tu home like g o t) := by
  obtain ⟨h0, h1, h2, h3, h4, h5, h6⟩ := h
  refine ⟨?_, ?_, ?_, fun m hm => ?_, fun m hm => ?_, fun m hm => ?_, fun m hm => ?_⟩
  · rw [play_lo (by omega)]; exact h0
  · rw [play_lo (by omega)]; exact h1
  · rw [play_lo (by omega)]; exact h2
  · rw [play_m hm]
    split
    · exact clampM_in _
    · exact h3 m hm
  · rw [play_np hn (by omega) (by omega)]; exact h4 m hm
  · rw [play_np hn (by omega) (by omega)]; exact h5 m hm
  · rw [play_w hn]
    split
    · rename_i q
      have := h6 m hm
      rw [q] at this
      split <;> omega
    · exact h6 m hm
theorem play_dR {nm : Nat} {tu st no : Int} {home home' : Nat → Int} {like like' : Nat → Nat → Int} {g h : Nat → Int} {o : Nat} {t : Int} (hn : nm ≤ 6) (htu : 1 ≤ tu ∧ tu ≤ 4) (n3 : no ≤ 3) (ho : (o : Int) < no) (eh : ∀ m, m < nm → home' m = home m) (el : ∀ m t : Nat, m < nm → (t : Int) < tu → like' m t = like m t) (r : dR st no g h) : heard tu h o t = heard tu g o t ∧ dR st no (play nm tu home like g o t) (play nm tu home' like' h o t) := by
  have ro := r.2.2.2 o ho
  have hh : heard tu h o t = heard tu g o t := by
    unfold heard
    rw [ro.2.1]
  have hi := heard_in (g := g) (o := o) (t := t) htu
  refine ⟨hh, play_dok hn r.1, play_dok hn r.2.1, fun k hk => ?_, fun q hq => ?_⟩
  · by_cases k3 : k < 3
    · rw [play_lo k3, play_lo k3]
      exact r.2.2.1 k hk
    · by_cases k9 : k < 9
      · obtain ⟨m, rfl⟩ : ∃ m, k = 3 + m := ⟨k - 3, by omega⟩
        rw [play_m (by omega), play_m (by omega), hh]
        by_cases w : m < nm
        · rw [eh m w, el m _ w (by omega), ro.1, r.2.2.1 (3 + m) hk]
        · rw [if_neg (fun z => w z.1), if_neg (fun z => w z.1)]
          exact r.2.2.1 _ hk
      · rw [play_np hn (by omega) (by omega), play_np hn (by omega) (by omega)]
        exact r.2.2.1 k hk
  · have rq := r.2.2.2 q hq
    rw [play_np hn (by omega) (by omega), play_np hn (by omega) (by omega), play_w hn, play_w hn, ro.2.1, rq.2.1]
    exact ⟨rq.1, rfl, rq.2.2⟩
theorem b_plays {o t : Int} (ho : mv_in o) (ht : mv_in t) (h : R c M) : both sc 30 n_MV_plays n_Mod_plays [mI o, mI t] M c := by
  have hl := h.1.1
  have hr := h.1.2.2.2.2.2.2
  obtain ⟨_, hk, e0, e1, e2, e3, _⟩ := h.1
  have hd := h.2.1
  have h1 := hl.2.1
  have h3 := hl.2.2.2.1
  obtain ⟨nm, n6, en, en2⟩ := R_nm h
  by_cases p : 0 ≤ o ∧ o < M 4 3
  · by_cases q : 0 ≤ t ∧ t < M 4 1
    · obtain ⟨j, rfl⟩ := Int.eq_ofNat_of_zero_le p.1
      have j3 : j < 3 := by omega
      have hi := heard_in (g := dv M 29) (o := j) (t := t) h1
      refine both_act (z := heard (M 4 1) (dv M 29) j t) (by omega) h (fun f n hf hn g1 g2 g3 => ?_)
      refine xC_in rfl rfl (by simp; decide) ?_
      iterate 3 (first | refine xG_getI rfl (by exact rfl) (by exact rfl) ?_ | refine xG_getR rfl (by exact rfl) (by exact rfl) ?_ | refine xG_add rfl ?_ | refine xG_sub rfl ?_ | refine xG_mul rfl ?_ | refine xG_putI rfl (by exact rfl) (by exact rfl) ?_ | refine xG_go (fun _ => rfl) ?_)
      refine xV2 rfl (by exact rfl) (by simp) (c_hasOrgan ho hl) (fun r M' hq => ?_)
      obtain ⟨rfl, rfl⟩ := hq
      rw [if_pos p]
      refine xe1 rfl ?_
      iterate 3 (first | refine xG_getI rfl (by exact rfl) (by exact rfl) ?_ | refine xG_getR rfl (by exact rfl) (by exact rfl) ?_ | refine xG_add rfl ?_ | refine xG_sub rfl ?_ | refine xG_mul rfl ?_ | refine xG_putI rfl (by exact rfl) (by exact rfl) ?_ | refine xG_go (fun _ => rfl) ?_)
      refine xV2 rfl (by exact rfl) (by simp) (c_hasTune ht hl) (fun r M' hq => ?_)
      obtain ⟨rfl, rfl⟩ := hq
      rw [if_pos q]
      refine xn1 rfl ?_
      iterate 4 (first | refine xG_getI rfl (by exact rfl) (by exact rfl) ?_ | refine xG_getR rfl (by exact rfl) (by exact rfl) ?_ | refine xG_add rfl ?_ | refine xG_sub rfl ?_ | refine xG_mul rfl ?_ | refine xG_putI rfl (by exact rfl) (by exact rfl) ?_ | refine xG_go (fun _ => rfl) ?_)
      refine xV2 rfl (by exact rfl) (by simp) (c_remembers hf g1 (by omega)) (fun r M1 hq => ?_)
      obtain ⟨rfl, hq⟩ := hq
      have cr1 : crem M M1 f n := crem_of g2 hq (fun a ha => rfl)
      have lo : ∀ a, a < 34 → M1 a = M a := fun a ha => hq.2.2.2 a (by omega) (by omega)
      have dd : dv M1 29 = dv M 29 := dv_same (fun a _ _ => lo a (by omega))
      iterate 4 (first | refine xG_getI rfl (by exact rfl) (by exact rfl) ?_ | refine xG_getR rfl (by exact rfl) (by exact rfl) ?_ | refine xG_add rfl ?_ | refine xG_sub rfl ?_ | refine xG_mul rfl ?_ | refine xG_putI rfl (by exact rfl) (by exact rfl) ?_ | refine xG_go (fun _ => rfl) ?_)
      refine xV3 rfl (by exact rfl) (by simp) (c_sounds isDay_today (by decide) (crem_lok cr1 hl) (by rw [dd]; exact hd.1) (nm := nm) (by rw [lo 4 (by decide), en]) j3 (by rw [lo 4 (by decide)]; exact q)) (fun r M2 hs => ?_)
      rw [lo 4 (by decide), lo 5 (by decide), dd] at hs
      obtain ⟨rfl, s1, s2⟩ := hs
      have cr : crem M M2 f n := crem_of g2 hq (fun a ha => s2 a (by omega) (by omega))
      refine xG_ret (fun _ => rfl) ⟨rfl, cr, ?_⟩
      have hk2 := crem_mok hf cr hk
      have hi2 : ∀ a, 143 ≤ a → M2 a = M a := fun a ha => crem_hi hf cr ha
      refine xC_in rfl rfl (by simp; decide) ?_
      iterate 2 (first | refine xG_getI rfl (by exact rfl) (by exact rfl) ?_ | refine xG_getR rfl (by exact rfl) (by exact rfl) ?_ | refine xG_add rfl ?_ | refine xG_sub rfl ?_ | refine xG_mul rfl ?_ | refine xG_putI rfl (by exact rfl) (by exact rfl) ?_ | refine xG_go (fun _ => rfl) ?_)
      refine xV2 rfl (by exact rfl) (by simp) (m_isOrgan ho hk2) (fun r M' hq => ?_)
      obtain ⟨rfl, rfl⟩ := hq
      rw [b01_t (by rw [hi2 143 (by decide)]; omega)]
      refine xe1 rfl ?_
      iterate 2 (first | refine xG_getI rfl (by exact rfl) (by exact rfl) ?_ | refine xG_getR rfl (by exact rfl) (by exact rfl) ?_ | refine xG_add rfl ?_ | refine xG_sub rfl ?_ | refine xG_mul rfl ?_ | refine xG_putI rfl (by exact rfl) (by exact rfl) ?_ | refine xG_go (fun _ => rfl) ?_)
      refine xV2 rfl (by exact rfl) (by simp) (m_isTune ht hk2) (fun r M' hq => ?_)
      obtain ⟨rfl, rfl⟩ := hq
      rw [b01_t (by rw [hi2 143 (by decide)]; omega)]
      refine xn1 rfl ?_
      iterate 1 (first | refine xG_getI rfl (by exact rfl) (by exact rfl) ?_ | refine xG_getR rfl (by exact rfl) (by exact rfl) ?_ | refine xG_add rfl ?_ | refine xG_sub rfl ?_ | refine xG_mul rfl ?_ | refine xG_putI rfl (by exact rfl) (by exact rfl) ?_ | refine xG_go (fun _ => rfl) ?_)
      refine xV1 rfl (by exact rfl) (by simp) (m_remembers hn (by rw [hi2 143 (by decide), g3])) (fun r M3 hq => ?_)
      obtain ⟨rfl, rm⟩ := hq
      have f3 : ∀ a, a ≠ 143 → a ≠ 148 → 143 ≤ a → M3 a = M a := fun a h1 h2 h3 => by rw [rm.1 a h1 h2, hi2 a h3]
      have f3j : ∀ i, i ≠ 9 → M3 143 i = M 143 i := fun i hi => by rw [rm.2.1 i hi, hi2 143 (by decide)]
      have hk3 : mok M3 := by
        unfold mok
        rw [f3 144 (by decide) (by decide) (by decide), f3 145 (by decide) (by decide) (by decide), f3 146 (by decide) (by decide) (by decide), f3j 0 (by decide), f3j 1 (by decide), f3j 2 (by decide), f3j 6 (by decide)]
        exact hk
      iterate 1 (first | refine xG_getI rfl (by exact rfl) (by exact rfl) ?_ | refine xG_getR rfl (by exact rfl) (by exact rfl) ?_ | refine xG_add rfl ?_ | refine xG_sub rfl ?_ | refine xG_mul rfl ?_ | refine xG_putI rfl (by exact rfl) (by exact rfl) ?_ | refine xG_go (fun _ => rfl) ?_)
      refine xV1 rfl (by exact rfl) (by simp) m_asItIs (fun r M' hq => ?_)
      obtain ⟨rfl, rfl⟩ := hq
      change xG sc 29 y_Mod_plays _ _ _ (aM M3) _
      have a147 : aM M3 147 = M 147 := by rw [aM_ne (by decide), f3 147 (by decide) (by decide) (by decide)]
      have m147 : M3 147 = M 147 := f3 147 (by decide) (by decide) (by decide)
      have ag : ∀ k, k < 21 → aM M3 158 k = M 147 k := fun k hk => by rw [aM_at hk, m147]
      iterate 3 (first | refine xG_getI rfl (by exact rfl) (by exact rfl) ?_ | refine xG_getR rfl (by exact rfl) (by exact rfl) ?_ | refine xG_add rfl ?_ | refine xG_sub rfl ?_ | refine xG_mul rfl ?_ | refine xG_putI rfl (by exact rfl) (by exact rfl) ?_ | refine xG_go (fun _ => rfl) ?_)
      refine xV3 rfl (by exact rfl) (by simp) (m_played (Sl_mok (Sc_Sl aM_Sc) hk3) (dok_cong ag hd.2.1) (nm := nm) (by rw [aM_ne (by decide), f3j 2 (by decide), en2]) j3 (by rw [aM_ne (by decide), f3j 1 (by decide), e1]; exact q)) (fun r M' hs => ?_)
      obtain ⟨rfl, rfl⟩ := hs
      iterate 7 (first | refine xG_getI rfl (by exact rfl) (by exact rfl) ?_ | refine xG_getR rfl (by exact rfl) (by exact rfl) ?_ | refine xG_add rfl ?_ | refine xG_sub rfl ?_ | refine xG_mul rfl ?_ | refine xG_putI rfl (by exact rfl) (by exact rfl) ?_ | refine xG_go (fun _ => rfl) ?_)
      refine xS4 rfl (by decide) (by simp) (m_copy (a := 0) (f := 0) (n1 := 21) (n2 := 21) rfl rfl (by decide) (by decide) (by decide) (by decide) (by decide)) (fun r M' hq => ?_)
      obtain ⟨rfl, rfl⟩ := hq
      iterate 1 (first | refine xG_getI rfl (by exact rfl) (by exact rfl) ?_ | refine xG_getR rfl (by exact rfl) (by exact rfl) ?_ | refine xG_add rfl ?_ | refine xG_sub rfl ?_ | refine xG_mul rfl ?_ | refine xG_putI rfl (by exact rfl) (by exact rfl) ?_ | refine xG_go (fun _ => rfl) ?_)
      have pr : dR (M 4 0) (M 4 3) (dv M 29) (aM M3 158) := dR_cong h3.2 (fun _ _ => rfl) ag hd
      have hp2 := play_dR (nm := nm) (tu := M 4 1) (home := M 5) (home' := M 144) (like := lk M1) (like' := mlk M) (t := t) n6 h1 h3.2 p.2 (fun m hm => (hr m (by omega)).1) (fun m t hm ht => by show M 146 (4 * m + t) = M1 (8 + m) t; rw [lo _ (by omega)]; exact (hr m (by omega)).2.2 t ht) pr
      have t1 : aM M3 143 1 = M 4 1 := by rw [aM_ne (by decide), f3j 1 (by decide), e1]
      have t2 : aM M3 144 = M 144 := by rw [aM_ne (by decide), f3 144 (by decide) (by decide) (by decide)]
      have t3 : mlk (aM M3) = mlk M := by
        unfold mlk
        rw [aM_ne (by decide), f3 146 (by decide) (by decide) (by decide)]
      refine xG_ret (fun _ => rfl) ⟨by rw [t1, hp2.1], M3, rm, fun a h1 h2 => ?_, ?_⟩
      · rw [mv_row_ne h1, mv_row_ne h2, aM_ne h2]
      · rw [s1, mv_row_at]
        refine dR_cong h3.2 (fun _ _ => rfl) (fun k hk => ?_) hp2.2
        unfold crow
        rw [if_pos (by omega), mv_row_at, t1, t2, t3, show 0 + (k - 0) = k by omega]
    · refine both_of (z := -1) (by decide) h ?_ ?_
      · refine xC_in rfl rfl (by simp; decide) ?_
        iterate 3 (first | refine xG_getI rfl (by exact rfl) (by exact rfl) ?_ | refine xG_getR rfl (by exact rfl) (by exact rfl) ?_ | refine xG_add rfl ?_ | refine xG_sub rfl ?_ | refine xG_mul rfl ?_ | refine xG_putI rfl (by exact rfl) (by exact rfl) ?_ | refine xG_go (fun _ => rfl) ?_)
        refine xV2 rfl (by exact rfl) (by simp) (c_hasOrgan ho hl) (fun r M' hq => ?_)
        obtain ⟨rfl, rfl⟩ := hq
        rw [if_pos p]
        refine xe1 rfl ?_
        iterate 3 (first | refine xG_getI rfl (by exact rfl) (by exact rfl) ?_ | refine xG_getR rfl (by exact rfl) (by exact rfl) ?_ | refine xG_add rfl ?_ | refine xG_sub rfl ?_ | refine xG_mul rfl ?_ | refine xG_putI rfl (by exact rfl) (by exact rfl) ?_ | refine xG_go (fun _ => rfl) ?_)
        refine xV2 rfl (by exact rfl) (by simp) (c_hasTune ht hl) (fun r M' hq => ?_)
        obtain ⟨rfl, rfl⟩ := hq
        rw [if_neg q]
        refine xn0 rfl ?_
        iterate 1 (first | refine xG_getI rfl (by exact rfl) (by exact rfl) ?_ | refine xG_getR rfl (by exact rfl) (by exact rfl) ?_ | refine xG_add rfl ?_ | refine xG_sub rfl ?_ | refine xG_mul rfl ?_ | refine xG_putI rfl (by exact rfl) (by exact rfl) ?_ | refine xG_go (fun _ => rfl) ?_)
        exact xG_ret (fun _ => rfl) ⟨rfl, rfl⟩
      · refine xC_in rfl rfl (by simp; decide) ?_
        iterate 2 (first | refine xG_getI rfl (by exact rfl) (by exact rfl) ?_ | refine xG_getR rfl (by exact rfl) (by exact rfl) ?_ | refine xG_add rfl ?_ | refine xG_sub rfl ?_ | refine xG_mul rfl ?_ | refine xG_putI rfl (by exact rfl) (by exact rfl) ?_ | refine xG_go (fun _ => rfl) ?_)
        refine xV2 rfl (by exact rfl) (by simp) (m_isOrgan ho hk) (fun r M' hq => ?_)
        obtain ⟨rfl, rfl⟩ := hq
        rw [b01_t (by omega)]
        refine xe1 rfl ?_
        iterate 2 (first | refine xG_getI rfl (by exact rfl) (by exact rfl) ?_ | refine xG_getR rfl (by exact rfl) (by exact rfl) ?_ | refine xG_add rfl ?_ | refine xG_sub rfl ?_ | refine xG_mul rfl ?_ | refine xG_putI rfl (by exact rfl) (by exact rfl) ?_ | refine xG_go (fun _ => rfl) ?_)
        refine xV2 rfl (by exact rfl) (by simp) (m_isTune ht hk) (fun r M' hq => ?_)
        obtain ⟨rfl, rfl⟩ := hq
        rw [b01_f (by omega)]
        refine xn0 rfl ?_
        iterate 1 (first | refine xG_getI rfl (by exact rfl) (by exact rfl) ?_ | refine xG_getR rfl (by exact rfl) (by exact rfl) ?_ | refine xG_add rfl ?_ | refine xG_sub rfl ?_ | refine xG_mul rfl ?_ | refine xG_putI rfl (by exact rfl) (by exact rfl) ?_ | refine xG_go (fun _ => rfl) ?_)
        exact xG_ret (fun _ => rfl) ⟨Sc_refl, rfl⟩
  · refine both_of (z := -1) (by decide) h ?_ ?_
    · refine xC_in rfl rfl (by simp; decide) ?_
      iterate 3 (first | refine xG_getI rfl (by exact rfl) (by exact rfl) ?_ | refine xG_getR rfl (by exact rfl) (by exact rfl) ?_ | refine xG_add rfl ?_ | refine xG_sub rfl ?_ | refine xG_mul rfl ?_ | refine xG_putI rfl (by exact rfl) (by exact rfl) ?_ | refine xG_go (fun _ => rfl) ?_)
      refine xV2 rfl (by exact rfl) (by simp) (c_hasOrgan ho hl) (fun r M' hq => ?_)
      obtain ⟨rfl, rfl⟩ := hq
      rw [if_neg p]
      refine xe0 rfl ?_
      iterate 1 (first | refine xG_getI rfl (by exact rfl) (by exact rfl) ?_ | refine xG_getR rfl (by exact rfl) (by exact rfl) ?_ | refine xG_add rfl ?_ | refine xG_sub rfl ?_ | refine xG_mul rfl ?_ | refine xG_putI rfl (by exact rfl) (by exact rfl) ?_ | refine xG_go (fun _ => rfl) ?_)
      exact xG_ret (fun _ => rfl) ⟨rfl, rfl⟩
    · refine xC_in rfl rfl (by simp; decide) ?_
      iterate 2 (first | refine xG_getI rfl (by exact rfl) (by exact rfl) ?_ | refine xG_getR rfl (by exact rfl) (by exact rfl) ?_ | refine xG_add rfl ?_ | refine xG_sub rfl ?_ | refine xG_mul rfl ?_ | refine xG_putI rfl (by exact rfl) (by exact rfl) ?_ | refine xG_go (fun _ => rfl) ?_)
      refine xV2 rfl (by exact rfl) (by simp) (m_isOrgan ho hk) (fun r M' hq => ?_)
      obtain ⟨rfl, rfl⟩ := hq
      rw [b01_f (by omega)]
      refine xe0 rfl ?_
      iterate 1 (first | refine xG_getI rfl (by exact rfl) (by exact rfl) ?_ | refine xG_getR rfl (by exact rfl) (by exact rfl) ?_ | refine xG_add rfl ?_ | refine xG_sub rfl ?_ | refine xG_mul rfl ?_ | refine xG_putI rfl (by exact rfl) (by exact rfl) ?_ | refine xG_go (fun _ => rfl) ?_)
      exact xG_ret (fun _ => rfl) ⟨Sc_refl, rfl⟩
theorem b_moves {o x : Int} (ho : mv_in o) (hx : mv_in x) (h : R c M) : both sc 30 n_MV_moves n_Mod_moves [mI o, mI x] M c := by
  have hl := h.1.1
  obtain ⟨_, hk, e0, e1, e2, e3, _⟩ := h.1
  have hd := h.2.1
  have h0 := hl.1
  have h3 := hl.2.2.2.1
  by_cases p : (0 ≤ o ∧ o < M 4 3) ∧ 0 ≤ x ∧ x ≤ 1
  · obtain ⟨p, q⟩ := p
    obtain ⟨j, rfl⟩ := Int.eq_ofNat_of_zero_le p.1
    have j3 : j < 3 := by omega
    have hj := hd.2.2.2 j p.2
    rw [dv_p j3] at hj
    have d2 := hd.2.1.2.2.2.2.2.1 j j3
    have hj1 : M 32 j = M 147 (15 + j) := hj.1
    have hj2 : M 32 j < M 4 0 := hj.2.2
    have b1 : ∀ {Q : Option mv_V → mv_M → Prop}, xG sc 29 y_MV_moves 22 [some (mR 0), some (mI (j : Int)), some (mI x)] [] M Q → xC sc 30 n_MV_moves [mR 0, mI (j : Int), mI x] M Q := by
      intro Q kk
      refine xC_in rfl rfl (by simp; decide) ?_
      iterate 3 (first | refine xG_getI rfl (by exact rfl) (by exact rfl) ?_ | refine xG_getR rfl (by exact rfl) (by exact rfl) ?_ | refine xG_add rfl ?_ | refine xG_sub rfl ?_ | refine xG_mul rfl ?_ | refine xG_putI rfl (by exact rfl) (by exact rfl) ?_ | refine xG_go (fun _ => rfl) ?_)
      refine xV2 rfl (by exact rfl) (by simp) (c_hasOrgan ho hl) (fun r M' hq => ?_)
      obtain ⟨rfl, rfl⟩ := hq
      rw [if_pos p]
      refine xe1 rfl ?_
      iterate 1 (first | refine xG_getI rfl (by exact rfl) (by exact rfl) ?_ | refine xG_getR rfl (by exact rfl) (by exact rfl) ?_ | refine xG_add rfl ?_ | refine xG_sub rfl ?_ | refine xG_mul rfl ?_ | refine xG_putI rfl (by exact rfl) (by exact rfl) ?_ | refine xG_go (fun _ => rfl) ?_)
      refine xi_lt rfl hx (fun c1 => absurd c1 (by omega)) (fun _ => ?_)
      iterate 2 (first | refine xG_getI rfl (by exact rfl) (by exact rfl) ?_ | refine xG_getR rfl (by exact rfl) (by exact rfl) ?_ | refine xG_add rfl ?_ | refine xG_sub rfl ?_ | refine xG_mul rfl ?_ | refine xG_putI rfl (by exact rfl) (by exact rfl) ?_ | refine xG_go (fun _ => rfl) ?_)
      refine xb_le rfl hx (by decide) (fun _ => ?_) (fun c1 => absurd q.2 c1)
      exact kk
    have b2 : ∀ {N : mv_M} {Q : Option mv_V → mv_M → Prop}, mok N → N 143 6 = M 143 6 → xG sc 29 y_Mod_moves 19 [some (mR 143), some (mI (j : Int)), some (mI x)] [] N Q → xC sc 30 n_Mod_moves [mR 143, mI (j : Int), mI x] N Q := by
      intro N Q hN e6 kk
      refine xC_in rfl rfl (by simp; decide) ?_
      iterate 2 (first | refine xG_getI rfl (by exact rfl) (by exact rfl) ?_ | refine xG_getR rfl (by exact rfl) (by exact rfl) ?_ | refine xG_add rfl ?_ | refine xG_sub rfl ?_ | refine xG_mul rfl ?_ | refine xG_putI rfl (by exact rfl) (by exact rfl) ?_ | refine xG_go (fun _ => rfl) ?_)
      refine xV2 rfl (by exact rfl) (by simp) (m_isOrgan ho hN) (fun r M' hq => ?_)
      obtain ⟨rfl, rfl⟩ := hq
      rw [b01_t (by omega)]
      refine xe1 rfl ?_
      iterate 3 (first | refine xG_getI rfl (by exact rfl) (by exact rfl) ?_ | refine xG_getR rfl (by exact rfl) (by exact rfl) ?_ | refine xG_add rfl ?_ | refine xG_sub rfl ?_ | refine xG_mul rfl ?_ | refine xG_putI rfl (by exact rfl) (by exact rfl) ?_ | refine xG_go (fun _ => rfl) ?_)
      refine xS3 rfl (by decide) (by simp) (m_in hx (by decide) (by decide)) (fun r M' hq => ?_)
      obtain ⟨rfl, rfl⟩ := hq
      rw [b01_t q]
      refine xn1 rfl ?_
      exact kk
    by_cases w : M 4 0 ≤ 1
    · refine both_of (z := -2) (by decide) h (b1 ?_) (b2 hk rfl ?_)
      · iterate 4 (first | refine xG_getI rfl (by exact rfl) (by exact rfl) ?_ | refine xG_getR rfl (by exact rfl) (by exact rfl) ?_ | refine xG_add rfl ?_ | refine xG_sub rfl ?_ | refine xG_mul rfl ?_ | refine xG_putI rfl (by exact rfl) (by exact rfl) ?_ | refine xG_go (fun _ => rfl) ?_)
        refine xb_gt rfl (by omega) (by decide) (fun c1 => absurd c1 (by omega)) (fun _ => ?_)
        iterate 1 (first | refine xG_getI rfl (by exact rfl) (by exact rfl) ?_ | refine xG_getR rfl (by exact rfl) (by exact rfl) ?_ | refine xG_add rfl ?_ | refine xG_sub rfl ?_ | refine xG_mul rfl ?_ | refine xG_putI rfl (by exact rfl) (by exact rfl) ?_ | refine xG_go (fun _ => rfl) ?_)
        exact xG_ret (fun _ => rfl) ⟨rfl, rfl⟩
      · iterate 3 (first | refine xG_getI rfl (by exact rfl) (by exact rfl) ?_ | refine xG_getR rfl (by exact rfl) (by exact rfl) ?_ | refine xG_add rfl ?_ | refine xG_sub rfl ?_ | refine xG_mul rfl ?_ | refine xG_putI rfl (by exact rfl) (by exact rfl) ?_ | refine xG_go (fun _ => rfl) ?_)
        refine xb_ne rfl (by omega) (by decide) (fun c1 => absurd c1 (by omega)) (fun _ => ?_)
        iterate 1 (first | refine xG_getI rfl (by exact rfl) (by exact rfl) ?_ | refine xG_getR rfl (by exact rfl) (by exact rfl) ?_ | refine xG_add rfl ?_ | refine xG_sub rfl ?_ | refine xG_mul rfl ?_ | refine xG_putI rfl (by exact rfl) (by exact rfl) ?_ | refine xG_go (fun _ => rfl) ?_)
        exact xG_ret (fun _ => rfl) ⟨Sc_refl, rfl⟩
    · have fin : ∀ (s : Int), (0 ≤ s ∧ s ≤ 5) → (∀ (f n : Nat) (M1 : mv_M), lok M1 → dok (dv M1 29) → M1 32 = M 32 → M1 4 = M 4 → ∀ {Q : Option mv_V → mv_M → Prop}, Q (some (mI ((M 32 j + s) % M 4 0))) (mv_up M1 32 j ((M 32 j + s) % M 4 0)) → xG sc 29 y_MV_moves 47 [some (mR 0), some (mI (j : Int)), some (mI x)] [] M1 Q) → (∀ (M3 : mv_M), M3 143 0 = M 4 0 → M3 147 = M 147 → ∀ {Q : Option mv_V → mv_M → Prop}, xG sc 29 y_Mod_moves 66 [some (mR 143), some (mI (j : Int)), some (mI x)] [mI s, mI (M 32 j), mI (15 + (j : Int)), mR 147] M3 Q → xG sc 29 y_Mod_moves 34 [some (mR 143), some (mI (j : Int)), some (mI x)] [] M3 Q) → both sc 30 n_MV_moves n_Mod_moves [mI (j : Int), mI x] M c := by
        intro s hs kc km
        have y1 := Int.emod_nonneg (M 32 j + s) (show M 4 0 ≠ 0 by omega)
        have y2 := Int.emod_lt_of_pos (M 32 j + s) (show 0 < M 4 0 by omega)
        refine both_act (z := (M 32 j + s) % M 4 0) (by omega) h (fun f n hf hn g1 g2 g3 => b1 ?_)
        iterate 4 (first | refine xG_getI rfl (by exact rfl) (by exact rfl) ?_ | refine xG_getR rfl (by exact rfl) (by exact rfl) ?_ | refine xG_add rfl ?_ | refine xG_sub rfl ?_ | refine xG_mul rfl ?_ | refine xG_putI rfl (by exact rfl) (by exact rfl) ?_ | refine xG_go (fun _ => rfl) ?_)
        refine xb_gt rfl (by omega) (by decide) (fun _ => ?_) (fun c1 => absurd c1 (by omega))
        iterate 4 (first | refine xG_getI rfl (by exact rfl) (by exact rfl) ?_ | refine xG_getR rfl (by exact rfl) (by exact rfl) ?_ | refine xG_add rfl ?_ | refine xG_sub rfl ?_ | refine xG_mul rfl ?_ | refine xG_putI rfl (by exact rfl) (by exact rfl) ?_ | refine xG_go (fun _ => rfl) ?_)
        refine xV2 rfl (by exact rfl) (by simp) (c_remembers hf g1 (by omega)) (fun r M1 hq => ?_)
        obtain ⟨rfl, hq⟩ := hq
        have cr1 : crem M M1 f n := crem_of g2 hq (fun a ha => rfl)
        have lo : ∀ a, a < 34 → M1 a = M a := fun a ha => hq.2.2.2 a (by omega) (by omega)
        have dd : dv M1 29 = dv M 29 := dv_same (fun a _ _ => lo a (by omega))
        refine kc f n M1 (crem_lok cr1 hl) (by rw [dd]; exact hd.1) (lo 32 (by decide)) (lo 4 (by decide)) ?_
        have cr : crem M (mv_up M1 32 j ((M 32 j + s) % M 4 0)) f n := crem_of g2 hq (fun a ha => mv_upne (by omega))
        have d3 : dv (mv_up M1 32 j ((M 32 j + s) % M 4 0)) 29 = setp (dv M 29) (15 + j) ((M 32 j + s) % M 4 0) := by
          rw [← dd]
          exact dv_upp (D := 29) j3
        refine ⟨rfl, cr, b2 (crem_mok hf cr hk) (by rw [crem_hi hf cr (by decide)]) ?_⟩
        iterate 3 (first | refine xG_getI rfl (by exact rfl) (by exact rfl) ?_ | refine xG_getR rfl (by exact rfl) (by exact rfl) ?_ | refine xG_add rfl ?_ | refine xG_sub rfl ?_ | refine xG_mul rfl ?_ | refine xG_putI rfl (by exact rfl) (by exact rfl) ?_ | refine xG_go (fun _ => rfl) ?_)
        rw [crem_hi hf cr (show 143 ≤ 143 by decide)]
        refine xb_ne rfl (by omega) (by decide) (fun _ => ?_) (fun c1 => absurd c1 (by omega))
        iterate 1 (first | refine xG_getI rfl (by exact rfl) (by exact rfl) ?_ | refine xG_getR rfl (by exact rfl) (by exact rfl) ?_ | refine xG_add rfl ?_ | refine xG_sub rfl ?_ | refine xG_mul rfl ?_ | refine xG_putI rfl (by exact rfl) (by exact rfl) ?_ | refine xG_go (fun _ => rfl) ?_)
        refine xV1 rfl (by exact rfl) (by simp) (m_remembers hn (by rw [crem_hi hf cr (by decide), g3])) (fun r M3 hq => ?_)
        obtain ⟨rfl, rm⟩ := hq
        have z0 : M3 143 0 = M 4 0 := by rw [rm.2.1 0 (by decide), crem_hi hf cr (by decide), e0]
        have z7 : M3 147 = M 147 := by rw [rm.1 147 (by decide) (by decide), crem_hi hf cr (by decide)]
        refine km M3 z0 z7 ?_
        iterate 3 (first | refine xG_getI rfl (by exact rfl) (by exact rfl) ?_ | refine xG_getR rfl (by exact rfl) (by exact rfl) ?_ | refine xG_add rfl ?_ | refine xG_sub rfl ?_ | refine xG_mul rfl ?_ | refine xG_putI rfl (by exact rfl) (by exact rfl) ?_ | refine xG_go (fun _ => rfl) ?_)
        rw [z0]
        refine xG_rem rfl (by omega) ?_
        refine xG_ast rfl (by exact rfl) (by omega) ?_
        rw [show ((15 : Int) + (j : Int)).toNat = 15 + j by omega]
        iterate 5 (first | refine xG_getI rfl (by exact rfl) (by exact rfl) ?_ | refine xG_getR rfl (by exact rfl) (by exact rfl) ?_ | refine xG_add rfl ?_ | refine xG_sub rfl ?_ | refine xG_mul rfl ?_ | refine xG_putI rfl (by exact rfl) (by exact rfl) ?_ | refine xG_go (fun _ => rfl) ?_)
        refine xG_ald rfl (by exact rfl) (by omega) ?_
        rw [show ((15 : Int) + (j : Int)).toNat = 15 + j by omega, mv_up_at]
        refine xG_ret (fun _ => rfl) ⟨rfl, M3, rm, fun a h1 _ => mv_upne h1, ?_⟩
        rw [d3, mv_up_setp, z7]
        exact dR_setp hd (by omega) h3.2
      have km0 : ∀ (s : Int) (M3 : mv_M), M3 147 = M 147 → ∀ {Q : Option mv_V → mv_M → Prop}, xG sc 29 y_Mod_moves 51 [some (mR 143), some (mI (j : Int)), some (mI x)] [mI (M 32 j), mI (15 + (j : Int)), mR 147] M3 Q → xG sc 29 y_Mod_moves 34 [some (mR 143), some (mI (j : Int)), some (mI x)] [] M3 Q := by
        intro s M3 z7 Q kk
        iterate 10 (first | refine xG_getI rfl (by exact rfl) (by exact rfl) ?_ | refine xG_getR rfl (by exact rfl) (by exact rfl) ?_ | refine xG_add rfl ?_ | refine xG_sub rfl ?_ | refine xG_mul rfl ?_ | refine xG_putI rfl (by exact rfl) (by exact rfl) ?_ | refine xG_go (fun _ => rfl) ?_)
        refine xG_ald rfl (by exact rfl) (by omega) ?_
        rw [show ((15 : Int) + (j : Int)).toNat = 15 + j by omega, z7, ← hj1]
        exact kk
      rcases (show x = 1 ∨ x = 0 by omega) with rfl | rfl
      · refine fin 1 (by decide) (fun f n M1 l1 k1 m32 m4 Q hQ => ?_) (fun M3 z0 z7 Q kk => km0 1 M3 z7 ?_)
        · iterate 2 (first | refine xG_getI rfl (by exact rfl) (by exact rfl) ?_ | refine xG_getR rfl (by exact rfl) (by exact rfl) ?_ | refine xG_add rfl ?_ | refine xG_sub rfl ?_ | refine xG_mul rfl ?_ | refine xG_putI rfl (by exact rfl) (by exact rfl) ?_ | refine xG_go (fun _ => rfl) ?_)
          refine xb_ne rfl (by decide) (by decide) (fun c1 => absurd rfl c1) (fun _ => ?_)
          iterate 3 (first | refine xG_getI rfl (by exact rfl) (by exact rfl) ?_ | refine xG_getR rfl (by exact rfl) (by exact rfl) ?_ | refine xG_add rfl ?_ | refine xG_sub rfl ?_ | refine xG_mul rfl ?_ | refine xG_putI rfl (by exact rfl) (by exact rfl) ?_ | refine xG_go (fun _ => rfl) ?_)
          refine xV2 rfl (by exact rfl) (by simp) (c_goesOn isDay_today l1 k1 j3 (by rw [m4]; show M1 32 j < _; rw [m32]; exact hj2)) (fun r M2 hq => ?_)
          rw [show M1 (29 + 3) = M 32 from m32, m4] at hq
          obtain ⟨rfl, rfl⟩ := hq
          iterate 1 (first | refine xG_getI rfl (by exact rfl) (by exact rfl) ?_ | refine xG_getR rfl (by exact rfl) (by exact rfl) ?_ | refine xG_add rfl ?_ | refine xG_sub rfl ?_ | refine xG_mul rfl ?_ | refine xG_putI rfl (by exact rfl) (by exact rfl) ?_ | refine xG_go (fun _ => rfl) ?_)
          exact xG_ret (fun _ => rfl) hQ
        · iterate 2 (first | refine xG_getI rfl (by exact rfl) (by exact rfl) ?_ | refine xG_getR rfl (by exact rfl) (by exact rfl) ?_ | refine xG_add rfl ?_ | refine xG_sub rfl ?_ | refine xG_mul rfl ?_ | refine xG_putI rfl (by exact rfl) (by exact rfl) ?_ | refine xG_go (fun _ => rfl) ?_)
          refine xb_ne rfl (by decide) (by decide) (fun c1 => absurd rfl c1) (fun _ => ?_)
          iterate 2 (first | refine xG_getI rfl (by exact rfl) (by exact rfl) ?_ | refine xG_getR rfl (by exact rfl) (by exact rfl) ?_ | refine xG_add rfl ?_ | refine xG_sub rfl ?_ | refine xG_mul rfl ?_ | refine xG_putI rfl (by exact rfl) (by exact rfl) ?_ | refine xG_go (fun _ => rfl) ?_)
          exact kk
      · refine fin (M 4 0 - 1) (by omega) (fun f n M1 l1 k1 m32 m4 Q hQ => ?_) (fun M3 z0 z7 Q kk => km0 1 M3 z7 ?_)
        · iterate 2 (first | refine xG_getI rfl (by exact rfl) (by exact rfl) ?_ | refine xG_getR rfl (by exact rfl) (by exact rfl) ?_ | refine xG_add rfl ?_ | refine xG_sub rfl ?_ | refine xG_mul rfl ?_ | refine xG_putI rfl (by exact rfl) (by exact rfl) ?_ | refine xG_go (fun _ => rfl) ?_)
          refine xb_ne rfl (by decide) (by decide) (fun _ => ?_) (fun c1 => absurd c1 (by decide))
          iterate 3 (first | refine xG_getI rfl (by exact rfl) (by exact rfl) ?_ | refine xG_getR rfl (by exact rfl) (by exact rfl) ?_ | refine xG_add rfl ?_ | refine xG_sub rfl ?_ | refine xG_mul rfl ?_ | refine xG_putI rfl (by exact rfl) (by exact rfl) ?_ | refine xG_go (fun _ => rfl) ?_)
          refine xV2 rfl (by exact rfl) (by simp) (c_goesAhead isDay_today l1 k1 j3 (by rw [m4]; show M1 32 j < _; rw [m32]; exact hj2)) (fun r M2 hq => ?_)
          rw [show M1 (29 + 3) = M 32 from m32, m4] at hq
          obtain ⟨rfl, rfl⟩ := hq
          exact xG_ret (fun _ => rfl) hQ
        · iterate 2 (first | refine xG_getI rfl (by exact rfl) (by exact rfl) ?_ | refine xG_getR rfl (by exact rfl) (by exact rfl) ?_ | refine xG_add rfl ?_ | refine xG_sub rfl ?_ | refine xG_mul rfl ?_ | refine xG_putI rfl (by exact rfl) (by exact rfl) ?_ | refine xG_go (fun _ => rfl) ?_)
          refine xb_ne rfl (by decide) (by decide) (fun _ => ?_) (fun c1 => absurd c1 (by decide))
          iterate 4 (first | refine xG_getI rfl (by exact rfl) (by exact rfl) ?_ | refine xG_getR rfl (by exact rfl) (by exact rfl) ?_ | refine xG_add rfl ?_ | refine xG_sub rfl ?_ | refine xG_mul rfl ?_ | refine xG_putI rfl (by exact rfl) (by exact rfl) ?_ | refine xG_go (fun _ => rfl) ?_)
          rw [z0]
          exact kk
  · refine both_of (z := -1) (by decide) h ?_ ?_
    · refine xC_in rfl rfl (by simp; decide) ?_
      iterate 3 (first | refine xG_getI rfl (by exact rfl) (by exact rfl) ?_ | refine xG_getR rfl (by exact rfl) (by exact rfl) ?_ | refine xG_add rfl ?_ | refine xG_sub rfl ?_ | refine xG_mul rfl ?_ | refine xG_putI rfl (by exact rfl) (by exact rfl) ?_ | refine xG_go (fun _ => rfl) ?_)
      refine xV2 rfl (by exact rfl) (by simp) (c_hasOrgan ho hl) (fun r M' hq => ?_)
      obtain ⟨rfl, rfl⟩ := hq
      by_cases q : 0 ≤ o ∧ o < M 4 3
      · rw [if_pos q]
        refine xe1 rfl ?_
        iterate 1 (first | refine xG_getI rfl (by exact rfl) (by exact rfl) ?_ | refine xG_getR rfl (by exact rfl) (by exact rfl) ?_ | refine xG_add rfl ?_ | refine xG_sub rfl ?_ | refine xG_mul rfl ?_ | refine xG_putI rfl (by exact rfl) (by exact rfl) ?_ | refine xG_go (fun _ => rfl) ?_)
        refine xi_lt rfl hx (fun c1 => ?_) (fun _ => ?_)
        · iterate 1 (first | refine xG_getI rfl (by exact rfl) (by exact rfl) ?_ | refine xG_getR rfl (by exact rfl) (by exact rfl) ?_ | refine xG_add rfl ?_ | refine xG_sub rfl ?_ | refine xG_mul rfl ?_ | refine xG_putI rfl (by exact rfl) (by exact rfl) ?_ | refine xG_go (fun _ => rfl) ?_)
          exact xG_ret (fun _ => rfl) ⟨rfl, rfl⟩
        · iterate 2 (first | refine xG_getI rfl (by exact rfl) (by exact rfl) ?_ | refine xG_getR rfl (by exact rfl) (by exact rfl) ?_ | refine xG_add rfl ?_ | refine xG_sub rfl ?_ | refine xG_mul rfl ?_ | refine xG_putI rfl (by exact rfl) (by exact rfl) ?_ | refine xG_go (fun _ => rfl) ?_)
          refine xb_le rfl hx (by decide) (fun c1 => absurd c1 (by omega)) (fun c1 => ?_)
          iterate 1 (first | refine xG_getI rfl (by exact rfl) (by exact rfl) ?_ | refine xG_getR rfl (by exact rfl) (by exact rfl) ?_ | refine xG_add rfl ?_ | refine xG_sub rfl ?_ | refine xG_mul rfl ?_ | refine xG_putI rfl (by exact rfl) (by exact rfl) ?_ | refine xG_go (fun _ => rfl) ?_)
          exact xG_ret (fun _ => rfl) ⟨rfl, rfl⟩
      · rw [if_neg q]
        refine xe0 rfl ?_
        iterate 1 (first | refine xG_getI rfl (by exact rfl) (by exact rfl) ?_ | refine xG_getR rfl (by exact rfl) (by exact rfl) ?_ | refine xG_add rfl ?_ | refine xG_sub rfl ?_ | refine xG_mul rfl ?_ | refine xG_putI rfl (by exact rfl) (by exact rfl) ?_ | refine xG_go (fun _ => rfl) ?_)
        exact xG_ret (fun _ => rfl) ⟨rfl, rfl⟩
    · refine xC_in rfl rfl (by simp; decide) ?_
      iterate 2 (first | refine xG_getI rfl (by exact rfl) (by exact rfl) ?_ | refine xG_getR rfl (by exact rfl) (by exact rfl) ?_ | refine xG_add rfl ?_ | refine xG_sub rfl ?_ | refine xG_mul rfl ?_ | refine xG_putI rfl (by exact rfl) (by exact rfl) ?_ | refine xG_go (fun _ => rfl) ?_)
      refine xV2 rfl (by exact rfl) (by simp) (m_isOrgan ho hk) (fun r M' hq => ?_)
      obtain ⟨rfl, rfl⟩ := hq
      by_cases q : 0 ≤ o ∧ o ≤ M 143 6 - 1
      · rw [b01_t q]
        refine xe1 rfl ?_
        iterate 3 (first | refine xG_getI rfl (by exact rfl) (by exact rfl) ?_ | refine xG_getR rfl (by exact rfl) (by exact rfl) ?_ | refine xG_add rfl ?_ | refine xG_sub rfl ?_ | refine xG_mul rfl ?_ | refine xG_putI rfl (by exact rfl) (by exact rfl) ?_ | refine xG_go (fun _ => rfl) ?_)
        refine xS3 rfl (by decide) (by simp) (m_in hx (by decide) (by decide)) (fun r M' hq => ?_)
        obtain ⟨rfl, rfl⟩ := hq
        rw [b01_f (by omega)]
        refine xn0 rfl ?_
        iterate 1 (first | refine xG_getI rfl (by exact rfl) (by exact rfl) ?_ | refine xG_getR rfl (by exact rfl) (by exact rfl) ?_ | refine xG_add rfl ?_ | refine xG_sub rfl ?_ | refine xG_mul rfl ?_ | refine xG_putI rfl (by exact rfl) (by exact rfl) ?_ | refine xG_go (fun _ => rfl) ?_)
        exact xG_ret (fun _ => rfl) ⟨Sc_refl, rfl⟩
      · rw [b01_f q]
        refine xe0 rfl ?_
        iterate 1 (first | refine xG_getI rfl (by exact rfl) (by exact rfl) ?_ | refine xG_getR rfl (by exact rfl) (by exact rfl) ?_ | refine xG_add rfl ?_ | refine xG_sub rfl ?_ | refine xG_mul rfl ?_ | refine xG_putI rfl (by exact rfl) (by exact rfl) ?_ | refine xG_go (fun _ => rfl) ?_)
        exact xG_ret (fun _ => rfl) ⟨Sc_refl, rfl⟩
end YH
