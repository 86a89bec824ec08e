/-! THE TEXT: the reference reads a token -/
section ZJ
variable {sc : Nat × (Nat → Int)} {d c : Nat} {M : mv_M}
def txt (t : Nat → Int) (L : Nat) (N : mv_M) : Prop := L ≤ 150 ∧ N 143 16 = L ∧ ∀ i, i < L → N 152 i = t i ∧ 0 ≤ t i ∧ t i ≤ 255
def fr4 (N N' : mv_M) : Prop := (∀ a, a ≠ 143 → N' a = N a) ∧ ∀ j, ¬ (17 ≤ j ∧ j ≤ 20) → N' 143 j = N 143 j
theorem fr4_refl {N : mv_M} : fr4 N N := ⟨fun _ _ => rfl, fun _ _ => rfl⟩
theorem fr4_up {N N' : mv_M} {j : Nat} {v : Int} (hj : 17 ≤ j ∧ j ≤ 20) (h : fr4 N N') : fr4 N (mv_up N' 143 j v) := ⟨fun a ha => by rw [mv_upne ha, h.1 a ha], fun i hi => by rw [mv_up_j (by omega), h.2 i hi]⟩
theorem fr4_txt {t : Nat → Int} {L : Nat} {N N' : mv_M} (h : fr4 N N') (x : txt t L N) : txt t L N' := ⟨x.1, by rw [h.2 16 (by omega)]; exact x.2.1, by rw [h.1 152 (by decide)]; exact x.2.2⟩
theorem lat_in {t : Nat → Int} {L k : Nat} (h : ∀ i, i < L → 0 ≤ t i ∧ t i ≤ 255) : -1 ≤ lat t L k ∧ lat t L k ≤ 255 := by
  unfold lat
  split
  · have := h k (by omega)
    omega
  · omega
theorem m_letterAt {t : Nat → Int} {L k : Nat} (x : txt t L M) (hk : k ≤ L) : xC sc (d + 1) n_Mod_letterAt [mR 143, mI k] M (fun r M' => M = M' ∧ r = some (mI (lat t L k))) := by
  obtain ⟨x1, x2, x3⟩ := x
  refine xC_in rfl rfl (by simp; decide) ?_
  iterate 3 (first | refine xG_getI rfl (by exact rfl) (by exact rfl) ?_ | refine xG_getR rfl (by exact rfl) (by exact rfl) ?_ | refine xG_add rfl ?_ | refine xG_sub rfl ?_ | refine xG_mul rfl ?_ | refine xG_putI rfl (by exact rfl) (by exact rfl) ?_ | refine xG_go (fun _ => rfl) ?_)
  rw [x2]
  unfold lat
  refine xb_ge rfl (by omega) (by omega) (fun c1 => ?_) (fun c1 => ?_)
  · rw [if_neg (by omega)]
    iterate 1 (first | refine xG_getI rfl (by exact rfl) (by exact rfl) ?_ | refine xG_getR rfl (by exact rfl) (by exact rfl) ?_ | refine xG_add rfl ?_ | refine xG_sub rfl ?_ | refine xG_mul rfl ?_ | refine xG_putI rfl (by exact rfl) (by exact rfl) ?_ | refine xG_go (fun _ => rfl) ?_)
    exact xG_ret (fun _ => rfl) ⟨rfl, rfl⟩
  · rw [if_pos (by omega)]
    iterate 3 (first | refine xG_getI rfl (by exact rfl) (by exact rfl) ?_ | refine xG_getR rfl (by exact rfl) (by exact rfl) ?_ | refine xG_add rfl ?_ | refine xG_sub rfl ?_ | refine xG_mul rfl ?_ | refine xG_putI rfl (by exact rfl) (by exact rfl) ?_ | refine xG_go (fun _ => rfl) ?_)
    refine xG_ald rfl (by exact rfl) (by omega) ?_
    rw [Int.toNat_natCast, (x3 k (by omega)).1]
    iterate 1 (first | refine xG_getI rfl (by exact rfl) (by exact rfl) ?_ | refine xG_getR rfl (by exact rfl) (by exact rfl) ?_ | refine xG_add rfl ?_ | refine xG_sub rfl ?_ | refine xG_mul rfl ?_ | refine xG_putI rfl (by exact rfl) (by exact rfl) ?_ | refine xG_go (fun _ => rfl) ?_)
    exact xG_ret (fun _ => rfl) ⟨rfl, rfl⟩
theorem m_isFigure {v : Int} (hv : mv_in v) : xC sc (d + 2) n_Mod_isFigure [mI v] M (fun r M' => M = M' ∧ r = some (mI (b01 (fig v)))) := by
  refine xC_in rfl rfl (by simp; decide) ?_
  iterate 3 (first | refine xG_getI rfl (by exact rfl) (by exact rfl) ?_ | refine xG_getR rfl (by exact rfl) (by exact rfl) ?_ | refine xG_add rfl ?_ | refine xG_sub rfl ?_ | refine xG_mul rfl ?_ | refine xG_putI rfl (by exact rfl) (by exact rfl) ?_ | refine xG_go (fun _ => rfl) ?_)
  refine xS3 rfl (by decide) (by simp) (m_in hv (by decide) (by decide)) (fun r M' hq => ?_)
  obtain ⟨rfl, rfl⟩ := hq
  exact m_bret rfl ⟨rfl, rfl⟩
theorem l_rd1 {t : Nat → Int} {L p0 : Nat} {N0 : mv_M} {x1 : Option mv_V} (x : txt t L N0) {Q : Option mv_V → mv_M → Prop} (kk : ∀ N q, fr4 N0 N → N 143 17 = (q : Nat) → p0 ≤ q → q ≤ L → (q < L → t q ≠ 32) → (∀ S, rest t L S p0 = rest t L S q) → xG sc (d + 2) y_Mod_reads 26 [some (mR 143), x1] [] N Q) : ∀ (k p : Nat) (N : mv_M), p + k = L → p0 ≤ p → fr4 N0 N → N 143 17 = p → (∀ S, rest t L S p0 = rest t L S p) → xG sc (d + 2) y_Mod_reads 0 [some (mR 143), x1] [] N Q := by
  have xt : ∀ i, i < L → 0 ≤ t i ∧ t i ≤ 255 := fun i hi => (x.2.2 i hi).2
  intro k
  induction k with
  | zero =>
    intro p N h1 h0 h2 h3 h4
    have li := lat_in (k := p) xt
    iterate 3 (first | refine xG_getI rfl (by exact rfl) (by exact rfl) ?_ | refine xG_getR rfl (by exact rfl) (by exact rfl) ?_ | refine xG_add rfl ?_ | refine xG_sub rfl ?_ | refine xG_mul rfl ?_ | refine xG_putI rfl (by exact rfl) (by exact rfl) ?_ | refine xG_go (fun _ => rfl) ?_)
    rw [h3]
    refine xV2 rfl (by exact rfl) (by simp) (m_letterAt (fr4_txt h2 x) (show p ≤ L by omega)) (fun r M' hq => ?_)
    obtain ⟨rfl, rfl⟩ := hq
    have el : lat t L p = -1 := by unfold lat; rw [if_neg (by omega)]
    rw [el]
    iterate 1 (first | refine xG_getI rfl (by exact rfl) (by exact rfl) ?_ | refine xG_getR rfl (by exact rfl) (by exact rfl) ?_ | refine xG_add rfl ?_ | refine xG_sub rfl ?_ | refine xG_mul rfl ?_ | refine xG_putI rfl (by exact rfl) (by exact rfl) ?_ | refine xG_go (fun _ => rfl) ?_)
    refine xb_ne rfl (by decide) (by decide) (fun _ => ?_) (fun c1 => absurd c1 (by decide))
    exact kk N p h2 h3 h0 (by omega) (fun z => absurd z (by omega)) h4
  | succ k ik =>
    intro p N h1 h0 h2 h3 h4
    have li := lat_in (k := p) xt
    iterate 3 (first | refine xG_getI rfl (by exact rfl) (by exact rfl) ?_ | refine xG_getR rfl (by exact rfl) (by exact rfl) ?_ | refine xG_add rfl ?_ | refine xG_sub rfl ?_ | refine xG_mul rfl ?_ | refine xG_putI rfl (by exact rfl) (by exact rfl) ?_ | refine xG_go (fun _ => rfl) ?_)
    rw [h3]
    refine xV2 rfl (by exact rfl) (by simp) (m_letterAt (fr4_txt h2 x) (show p ≤ L by omega)) (fun r M' hq => ?_)
    obtain ⟨rfl, rfl⟩ := hq
    have el : lat t L p = t p := by unfold lat; rw [if_pos (by omega)]
    rw [el] at li ⊢
    iterate 1 (first | refine xG_getI rfl (by exact rfl) (by exact rfl) ?_ | refine xG_getR rfl (by exact rfl) (by exact rfl) ?_ | refine xG_add rfl ?_ | refine xG_sub rfl ?_ | refine xG_mul rfl ?_ | refine xG_putI rfl (by exact rfl) (by exact rfl) ?_ | refine xG_go (fun _ => rfl) ?_)
    refine xb_ne rfl (by omega) (by decide) (fun c1 => ?_) (fun c1 => ?_)
    · exact kk N p h2 h3 h0 (by omega) (fun _ => c1) h4
    · iterate 7 (first | refine xG_getI rfl (by exact rfl) (by exact rfl) ?_ | refine xG_getR rfl (by exact rfl) (by exact rfl) ?_ | refine xG_add rfl ?_ | refine xG_sub rfl ?_ | refine xG_mul rfl ?_ | refine xG_putI rfl (by exact rfl) (by exact rfl) ?_ | refine xG_go (fun _ => rfl) ?_)
      rw [h3]
      refine ik (p + 1) _ (by omega) (by omega) (fr4_up (by decide) h2) mv_up_at (fun S => ?_)
      rw [h4 S]
      have nf : ¬ fig (t p) := by omega
      have en : nxt t L p = p + 1 := by unfold nxt; rw [if_neg nf]
      rw [rest_some (by omega) (show tkP t S p (nxt t L p) = some S by unfold tkP; rw [if_pos c1]), en]
theorem l_rd2 {t : Nat → Int} {L q : Nat} {N0 : mv_M} {x1 : Option mv_V} (x : txt t L N0) (hq : q < L) (hf : fig (t q)) {Q : Option mv_V → mv_M → Prop} (kk : ∀ N, fr4 N0 N → N 143 18 = N0 143 18 → N 143 17 = dend t L q → N 143 20 = rn t q (dend t L q - q) → xG sc (d + 2) y_Mod_reads 133 [some (mR 143), x1] [] N Q) : ∀ (k e : Nat) (N : mv_M), e + k = L → q ≤ e → (∀ i, q ≤ i → i < e → fig (t i)) → den t L k e = dend t L q → fr4 N0 N → N 143 18 = N0 143 18 → N 143 17 = e → N 143 20 = rn t q (e - q) → xG sc (d + 2) y_Mod_reads 67 [some (mR 143), x1] [] N Q := by
  have xt : ∀ i, i < L → 0 ≤ t i ∧ t i ≤ 255 := fun i hi => (x.2.2 i hi).2
  intro k
  induction k with
  | zero =>
    intro e N h1 h2 hd h3 h4 h5 h6 h7
    iterate 3 (first | refine xG_getI rfl (by exact rfl) (by exact rfl) ?_ | refine xG_getR rfl (by exact rfl) (by exact rfl) ?_ | refine xG_add rfl ?_ | refine xG_sub rfl ?_ | refine xG_mul rfl ?_ | refine xG_putI rfl (by exact rfl) (by exact rfl) ?_ | refine xG_go (fun _ => rfl) ?_)
    rw [h6]
    refine xV2 rfl (by exact rfl) (by simp) (m_letterAt (fr4_txt h4 x) (show e ≤ L by omega)) (fun r M' hq => ?_)
    obtain ⟨rfl, rfl⟩ := hq
    have el : lat t L e = -1 := by unfold lat; rw [if_neg (by omega)]
    rw [el]
    refine xS1 rfl (by decide) (by simp) (m_isFigure (by decide)) (fun r M' hq => ?_)
    obtain ⟨rfl, rfl⟩ := hq
    rw [b01_f (by decide)]
    refine xe0 rfl ?_
    simp only [den] at h3
    exact kk N h4 h5 (by rw [h6, h3]) (by rw [h7, h3])
  | succ k ik =>
    intro e N h1 h2 hd h3 h4 h5 h6 h7
    have te := xt e (by omega)
    have el : lat t L e = t e := by unfold lat; rw [if_pos (by omega)]
    have ri := rn_in (t := t) (q := q) (e - q) (fun j hj => hd (q + j) (by omega) (by omega))
    iterate 3 (first | refine xG_getI rfl (by exact rfl) (by exact rfl) ?_ | refine xG_getR rfl (by exact rfl) (by exact rfl) ?_ | refine xG_add rfl ?_ | refine xG_sub rfl ?_ | refine xG_mul rfl ?_ | refine xG_putI rfl (by exact rfl) (by exact rfl) ?_ | refine xG_go (fun _ => rfl) ?_)
    rw [h6]
    refine xV2 rfl (by exact rfl) (by simp) (m_letterAt (fr4_txt h4 x) (show e ≤ L by omega)) (fun r M' hq => ?_)
    obtain ⟨rfl, rfl⟩ := hq
    rw [el]
    refine xS1 rfl (by decide) (by simp) (m_isFigure (by omega)) (fun r M' hq => ?_)
    obtain ⟨rfl, rfl⟩ := hq
    simp only [den] at h3
    by_cases w : fig (t e)
    · rw [b01_t w]
      rw [if_pos ⟨by omega, w⟩] at h3
      refine xe1 rfl ?_
      iterate 4 (first | refine xG_getI rfl (by exact rfl) (by exact rfl) ?_ | refine xG_getR rfl (by exact rfl) (by exact rfl) ?_ | refine xG_add rfl ?_ | refine xG_sub rfl ?_ | refine xG_mul rfl ?_ | refine xG_putI rfl (by exact rfl) (by exact rfl) ?_ | refine xG_go (fun _ => rfl) ?_)
      rw [h7]
      have f117 : xG sc (d + 2) y_Mod_reads 117 [some (mR 143), x1] [mI (rn t q (e + 1 - q)), mR 143] N Q := by
        iterate 8 (first | refine xG_getI rfl (by exact rfl) (by exact rfl) ?_ | refine xG_getR rfl (by exact rfl) (by exact rfl) ?_ | refine xG_add rfl ?_ | refine xG_sub rfl ?_ | refine xG_mul rfl ?_ | refine xG_putI rfl (by exact rfl) (by exact rfl) ?_ | refine xG_go (fun _ => rfl) ?_)
        rw [mv_up_j (show 17 ≠ 20 by decide), h6]
        refine ik (e + 1) _ (by omega) (by omega) (fun i g1 g2 => ?_) h3 (fr4_up (by decide) (fr4_up (by decide) h4)) ?_ mv_up_at ?_
        · by_cases u : i = e
          · rw [u]; exact w
          · exact hd i g1 (by omega)
        · rw [mv_up_j (by decide), mv_up_j (by decide), h5]
        · rw [mv_up_j (by decide), mv_up_at]
      rw [show e + 1 - q = (e - q) + 1 by omega] at f117
      simp only [rn] at f117
      rw [show q + (e - q) = e by omega] at f117
      refine xb_le rfl (by omega) (by decide) (fun c1 => ?_) (fun c1 => ?_)
      · rw [if_neg (by omega)] at f117
        iterate 7 (first | refine xG_getI rfl (by exact rfl) (by exact rfl) ?_ | refine xG_getR rfl (by exact rfl) (by exact rfl) ?_ | refine xG_add rfl ?_ | refine xG_sub rfl ?_ | refine xG_mul rfl ?_ | refine xG_putI rfl (by exact rfl) (by exact rfl) ?_ | refine xG_go (fun _ => rfl) ?_)
        rw [h7, h6]
        refine xV2 rfl (by exact rfl) (by simp) (m_letterAt (fr4_txt h4 x) (show e ≤ L by omega)) (fun r M' hq => ?_)
        obtain ⟨rfl, rfl⟩ := hq
        rw [el]
        iterate 3 (first | refine xG_getI rfl (by exact rfl) (by exact rfl) ?_ | refine xG_getR rfl (by exact rfl) (by exact rfl) ?_ | refine xG_add rfl ?_ | refine xG_sub rfl ?_ | refine xG_mul rfl ?_ | refine xG_putI rfl (by exact rfl) (by exact rfl) ?_ | refine xG_go (fun _ => rfl) ?_)
        exact f117
      · rw [if_pos (by omega)] at f117
        iterate 3 (first | refine xG_getI rfl (by exact rfl) (by exact rfl) ?_ | refine xG_getR rfl (by exact rfl) (by exact rfl) ?_ | refine xG_add rfl ?_ | refine xG_sub rfl ?_ | refine xG_mul rfl ?_ | refine xG_putI rfl (by exact rfl) (by exact rfl) ?_ | refine xG_go (fun _ => rfl) ?_)
        rw [h7]
        exact f117
    · rw [b01_f w]
      rw [if_neg (fun z => w z.2)] at h3
      refine xe0 rfl ?_
      exact kk N h4 h5 (by rw [h6, h3]) (by rw [h7, h3])
theorem m_reads {t : Nat → Int} {L p : Nat} (x : txt t L M) (hp : p ≤ L) (ep : M 143 17 = p) : xC sc (d + 3) n_Mod_reads [mR 143] M (fun r N => r = none ∧ fr4 M N ∧ ∃ q, p ≤ q ∧ TK t L N q ∧ ∀ S, rest t L S p = rest t L S q) := by
  have x150 := x.1
  have xt : ∀ i, i < L → 0 ≤ t i ∧ t i ≤ 255 := fun i hi => (x.2.2 i hi).2
  refine xC_in rfl rfl (by simp; decide) ?_
  refine l_rd1 (N0 := M) (p0 := p) x (fun N q g1 g2 g0 g3 g4 g5 => ?_) (L - p) p M (by omega) (Nat.le_refl _) fr4_refl ep (fun _ => rfl)
  have li := lat_in (k := q) xt
  iterate 3 (first | refine xG_getI rfl (by exact rfl) (by exact rfl) ?_ | refine xG_getR rfl (by exact rfl) (by exact rfl) ?_ | refine xG_add rfl ?_ | refine xG_sub rfl ?_ | refine xG_mul rfl ?_ | refine xG_putI rfl (by exact rfl) (by exact rfl) ?_ | refine xG_go (fun _ => rfl) ?_)
  rw [g2]
  iterate 1 (first | refine xG_getI rfl (by exact rfl) (by exact rfl) ?_ | refine xG_getR rfl (by exact rfl) (by exact rfl) ?_ | refine xG_add rfl ?_ | refine xG_sub rfl ?_ | refine xG_mul rfl ?_ | refine xG_putI rfl (by exact rfl) (by exact rfl) ?_ | refine xG_go (fun _ => rfl) ?_)
  have g6 : fr4 M (mv_up N 143 18 q) := fr4_up (by decide) g1
  iterate 3 (first | refine xG_getI rfl (by exact rfl) (by exact rfl) ?_ | refine xG_getR rfl (by exact rfl) (by exact rfl) ?_ | refine xG_add rfl ?_ | refine xG_sub rfl ?_ | refine xG_mul rfl ?_ | refine xG_putI rfl (by exact rfl) (by exact rfl) ?_ | refine xG_go (fun _ => rfl) ?_)
  rw [mv_up_j (show 17 ≠ 18 by decide), g2]
  refine xV2 rfl (by exact rfl) (by simp) (m_letterAt (fr4_txt g6 x) g3) (fun r M' hq => ?_)
  obtain ⟨rfl, rfl⟩ := hq
  iterate 5 (first | refine xG_getI rfl (by exact rfl) (by exact rfl) ?_ | refine xG_getR rfl (by exact rfl) (by exact rfl) ?_ | refine xG_add rfl ?_ | refine xG_sub rfl ?_ | refine xG_mul rfl ?_ | refine xG_putI rfl (by exact rfl) (by exact rfl) ?_ | refine xG_go (fun _ => rfl) ?_)
  have g7 : fr4 M (mv_up (mv_up N 143 18 q) 143 20 0) := fr4_up (by decide) g6
  by_cases e : q = L
  · have el : lat t L q = -1 := by unfold lat; rw [if_neg (by omega)]
    rw [el]
    refine xi_ge rfl (by decide) (fun c1 => absurd c1 (by decide)) (fun _ => ?_)
    iterate 4 (first | refine xG_getI rfl (by exact rfl) (by exact rfl) ?_ | refine xG_getR rfl (by exact rfl) (by exact rfl) ?_ | refine xG_add rfl ?_ | refine xG_sub rfl ?_ | refine xG_mul rfl ?_ | refine xG_putI rfl (by exact rfl) (by exact rfl) ?_ | refine xG_go (fun _ => rfl) ?_)
    refine xG_ret (fun _ => rfl) ⟨rfl, fr4_up (by decide) g7, q, g0, ⟨g3, by rw [mv_up_j (by decide), mv_up_j (by decide), mv_up_at], Or.inl ⟨e, mv_up_at⟩⟩, g5⟩
  · have el : lat t L q = t q := by unfold lat; rw [if_pos (by omega)]
    have tq := xt q (by omega)
    rw [el]
    refine xi_ge rfl (by omega) (fun _ => ?_) (fun c1 => absurd c1 (by omega))
    iterate 1 (first | refine xG_getI rfl (by exact rfl) (by exact rfl) ?_ | refine xG_getR rfl (by exact rfl) (by exact rfl) ?_ | refine xG_add rfl ?_ | refine xG_sub rfl ?_ | refine xG_mul rfl ?_ | refine xG_putI rfl (by exact rfl) (by exact rfl) ?_ | refine xG_go (fun _ => rfl) ?_)
    refine xS1 rfl (by decide) (by simp) (m_isFigure (by omega)) (fun r M' hq => ?_)
    obtain ⟨rfl, rfl⟩ := hq
    by_cases w : fig (t q)
    · rw [b01_t w]
      refine xe1 rfl ?_
      have bd := nxt_in (t := t) (show q < L by omega)
      have en : nxt t L q = dend t L q := by unfold nxt; rw [if_pos w]
      rw [en] at bd
      refine l_rd2 (N0 := mv_up (mv_up N 143 18 q) 143 20 0) (fr4_txt g7 x) (show q < L by omega) w (fun N1 k1 k2 k3 k4 => ?_) (L - q) q _ (by omega) (Nat.le_refl _) (fun i a b => absurd b (by omega)) rfl fr4_refl rfl ?_ ?_
      · rw [mv_up_j (by decide), mv_up_at] at k2
        have nn := numOf_rn (t := t) (q := q) (n := dend t L q - q) (by omega) (fun j hj => den_fig t L (L - q) q (q + j) (by omega) (by show q + j < dend t L q; omega))
        rw [show q + (dend t L q - q) = dend t L q by omega] at nn
        have ri := rn_in (t := t) (q := q) (dend t L q - q) (fun j hj => den_fig t L (L - q) q (q + j) (by omega) (by show q + j < dend t L q; omega))
        have fN : fr4 M N1 := ⟨fun a ha => by rw [k1.1 a ha, g7.1 a ha], fun j hj => by rw [k1.2 j hj, g7.2 j hj]⟩
        have fin : ∀ z : Int, (z = 4 ∧ (99 < rn t q (dend t L q - q) ∨ (t q = 48 ∧ 1 < dend t L q - q))) ∨ (z = 2 ∧ ¬ (99 < rn t q (dend t L q - q) ∨ (t q = 48 ∧ 1 < dend t L q - q))) → xG sc (d + 2) y_Mod_reads 167 [some (mR 143), some (mI (t q))] [mI z, mR 143] N1 (fun r N => r = none ∧ fr4 M N ∧ ∃ q, p ≤ q ∧ TK t L N q ∧ ∀ S, rest t L S p = rest t L S q) := by
          intro z hz
          iterate 2 (first | refine xG_getI rfl (by exact rfl) (by exact rfl) ?_ | refine xG_getR rfl (by exact rfl) (by exact rfl) ?_ | refine xG_add rfl ?_ | refine xG_sub rfl ?_ | refine xG_mul rfl ?_ | refine xG_putI rfl (by exact rfl) (by exact rfl) ?_ | refine xG_go (fun _ => rfl) ?_)
          refine xG_ret (fun _ => rfl) ⟨rfl, fr4_up (by decide) fN, q, g0, ⟨g3, by rw [mv_up_j (by decide), k2], Or.inr (Or.inl ⟨by omega, w, by rw [mv_up_j (by decide), k3], ?_⟩)⟩, g5⟩
          rw [mv_up_at, mv_up_j (show 20 ≠ 19 by decide), k4]
          rcases hz with ⟨z1, z2⟩ | ⟨z1, z2⟩
          · exact Or.inr ⟨z1, nn.1 z2⟩
          · exact Or.inl ⟨z1, (nn.2 z2).symm, by omega, by omega⟩
        iterate 4 (first | refine xG_getI rfl (by exact rfl) (by exact rfl) ?_ | refine xG_getR rfl (by exact rfl) (by exact rfl) ?_ | refine xG_add rfl ?_ | refine xG_sub rfl ?_ | refine xG_mul rfl ?_ | refine xG_putI rfl (by exact rfl) (by exact rfl) ?_ | refine xG_go (fun _ => rfl) ?_)
        rw [k4]
        refine xb_gt rfl (by omega) (by decide) (fun c1 => ?_) (fun c1 => ?_)
        · iterate 2 (first | refine xG_getI rfl (by exact rfl) (by exact rfl) ?_ | refine xG_getR rfl (by exact rfl) (by exact rfl) ?_ | refine xG_add rfl ?_ | refine xG_sub rfl ?_ | refine xG_mul rfl ?_ | refine xG_putI rfl (by exact rfl) (by exact rfl) ?_ | refine xG_go (fun _ => rfl) ?_)
          exact fin 4 (Or.inl ⟨rfl, Or.inl c1⟩)
        · iterate 2 (first | refine xG_getI rfl (by exact rfl) (by exact rfl) ?_ | refine xG_getR rfl (by exact rfl) (by exact rfl) ?_ | refine xG_add rfl ?_ | refine xG_sub rfl ?_ | refine xG_mul rfl ?_ | refine xG_putI rfl (by exact rfl) (by exact rfl) ?_ | refine xG_go (fun _ => rfl) ?_)
          refine xb_ne rfl (by omega) (by decide) (fun c2 => ?_) (fun c2 => ?_)
          · iterate 1 (first | refine xG_getI rfl (by exact rfl) (by exact rfl) ?_ | refine xG_getR rfl (by exact rfl) (by exact rfl) ?_ | refine xG_add rfl ?_ | refine xG_sub rfl ?_ | refine xG_mul rfl ?_ | refine xG_putI rfl (by exact rfl) (by exact rfl) ?_ | refine xG_go (fun _ => rfl) ?_)
            exact fin 2 (Or.inr ⟨rfl, by omega⟩)
          · iterate 6 (first | refine xG_getI rfl (by exact rfl) (by exact rfl) ?_ | refine xG_getR rfl (by exact rfl) (by exact rfl) ?_ | refine xG_add rfl ?_ | refine xG_sub rfl ?_ | refine xG_mul rfl ?_ | refine xG_putI rfl (by exact rfl) (by exact rfl) ?_ | refine xG_go (fun _ => rfl) ?_)
            rw [k3, k2]
            refine xb_le rfl (by omega) (by omega) (fun c3 => ?_) (fun c3 => ?_)
            · iterate 1 (first | refine xG_getI rfl (by exact rfl) (by exact rfl) ?_ | refine xG_getR rfl (by exact rfl) (by exact rfl) ?_ | refine xG_add rfl ?_ | refine xG_sub rfl ?_ | refine xG_mul rfl ?_ | refine xG_putI rfl (by exact rfl) (by exact rfl) ?_ | refine xG_go (fun _ => rfl) ?_)
              exact fin 2 (Or.inr ⟨rfl, by omega⟩)
            · iterate 2 (first | refine xG_getI rfl (by exact rfl) (by exact rfl) ?_ | refine xG_getR rfl (by exact rfl) (by exact rfl) ?_ | refine xG_add rfl ?_ | refine xG_sub rfl ?_ | refine xG_mul rfl ?_ | refine xG_putI rfl (by exact rfl) (by exact rfl) ?_ | refine xG_go (fun _ => rfl) ?_)
              exact fin 4 (Or.inl ⟨rfl, by omega⟩)
      · rw [mv_up_j (by decide), mv_up_j (by decide), g2]
      · rw [mv_up_at, Nat.sub_self]
        rfl
    · rw [b01_f w]
      refine xe0 rfl ?_
      have fin : ∀ z : Int, ((z = 1 ∧ (t q = 115 ∨ t q = 116 ∨ t q = 109 ∨ t q = 111)) ∨ (z = 3 ∧ t q = 59) ∨ (z = 4 ∧ t q ≠ 115 ∧ t q ≠ 116 ∧ t q ≠ 109 ∧ t q ≠ 111 ∧ t q ≠ 59)) → xG sc (d + 2) y_Mod_reads 213 [some (mR 143), some (mI (t q))] [mI z, mR 143] (mv_up (mv_up N 143 18 q) 143 20 0) (fun r N => r = none ∧ fr4 M N ∧ ∃ q, p ≤ q ∧ TK t L N q ∧ ∀ S, rest t L S p = rest t L S q) := by
        intro z hz
        iterate 10 (first | refine xG_getI rfl (by exact rfl) (by exact rfl) ?_ | refine xG_getR rfl (by exact rfl) (by exact rfl) ?_ | refine xG_add rfl ?_ | refine xG_sub rfl ?_ | refine xG_mul rfl ?_ | refine xG_putI rfl (by exact rfl) (by exact rfl) ?_ | refine xG_go (fun _ => rfl) ?_)
        refine xG_ret (fun _ => rfl) ⟨rfl, fr4_up (by decide) (fr4_up (by decide) (fr4_up (by decide) g7)), q, g0, ⟨g3, by rw [mv_up_j (by decide), mv_up_j (by decide), mv_up_j (by decide), mv_up_j (by decide), mv_up_at], Or.inr (Or.inr ⟨by omega, w, g4 (by omega), ?_, ?_, ?_⟩)⟩, g5⟩
        · rw [mv_up_at, mv_up_j (by decide), mv_up_j (by decide), mv_up_j (by decide), mv_up_j (by decide), g2]
          rfl
        · rw [mv_up_j (by decide), mv_up_at]
        · rw [mv_up_j (by decide), mv_up_j (by decide), mv_up_at]
          exact hz
      iterate 3 (first | refine xG_getI rfl (by exact rfl) (by exact rfl) ?_ | refine xG_getR rfl (by exact rfl) (by exact rfl) ?_ | refine xG_add rfl ?_ | refine xG_sub rfl ?_ | refine xG_mul rfl ?_ | refine xG_putI rfl (by exact rfl) (by exact rfl) ?_ | refine xG_go (fun _ => rfl) ?_)
      refine xb_eq rfl (by omega) (by decide) (fun c1 => ?_) (fun c1 => ?_)
      · iterate 2 (first | refine xG_getI rfl (by exact rfl) (by exact rfl) ?_ | refine xG_getR rfl (by exact rfl) (by exact rfl) ?_ | refine xG_add rfl ?_ | refine xG_sub rfl ?_ | refine xG_mul rfl ?_ | refine xG_putI rfl (by exact rfl) (by exact rfl) ?_ | refine xG_go (fun _ => rfl) ?_)
        exact fin 1 (by omega)
      iterate 2 (first | refine xG_getI rfl (by exact rfl) (by exact rfl) ?_ | refine xG_getR rfl (by exact rfl) (by exact rfl) ?_ | refine xG_add rfl ?_ | refine xG_sub rfl ?_ | refine xG_mul rfl ?_ | refine xG_putI rfl (by exact rfl) (by exact rfl) ?_ | refine xG_go (fun _ => rfl) ?_)
      refine xb_eq rfl (by omega) (by decide) (fun c2 => ?_) (fun c2 => ?_)
      · iterate 2 (first | refine xG_getI rfl (by exact rfl) (by exact rfl) ?_ | refine xG_getR rfl (by exact rfl) (by exact rfl) ?_ | refine xG_add rfl ?_ | refine xG_sub rfl ?_ | refine xG_mul rfl ?_ | refine xG_putI rfl (by exact rfl) (by exact rfl) ?_ | refine xG_go (fun _ => rfl) ?_)
        exact fin 1 (by omega)
      iterate 2 (first | refine xG_getI rfl (by exact rfl) (by exact rfl) ?_ | refine xG_getR rfl (by exact rfl) (by exact rfl) ?_ | refine xG_add rfl ?_ | refine xG_sub rfl ?_ | refine xG_mul rfl ?_ | refine xG_putI rfl (by exact rfl) (by exact rfl) ?_ | refine xG_go (fun _ => rfl) ?_)
      refine xb_eq rfl (by omega) (by decide) (fun c3 => ?_) (fun c3 => ?_)
      · iterate 2 (first | refine xG_getI rfl (by exact rfl) (by exact rfl) ?_ | refine xG_getR rfl (by exact rfl) (by exact rfl) ?_ | refine xG_add rfl ?_ | refine xG_sub rfl ?_ | refine xG_mul rfl ?_ | refine xG_putI rfl (by exact rfl) (by exact rfl) ?_ | refine xG_go (fun _ => rfl) ?_)
        exact fin 1 (by omega)
      iterate 2 (first | refine xG_getI rfl (by exact rfl) (by exact rfl) ?_ | refine xG_getR rfl (by exact rfl) (by exact rfl) ?_ | refine xG_add rfl ?_ | refine xG_sub rfl ?_ | refine xG_mul rfl ?_ | refine xG_putI rfl (by exact rfl) (by exact rfl) ?_ | refine xG_go (fun _ => rfl) ?_)
      refine xb_ne rfl (by omega) (by decide) (fun c4 => ?_) (fun c4 => ?_)
      · iterate 2 (first | refine xG_getI rfl (by exact rfl) (by exact rfl) ?_ | refine xG_getR rfl (by exact rfl) (by exact rfl) ?_ | refine xG_add rfl ?_ | refine xG_sub rfl ?_ | refine xG_mul rfl ?_ | refine xG_putI rfl (by exact rfl) (by exact rfl) ?_ | refine xG_go (fun _ => rfl) ?_)
        refine xb_ne rfl (by omega) (by decide) (fun c5 => ?_) (fun c5 => ?_)
        · iterate 1 (first | refine xG_getI rfl (by exact rfl) (by exact rfl) ?_ | refine xG_getR rfl (by exact rfl) (by exact rfl) ?_ | refine xG_add rfl ?_ | refine xG_sub rfl ?_ | refine xG_mul rfl ?_ | refine xG_putI rfl (by exact rfl) (by exact rfl) ?_ | refine xG_go (fun _ => rfl) ?_)
          exact fin 4 (by omega)
        · iterate 2 (first | refine xG_getI rfl (by exact rfl) (by exact rfl) ?_ | refine xG_getR rfl (by exact rfl) (by exact rfl) ?_ | refine xG_add rfl ?_ | refine xG_sub rfl ?_ | refine xG_mul rfl ?_ | refine xG_putI rfl (by exact rfl) (by exact rfl) ?_ | refine xG_go (fun _ => rfl) ?_)
          exact fin 3 (by omega)
      · iterate 2 (first | refine xG_getI rfl (by exact rfl) (by exact rfl) ?_ | refine xG_getR rfl (by exact rfl) (by exact rfl) ?_ | refine xG_add rfl ?_ | refine xG_sub rfl ?_ | refine xG_mul rfl ?_ | refine xG_putI rfl (by exact rfl) (by exact rfl) ?_ | refine xG_go (fun _ => rfl) ?_)
        exact fin 1 (by omega)
end ZJ
