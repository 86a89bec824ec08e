/-! THE DAY: votes -/
section XD
variable {sc : Nat × (Nat → Int)} {d : Nat} {M : mv_M} {D : Nat}
theorem d_cold (h : dok (dv M D)) : 0 ≤ M D 5 ∧ M D 5 ≤ 9 := h.1
theorem d_car (h : dok (dv M D)) : 0 ≤ M D 6 ∧ M D 6 ≤ 999 := h.2.1
theorem d_lost (h : dok (dv M D)) : 0 ≤ M D 7 ∧ M D 7 ≤ 999 := h.2.2.1
theorem d_mood (h : dok (dv M D)) {m : Nat} (hm : m < 6) : -99 ≤ M (D + 1) m ∧ M (D + 1) m ≤ 99 := by have := h.2.2.2.1 m hm; rwa [dv_m hm] at this
theorem d_nuts (h : dok (dv M D)) {m : Nat} (hm : m < 6) : 0 ≤ M (D + 2) m ∧ M (D + 2) m ≤ 9 := by have := h.2.2.2.2.1 m hm; rwa [dv_n hm] at this
theorem d_place (h : dok (dv M D)) {m : Nat} (hm : m < 3) : 0 ≤ M (D + 3) m ∧ M (D + 3) m ≤ 4 := by have := h.2.2.2.2.2.1 m hm; rwa [dv_p hm] at this
theorem d_wear (h : dok (dv M D)) {m : Nat} (hm : m < 3) : 0 ≤ M (D + 4) m ∧ M (D + 4) m ≤ 15 := by have := h.2.2.2.2.2.2 m hm; rwa [dv_w] at this
theorem c_voteOf (hD : isDay D) (hl : lok M) (hd : dok (dv M D)) {m : Nat} (hm : m < 6) : xC sc (d + 2) n_Day_voteOf [mR D, mI m] M (fun r M' => M = M' ∧ r = some (mI (vote (M 6) (dv M D) m))) := by
  have h0 := d_cold hd
  have h1 := hl.2.2.2.2.2.1 m hm
  have h2 := d_mood hd hm
  have h3 := d_nuts hd hm
  refine xC_in rfl rfl (by simp; decide) ?_
  iterate 6 (first | refine xG_getI rfl hD.1 (by exact rfl) ?_ | refine xG_getR rfl hD.1 (by exact rfl) ?_ | refine xG_putI rfl hD.1 (by exact rfl) ?_ | refine xG_getI rfl (by exact rfl) (by exact rfl) ?_ | refine xG_getR rfl (by exact rfl) (by exact rfl) ?_ | refine xG_add rfl ?_ | refine xG_sub rfl ?_ | refine xG_mul rfl ?_ | refine xG_putI rfl (by exact rfl) (by exact rfl) ?_ | refine xG_go (fun _ => rfl) ?_)
  refine xG_ald rfl (by exact rfl) (by omega) ?_
  simp only [Int.toNat_natCast]
  refine xb_le rfl (by omega) (by omega) (fun c1 => ?_) (fun c1 => ?_)
  · iterate 3 (first | refine xG_getI rfl hD.1 (by exact rfl) ?_ | refine xG_getR rfl hD.1 (by exact rfl) ?_ | refine xG_putI rfl hD.1 (by exact rfl) ?_ | refine xG_getI rfl (by exact rfl) (by exact rfl) ?_ | refine xG_getR rfl (by exact rfl) (by exact rfl) ?_ | refine xG_add rfl ?_ | refine xG_sub rfl ?_ | refine xG_mul rfl ?_ | refine xG_putI rfl (by exact rfl) (by exact rfl) ?_ | refine xG_go (fun _ => rfl) ?_)
    refine xG_ald rfl hD.2.1 (by omega) ?_
    iterate 3 (first | refine xG_getI rfl hD.1 (by exact rfl) ?_ | refine xG_getR rfl hD.1 (by exact rfl) ?_ | refine xG_putI rfl hD.1 (by exact rfl) ?_ | refine xG_getI rfl (by exact rfl) (by exact rfl) ?_ | refine xG_getR rfl (by exact rfl) (by exact rfl) ?_ | refine xG_add rfl ?_ | refine xG_sub rfl ?_ | refine xG_mul rfl ?_ | refine xG_putI rfl (by exact rfl) (by exact rfl) ?_ | refine xG_go (fun _ => rfl) ?_)
    refine xG_ald rfl hD.2.2.1 (by omega) ?_
    simp only [Int.toNat_natCast]
    iterate 2 (first | refine xG_getI rfl (by exact rfl) (by exact rfl) ?_ | refine xG_getR rfl (by exact rfl) (by exact rfl) ?_ | refine xG_add rfl ?_ | refine xG_sub rfl ?_ | refine xG_mul rfl ?_ | refine xG_putI rfl (by exact rfl) (by exact rfl) ?_ | refine xG_go (fun _ => rfl) ?_)
    refine xS2 rfl (by decide) (by simp) (c_compare (by omega) (by decide)) (fun r M' hq => ?_)
    obtain ⟨rfl, rfl⟩ := hq
    refine xG_ret (fun _ => rfl) ⟨rfl, ?_⟩
    unfold vote
    rw [dv_0, dv_m hm, dv_n hm, if_neg (by omega), Int.sub_zero]
  · iterate 2 (first | refine xG_getI rfl (by exact rfl) (by exact rfl) ?_ | refine xG_getR rfl (by exact rfl) (by exact rfl) ?_ | refine xG_add rfl ?_ | refine xG_sub rfl ?_ | refine xG_mul rfl ?_ | refine xG_putI rfl (by exact rfl) (by exact rfl) ?_ | refine xG_go (fun _ => rfl) ?_)
    refine xG_ret (fun _ => rfl) ⟨rfl, ?_⟩
    unfold vote
    rw [dv_0, if_pos (by omega)]
theorem l_votesOf (hD : isDay D) (hl : lok M) (hd : dok (dv M D)) {nm : Nat} (hn : M 4 2 = nm) {v : Int} (hv : -1 ≤ v ∧ v ≤ 1) : ∀ (k j : Nat), j + k = nm → xG sc (d + 2) y_Day_votesOf 4 [some (mR D), some (mI v), some (mI (vcnt (M 6) (dv M D) v j)), some (mI j)] [] M (fun r M' => M = M' ∧ r = some (mI (vcnt (M 6) (dv M D) v nm)))
  | k, j, hk => by
    have h0 := hl.2.2.1
    have h1 := vcnt_in (M 6) (dv M D) v j
    iterate 4 (first | refine xG_getI rfl hD.1 (by exact rfl) ?_ | refine xG_getR rfl hD.1 (by exact rfl) ?_ | refine xG_putI rfl hD.1 (by exact rfl) ?_ | refine xG_getI rfl (by exact rfl) (by exact rfl) ?_ | refine xG_getR rfl (by exact rfl) (by exact rfl) ?_ | refine xG_add rfl ?_ | refine xG_sub rfl ?_ | refine xG_mul rfl ?_ | refine xG_putI rfl (by exact rfl) (by exact rfl) ?_ | refine xG_go (fun _ => rfl) ?_)
    refine xb_ge rfl (by omega) (by omega) (fun c1 => ?_) (fun c1 => ?_)
    · iterate 1 (first | refine xG_getI rfl (by exact rfl) (by exact rfl) ?_ | refine xG_getR rfl (by exact rfl) (by exact rfl) ?_ | refine xG_add rfl ?_ | refine xG_sub rfl ?_ | refine xG_mul rfl ?_ | refine xG_putI rfl (by exact rfl) (by exact rfl) ?_ | refine xG_go (fun _ => rfl) ?_)
      have : j = nm := by omega
      subst this
      exact xG_ret (fun _ => rfl) ⟨rfl, rfl⟩
    · cases k with
      | zero => exact absurd hk (by omega)
      | succ k =>
        iterate 2 (first | refine xG_getI rfl (by exact rfl) (by exact rfl) ?_ | refine xG_getR rfl (by exact rfl) (by exact rfl) ?_ | refine xG_add rfl ?_ | refine xG_sub rfl ?_ | refine xG_mul rfl ?_ | refine xG_putI rfl (by exact rfl) (by exact rfl) ?_ | refine xG_go (fun _ => rfl) ?_)
        refine xV2 rfl hD.1 (by simp) (c_voteOf hD hl hd (by omega)) (fun r M' hq => ?_)
        obtain ⟨rfl, rfl⟩ := hq
        have h2 := vote_in (M 6) (dv M D) j
        iterate 1 (first | refine xG_getI rfl (by exact rfl) (by exact rfl) ?_ | refine xG_getR rfl (by exact rfl) (by exact rfl) ?_ | refine xG_add rfl ?_ | refine xG_sub rfl ?_ | refine xG_mul rfl ?_ | refine xG_putI rfl (by exact rfl) (by exact rfl) ?_ | refine xG_go (fun _ => rfl) ?_)
        refine xb_ne rfl (by omega) (by omega) (fun c2 => ?_) (fun c2 => ?_)
        · iterate 2 (first | refine xG_getI rfl (by exact rfl) (by exact rfl) ?_ | refine xG_getR rfl (by exact rfl) (by exact rfl) ?_ | refine xG_add rfl ?_ | refine xG_sub rfl ?_ | refine xG_mul rfl ?_ | refine xG_putI rfl (by exact rfl) (by exact rfl) ?_ | refine xG_go (fun _ => rfl) ?_)
          have ih := l_votesOf hD hl hd hn hv k (j + 1) (by omega)
          simp only [vcnt] at ih
          rw [if_neg c2, Int.add_zero] at ih
          exact ih
        · iterate 3 (first | refine xG_getI rfl (by exact rfl) (by exact rfl) ?_ | refine xG_getR rfl (by exact rfl) (by exact rfl) ?_ | refine xG_add rfl ?_ | refine xG_sub rfl ?_ | refine xG_mul rfl ?_ | refine xG_putI rfl (by exact rfl) (by exact rfl) ?_ | refine xG_go (fun _ => rfl) ?_)
          have ih := l_votesOf hD hl hd hn hv k (j + 1) (by omega)
          simp only [vcnt] at ih
          rw [if_pos c2] at ih
          exact ih
theorem c_votesOf (hD : isDay D) (hl : lok M) (hd : dok (dv M D)) {nm : Nat} (hn : M 4 2 = nm) {v : Int} (hv : -1 ≤ v ∧ v ≤ 1) : xC sc (d + 3) n_Day_votesOf [mR D, mI v] M (fun r M' => M = M' ∧ r = some (mI (vcnt (M 6) (dv M D) v nm))) := by
  refine xC_in rfl rfl (by simp; decide) ?_
  iterate 4 (first | refine xG_getI rfl (by exact rfl) (by exact rfl) ?_ | refine xG_getR rfl (by exact rfl) (by exact rfl) ?_ | refine xG_add rfl ?_ | refine xG_sub rfl ?_ | refine xG_mul rfl ?_ | refine xG_putI rfl (by exact rfl) (by exact rfl) ?_ | refine xG_go (fun _ => rfl) ?_)
  exact l_votesOf hD hl hd hn hv nm 0 (by omega)
theorem l_carries (hD : isDay D) (hl : lok M) (hd : dok (dv M D)) {nm : Nat} (hn : M 4 2 = nm) : ∀ (k j : Nat), j + k = nm → xG sc (d + 2) y_Day_carries 4 [some (mR D), some (mI (marg (M 6) (dv M D) j)), some (mI j)] [] M (fun r M' => M = M' ∧ r = some (mI (if 0 < marg (M 6) (dv M D) nm then 1 else 0)))
  | k, j, hk => by
    have h0 := hl.2.2.1
    have h1 := marg_in (M 6) (dv M D) j
    iterate 4 (first | refine xG_getI rfl hD.1 (by exact rfl) ?_ | refine xG_getR rfl hD.1 (by exact rfl) ?_ | refine xG_putI rfl hD.1 (by exact rfl) ?_ | refine xG_getI rfl (by exact rfl) (by exact rfl) ?_ | refine xG_getR rfl (by exact rfl) (by exact rfl) ?_ | refine xG_add rfl ?_ | refine xG_sub rfl ?_ | refine xG_mul rfl ?_ | refine xG_putI rfl (by exact rfl) (by exact rfl) ?_ | refine xG_go (fun _ => rfl) ?_)
    refine xb_ge rfl (by omega) (by omega) (fun c1 => ?_) (fun c1 => ?_)
    · have : j = nm := by omega
      subst this
      iterate 1 (first | refine xG_getI rfl (by exact rfl) (by exact rfl) ?_ | refine xG_getR rfl (by exact rfl) (by exact rfl) ?_ | refine xG_add rfl ?_ | refine xG_sub rfl ?_ | refine xG_mul rfl ?_ | refine xG_putI rfl (by exact rfl) (by exact rfl) ?_ | refine xG_go (fun _ => rfl) ?_)
      refine xi_le rfl (by omega) (fun c2 => ?_) (fun c2 => ?_)
      · iterate 1 (first | refine xG_getI rfl (by exact rfl) (by exact rfl) ?_ | refine xG_getR rfl (by exact rfl) (by exact rfl) ?_ | refine xG_add rfl ?_ | refine xG_sub rfl ?_ | refine xG_mul rfl ?_ | refine xG_putI rfl (by exact rfl) (by exact rfl) ?_ | refine xG_go (fun _ => rfl) ?_)
        exact xG_ret (fun _ => rfl) ⟨rfl, by rw [if_neg (by omega)]⟩
      · iterate 2 (first | refine xG_getI rfl (by exact rfl) (by exact rfl) ?_ | refine xG_getR rfl (by exact rfl) (by exact rfl) ?_ | refine xG_add rfl ?_ | refine xG_sub rfl ?_ | refine xG_mul rfl ?_ | refine xG_putI rfl (by exact rfl) (by exact rfl) ?_ | refine xG_go (fun _ => rfl) ?_)
        exact xG_ret (fun _ => rfl) ⟨rfl, by rw [if_pos (by omega)]⟩
    · cases k with
      | zero => exact absurd hk (by omega)
      | succ k =>
        iterate 3 (first | refine xG_getI rfl (by exact rfl) (by exact rfl) ?_ | refine xG_getR rfl (by exact rfl) (by exact rfl) ?_ | refine xG_add rfl ?_ | refine xG_sub rfl ?_ | refine xG_mul rfl ?_ | refine xG_putI rfl (by exact rfl) (by exact rfl) ?_ | refine xG_go (fun _ => rfl) ?_)
        refine xV2 rfl hD.1 (by simp) (c_voteOf hD hl hd (by omega)) (fun r M' hq => ?_)
        obtain ⟨rfl, rfl⟩ := hq
        iterate 4 (first | refine xG_getI rfl (by exact rfl) (by exact rfl) ?_ | refine xG_getR rfl (by exact rfl) (by exact rfl) ?_ | refine xG_add rfl ?_ | refine xG_sub rfl ?_ | refine xG_mul rfl ?_ | refine xG_putI rfl (by exact rfl) (by exact rfl) ?_ | refine xG_go (fun _ => rfl) ?_)
        exact l_carries hD hl hd hn k (j + 1) (by omega)
theorem c_carries (hD : isDay D) (hl : lok M) (hd : dok (dv M D)) {nm : Nat} (hn : M 4 2 = nm) : xC sc (d + 3) n_Day_carries [mR D] M (fun r M' => M = M' ∧ r = some (mI (if 0 < marg (M 6) (dv M D) nm then 1 else 0))) := by
  refine xC_in rfl rfl (by simp; decide) ?_
  iterate 4 (first | refine xG_getI rfl (by exact rfl) (by exact rfl) ?_ | refine xG_getR rfl (by exact rfl) (by exact rfl) ?_ | refine xG_add rfl ?_ | refine xG_sub rfl ?_ | refine xG_mul rfl ?_ | refine xG_putI rfl (by exact rfl) (by exact rfl) ?_ | refine xG_go (fun _ => rfl) ?_)
  exact l_carries hD hl hd hn nm 0 (by omega)
end XD
