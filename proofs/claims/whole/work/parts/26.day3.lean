/-! THE DAY: plays, goes, starts, polls -/
section XF
variable {sc : Nat × (Nat → Int)} {d : Nat} {M : mv_M} {D : Nat}
/-- the class's likings -/
def lk (M : mv_M) : Nat → Nat → Int := fun m t => M (8 + m) t
theorem heard_in {tu : Int} {g : Nat → Int} {o : Nat} {t : Int} (ht : 1 ≤ tu ∧ tu ≤ 4) : 0 ≤ heard tu g o t ∧ heard tu g o t < tu := by
  unfold heard
  have h1 := Int.emod_nonneg (t + g (18 + o) / 4) (show tu ≠ 0 by omega)
  have h2 := Int.emod_lt_of_pos (t + g (18 + o) / 4) (show 0 < tu by omega)
  exact ⟨h1, h2⟩
theorem play_lo {nm : Nat} {tu : Int} {home : Nat → Int} {like : Nat → Nat → Int} {g : Nat → Int} {o : Nat} {t : Int} {i : Nat} (h : i < 3) : play nm tu home like g o t i = g i := by
  unfold play
  rw [if_neg (by omega), if_neg (by omega)]
theorem play_m {nm : Nat} {tu : Int} {home : Nat → Int} {like : Nat → Nat → Int} {g : Nat → Int} {o : Nat} {t : Int} {m : Nat} (h : m < 6) : play nm tu home like g o t (3 + m) = if m < nm ∧ home m = g (15 + o) then clampM (g (3 + m) + like m (heard tu g o t).toNat) else g (3 + m) := by
  unfold play
  rw [show 3 + m - 3 = m by omega]
  by_cases c : m < nm ∧ home m = g (15 + o)
  · rw [if_pos ⟨by omega, by omega, c.2⟩, if_pos c]
  · rw [if_neg (fun z => c ⟨by omega, z.2.2⟩), if_neg c, if_neg (by omega)]
theorem play_np {nm : Nat} (hn : nm ≤ 6) {tu : Int} {home : Nat → Int} {like : Nat → Nat → Int} {g : Nat → Int} {o : Nat} {t : Int} {i : Nat} (h : 9 ≤ i) (h2 : i < 18) : play nm tu home like g o t i = g i := by
  unfold play
  rw [if_neg (by omega), if_neg (by omega)]
theorem play_w {nm : Nat} (hn : nm ≤ 6) {tu : Int} {home : Nat → Int} {like : Nat → Nat → Int} {g : Nat → Int} {o : Nat} {t : Int} {q : Nat} : play nm tu home like g o t (18 + q) = if q = o then (if g (18 + o) < 15 then g (18 + o) + 1 else 15) else g (18 + q) := by
  unfold play
  rw [if_neg (by omega)]
  by_cases c : q = o
  · rw [if_pos (by omega), if_pos c]
  · rw [if_neg (by omega), if_neg c]
theorem c_sounds (hD : isDay D) (h29 : 29 ≤ D) (hl : lok M) (hd : dok (dv M D)) {nm : Nat} (hn : M 4 2 = nm) {o : Nat} (ho : o < 3) {t : Int} (ht : 0 ≤ t ∧ t < M 4 1) :
    xC sc (d + 1) n_Day_sounds [mR D, mI o, mI t] M (fun r M' => r = some (mI (heard (M 4 1) (dv M D) o t)) ∧ dv M' D = play nm (M 4 1) (M 5) (lk M) (dv M D) o t ∧ ∀ a, a ≠ D + 1 → a ≠ D + 4 → M' a = M a) := by
  have h0 := hl.2.1
  have h1 := hl.2.2.1
  have h2 := d_wear hd ho
  have hh := heard_in (g := dv M D) (o := o) (t := t) h0
  have eh : heard (M 4 1) (dv M D) o t = (t + M (D + 4) o / 4) % M 4 1 := by unfold heard; rw [dv_w]
  obtain ⟨h, eq⟩ := Int.eq_ofNat_of_zero_le hh.1
  refine xC_in rfl rfl (by simp; decide) ?_
  have e : M = mv_row M (D + 1) (sndg M D o h 0) := (mv_row_self (fun i => by simp [sndg])).symm
  have key := l_sounds (sc := sc) (d := d) (t := mI t) (u := mI (t + M (D + 4) o / 4)) (Q := (fun r M' => r = some (mI (heard (M 4 1) (dv M D) o t)) ∧ dv M' D = play nm (M 4 1) (M 5) (lk M) (dv M D) o t ∧ ∀ a, a ≠ D + 1 → a ≠ D + 4 → M' a = M a)) hD h29 hl hd hn ho (show h < 4 by omega) (fun x5 => ?_) nm 0 none (by omega)
  · rw [← e] at key
    iterate 4 (first | refine xG_getI rfl hD.1 (by exact rfl) ?_ | refine xG_getR rfl hD.1 (by exact rfl) ?_ | refine xG_putI rfl hD.1 (by exact rfl) ?_ | refine xG_getI rfl (by exact rfl) (by exact rfl) ?_ | refine xG_getR rfl (by exact rfl) (by exact rfl) ?_ | refine xG_add rfl ?_ | refine xG_sub rfl ?_ | refine xG_mul rfl ?_ | refine xG_putI rfl (by exact rfl) (by exact rfl) ?_ | refine xG_go (fun _ => rfl) ?_)
    refine xG_ald rfl hD.2.2.2.2 (by omega) ?_
    iterate 1 (first | refine xG_getI rfl (by exact rfl) (by exact rfl) ?_ | refine xG_getR rfl (by exact rfl) (by exact rfl) ?_ | refine xG_add rfl ?_ | refine xG_sub rfl ?_ | refine xG_mul rfl ?_ | refine xG_putI rfl (by exact rfl) (by exact rfl) ?_ | refine xG_go (fun _ => rfl) ?_)
    refine xG_div rfl (by simp only [Int.toNat_natCast]; omega) ?_
    simp only [Int.toNat_natCast]
    iterate 6 (first | refine xG_getI rfl hD.1 (by exact rfl) ?_ | refine xG_getR rfl hD.1 (by exact rfl) ?_ | refine xG_putI rfl hD.1 (by exact rfl) ?_ | refine xG_getI rfl (by exact rfl) (by exact rfl) ?_ | refine xG_getR rfl (by exact rfl) (by exact rfl) ?_ | refine xG_add rfl ?_ | refine xG_sub rfl ?_ | refine xG_mul rfl ?_ | refine xG_putI rfl (by exact rfl) (by exact rfl) ?_ | refine xG_go (fun _ => rfl) ?_)
    refine xb_le rfl (by omega) (by omega) (fun c1 => ?_) (fun c1 => ?_)
    · iterate 4 (first | refine xG_getI rfl (by exact rfl) (by exact rfl) ?_ | refine xG_getR rfl (by exact rfl) (by exact rfl) ?_ | refine xG_add rfl ?_ | refine xG_sub rfl ?_ | refine xG_mul rfl ?_ | refine xG_putI rfl (by exact rfl) (by exact rfl) ?_ | refine xG_go (fun _ => rfl) ?_)
      have h9 : h = 0 := by omega
      subst h9
      exact key
    · iterate 4 (first | refine xG_getI rfl hD.1 (by exact rfl) ?_ | refine xG_getR rfl hD.1 (by exact rfl) ?_ | refine xG_putI rfl hD.1 (by exact rfl) ?_ | refine xG_getI rfl (by exact rfl) (by exact rfl) ?_ | refine xG_getR rfl (by exact rfl) (by exact rfl) ?_ | refine xG_add rfl ?_ | refine xG_sub rfl ?_ | refine xG_mul rfl ?_ | refine xG_putI rfl (by exact rfl) (by exact rfl) ?_ | refine xG_go (fun _ => rfl) ?_)
      refine xG_rem rfl (by omega) ?_
      rw [← eh, eq]
      iterate 4 (first | refine xG_getI rfl (by exact rfl) (by exact rfl) ?_ | refine xG_getR rfl (by exact rfl) (by exact rfl) ?_ | refine xG_add rfl ?_ | refine xG_sub rfl ?_ | refine xG_mul rfl ?_ | refine xG_putI rfl (by exact rfl) (by exact rfl) ?_ | refine xG_go (fun _ => rfl) ?_)
      rw [eq] at key
      exact key
  · have ew : ∀ g, mv_row M (D + 1) g (D + 4) = M (D + 4) := fun g => mv_row_ne (by omega)
    iterate 7 (first | refine xG_getI rfl hD.1 (by exact rfl) ?_ | refine xG_getR rfl hD.1 (by exact rfl) ?_ | refine xG_putI rfl hD.1 (by exact rfl) ?_ | refine xG_getI rfl (by exact rfl) (by exact rfl) ?_ | refine xG_getR rfl (by exact rfl) (by exact rfl) ?_ | refine xG_add rfl ?_ | refine xG_sub rfl ?_ | refine xG_mul rfl ?_ | refine xG_putI rfl (by exact rfl) (by exact rfl) ?_ | refine xG_go (fun _ => rfl) ?_)
    refine xG_ald rfl hD.2.2.2.2 (by omega) ?_
    simp only [Int.toNat_natCast]
    rw [ew]
    iterate 2 (first | refine xG_getI rfl (by exact rfl) (by exact rfl) ?_ | refine xG_getR rfl (by exact rfl) (by exact rfl) ?_ | refine xG_add rfl ?_ | refine xG_sub rfl ?_ | refine xG_mul rfl ?_ | refine xG_putI rfl (by exact rfl) (by exact rfl) ?_ | refine xG_go (fun _ => rfl) ?_)
    refine xG_min rfl (by omega) (by omega) (by simp) ?_
    refine xG_ast rfl hD.2.2.2.2 (by omega) ?_
    rw [Int.toNat_natCast]
    iterate 1 (first | refine xG_getI rfl (by exact rfl) (by exact rfl) ?_ | refine xG_getR rfl (by exact rfl) (by exact rfl) ?_ | refine xG_add rfl ?_ | refine xG_sub rfl ?_ | refine xG_mul rfl ?_ | refine xG_putI rfl (by exact rfl) (by exact rfl) ?_ | refine xG_go (fun _ => rfl) ?_)
    refine xG_ret (fun _ => rfl) ⟨by rw [eq], ?_, fun a ha hb => ?_⟩
    · have hnm : nm ≤ 6 := by omega
      apply dv_ext
      · rw [mv_upne (by omega), mv_row_ne (by omega), play_lo (by omega)]; rfl
      · rw [mv_upne (by omega), mv_row_ne (by omega), play_lo (by omega)]; rfl
      · rw [mv_upne (by omega), mv_row_ne (by omega), play_lo (by omega)]; rfl
      · intro m hm
        rw [mv_upne (by omega), mv_row_at, play_m hm, dv_m hm, dv_p ho, eq, Int.toNat_natCast]
        rfl
      · intro m hm
        rw [mv_upne (by omega), mv_row_ne (by omega), play_np hnm (by omega) (by omega), dv_n hm]
      · intro m hm
        rw [mv_upne (by omega), mv_row_ne (by omega), play_np hnm (by omega) (by omega), dv_p hm]
      · intro q
        rw [play_w hnm, dv_w, dv_w]
        by_cases c : q = o
        · subst c
          rw [mv_up_at, if_pos rfl]
          split <;> split <;> omega
        · rw [mv_up_j c, if_neg c, ew]
    · rw [mv_upne hb, mv_row_ne ha]
/-- a place written -/
def setp (g : Nat → Int) (i : Nat) (v : Int) : Nat → Int := fun j => if j = i then v else g j
theorem dv_up5 {v : Int} : dv (mv_up M D 5 v) D = setp (dv M D) 0 v := by
  have e : ∀ k, 0 < k → mv_up M D 5 v (D + k) = M (D + k) := fun k hk => mv_upne (by omega)
  apply dv_ext
  · rw [mv_up_at]; rfl
  · rw [mv_up_j (by decide)]; rfl
  · rw [mv_up_j (by decide)]; rfl
  · intro m hm; rw [e _ (by omega)]; unfold setp; rw [if_neg (by omega), dv_m hm]
  · intro m hm; rw [e _ (by omega)]; unfold setp; rw [if_neg (by omega), dv_n hm]
  · intro m hm; rw [e _ (by omega)]; unfold setp; rw [if_neg (by omega), dv_p hm]
  · intro m; rw [e _ (by omega)]; unfold setp; rw [if_neg (by omega), dv_w]
theorem dv_upn {v : Int} {m : Nat} (hm : m < 6) : dv (mv_up M (D + 2) m v) D = setp (dv M D) (9 + m) v := by
  apply dv_ext
  · rw [mv_upne (by omega)]; unfold setp; rw [if_neg (by omega)]; rfl
  · rw [mv_upne (by omega)]; unfold setp; rw [if_neg (by omega)]; rfl
  · rw [mv_upne (by omega)]; unfold setp; rw [if_neg (by omega)]; rfl
  · intro q hq; rw [mv_upne (by omega)]; unfold setp; rw [if_neg (by omega), dv_m hq]
  · intro q hq
    unfold setp
    by_cases c : q = m
    · subst c; rw [mv_up_at, if_pos rfl]
    · rw [mv_up_j c, if_neg (by omega), dv_n hq]
  · intro q hq; rw [mv_upne (by omega)]; unfold setp; rw [if_neg (by omega), dv_p hq]
  · intro q; rw [mv_upne (by omega)]; unfold setp; rw [if_neg (by omega), dv_w]
theorem dv_upp {v : Int} {o : Nat} (ho : o < 3) : dv (mv_up M (D + 3) o v) D = setp (dv M D) (15 + o) v := by
  apply dv_ext
  · rw [mv_upne (by omega)]; unfold setp; rw [if_neg (by omega)]; rfl
  · rw [mv_upne (by omega)]; unfold setp; rw [if_neg (by omega)]; rfl
  · rw [mv_upne (by omega)]; unfold setp; rw [if_neg (by omega)]; rfl
  · intro q hq; rw [mv_upne (by omega)]; unfold setp; rw [if_neg (by omega), dv_m hq]
  · intro q hq; rw [mv_upne (by omega)]; unfold setp; rw [if_neg (by omega), dv_n hq]
  · intro q hq
    unfold setp
    by_cases c : q = o
    · subst c; rw [mv_up_at, if_pos rfl]
    · rw [mv_up_j c, if_neg (by omega), dv_p hq]
  · intro q; rw [mv_upne (by omega)]; unfold setp; rw [if_neg (by omega), dv_w]
theorem dv_upw {v : Int} {o : Nat} : dv (mv_up M (D + 4) o v) D = setp (dv M D) (18 + o) v := by
  apply dv_ext
  · rw [mv_upne (by omega)]; unfold setp; rw [if_neg (by omega)]; rfl
  · rw [mv_upne (by omega)]; unfold setp; rw [if_neg (by omega)]; rfl
  · rw [mv_upne (by omega)]; unfold setp; rw [if_neg (by omega)]; rfl
  · intro q hq; rw [mv_upne (by omega)]; unfold setp; rw [if_neg (by omega), dv_m hq]
  · intro q hq; rw [mv_upne (by omega)]; unfold setp; rw [if_neg (by omega), dv_n hq]
  · intro q hq; rw [mv_upne (by omega)]; unfold setp; rw [if_neg (by omega), dv_p hq]
  · intro q
    unfold setp
    by_cases c : q = o
    · subst c; rw [mv_up_at, if_pos rfl]
    · rw [mv_up_j c, if_neg (by omega), dv_w]
theorem c_goesOn (hD : isDay D) (hl : lok M) (hd : dok (dv M D)) {o : Nat} (ho : o < 3) (hp : M (D + 3) o < M 4 0) : xC sc (d + 1) n_Day_goesOn [mR D, mI o] M (fun r M' => r = some (mI ((M (D + 3) o + 1) % M 4 0)) ∧ M' = mv_up M (D + 3) o ((M (D + 3) o + 1) % M 4 0)) := by
  have h0 := hl.1
  have h1 := d_place hd ho
  refine xC_in rfl rfl (by simp; decide) ?_
  iterate 6 (first | refine xG_getI rfl hD.1 (by exact rfl) ?_ | refine xG_getR rfl hD.1 (by exact rfl) ?_ | refine xG_putI rfl hD.1 (by exact rfl) ?_ | refine xG_getI rfl (by exact rfl) (by exact rfl) ?_ | refine xG_getR rfl (by exact rfl) (by exact rfl) ?_ | refine xG_add rfl ?_ | refine xG_sub rfl ?_ | refine xG_mul rfl ?_ | refine xG_putI rfl (by exact rfl) (by exact rfl) ?_ | refine xG_go (fun _ => rfl) ?_)
  refine xG_ald rfl hD.2.2.2.1 (by omega) ?_
  simp only [Int.toNat_natCast]
  iterate 5 (first | refine xG_getI rfl hD.1 (by exact rfl) ?_ | refine xG_getR rfl hD.1 (by exact rfl) ?_ | refine xG_putI rfl hD.1 (by exact rfl) ?_ | refine xG_getI rfl (by exact rfl) (by exact rfl) ?_ | refine xG_getR rfl (by exact rfl) (by exact rfl) ?_ | refine xG_add rfl ?_ | refine xG_sub rfl ?_ | refine xG_mul rfl ?_ | refine xG_putI rfl (by exact rfl) (by exact rfl) ?_ | refine xG_go (fun _ => rfl) ?_)
  refine xb_ge rfl (by omega) (by omega) (fun c1 => ?_) (fun c1 => ?_)
  · have e : (M (D + 3) o + 1) % M 4 0 = 0 := by
      have : M (D + 3) o + 1 = M 4 0 := by omega
      rw [this, Int.emod_self]
    rw [e]
    iterate 1 (first | refine xG_getI rfl (by exact rfl) (by exact rfl) ?_ | refine xG_getR rfl (by exact rfl) (by exact rfl) ?_ | refine xG_add rfl ?_ | refine xG_sub rfl ?_ | refine xG_mul rfl ?_ | refine xG_putI rfl (by exact rfl) (by exact rfl) ?_ | refine xG_go (fun _ => rfl) ?_)
    refine xG_ast rfl hD.2.2.2.1 (by omega) ?_
    rw [Int.toNat_natCast]
    iterate 3 (first | refine xG_getI rfl hD.1 (by exact rfl) ?_ | refine xG_getR rfl hD.1 (by exact rfl) ?_ | refine xG_putI rfl hD.1 (by exact rfl) ?_ | refine xG_getI rfl (by exact rfl) (by exact rfl) ?_ | refine xG_getR rfl (by exact rfl) (by exact rfl) ?_ | refine xG_add rfl ?_ | refine xG_sub rfl ?_ | refine xG_mul rfl ?_ | refine xG_putI rfl (by exact rfl) (by exact rfl) ?_ | refine xG_go (fun _ => rfl) ?_)
    refine xG_ald rfl hD.2.2.2.1 (by omega) ?_
    simp only [Int.toNat_natCast]
    rw [mv_up_at]
    exact xG_ret (fun _ => rfl) ⟨rfl, rfl⟩
  · have e : (M (D + 3) o + 1) % M 4 0 = M (D + 3) o + 1 := Int.emod_eq_of_lt (by omega) (by omega)
    rw [e]
    iterate 3 (first | refine xG_getI rfl hD.1 (by exact rfl) ?_ | refine xG_getR rfl hD.1 (by exact rfl) ?_ | refine xG_putI rfl hD.1 (by exact rfl) ?_ | refine xG_getI rfl (by exact rfl) (by exact rfl) ?_ | refine xG_getR rfl (by exact rfl) (by exact rfl) ?_ | refine xG_add rfl ?_ | refine xG_sub rfl ?_ | refine xG_mul rfl ?_ | refine xG_putI rfl (by exact rfl) (by exact rfl) ?_ | refine xG_go (fun _ => rfl) ?_)
    refine xG_ald rfl hD.2.2.2.1 (by omega) ?_
    simp only [Int.toNat_natCast]
    iterate 3 (first | refine xG_getI rfl (by exact rfl) (by exact rfl) ?_ | refine xG_getR rfl (by exact rfl) (by exact rfl) ?_ | refine xG_add rfl ?_ | refine xG_sub rfl ?_ | refine xG_mul rfl ?_ | refine xG_putI rfl (by exact rfl) (by exact rfl) ?_ | refine xG_go (fun _ => rfl) ?_)
    refine xG_ast rfl hD.2.2.2.1 (by omega) ?_
    rw [Int.toNat_natCast]
    iterate 3 (first | refine xG_getI rfl hD.1 (by exact rfl) ?_ | refine xG_getR rfl hD.1 (by exact rfl) ?_ | refine xG_putI rfl hD.1 (by exact rfl) ?_ | refine xG_getI rfl (by exact rfl) (by exact rfl) ?_ | refine xG_getR rfl (by exact rfl) (by exact rfl) ?_ | refine xG_add rfl ?_ | refine xG_sub rfl ?_ | refine xG_mul rfl ?_ | refine xG_putI rfl (by exact rfl) (by exact rfl) ?_ | refine xG_go (fun _ => rfl) ?_)
    refine xG_ald rfl hD.2.2.2.1 (by omega) ?_
    simp only [Int.toNat_natCast]
    rw [mv_up_at]
    exact xG_ret (fun _ => rfl) ⟨rfl, rfl⟩
theorem c_goesAhead (hD : isDay D) (hl : lok M) (hd : dok (dv M D)) {o : Nat} (ho : o < 3) (hp : M (D + 3) o < M 4 0) : xC sc (d + 1) n_Day_goesAhead [mR D, mI o] M (fun r M' => r = some (mI ((M (D + 3) o + (M 4 0 - 1)) % M 4 0)) ∧ M' = mv_up M (D + 3) o ((M (D + 3) o + (M 4 0 - 1)) % M 4 0)) := by
  have h0 := hl.1
  have h1 := d_place hd ho
  refine xC_in rfl rfl (by simp; decide) ?_
  iterate 6 (first | refine xG_getI rfl hD.1 (by exact rfl) ?_ | refine xG_getR rfl hD.1 (by exact rfl) ?_ | refine xG_putI rfl hD.1 (by exact rfl) ?_ | refine xG_getI rfl (by exact rfl) (by exact rfl) ?_ | refine xG_getR rfl (by exact rfl) (by exact rfl) ?_ | refine xG_add rfl ?_ | refine xG_sub rfl ?_ | refine xG_mul rfl ?_ | refine xG_putI rfl (by exact rfl) (by exact rfl) ?_ | refine xG_go (fun _ => rfl) ?_)
  refine xG_ald rfl hD.2.2.2.1 (by omega) ?_
  simp only [Int.toNat_natCast]
  refine xi_le rfl (by omega) (fun c1 => ?_) (fun c1 => ?_)
  · have e : (M (D + 3) o + (M 4 0 - 1)) % M 4 0 = M 4 0 - 1 := by
      rw [show M (D + 3) o = 0 by omega, Int.zero_add]
      exact Int.emod_eq_of_lt (by omega) (by omega)
    rw [e]
    iterate 5 (first | refine xG_getI rfl hD.1 (by exact rfl) ?_ | refine xG_getR rfl hD.1 (by exact rfl) ?_ | refine xG_putI rfl hD.1 (by exact rfl) ?_ | refine xG_getI rfl (by exact rfl) (by exact rfl) ?_ | refine xG_getR rfl (by exact rfl) (by exact rfl) ?_ | refine xG_add rfl ?_ | refine xG_sub rfl ?_ | refine xG_mul rfl ?_ | refine xG_putI rfl (by exact rfl) (by exact rfl) ?_ | refine xG_go (fun _ => rfl) ?_)
    refine xG_ast rfl hD.2.2.2.1 (by omega) ?_
    rw [Int.toNat_natCast]
    iterate 3 (first | refine xG_getI rfl hD.1 (by exact rfl) ?_ | refine xG_getR rfl hD.1 (by exact rfl) ?_ | refine xG_putI rfl hD.1 (by exact rfl) ?_ | refine xG_getI rfl (by exact rfl) (by exact rfl) ?_ | refine xG_getR rfl (by exact rfl) (by exact rfl) ?_ | refine xG_add rfl ?_ | refine xG_sub rfl ?_ | refine xG_mul rfl ?_ | refine xG_putI rfl (by exact rfl) (by exact rfl) ?_ | refine xG_go (fun _ => rfl) ?_)
    refine xG_ald rfl hD.2.2.2.1 (by omega) ?_
    simp only [Int.toNat_natCast]
    rw [mv_up_at]
    exact xG_ret (fun _ => rfl) ⟨rfl, rfl⟩
  · have e : (M (D + 3) o + (M 4 0 - 1)) % M 4 0 = M (D + 3) o - 1 := by
      rw [show M (D + 3) o + (M 4 0 - 1) = (M (D + 3) o - 1) + M 4 0 by omega, Int.add_emod_right]
      exact Int.emod_eq_of_lt (by omega) (by omega)
    rw [e]
    iterate 3 (first | refine xG_getI rfl hD.1 (by exact rfl) ?_ | refine xG_getR rfl hD.1 (by exact rfl) ?_ | refine xG_putI rfl hD.1 (by exact rfl) ?_ | refine xG_getI rfl (by exact rfl) (by exact rfl) ?_ | refine xG_getR rfl (by exact rfl) (by exact rfl) ?_ | refine xG_add rfl ?_ | refine xG_sub rfl ?_ | refine xG_mul rfl ?_ | refine xG_putI rfl (by exact rfl) (by exact rfl) ?_ | refine xG_go (fun _ => rfl) ?_)
    refine xG_ald rfl hD.2.2.2.1 (by omega) ?_
    simp only [Int.toNat_natCast]
    iterate 3 (first | refine xG_getI rfl (by exact rfl) (by exact rfl) ?_ | refine xG_getR rfl (by exact rfl) (by exact rfl) ?_ | refine xG_add rfl ?_ | refine xG_sub rfl ?_ | refine xG_mul rfl ?_ | refine xG_putI rfl (by exact rfl) (by exact rfl) ?_ | refine xG_go (fun _ => rfl) ?_)
    refine xG_ast rfl hD.2.2.2.1 (by omega) ?_
    rw [Int.toNat_natCast]
    iterate 3 (first | refine xG_getI rfl hD.1 (by exact rfl) ?_ | refine xG_getR rfl hD.1 (by exact rfl) ?_ | refine xG_putI rfl hD.1 (by exact rfl) ?_ | refine xG_getI rfl (by exact rfl) (by exact rfl) ?_ | refine xG_getR rfl (by exact rfl) (by exact rfl) ?_ | refine xG_add rfl ?_ | refine xG_sub rfl ?_ | refine xG_mul rfl ?_ | refine xG_putI rfl (by exact rfl) (by exact rfl) ?_ | refine xG_go (fun _ => rfl) ?_)
    refine xG_ald rfl hD.2.2.2.1 (by omega) ?_
    simp only [Int.toNat_natCast]
    rw [mv_up_at]
    exact xG_ret (fun _ => rfl) ⟨rfl, rfl⟩
end XF
