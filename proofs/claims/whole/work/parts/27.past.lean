/-! SWITCHES; THE DAY'S START AND POLL; THE PAST; KINDS -/
section XH
variable {sc : Nat × (Nat → Int)} {d : Nat} {y : mv_Y} {pc : Nat} {L : mv_L} {S : List mv_V} {Q : Option mv_V → mv_M → Prop} {M : mv_M}
theorem xT_out {len a b : Nat} {z0 x dd lo hi : Int} {os : Array Int} (hf : mv_find y.2.2 pc = some (.tableswitch dd lo hi os, len, a, b, z0)) (hx : mv_in x) (ho : x < lo ∨ hi < x) (kk : xG sc d y (mv_tg pc dd) L S M Q) : xG sc d y pc L (mI x :: S) M Q := by
  refine xG_by hf (fun call => ?_) kk
  simp only [mv_stp]
  rw [if_pos hx, if_pos ho]
  rfl
theorem xK_out {len a b : Nat} {z0 x dd : Int} {ps : Array (Int × Int)} (hf : mv_find y.2.2 pc = some (.lookupswitch dd ps, len, a, b, z0)) (hx : mv_in x) (ho : Op.lookupswitch.offset ps.toList dd x = dd) (kk : xG sc d y (mv_tg pc dd) L S M Q) : xG sc d y pc L (mI x :: S) M Q := by
  refine xG_by hf (fun call => ?_) kk
  simp only [mv_stp]
  rw [if_pos hx, ho]
  rfl
end XH
section XJ
variable {sc : Nat × (Nat → Int)} {d : Nat} {M : mv_M}
/-- a day as told: moods, nuts and cold 0, organs at their places -/
theorem c_starts : xC sc (d + 2) n_Day_starts [mR 29] M (fun ro M' => ro = none ∧ (∀ i, i < 15 → dv M' 29 i = 0) ∧ (∀ o, o < 3 → dv M' 29 (15 + o) = M 14 o ∧ dv M' 29 (18 + o) = M 15 o) ∧ ∀ a, (a < 29 ∨ 34 ≤ a) → M' a = M a) := by
  refine xC_in rfl rfl (by simp; decide) ?_
  iterate 3 (first | refine xG_getI rfl (by exact rfl) (by exact rfl) ?_ | refine xG_getR rfl (by exact rfl) (by exact rfl) ?_ | refine xG_add rfl ?_ | refine xG_sub rfl ?_ | refine xG_mul rfl ?_ | refine xG_putI rfl (by exact rfl) (by exact rfl) ?_ | refine xG_go (fun _ => rfl) ?_)
  refine xS2 rfl (by decide) (by simp) (c_fill (r := 30) (n := 6) rfl (by decide)) (fun r M1 hq => ?_)
  obtain ⟨rfl, e1⟩ := hq
  iterate 3 (first | refine xG_getI rfl (by exact rfl) (by exact rfl) ?_ | refine xG_getR rfl (by exact rfl) (by exact rfl) ?_ | refine xG_add rfl ?_ | refine xG_sub rfl ?_ | refine xG_mul rfl ?_ | refine xG_putI rfl (by exact rfl) (by exact rfl) ?_ | refine xG_go (fun _ => rfl) ?_)
  refine xS2 rfl (by decide) (by simp) (c_fill (r := 31) (n := 6) rfl (by decide)) (fun r M2 hq => ?_)
  obtain ⟨rfl, e2⟩ := hq
  iterate 8 (first | refine xG_getI rfl (by exact rfl) (by exact rfl) ?_ | refine xG_getR rfl (by exact rfl) (by exact rfl) ?_ | refine xG_add rfl ?_ | refine xG_sub rfl ?_ | refine xG_mul rfl ?_ | refine xG_putI rfl (by exact rfl) (by exact rfl) ?_ | refine xG_go (fun _ => rfl) ?_)
  refine xG_copy rfl (by exact rfl) (by exact rfl) (by simp) (by omega) ?_
  iterate 8 (first | refine xG_getI rfl (by exact rfl) (by exact rfl) ?_ | refine xG_getR rfl (by exact rfl) (by exact rfl) ?_ | refine xG_add rfl ?_ | refine xG_sub rfl ?_ | refine xG_mul rfl ?_ | refine xG_putI rfl (by exact rfl) (by exact rfl) ?_ | refine xG_go (fun _ => rfl) ?_)
  refine xG_copy rfl (by exact rfl) (by exact rfl) (by simp) (by omega) ?_
  iterate 9 (first | refine xG_getI rfl (by exact rfl) (by exact rfl) ?_ | refine xG_getR rfl (by exact rfl) (by exact rfl) ?_ | refine xG_add rfl ?_ | refine xG_sub rfl ?_ | refine xG_mul rfl ?_ | refine xG_putI rfl (by exact rfl) (by exact rfl) ?_ | refine xG_go (fun _ => rfl) ?_)
  have f1 : ∀ a, a ≠ 30 → M1 a = M a := fun a ha => by rw [e1]; exact mv_row_ne ha
  have f2 : ∀ a, a ≠ 31 → M2 a = M1 a := fun a ha => by rw [e2]; exact mv_row_ne ha
  refine xG_ret (fun _ => rfl) ⟨rfl, ?_, ?_, ?_⟩
  · intro i hi
    by_cases c0 : i = 0
    · subst c0; rw [dv_0, mv_up_j (by decide), mv_up_j (by decide), mv_up_at]
    · by_cases c1 : i = 1
      · subst c1; rw [dv_1, mv_up_j (by decide), mv_up_at]
      · by_cases c2 : i = 2
        · subst c2; rw [dv_2, mv_up_at]
        · by_cases c3 : i < 9
          · obtain ⟨m, rfl⟩ : ∃ m, i = 3 + m := ⟨i - 3, by omega⟩
            rw [dv_m (by omega), mv_upne (by omega), mv_upne (by omega), mv_upne (by omega), mv_row_ne (by omega), mv_row_ne (by omega), f2 _ (by omega), e1, mv_row_at]
            unfold zrow
            rw [if_pos (by omega)]
          · obtain ⟨m, rfl⟩ : ∃ m, i = 9 + m := ⟨i - 9, by omega⟩
            rw [dv_n (by omega), mv_upne (by omega), mv_upne (by omega), mv_upne (by omega), mv_row_ne (by omega), mv_row_ne (by omega), e2, mv_row_at]
            unfold zrow
            rw [if_pos (by omega)]
  · intro o ho
    constructor
    · rw [dv_p ho, mv_upne (by omega), mv_upne (by omega), mv_upne (by omega), mv_row_ne (by omega), mv_row_at, if_pos ⟨by simp, by simp; omega⟩, f2 _ (by decide), f1 _ (by decide)]
      congr 1
      simp
    · rw [dv_w, mv_upne (by omega), mv_upne (by omega), mv_upne (by omega), mv_row_at, if_pos ⟨by simp, by simp; omega⟩, mv_row_ne (by decide), f2 _ (by decide), f1 _ (by decide)]
      congr 1
      simp
  · intro a ha
    rw [mv_upne (by omega), mv_upne (by omega), mv_upne (by omega), mv_row_ne (by omega), mv_row_ne (by omega), f2 _ (by omega), f1 _ (by omega)]
/-- a poll on a day's row -/
def polled (b : Prop) [Decidable b] (g : Nat → Int) : Nat → Int := fun i => if 3 ≤ i ∧ i < 15 then 0 else if i = 1 ∧ b then (if g 1 < 999 then g 1 + 1 else 999) else if i = 2 ∧ ¬ b then (if g 2 < 999 then g 2 + 1 else 999) else g i
theorem c_polls (hl : lok M) (hd : dok (dv M 29)) {nm : Nat} (hn : M 4 2 = nm) : xC sc (d + 4) n_Day_polls [mR 29] M (fun r M' => r = some (mI (if 0 < marg (M 6) (dv M 29) nm then 1 else 0)) ∧ dv M' 29 = polled (0 < marg (M 6) (dv M 29) nm) (dv M 29) ∧ ∀ a, (a < 29 ∨ 34 ≤ a) → M' a = M a) := by
  have h1 := d_car hd
  have h2 := d_lost hd
  have fin : ∀ (x : Int) (M0 : mv_M), (x = 0 ∨ x = 1) → (x = if 0 < marg (M 6) (dv M 29) nm then 1 else 0) → dv M0 29 = polled (0 < marg (M 6) (dv M 29) nm) (dv M 29) ∨ (∀ i, ¬ (3 ≤ i ∧ i < 15) → dv M0 29 i = polled (0 < marg (M 6) (dv M 29) nm) (dv M 29) i) → (∀ a, (a < 29 ∨ 34 ≤ a) → M0 a = M a) →
      xG sc (d + 3) y_Day_polls 44 [some (mR 29), some (mI x)] [] M0 (fun r M' => r = some (mI (if 0 < marg (M 6) (dv M 29) nm then 1 else 0)) ∧ dv M' 29 = polled (0 < marg (M 6) (dv M 29) nm) (dv M 29) ∧ ∀ a, (a < 29 ∨ 34 ≤ a) → M' a = M a) := by
    intro x M0 hx ex hv hM0
    iterate 3 (first | refine xG_getI rfl (by exact rfl) (by exact rfl) ?_ | refine xG_getR rfl (by exact rfl) (by exact rfl) ?_ | refine xG_add rfl ?_ | refine xG_sub rfl ?_ | refine xG_mul rfl ?_ | refine xG_putI rfl (by exact rfl) (by exact rfl) ?_ | refine xG_go (fun _ => rfl) ?_)
    refine xS2 rfl (by decide) (by simp) (c_fill (r := 30) (n := 6) rfl (by decide)) (fun r M1 hq => ?_)
    obtain ⟨rfl, e1⟩ := hq
    iterate 3 (first | refine xG_getI rfl (by exact rfl) (by exact rfl) ?_ | refine xG_getR rfl (by exact rfl) (by exact rfl) ?_ | refine xG_add rfl ?_ | refine xG_sub rfl ?_ | refine xG_mul rfl ?_ | refine xG_putI rfl (by exact rfl) (by exact rfl) ?_ | refine xG_go (fun _ => rfl) ?_)
    refine xS2 rfl (by decide) (by simp) (c_fill (r := 31) (n := 6) rfl (by decide)) (fun r M2 hq => ?_)
    obtain ⟨rfl, e2⟩ := hq
    iterate 1 (first | refine xG_getI rfl (by exact rfl) (by exact rfl) ?_ | refine xG_getR rfl (by exact rfl) (by exact rfl) ?_ | refine xG_add rfl ?_ | refine xG_sub rfl ?_ | refine xG_mul rfl ?_ | refine xG_putI rfl (by exact rfl) (by exact rfl) ?_ | refine xG_go (fun _ => rfl) ?_)
    have f1 : ∀ a, a ≠ 30 → M1 a = M0 a := fun a ha => by rw [e1]; exact mv_row_ne ha
    have f2 : ∀ a, a ≠ 31 → M2 a = M1 a := fun a ha => by rw [e2]; exact mv_row_ne ha
    have hv2 : ∀ i, ¬ (3 ≤ i ∧ i < 15) → dv M0 29 i = polled (0 < marg (M 6) (dv M 29) nm) (dv M 29) i := by
      rcases hv with hv | hv
      · intro i _; rw [hv]
      · exact hv
    have hz : ∀ i, 3 ≤ i → i < 15 → polled (0 < marg (M 6) (dv M 29) nm) (dv M 29) i = 0 := fun i a b => by unfold polled; rw [if_pos ⟨a, b⟩]
    have fret : mv_at mv_df sc (fun _ _ _ => none) y_Day_polls (61, [some (mR 29), some (mI x)], [mI x], (SK, M2)) = mv_at mv_df sc (fun _ _ _ => none) y_Day_polls (61, [some (mR 29), some (mI x)], [mI x], (SK, M2)) := rfl
    refine xG_ret (r := some (mI x)) (fun call => ?_) ⟨by rw [ex], ?_, ?_⟩
    · rcases hx with rfl | rfl <;> rfl
    · apply dv_ext
      · rw [f2 _ (by decide), f1 _ (by decide)]; exact hv2 0 (by omega)
      · rw [f2 _ (by decide), f1 _ (by decide)]; exact hv2 1 (by omega)
      · rw [f2 _ (by decide), f1 _ (by decide)]; exact hv2 2 (by omega)
      · intro m hm
        rw [f2 _ (by decide), e1, mv_row_at, hz _ (by omega) (by omega)]
        unfold zrow
        rw [if_pos hm]
      · intro m hm
        rw [e2, mv_row_at, hz _ (by omega) (by omega)]
        unfold zrow
        rw [if_pos hm]
      · intro o ho
        have z := hv2 (15 + o) (by omega)
        rw [dv_p ho] at z
        rw [f2 _ (by decide), f1 _ (by decide)]
        exact z
      · intro o
        have z := hv2 (18 + o) (by omega)
        rw [dv_w] at z
        rw [f2 _ (by decide), f1 _ (by decide)]
        exact z
    · intro a ha
      rw [f2 _ (by omega), f1 _ (by omega)]
      exact hM0 a ha
  refine xC_in rfl rfl (by simp; decide) ?_
  iterate 1 (first | refine xG_getI rfl (by exact rfl) (by exact rfl) ?_ | refine xG_getR rfl (by exact rfl) (by exact rfl) ?_ | refine xG_add rfl ?_ | refine xG_sub rfl ?_ | refine xG_mul rfl ?_ | refine xG_putI rfl (by exact rfl) (by exact rfl) ?_ | refine xG_go (fun _ => rfl) ?_)
  refine xV1 rfl (by exact rfl) (by simp) (c_carries isDay_today hl hd hn) (fun r M' hq => ?_)
  obtain ⟨rfl, rfl⟩ := hq
  by_cases c : 0 < marg (M 6) (dv M 29) nm
  · rw [if_pos c]
    iterate 9 (first | refine xG_getI rfl (by exact rfl) (by exact rfl) ?_ | refine xG_getR rfl (by exact rfl) (by exact rfl) ?_ | refine xG_add rfl ?_ | refine xG_sub rfl ?_ | refine xG_mul rfl ?_ | refine xG_putI rfl (by exact rfl) (by exact rfl) ?_ | refine xG_go (fun _ => rfl) ?_)
    refine xG_min rfl (by omega) (by omega) (by simp) ?_
    obtain ⟨v, hv⟩ : ∃ v, v = (if M 29 6 + 1 < 999 then M 29 6 + 1 else 999) := ⟨_, rfl⟩
    rw [← hv]
    have hv : v = if M 29 6 < 999 then M 29 6 + 1 else 999 := by rw [hv]; split <;> split <;> omega
    iterate 2 (first | refine xG_getI rfl (by exact rfl) (by exact rfl) ?_ | refine xG_getR rfl (by exact rfl) (by exact rfl) ?_ | refine xG_add rfl ?_ | refine xG_sub rfl ?_ | refine xG_mul rfl ?_ | refine xG_putI rfl (by exact rfl) (by exact rfl) ?_ | refine xG_go (fun _ => rfl) ?_)
    rw [if_pos c] at fin
    refine fin 1 _ (Or.inr rfl) rfl (Or.inr (fun i hi => ?_)) (fun a ha => mv_upne (by omega))
    unfold polled
    rw [if_neg hi]
    by_cases c1 : i = 1
    · subst c1
      rw [if_pos ⟨rfl, c⟩, dv_1, mv_up_at]
      exact hv
    · rw [if_neg (fun z => c1 z.1), if_neg (fun z => z.2 c)]
      unfold dv
      by_cases c0 : i = 0
      · subst c0; rw [if_pos rfl, if_pos rfl, mv_up_j (by decide)]
      · rw [if_neg c0, if_neg c0, if_neg c1, if_neg c1]
        by_cases c2 : i = 2
        · subst c2; rw [if_pos rfl, if_pos rfl, mv_up_j (by decide)]
        · rw [if_neg c2, if_neg c2, mv_upne (by decide), mv_upne (by decide), mv_upne (by decide), mv_upne (by decide)]
  · rw [if_neg c]
    iterate 2 (first | refine xG_getI rfl (by exact rfl) (by exact rfl) ?_ | refine xG_getR rfl (by exact rfl) (by exact rfl) ?_ | refine xG_add rfl ?_ | refine xG_sub rfl ?_ | refine xG_mul rfl ?_ | refine xG_putI rfl (by exact rfl) (by exact rfl) ?_ | refine xG_go (fun _ => rfl) ?_)
    iterate 1 (first | refine xG_getI rfl (by exact rfl) (by exact rfl) ?_ | refine xG_getR rfl (by exact rfl) (by exact rfl) ?_ | refine xG_add rfl ?_ | refine xG_sub rfl ?_ | refine xG_mul rfl ?_ | refine xG_putI rfl (by exact rfl) (by exact rfl) ?_ | refine xG_go (fun _ => rfl) ?_)
    iterate 6 (first | refine xG_getI rfl (by exact rfl) (by exact rfl) ?_ | refine xG_getR rfl (by exact rfl) (by exact rfl) ?_ | refine xG_add rfl ?_ | refine xG_sub rfl ?_ | refine xG_mul rfl ?_ | refine xG_putI rfl (by exact rfl) (by exact rfl) ?_ | refine xG_go (fun _ => rfl) ?_)
    refine xG_min rfl (by omega) (by omega) (by simp) ?_
    obtain ⟨v, hv⟩ : ∃ v, v = (if M 29 7 + 1 < 999 then M 29 7 + 1 else 999) := ⟨_, rfl⟩
    rw [← hv]
    have hv : v = if M 29 7 < 999 then M 29 7 + 1 else 999 := by rw [hv]; split <;> split <;> omega
    iterate 1 (first | refine xG_getI rfl (by exact rfl) (by exact rfl) ?_ | refine xG_getR rfl (by exact rfl) (by exact rfl) ?_ | refine xG_add rfl ?_ | refine xG_sub rfl ?_ | refine xG_mul rfl ?_ | refine xG_putI rfl (by exact rfl) (by exact rfl) ?_ | refine xG_go (fun _ => rfl) ?_)
    rw [if_neg c] at fin
    refine fin 0 _ (Or.inl rfl) rfl (Or.inr (fun i hi => ?_)) (fun a ha => mv_upne (by omega))
    unfold polled
    rw [if_neg hi, if_neg (fun z => c z.2)]
    by_cases c2 : i = 2
    · subst c2
      rw [if_pos ⟨rfl, c⟩, dv_2, mv_up_at]
      exact hv
    · rw [if_neg (fun z => c2 z.1)]
      unfold dv
      by_cases c0 : i = 0
      · subst c0; rw [if_pos rfl, if_pos rfl, mv_up_j (by decide)]
      · rw [if_neg c0, if_neg c0]
        by_cases c1 : i = 1
        · subst c1; rw [if_pos rfl, if_pos rfl, mv_up_j (by decide)]
        · rw [if_neg c1, if_neg c1, if_neg c2, if_neg c2, mv_upne (by decide), mv_upne (by decide), mv_upne (by decide), mv_upne (by decide)]
theorem sk_past {f : Nat} (hf : f < 10) : [some 36, some 41, some 46, some 51, some 56, some 61, some 66, some 71, some 76, some 81][f]? = some (some (36 + 5 * f)) := by
  rcases (show f = 0 ∨ f = 1 ∨ f = 2 ∨ f = 3 ∨ f = 4 ∨ f = 5 ∨ f = 6 ∨ f = 7 ∨ f = 8 ∨ f = 9 by omega) with rfl | rfl | rfl | rfl | rfl | rfl | rfl | rfl | rfl | rfl <;> rfl
theorem c_remembers {f : Nat} (hf : f < 10) (ef : M 34 1 = f) (hm : 0 ≤ M 34 2 ∧ M 34 2 ≤ 10) : xC sc (d + 2) n_Past_remembers [mR 34, mR 29] M (fun ro M' => ro = none ∧ (∀ i, i < 21 → dv M' (36 + 5 * f) i = dv M 29 i) ∧ M' 34 1 = ((f + 1) % 10 : Nat) ∧ M' 34 2 = (if M 34 2 < 10 then M 34 2 + 1 else 10) ∧ ∀ a, a ≠ 34 → (a < 36 + 5 * f ∨ 36 + 5 * f + 5 ≤ a) → M' a = M a) := by
  refine xC_in rfl rfl (by simp; decide) ?_
  iterate 4 (first | refine xG_getI rfl (by exact rfl) (by exact rfl) ?_ | refine xG_getR rfl (by exact rfl) (by exact rfl) ?_ | refine xG_add rfl ?_ | refine xG_sub rfl ?_ | refine xG_mul rfl ?_ | refine xG_putI rfl (by exact rfl) (by exact rfl) ?_ | refine xG_go (fun _ => rfl) ?_)
  rw [ef]
  refine xG_aald rfl (by exact rfl) (Or.inl rfl) (by omega) (by rw [Int.toNat_natCast]; exact sk_past hf) ?_
  iterate 1 (first | refine xG_getI rfl (by exact rfl) (by exact rfl) ?_ | refine xG_getR rfl (by exact rfl) (by exact rfl) ?_ | refine xG_add rfl ?_ | refine xG_sub rfl ?_ | refine xG_mul rfl ?_ | refine xG_putI rfl (by exact rfl) (by exact rfl) ?_ | refine xG_go (fun _ => rfl) ?_)
  refine xV2 rfl (isDay_past f hf).1 (by simp) (c_becomes (isDay_past f hf) isDay_today (by omega)) (fun r M1 hq => ?_)
  obtain ⟨rfl, q1, q2⟩ := hq
  have e34 : M1 34 = M 34 := q2 34 (by omega)
  iterate 6 (first | refine xG_getI rfl (by exact rfl) (by exact rfl) ?_ | refine xG_getR rfl (by exact rfl) (by exact rfl) ?_ | refine xG_add rfl ?_ | refine xG_sub rfl ?_ | refine xG_mul rfl ?_ | refine xG_putI rfl (by exact rfl) (by exact rfl) ?_ | refine xG_go (fun _ => rfl) ?_)
  rw [e34, ef]
  refine xG_rem rfl (by omega) ?_
  iterate 7 (first | refine xG_getI rfl (by exact rfl) (by exact rfl) ?_ | refine xG_getR rfl (by exact rfl) (by exact rfl) ?_ | refine xG_add rfl ?_ | refine xG_sub rfl ?_ | refine xG_mul rfl ?_ | refine xG_putI rfl (by exact rfl) (by exact rfl) ?_ | refine xG_go (fun _ => rfl) ?_)
  rw [mv_up_j (by decide), e34]
  refine xG_min rfl (by omega) (by omega) (by simp) ?_
  iterate 1 (first | refine xG_getI rfl (by exact rfl) (by exact rfl) ?_ | refine xG_getR rfl (by exact rfl) (by exact rfl) ?_ | refine xG_add rfl ?_ | refine xG_sub rfl ?_ | refine xG_mul rfl ?_ | refine xG_putI rfl (by exact rfl) (by exact rfl) ?_ | refine xG_go (fun _ => rfl) ?_)
  refine xG_ret (fun _ => rfl) ⟨rfl, ?_, ?_, ?_, ?_⟩
  · intro i hi
    rw [← q1 i hi]
    unfold dv
    rw [mv_upne (by omega), mv_upne (by omega), mv_upne (by omega), mv_upne (by omega), mv_upne (by omega), mv_upne (by omega), mv_upne (by omega), mv_upne (by omega), mv_upne (by omega), mv_upne (by omega)]
  · rw [mv_up_j (by decide), mv_up_at]
    omega
  · rw [mv_up_at]
    split <;> split <;> omega
  · intro a h1 h2
    rw [mv_upne h1, mv_upne h1]
    exact q2 a h2
theorem c_returnsTo {f : Nat} (hf : f < 10) (ef : M 34 1 = f) (hm : 0 < M 34 2 ∧ M 34 2 ≤ 10) : xC sc (d + 2) n_Past_returnsTo [mR 34, mR 29] M (fun ro M' => ro = none ∧ (∀ i, i < 21 → dv M' 29 i = dv M (36 + 5 * ((f + 9) % 10)) i) ∧ M' 34 1 = ((f + 9) % 10 : Nat) ∧ M' 34 2 = M 34 2 - 1 ∧ ∀ a, a ≠ 34 → (a < 29 ∨ 34 ≤ a) → M' a = M a) := by
  have hg : (f + 9) % 10 < 10 := Nat.mod_lt _ (by decide)
  have eg : ((f : Int) + 10 - 1) % 10 = ((f + 9) % 10 : Nat) := by omega
  refine xC_in rfl rfl (by simp; decide) ?_
  iterate 8 (first | refine xG_getI rfl (by exact rfl) (by exact rfl) ?_ | refine xG_getR rfl (by exact rfl) (by exact rfl) ?_ | refine xG_add rfl ?_ | refine xG_sub rfl ?_ | refine xG_mul rfl ?_ | refine xG_putI rfl (by exact rfl) (by exact rfl) ?_ | refine xG_go (fun _ => rfl) ?_)
  rw [ef]
  refine xG_rem rfl (by omega) ?_
  rw [eg]
  generalize hgg : (f + 9) % 10 = g at hg
  iterate 6 (first | refine xG_getI rfl (by exact rfl) (by exact rfl) ?_ | refine xG_getR rfl (by exact rfl) (by exact rfl) ?_ | refine xG_add rfl ?_ | refine xG_sub rfl ?_ | refine xG_mul rfl ?_ | refine xG_putI rfl (by exact rfl) (by exact rfl) ?_ | refine xG_go (fun _ => rfl) ?_)
  rw [mv_up_at]
  refine xG_aald rfl (by exact rfl) (Or.inl rfl) (by omega) (by rw [Int.toNat_natCast]; exact sk_past hg) ?_
  refine xV2 rfl (by exact rfl) (by simp) (c_becomes isDay_today (isDay_past g hg) (by omega)) (fun r M1 hq => ?_)
  obtain ⟨rfl, q1, q2⟩ := hq
  have e34 : M1 34 = mv_up M 34 1 g 34 := q2 34 (by omega)
  iterate 5 (first | refine xG_getI rfl (by exact rfl) (by exact rfl) ?_ | refine xG_getR rfl (by exact rfl) (by exact rfl) ?_ | refine xG_add rfl ?_ | refine xG_sub rfl ?_ | refine xG_mul rfl ?_ | refine xG_putI rfl (by exact rfl) (by exact rfl) ?_ | refine xG_go (fun _ => rfl) ?_)
  rw [e34, mv_up_j (by decide)]
  iterate 1 (first | refine xG_getI rfl (by exact rfl) (by exact rfl) ?_ | refine xG_getR rfl (by exact rfl) (by exact rfl) ?_ | refine xG_add rfl ?_ | refine xG_sub rfl ?_ | refine xG_mul rfl ?_ | refine xG_putI rfl (by exact rfl) (by exact rfl) ?_ | refine xG_go (fun _ => rfl) ?_)
  refine xG_ret (fun _ => rfl) ⟨rfl, ?_, ?_, ?_, ?_⟩
  · intro i hi
    have e1 : dv (mv_up M1 34 2 (M 34 2 - 1)) 29 i = dv M1 29 i := by
      unfold dv
      rw [mv_upne (by decide), mv_upne (by decide), mv_upne (by decide), mv_upne (by decide), mv_upne (by decide)]
    have e2 : dv (mv_up M 34 1 g) (36 + 5 * g) i = dv M (36 + 5 * g) i := by
      unfold dv
      rw [mv_upne (by omega), mv_upne (by omega), mv_upne (by omega), mv_upne (by omega), mv_upne (by omega)]
    rw [e1, q1 i hi, e2]
  · rw [mv_up_j (by decide), e34, mv_up_at]
  · rw [mv_up_at]
  · intro a h1 h2
    rw [mv_upne h1, q2 a (by omega), mv_upne h1]
theorem c_losesAll : xC sc (d + 1) n_Past_losesAll [mR 34] M (fun ro M' => ro = none ∧ M' = mv_up M 34 2 0) := by
  refine xC_in rfl rfl (by simp; decide) ?_
  iterate 3 (first | refine xG_getI rfl (by exact rfl) (by exact rfl) ?_ | refine xG_getR rfl (by exact rfl) (by exact rfl) ?_ | refine xG_add rfl ?_ | refine xG_sub rfl ?_ | refine xG_mul rfl ?_ | refine xG_putI rfl (by exact rfl) (by exact rfl) ?_ | refine xG_go (fun _ => rfl) ?_)
  exact xG_ret (fun _ => rfl) ⟨rfl, rfl⟩
end XJ
