/-! THE DAY: what changes it -/
theorem dv_ext {M : mv_M} {D : Nat} {g : Nat → Int} (h0 : M D 5 = g 0) (h1 : M D 6 = g 1) (h2 : M D 7 = g 2) (hm : ∀ m, m < 6 → M (D + 1) m = g (3 + m)) (hn : ∀ m, m < 6 → M (D + 2) m = g (9 + m)) (hp : ∀ o, o < 3 → M (D + 3) o = g (15 + o)) (hw : ∀ o, M (D + 4) o = g (18 + o)) : dv M D = g := by
  funext i
  unfold dv
  by_cases c0 : i = 0
  · rw [if_pos c0, c0]; exact h0
  · rw [if_neg c0]
    by_cases c1 : i = 1
    · rw [if_pos c1, c1]; exact h1
    · rw [if_neg c1]
      by_cases c2 : i = 2
      · rw [if_pos c2, c2]; exact h2
      · rw [if_neg c2]
        by_cases c3 : i < 9
        · rw [if_pos c3, hm (i - 3) (by omega)]; congr 1; omega
        · rw [if_neg c3]
          by_cases c4 : i < 15
          · rw [if_pos c4, hn (i - 9) (by omega)]; congr 1; omega
          · rw [if_neg c4]
            by_cases c5 : i < 18
            · rw [if_pos c5, hp (i - 15) (by omega)]; congr 1; omega
            · rw [if_neg c5, hw (i - 18)]; congr 1; omega
theorem dv_21 {M : mv_M} {D : Nat} {g : Nat → Int} (h0 : M D 5 = g 0) (h1 : M D 6 = g 1) (h2 : M D 7 = g 2) (hm : ∀ m, m < 6 → M (D + 1) m = g (3 + m)) (hn : ∀ m, m < 6 → M (D + 2) m = g (9 + m)) (hp : ∀ o, o < 3 → M (D + 3) o = g (15 + o)) (hw : ∀ o, o < 3 → M (D + 4) o = g (18 + o)) : ∀ i, i < 21 → dv M D i = g i := by
  intro i hi
  by_cases c0 : i = 0
  · rw [c0, dv_0]; exact h0
  · by_cases c1 : i = 1
    · rw [c1, dv_1]; exact h1
    · by_cases c2 : i = 2
      · rw [c2, dv_2]; exact h2
      · by_cases c3 : i < 9
        · obtain ⟨m, rfl⟩ : ∃ m, i = 3 + m := ⟨i - 3, by omega⟩
          rw [dv_m (by omega)]; exact hm m (by omega)
        · by_cases c4 : i < 15
          · obtain ⟨m, rfl⟩ : ∃ m, i = 9 + m := ⟨i - 9, by omega⟩
            rw [dv_n (by omega)]; exact hn m (by omega)
          · by_cases c5 : i < 18
            · obtain ⟨m, rfl⟩ : ∃ m, i = 15 + m := ⟨i - 15, by omega⟩
              rw [dv_p (by omega)]; exact hp m (by omega)
            · obtain ⟨m, rfl⟩ : ∃ m, i = 18 + m := ⟨i - 18, by omega⟩
              rw [dv_w]; exact hw m (by omega)
theorem mv_up_row {M : mv_M} {r j : Nat} {g : Nat → Int} {v : Int} : mv_up (mv_row M r g) r j v = mv_row M r (fun i => if i = j then v else g i) := by
  funext a i
  unfold mv_up mv_row
  by_cases h : a = r
  · rw [if_pos h]
    by_cases q : i = j
    · simp [h, q]
    · simp [h, q]
  · simp [h]
theorem mv_row_self {M : mv_M} {r : Nat} {g : Nat → Int} (h : ∀ i, g i = M r i) : mv_row M r g = M := by
  funext a i
  unfold mv_row
  by_cases q : a = r
  · rw [if_pos q, q]; exact h i
  · rw [if_neg q]
theorem mv_upne {M : mv_M} {r i q : Nat} {x : Int} (hq : q ≠ r) : mv_up M r i x q = M q := mv_up_ne hq
theorem xG_alen {sc : Nat × (Nat → Int)} {d : Nat} {y : mv_Y} {pc : Nat} {L : mv_L} {S : List mv_V} {Q : Option mv_V → mv_M → Prop} {M : mv_M} {a b len r n : Nat} {z0 : Int} (hf : mv_find y.2.2 pc = some (.arraylength, len, a, b, z0)) (hk : SK[r]? = some (.inl (0, n))) (kk : xG sc d y (pc + len) L (mI n :: S) M Q) : xG sc d y pc L (mR r :: S) M Q := by
  refine xG_by hf (fun call => ?_) kk
  simp [mv_stp, mv_alen, hk, mv_nx]
section XE
variable {sc : Nat × (Nat → Int)} {d : Nat} {M : mv_M} {D : Nat}
/-- a row whose first n places are 0 -/
def zrow (M : mv_M) (r n : Nat) : Nat → Int := fun i => if i < n then 0 else M r i
theorem l_fill {r n : Nat} (hr : SK[r]? = some (.inl (0, n))) (hn : n ≤ 1000) : ∀ (k j : Nat), j + k = n → xG sc d y_JArr_fill 5 [some (mR r), some (mI 0), some (mI j), some (mI n)] [] (mv_row M r (zrow M r j)) (fun ro M' => ro = none ∧ M' = mv_row M r (zrow M r n)) := by
  intro k
  induction k with
  | zero =>
    intro j hk
    iterate 2 (first | refine xG_getI rfl (by exact rfl) (by exact rfl) ?_ | refine xG_getR rfl (by exact rfl) (by exact rfl) ?_ | refine xG_add rfl ?_ | refine xG_sub rfl ?_ | refine xG_mul rfl ?_ | refine xG_putI rfl (by exact rfl) (by exact rfl) ?_ | refine xG_go (fun _ => rfl) ?_)
    refine xb_ge rfl (by omega) (by omega) (fun c1 => ?_) (fun c1 => absurd c1 (by omega))
    have : j = n := by omega
    subst this
    exact xG_ret (fun _ => rfl) ⟨rfl, rfl⟩
  | succ k ih =>
    intro j hk
    iterate 2 (first | refine xG_getI rfl (by exact rfl) (by exact rfl) ?_ | refine xG_getR rfl (by exact rfl) (by exact rfl) ?_ | refine xG_add rfl ?_ | refine xG_sub rfl ?_ | refine xG_mul rfl ?_ | refine xG_putI rfl (by exact rfl) (by exact rfl) ?_ | refine xG_go (fun _ => rfl) ?_)
    refine xb_ge rfl (by omega) (by omega) (fun c1 => absurd c1 (by omega)) (fun c1 => ?_)
    iterate 3 (first | refine xG_getI rfl (by exact rfl) (by exact rfl) ?_ | refine xG_getR rfl (by exact rfl) (by exact rfl) ?_ | refine xG_add rfl ?_ | refine xG_sub rfl ?_ | refine xG_mul rfl ?_ | refine xG_putI rfl (by exact rfl) (by exact rfl) ?_ | refine xG_go (fun _ => rfl) ?_)
    refine xG_ast rfl hr (by omega) ?_
    rw [mv_up_row, Int.toNat_natCast]
    iterate 2 (first | refine xG_getI rfl (by exact rfl) (by exact rfl) ?_ | refine xG_getR rfl (by exact rfl) (by exact rfl) ?_ | refine xG_add rfl ?_ | refine xG_sub rfl ?_ | refine xG_mul rfl ?_ | refine xG_putI rfl (by exact rfl) (by exact rfl) ?_ | refine xG_go (fun _ => rfl) ?_)
    have e : (fun i => if i = j then (0 : Int) else zrow M r j i) = zrow M r (j + 1) := by
      funext i
      unfold zrow
      by_cases q : i = j
      · rw [if_pos q, if_pos (by omega)]
      · rw [if_neg q]
        by_cases w : i < j
        · rw [if_pos w, if_pos (by omega)]
        · rw [if_neg w, if_neg (by omega)]
    rw [e]
    exact ih (j + 1) (by omega)
theorem c_fill {r n : Nat} (hr : SK[r]? = some (.inl (0, n))) (hn : n ≤ 1000) : xC sc (d + 1) n_JArr_fill [mR r, mI 0] M (fun ro M' => ro = none ∧ M' = mv_row M r (zrow M r n)) := by
  refine xC_in rfl rfl (by simp; decide) ?_
  iterate 3 (first | refine xG_getI rfl (by exact rfl) (by exact rfl) ?_ | refine xG_getR rfl (by exact rfl) (by exact rfl) ?_ | refine xG_add rfl ?_ | refine xG_sub rfl ?_ | refine xG_mul rfl ?_ | refine xG_putI rfl (by exact rfl) (by exact rfl) ?_ | refine xG_go (fun _ => rfl) ?_)
  refine xG_alen rfl hr ?_
  iterate 1 (first | refine xG_getI rfl (by exact rfl) (by exact rfl) ?_ | refine xG_getR rfl (by exact rfl) (by exact rfl) ?_ | refine xG_add rfl ?_ | refine xG_sub rfl ?_ | refine xG_mul rfl ?_ | refine xG_putI rfl (by exact rfl) (by exact rfl) ?_ | refine xG_go (fun _ => rfl) ?_)
  have e : M = mv_row M r (zrow M r 0) := (mv_row_self (fun i => by simp [zrow])).symm
  have key := l_fill (sc := sc) (d := d) (M := M) hr hn n 0 (by omega)
  rw [← e] at key
  exact key
/-- Day.becomes: the day at D is the one at E; nothing else changes -/
theorem c_becomes {E : Nat} (hD : isDay D) (hE : isDay E) (hne : D + 5 ≤ E ∨ E + 5 ≤ D) : xC sc (d + 1) n_Day_becomes [mR D, mR E] M (fun ro M' => ro = none ∧ (∀ i, i < 21 → dv M' D i = dv M E i) ∧ ∀ a, (a < D ∨ D + 5 ≤ a) → M' a = M a) := by
  refine xC_in rfl rfl (by simp; decide) ?_
  iterate 7 (first | refine xG_getI rfl hD.1 (by exact rfl) ?_ | refine xG_getR rfl hD.1 (by exact rfl) ?_ | refine xG_putI rfl hD.1 (by exact rfl) ?_ | refine xG_getI rfl hE.1 (by exact rfl) ?_ | refine xG_getR rfl hE.1 (by exact rfl) ?_ | refine xG_putI rfl hE.1 (by exact rfl) ?_ | refine xG_getI rfl (by exact rfl) (by exact rfl) ?_ | refine xG_getR rfl (by exact rfl) (by exact rfl) ?_ | refine xG_add rfl ?_ | refine xG_sub rfl ?_ | refine xG_mul rfl ?_ | refine xG_putI rfl (by exact rfl) (by exact rfl) ?_ | refine xG_go (fun _ => rfl) ?_)
  refine xG_copy rfl hE.2.1 hD.2.1 (by simp) (by omega) ?_
  iterate 7 (first | refine xG_getI rfl hD.1 (by exact rfl) ?_ | refine xG_getR rfl hD.1 (by exact rfl) ?_ | refine xG_putI rfl hD.1 (by exact rfl) ?_ | refine xG_getI rfl hE.1 (by exact rfl) ?_ | refine xG_getR rfl hE.1 (by exact rfl) ?_ | refine xG_putI rfl hE.1 (by exact rfl) ?_ | refine xG_getI rfl (by exact rfl) (by exact rfl) ?_ | refine xG_getR rfl (by exact rfl) (by exact rfl) ?_ | refine xG_add rfl ?_ | refine xG_sub rfl ?_ | refine xG_mul rfl ?_ | refine xG_putI rfl (by exact rfl) (by exact rfl) ?_ | refine xG_go (fun _ => rfl) ?_)
  refine xG_copy rfl hE.2.2.1 hD.2.2.1 (by simp) (by omega) ?_
  iterate 7 (first | refine xG_getI rfl hD.1 (by exact rfl) ?_ | refine xG_getR rfl hD.1 (by exact rfl) ?_ | refine xG_putI rfl hD.1 (by exact rfl) ?_ | refine xG_getI rfl hE.1 (by exact rfl) ?_ | refine xG_getR rfl hE.1 (by exact rfl) ?_ | refine xG_putI rfl hE.1 (by exact rfl) ?_ | refine xG_getI rfl (by exact rfl) (by exact rfl) ?_ | refine xG_getR rfl (by exact rfl) (by exact rfl) ?_ | refine xG_add rfl ?_ | refine xG_sub rfl ?_ | refine xG_mul rfl ?_ | refine xG_putI rfl (by exact rfl) (by exact rfl) ?_ | refine xG_go (fun _ => rfl) ?_)
  refine xG_copy rfl hE.2.2.2.1 hD.2.2.2.1 (by simp) (by omega) ?_
  iterate 7 (first | refine xG_getI rfl hD.1 (by exact rfl) ?_ | refine xG_getR rfl hD.1 (by exact rfl) ?_ | refine xG_putI rfl hD.1 (by exact rfl) ?_ | refine xG_getI rfl hE.1 (by exact rfl) ?_ | refine xG_getR rfl hE.1 (by exact rfl) ?_ | refine xG_putI rfl hE.1 (by exact rfl) ?_ | refine xG_getI rfl (by exact rfl) (by exact rfl) ?_ | refine xG_getR rfl (by exact rfl) (by exact rfl) ?_ | refine xG_add rfl ?_ | refine xG_sub rfl ?_ | refine xG_mul rfl ?_ | refine xG_putI rfl (by exact rfl) (by exact rfl) ?_ | refine xG_go (fun _ => rfl) ?_)
  refine xG_copy rfl hE.2.2.2.2 hD.2.2.2.2 (by simp) (by omega) ?_
  iterate 12 (first | refine xG_getI rfl hD.1 (by exact rfl) ?_ | refine xG_getR rfl hD.1 (by exact rfl) ?_ | refine xG_putI rfl hD.1 (by exact rfl) ?_ | refine xG_getI rfl hE.1 (by exact rfl) ?_ | refine xG_getR rfl hE.1 (by exact rfl) ?_ | refine xG_putI rfl hE.1 (by exact rfl) ?_ | refine xG_getI rfl (by exact rfl) (by exact rfl) ?_ | refine xG_getR rfl (by exact rfl) (by exact rfl) ?_ | refine xG_add rfl ?_ | refine xG_sub rfl ?_ | refine xG_mul rfl ?_ | refine xG_putI rfl (by exact rfl) (by exact rfl) ?_ | refine xG_go (fun _ => rfl) ?_)
  refine xG_ret (fun _ => rfl) ⟨rfl, ?_, ?_⟩
  · apply dv_21
    · rw [mv_up_j (by decide), mv_up_j (by decide), mv_up_at, mv_row_ne (by omega), mv_row_ne (by omega), mv_row_ne (by omega), mv_row_ne (by omega)]
      rfl
    · rw [mv_up_j (by decide), mv_up_at, mv_upne (by omega), mv_row_ne (by omega), mv_row_ne (by omega), mv_row_ne (by omega), mv_row_ne (by omega)]
      rfl
    · rw [mv_up_at, mv_upne (by omega), mv_upne (by omega), mv_row_ne (by omega), mv_row_ne (by omega), mv_row_ne (by omega), mv_row_ne (by omega)]
      rfl
    · intro m hm
      rw [mv_upne (by omega), mv_upne (by omega), mv_upne (by omega), mv_row_ne (by omega), mv_row_ne (by omega), mv_row_ne (by omega), mv_row_at, if_pos ⟨by simp, by simp; omega⟩, dv_m hm]
      congr 1
      simp
    · intro m hm
      rw [mv_upne (by omega), mv_upne (by omega), mv_upne (by omega), mv_row_ne (by omega), mv_row_ne (by omega), mv_row_at, if_pos ⟨by simp, by simp; omega⟩, mv_row_ne (by omega), dv_n hm]
      congr 1
      simp
    · intro m hm
      rw [mv_upne (by omega), mv_upne (by omega), mv_upne (by omega), mv_row_ne (by omega), mv_row_at, if_pos ⟨by simp, by simp; omega⟩, mv_row_ne (by omega), mv_row_ne (by omega), dv_p hm]
      congr 1
      simp
    · intro m hm
      rw [mv_upne (by omega), mv_upne (by omega), mv_upne (by omega), mv_row_at, if_pos ⟨by simp, by simp; omega⟩, mv_row_ne (by omega), mv_row_ne (by omega), mv_row_ne (by omega), dv_w]
      congr 1
      simp
  · intro a ha
    rw [mv_upne (by omega), mv_upne (by omega), mv_upne (by omega), mv_row_ne (by omega), mv_row_ne (by omega), mv_row_ne (by omega), mv_row_ne (by omega)]
/-- the moods when j monkeys have heard -/
def sndg (M : mv_M) (D o h : Nat) (j : Nat) : Nat → Int := fun i => if i < j ∧ M 5 i = M (D + 3) o then clampM (M (D + 1) i + M (8 + i) h) else M (D + 1) i
theorem clampM_eq {x : Int} : (if (-99 : Int) < (if x < 99 then x else 99) then (if x < 99 then x else 99) else -99) = clampM x := by
  unfold clampM
  split <;> split <;> split <;> omega
theorem sk_like {m : Nat} (hm : m < 6) : SK[8 + m]? = some (.inl (0, 4)) ∧ [some 8, some 9, some 10, some 11, some 12, some 13][m]? = some (some (8 + m)) := by
  rcases (show m = 0 ∨ m = 1 ∨ m = 2 ∨ m = 3 ∨ m = 4 ∨ m = 5 by omega) with rfl | rfl | rfl | rfl | rfl | rfl <;> exact ⟨rfl, rfl⟩
theorem l_sounds (hD : isDay D) (h29 : 29 ≤ D) (hl : lok M) (hd : dok (dv M D)) {nm : Nat} (hn : M 4 2 = nm) {o h : Nat} (ho : o < 3) (hh : h < 4) {t u : mv_V} {Q : Option mv_V → mv_M → Prop} (kk : ∀ x5, xG sc d y_Day_sounds 119 [some (mR D), some (mI o), some t, some u, some (mI h), some (mI nm), x5] [] (mv_row M (D + 1) (sndg M D o h nm)) Q) :
    ∀ (k j : Nat) (x5 : Option mv_V), j + k = nm → xG sc d y_Day_sounds 40 [some (mR D), some (mI o), some t, some u, some (mI h), some (mI j), x5] [] (mv_row M (D + 1) (sndg M D o h j)) Q := by
  have h0 := hl.2.2.1
  have e4 : ∀ g, mv_row M (D + 1) g 4 = M 4 := fun g => mv_row_ne (by omega)
  have e5 : ∀ g, mv_row M (D + 1) g 5 = M 5 := fun g => mv_row_ne (by omega)
  have ep : ∀ g, mv_row M (D + 1) g (D + 3) = M (D + 3) := fun g => mv_row_ne (by omega)
  intro k
  induction k with
  | zero =>
    intro j x5 hk
    iterate 4 (first | refine xG_getI rfl hD.1 (by exact rfl) ?_ | refine xG_getR rfl hD.1 (by exact rfl) ?_ | refine xG_putI rfl hD.1 (by exact rfl) ?_ | refine xG_getI rfl (by exact rfl) (by exact rfl) ?_ | refine xG_getR rfl (by exact rfl) (by exact rfl) ?_ | refine xG_add rfl ?_ | refine xG_sub rfl ?_ | refine xG_mul rfl ?_ | refine xG_putI rfl (by exact rfl) (by exact rfl) ?_ | refine xG_go (fun _ => rfl) ?_)
    rw [e4]
    refine xb_ge rfl (by omega) (by omega) (fun c1 => ?_) (fun c1 => absurd c1 (by omega))
    have : j = nm := by omega
    subst this
    exact kk x5
  | succ k ih =>
    intro j x5 hk
    have hj : j < 6 := by omega
    have h1 := hl.2.2.2.2.1 j hj
    have h2 := d_place hd ho
    have h3 := d_mood hd hj
    have h4 := hl.2.2.2.2.2.2.1 j h hj hh
    iterate 4 (first | refine xG_getI rfl hD.1 (by exact rfl) ?_ | refine xG_getR rfl hD.1 (by exact rfl) ?_ | refine xG_putI rfl hD.1 (by exact rfl) ?_ | refine xG_getI rfl (by exact rfl) (by exact rfl) ?_ | refine xG_getR rfl (by exact rfl) (by exact rfl) ?_ | refine xG_add rfl ?_ | refine xG_sub rfl ?_ | refine xG_mul rfl ?_ | refine xG_putI rfl (by exact rfl) (by exact rfl) ?_ | refine xG_go (fun _ => rfl) ?_)
    rw [e4]
    refine xb_ge rfl (by omega) (by omega) (fun c1 => absurd c1 (by omega)) (fun c1 => ?_)
    iterate 4 (first | refine xG_getI rfl hD.1 (by exact rfl) ?_ | refine xG_getR rfl hD.1 (by exact rfl) ?_ | refine xG_putI rfl hD.1 (by exact rfl) ?_ | refine xG_getI rfl (by exact rfl) (by exact rfl) ?_ | refine xG_getR rfl (by exact rfl) (by exact rfl) ?_ | refine xG_add rfl ?_ | refine xG_sub rfl ?_ | refine xG_mul rfl ?_ | refine xG_putI rfl (by exact rfl) (by exact rfl) ?_ | refine xG_go (fun _ => rfl) ?_)
    refine xG_ald rfl (by exact rfl) (by omega) ?_
    iterate 3 (first | refine xG_getI rfl hD.1 (by exact rfl) ?_ | refine xG_getR rfl hD.1 (by exact rfl) ?_ | refine xG_putI rfl hD.1 (by exact rfl) ?_ | refine xG_getI rfl (by exact rfl) (by exact rfl) ?_ | refine xG_getR rfl (by exact rfl) (by exact rfl) ?_ | refine xG_add rfl ?_ | refine xG_sub rfl ?_ | refine xG_mul rfl ?_ | refine xG_putI rfl (by exact rfl) (by exact rfl) ?_ | refine xG_go (fun _ => rfl) ?_)
    refine xG_ald rfl hD.2.2.2.1 (by omega) ?_
    simp only [Int.toNat_natCast]
    rw [e5, ep]
    refine xb_ne rfl (by omega) (by omega) (fun c2 => ?_) (fun c2 => ?_)
    · iterate 2 (first | refine xG_getI rfl (by exact rfl) (by exact rfl) ?_ | refine xG_getR rfl (by exact rfl) (by exact rfl) ?_ | refine xG_add rfl ?_ | refine xG_sub rfl ?_ | refine xG_mul rfl ?_ | refine xG_putI rfl (by exact rfl) (by exact rfl) ?_ | refine xG_go (fun _ => rfl) ?_)
      have e : sndg M D o h j = sndg M D o h (j + 1) := by
        funext i
        unfold sndg
        by_cases q : i = j
        · subst q
          rw [if_neg (by omega), if_neg (fun z => c2 z.2)]
        · by_cases w : i < j ∧ M 5 i = M (D + 3) o
          · rw [if_pos w, if_pos ⟨by omega, w.2⟩]
          · rw [if_neg w, if_neg (fun z => w ⟨by omega, z.2⟩)]
      rw [e]
      exact ih (j + 1) x5 (by omega)
    · iterate 3 (first | refine xG_getI rfl hD.1 (by exact rfl) ?_ | refine xG_getR rfl hD.1 (by exact rfl) ?_ | refine xG_putI rfl hD.1 (by exact rfl) ?_ | refine xG_getI rfl (by exact rfl) (by exact rfl) ?_ | refine xG_getR rfl (by exact rfl) (by exact rfl) ?_ | refine xG_add rfl ?_ | refine xG_sub rfl ?_ | refine xG_mul rfl ?_ | refine xG_putI rfl (by exact rfl) (by exact rfl) ?_ | refine xG_go (fun _ => rfl) ?_)
      refine xG_ald rfl hD.2.1 (by omega) ?_
      iterate 4 (first | refine xG_getI rfl hD.1 (by exact rfl) ?_ | refine xG_getR rfl hD.1 (by exact rfl) ?_ | refine xG_putI rfl hD.1 (by exact rfl) ?_ | refine xG_getI rfl (by exact rfl) (by exact rfl) ?_ | refine xG_getR rfl (by exact rfl) (by exact rfl) ?_ | refine xG_add rfl ?_ | refine xG_sub rfl ?_ | refine xG_mul rfl ?_ | refine xG_putI rfl (by exact rfl) (by exact rfl) ?_ | refine xG_go (fun _ => rfl) ?_)
      refine xG_aald rfl (by exact rfl) (Or.inr rfl) (by omega) (by rw [Int.toNat_natCast]; exact (sk_like hj).2) ?_
      iterate 1 (first | refine xG_getI rfl (by exact rfl) (by exact rfl) ?_ | refine xG_getR rfl (by exact rfl) (by exact rfl) ?_ | refine xG_add rfl ?_ | refine xG_sub rfl ?_ | refine xG_mul rfl ?_ | refine xG_putI rfl (by exact rfl) (by exact rfl) ?_ | refine xG_go (fun _ => rfl) ?_)
      refine xG_ald rfl (sk_like hj).1 (by omega) ?_
      simp only [Int.toNat_natCast]
      rw [mv_row_at, mv_row_ne (show 8 + j ≠ D + 1 by omega), show sndg M D o h j j = M (D + 1) j by unfold sndg; rw [if_neg (by omega)]]
      iterate 8 (first | refine xG_getI rfl hD.1 (by exact rfl) ?_ | refine xG_getR rfl hD.1 (by exact rfl) ?_ | refine xG_putI rfl hD.1 (by exact rfl) ?_ | refine xG_getI rfl (by exact rfl) (by exact rfl) ?_ | refine xG_getR rfl (by exact rfl) (by exact rfl) ?_ | refine xG_add rfl ?_ | refine xG_sub rfl ?_ | refine xG_mul rfl ?_ | refine xG_putI rfl (by exact rfl) (by exact rfl) ?_ | refine xG_go (fun _ => rfl) ?_)
      refine xG_min rfl (by omega) (by omega) (by simp) ?_
      refine xG_max rfl (by omega) (by split <;> omega) (by simp) ?_
      rw [clampM_eq]
      refine xG_ast rfl hD.2.1 (by omega) ?_
      rw [mv_up_row, Int.toNat_natCast]
      iterate 2 (first | refine xG_getI rfl (by exact rfl) (by exact rfl) ?_ | refine xG_getR rfl (by exact rfl) (by exact rfl) ?_ | refine xG_add rfl ?_ | refine xG_sub rfl ?_ | refine xG_mul rfl ?_ | refine xG_putI rfl (by exact rfl) (by exact rfl) ?_ | refine xG_go (fun _ => rfl) ?_)
      have e : (fun i => if i = j then clampM (M (D + 1) j + M (8 + j) h) else sndg M D o h j i) = sndg M D o h (j + 1) := by
        funext i
        unfold sndg
        by_cases q : i = j
        · subst q
          rw [if_pos rfl, if_pos ⟨by omega, c2⟩]
        · rw [if_neg q]
          by_cases w : i < j ∧ M 5 i = M (D + 3) o
          · rw [if_pos w, if_pos ⟨by omega, w.2⟩]
          · rw [if_neg w, if_neg (fun z => w ⟨by omega, z.2⟩)]
      rw [e]
      exact ih (j + 1) _ (by omega)
end XE
