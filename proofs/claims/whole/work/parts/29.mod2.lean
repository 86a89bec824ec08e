/-! THE REFERENCE: played, remembers -/
section XO
variable {sc : Nat × (Nat → Int)} {d : Nat} {M : mv_M}
def plg (g home : Nat → Int) (like : Nat → Nat → Int) (o h j : Nat) : Nat → Int := fun i => if 3 ≤ i ∧ i < 3 + j ∧ home (i - 3) = g (15 + o) then clampM (g i + like (i - 3) h) else g i
theorem plg_hi {g home : Nat → Int} {like : Nat → Nat → Int} {o h j i : Nat} (hi : i < 3 ∨ 3 + j ≤ i) : plg g home like o h j i = g i := by
  unfold plg
  rw [if_neg (by omega)]
theorem plg_up {g home : Nat → Int} {like : Nat → Nat → Int} {o h j : Nat} (c : home j = g (15 + o)) : (fun i => if i = 3 + j then clampM (g (3 + j) + like j h) else plg g home like o h j i) = plg g home like o h (j + 1) := by
  funext i
  unfold plg
  by_cases q : i = 3 + j
  · subst q
    rw [if_pos rfl, show 3 + j - 3 = j by omega, if_pos ⟨by omega, by omega, c⟩]
  · rw [if_neg q]
    by_cases w : 3 ≤ i ∧ i < 3 + j ∧ home (i - 3) = g (15 + o)
    · rw [if_pos w, if_pos ⟨w.1, by omega, w.2.2⟩]
    · rw [if_neg w, if_neg (fun z => w ⟨z.1, by omega, z.2.2⟩)]
theorem plg_no {g home : Nat → Int} {like : Nat → Nat → Int} {o h j : Nat} (c : ¬ home j = g (15 + o)) : plg g home like o h j = plg g home like o h (j + 1) := by
  funext i
  unfold plg
  by_cases q : i = 3 + j
  · subst q
    rw [if_neg (by omega), show 3 + j - 3 = j by omega, if_neg (fun z => c z.2.2)]
  · by_cases w : 3 ≤ i ∧ i < 3 + j ∧ home (i - 3) = g (15 + o)
    · rw [if_pos w, if_pos ⟨w.1, by omega, w.2.2⟩]
    · rw [if_neg w, if_neg (fun z => w ⟨z.1, by omega, z.2.2⟩)]
theorem l_played (hl : mok M) (hd : dok (M 158)) {nm : Nat} (hn : M 143 2 = nm) {o h : Nat} (ho : o < 3) (hh : h < 4) {t : mv_V} {Q : Option mv_V → mv_M → Prop} (kk : ∀ x5, xG sc d y_Mod_played 102 [some (mR 143), some (mI o), some t, some (mI h), some (mI nm), x5] [] (mv_row M 158 (plg (M 158) (M 144) (mlk M) o h nm)) Q) :
    ∀ (k j : Nat) (x5 : Option mv_V), j + k = nm → xG sc d y_Mod_played 10 [some (mR 143), some (mI o), some t, some (mI h), some (mI j), x5] [] (mv_row M 158 (plg (M 158) (M 144) (mlk M) o h j)) Q := by
  have h0 := hl.2.2.1
  have e3 : ∀ g, mv_row M 158 g 143 = M 143 := fun g => mv_row_ne (by decide)
  have e4 : ∀ g, mv_row M 158 g 144 = M 144 := fun g => mv_row_ne (by decide)
  have e6 : ∀ g, mv_row M 158 g 146 = M 146 := fun g => mv_row_ne (by decide)
  have e8 : ∀ g, mv_row M 158 g 158 = g := fun g => mv_row_at
  intro k
  induction k with
  | zero =>
    intro j x5 hk
    iterate 3 (first | refine xG_getI rfl (by exact rfl) (by exact rfl) ?_ | refine xG_getR rfl (by exact rfl) (by exact rfl) ?_ | refine xG_add rfl ?_ | refine xG_sub rfl ?_ | refine xG_mul rfl ?_ | refine xG_putI rfl (by exact rfl) (by exact rfl) ?_ | refine xG_go (fun _ => rfl) ?_)
    rw [e3]
    refine xb_ge rfl (by omega) (by omega) (fun c1 => ?_) (fun c1 => absurd c1 (by omega))
    have : j = nm := by omega
    subst this
    exact kk x5
  | succ k ih =>
    intro j x5 hk
    have hj : j < 6 := by omega
    have h1 := hl.2.2.2.2.1 j hj
    have h2 := hd.2.2.2.2.2.1 o ho
    have h3 := hd.2.2.2.1 j hj
    have h4 := hl.2.2.2.2.2.2 (4 * j + h) (by omega)
    iterate 3 (first | refine xG_getI rfl (by exact rfl) (by exact rfl) ?_ | refine xG_getR rfl (by exact rfl) (by exact rfl) ?_ | refine xG_add rfl ?_ | refine xG_sub rfl ?_ | refine xG_mul rfl ?_ | refine xG_putI rfl (by exact rfl) (by exact rfl) ?_ | refine xG_go (fun _ => rfl) ?_)
    rw [e3]
    refine xb_ge rfl (by omega) (by omega) (fun c1 => absurd c1 (by omega)) (fun c1 => ?_)
    iterate 3 (first | refine xG_getI rfl (by exact rfl) (by exact rfl) ?_ | refine xG_getR rfl (by exact rfl) (by exact rfl) ?_ | refine xG_add rfl ?_ | refine xG_sub rfl ?_ | refine xG_mul rfl ?_ | refine xG_putI rfl (by exact rfl) (by exact rfl) ?_ | refine xG_go (fun _ => rfl) ?_)
    refine xG_ald rfl (by exact rfl) (by omega) ?_
    iterate 5 (first | refine xG_getI rfl (by exact rfl) (by exact rfl) ?_ | refine xG_getR rfl (by exact rfl) (by exact rfl) ?_ | refine xG_add rfl ?_ | refine xG_sub rfl ?_ | refine xG_mul rfl ?_ | refine xG_putI rfl (by exact rfl) (by exact rfl) ?_ | refine xG_go (fun _ => rfl) ?_)
    refine xG_ald rfl (by exact rfl) (by omega) ?_
    rw [e4, e8, Int.toNat_natCast, show ((15 : Int) + (o : Int)).toNat = 15 + o by omega, plg_hi (by omega)]
    refine xb_ne rfl (by omega) (by omega) (fun c2 => ?_) (fun c2 => ?_)
    · iterate 2 (first | refine xG_getI rfl (by exact rfl) (by exact rfl) ?_ | refine xG_getR rfl (by exact rfl) (by exact rfl) ?_ | refine xG_add rfl ?_ | refine xG_sub rfl ?_ | refine xG_mul rfl ?_ | refine xG_putI rfl (by exact rfl) (by exact rfl) ?_ | refine xG_go (fun _ => rfl) ?_)
      rw [plg_no c2]
      exact ih (j + 1) x5 (by omega)
    · iterate 5 (first | refine xG_getI rfl (by exact rfl) (by exact rfl) ?_ | refine xG_getR rfl (by exact rfl) (by exact rfl) ?_ | refine xG_add rfl ?_ | refine xG_sub rfl ?_ | refine xG_mul rfl ?_ | refine xG_putI rfl (by exact rfl) (by exact rfl) ?_ | refine xG_go (fun _ => rfl) ?_)
      refine xG_ald rfl (by exact rfl) (by omega) ?_
      iterate 7 (first | refine xG_getI rfl (by exact rfl) (by exact rfl) ?_ | refine xG_getR rfl (by exact rfl) (by exact rfl) ?_ | refine xG_add rfl ?_ | refine xG_sub rfl ?_ | refine xG_mul rfl ?_ | refine xG_putI rfl (by exact rfl) (by exact rfl) ?_ | refine xG_go (fun _ => rfl) ?_)
      refine xG_ald rfl (by exact rfl) (by omega) ?_
      rw [e6, e8, show ((3 : Int) + (j : Int)).toNat = 3 + j by omega, show ((4 : Int) * (j : Int) + (h : Int)).toNat = 4 * j + h by omega, plg_hi (by omega)]
      iterate 9 (first | refine xG_getI rfl (by exact rfl) (by exact rfl) ?_ | refine xG_getR rfl (by exact rfl) (by exact rfl) ?_ | refine xG_add rfl ?_ | refine xG_sub rfl ?_ | refine xG_mul rfl ?_ | refine xG_putI rfl (by exact rfl) (by exact rfl) ?_ | refine xG_go (fun _ => rfl) ?_)
      have fin : ∀ x5, xG sc d y_Mod_played 95 [some (mR 143), some (mI o), some t, some (mI h), some (mI j), x5] [mI (clampM (M 158 (3 + j) + M 146 (4 * j + h))), mI (3 + j), mR 158] (mv_row M 158 (plg (M 158) (M 144) (mlk M) o h j)) Q := by
        intro x5
        refine xG_ast rfl (by exact rfl) (by omega) ?_
        rw [mv_up_row, show ((3 : Int) + (j : Int)).toNat = 3 + j by omega, show M 146 (4 * j + h) = mlk M j h from rfl, plg_up c2]
        iterate 2 (first | refine xG_getI rfl (by exact rfl) (by exact rfl) ?_ | refine xG_getR rfl (by exact rfl) (by exact rfl) ?_ | refine xG_add rfl ?_ | refine xG_sub rfl ?_ | refine xG_mul rfl ?_ | refine xG_putI rfl (by exact rfl) (by exact rfl) ?_ | refine xG_go (fun _ => rfl) ?_)
        exact ih (j + 1) x5 (by omega)
      refine xb_le rfl (by omega) (by omega) (fun c3 => ?_) (fun c3 => ?_)
      · iterate 2 (first | refine xG_getI rfl (by exact rfl) (by exact rfl) ?_ | refine xG_getR rfl (by exact rfl) (by exact rfl) ?_ | refine xG_add rfl ?_ | refine xG_sub rfl ?_ | refine xG_mul rfl ?_ | refine xG_putI rfl (by exact rfl) (by exact rfl) ?_ | refine xG_go (fun _ => rfl) ?_)
        refine xb_ge rfl (by omega) (by omega) (fun c4 => ?_) (fun c4 => ?_)
        · iterate 1 (first | refine xG_getI rfl (by exact rfl) (by exact rfl) ?_ | refine xG_getR rfl (by exact rfl) (by exact rfl) ?_ | refine xG_add rfl ?_ | refine xG_sub rfl ?_ | refine xG_mul rfl ?_ | refine xG_putI rfl (by exact rfl) (by exact rfl) ?_ | refine xG_go (fun _ => rfl) ?_)
          have f2 := fin (some (mI (M 158 (3 + j) + M 146 (4 * j + h))))
          rw [show clampM (M 158 (3 + j) + M 146 (4 * j + h)) = M 158 (3 + j) + M 146 (4 * j + h) by unfold clampM; rw [if_neg (by omega), if_neg (by omega)]] at f2
          exact f2
        · iterate 2 (first | refine xG_getI rfl (by exact rfl) (by exact rfl) ?_ | refine xG_getR rfl (by exact rfl) (by exact rfl) ?_ | refine xG_add rfl ?_ | refine xG_sub rfl ?_ | refine xG_mul rfl ?_ | refine xG_putI rfl (by exact rfl) (by exact rfl) ?_ | refine xG_go (fun _ => rfl) ?_)
          have f2 := fin (some (mI (M 158 (3 + j) + M 146 (4 * j + h))))
          rw [show clampM (M 158 (3 + j) + M 146 (4 * j + h)) = -99 by unfold clampM; rw [if_pos (by omega)]] at f2
          exact f2
      · iterate 2 (first | refine xG_getI rfl (by exact rfl) (by exact rfl) ?_ | refine xG_getR rfl (by exact rfl) (by exact rfl) ?_ | refine xG_add rfl ?_ | refine xG_sub rfl ?_ | refine xG_mul rfl ?_ | refine xG_putI rfl (by exact rfl) (by exact rfl) ?_ | refine xG_go (fun _ => rfl) ?_)
        have f2 := fin (some (mI (M 158 (3 + j) + M 146 (4 * j + h))))
        rw [show clampM (M 158 (3 + j) + M 146 (4 * j + h)) = 99 by unfold clampM; rw [if_neg (by omega), if_pos (by omega)]] at f2
        exact f2
theorem plg_play {nm : Nat} {tu : Int} {home : Nat → Int} {like : Nat → Nat → Int} {g : Nat → Int} {o : Nat} {t : Int} {h : Nat} (hn : nm ≤ 6) (eq : heard tu g o t = h) : (fun i => if i = 18 + o then (if g (18 + o) < 15 then g (18 + o) + 1 else 15) else plg g home like o h nm i) = play nm tu home like g o t := by
  funext i
  unfold plg play
  by_cases q : i = 18 + o
  · subst q
    rw [if_pos rfl, if_neg (show ¬ (3 ≤ 18 + o ∧ 18 + o < 3 + nm ∧ home (18 + o - 3) = g (15 + o)) by omega), if_pos rfl]
  · rw [if_neg q, if_neg q, eq, Int.toNat_natCast]
theorem m_played (hl : mok M) (hd : dok (M 158)) {nm : Nat} (hn : M 143 2 = nm) {o : Nat} (ho : o < 3) {t : Int} (ht : 0 ≤ t ∧ t < M 143 1) : xC sc (d + 2) n_Mod_played [mR 143, mI o, mI t] M (fun r M' => r = some (mI (heard (M 143 1) (M 158) o t)) ∧ M' = mv_row M 158 (play nm (M 143 1) (M 144) (mlk M) (M 158) o t)) := by
  have h0 := hl.2.1
  have h1 := hl.2.2.1
  have h2 := hd.2.2.2.2.2.2 o ho
  have hh := heard_in (g := M 158) (o := o) (t := t) h0
  obtain ⟨h, eq⟩ := Int.eq_ofNat_of_zero_le hh.1
  have e8 : ∀ g, mv_row M 158 g 158 = g := fun g => mv_row_at
  refine xC_in rfl rfl (by simp; decide) ?_
  iterate 3 (first | refine xG_getI rfl (by exact rfl) (by exact rfl) ?_ | refine xG_getR rfl (by exact rfl) (by exact rfl) ?_ | refine xG_add rfl ?_ | refine xG_sub rfl ?_ | refine xG_mul rfl ?_ | refine xG_putI rfl (by exact rfl) (by exact rfl) ?_ | refine xG_go (fun _ => rfl) ?_)
  refine xV3 rfl (by exact rfl) (by simp) (m_heardBy hl hd ho ht) (fun r M' hq => ?_)
  obtain ⟨rfl, rfl⟩ := hq
  rw [eq]
  iterate 3 (first | refine xG_getI rfl (by exact rfl) (by exact rfl) ?_ | refine xG_getR rfl (by exact rfl) (by exact rfl) ?_ | refine xG_add rfl ?_ | refine xG_sub rfl ?_ | refine xG_mul rfl ?_ | refine xG_putI rfl (by exact rfl) (by exact rfl) ?_ | refine xG_go (fun _ => rfl) ?_)
  have e : M = mv_row M 158 (plg (M 158) (M 144) (mlk M) o h 0) := (mv_row_self (fun i => plg_hi (by omega))).symm
  have key := l_played (sc := sc) (d := d + 1) (t := mI t) (Q := (fun r M' => r = some (mI h) ∧ M' = mv_row M 158 (play nm (M 143 1) (M 144) (mlk M) (M 158) o t))) hl hd hn ho (show h < 4 by omega) (fun x5 => ?_) nm 0 none (by omega)
  · rw [← e] at key
    exact key
  · iterate 6 (first | refine xG_getI rfl (by exact rfl) (by exact rfl) ?_ | refine xG_getR rfl (by exact rfl) (by exact rfl) ?_ | refine xG_add rfl ?_ | refine xG_sub rfl ?_ | refine xG_mul rfl ?_ | refine xG_putI rfl (by exact rfl) (by exact rfl) ?_ | refine xG_go (fun _ => rfl) ?_)
    refine xG_ald rfl (by exact rfl) (by omega) ?_
    iterate 5 (first | refine xG_getI rfl (by exact rfl) (by exact rfl) ?_ | refine xG_getR rfl (by exact rfl) (by exact rfl) ?_ | refine xG_add rfl ?_ | refine xG_sub rfl ?_ | refine xG_mul rfl ?_ | refine xG_putI rfl (by exact rfl) (by exact rfl) ?_ | refine xG_go (fun _ => rfl) ?_)
    refine xG_ald rfl (by exact rfl) (by omega) ?_
    rw [e8, show ((18 : Int) + (o : Int)).toNat = 18 + o by omega, plg_hi (by omega)]
    iterate 1 (first | refine xG_getI rfl (by exact rfl) (by exact rfl) ?_ | refine xG_getR rfl (by exact rfl) (by exact rfl) ?_ | refine xG_add rfl ?_ | refine xG_sub rfl ?_ | refine xG_mul rfl ?_ | refine xG_putI rfl (by exact rfl) (by exact rfl) ?_ | refine xG_go (fun _ => rfl) ?_)
    refine xb_ge rfl (by omega) (by omega) (fun c1 => ?_) (fun c1 => ?_)
    · iterate 2 (first | refine xG_getI rfl (by exact rfl) (by exact rfl) ?_ | refine xG_getR rfl (by exact rfl) (by exact rfl) ?_ | refine xG_add rfl ?_ | refine xG_sub rfl ?_ | refine xG_mul rfl ?_ | refine xG_putI rfl (by exact rfl) (by exact rfl) ?_ | refine xG_go (fun _ => rfl) ?_)
      refine xG_ast rfl (by exact rfl) (by omega) ?_
      rw [mv_up_row, show ((18 : Int) + (o : Int)).toNat = 18 + o by omega]
      iterate 1 (first | refine xG_getI rfl (by exact rfl) (by exact rfl) ?_ | refine xG_getR rfl (by exact rfl) (by exact rfl) ?_ | refine xG_add rfl ?_ | refine xG_sub rfl ?_ | refine xG_mul rfl ?_ | refine xG_putI rfl (by exact rfl) (by exact rfl) ?_ | refine xG_go (fun _ => rfl) ?_)
      refine xG_ret (fun _ => rfl) ⟨rfl, ?_⟩
      rw [← plg_play (show nm ≤ 6 by omega) eq, if_neg (show ¬ M 158 (18 + o) < 15 by omega), show M 158 (18 + o) + 0 = 15 by omega]
    · iterate 3 (first | refine xG_getI rfl (by exact rfl) (by exact rfl) ?_ | refine xG_getR rfl (by exact rfl) (by exact rfl) ?_ | refine xG_add rfl ?_ | refine xG_sub rfl ?_ | refine xG_mul rfl ?_ | refine xG_putI rfl (by exact rfl) (by exact rfl) ?_ | refine xG_go (fun _ => rfl) ?_)
      refine xG_ast rfl (by exact rfl) (by omega) ?_
      rw [mv_up_row, show ((18 : Int) + (o : Int)).toNat = 18 + o by omega]
      iterate 1 (first | refine xG_getI rfl (by exact rfl) (by exact rfl) ?_ | refine xG_getR rfl (by exact rfl) (by exact rfl) ?_ | refine xG_add rfl ?_ | refine xG_sub rfl ?_ | refine xG_mul rfl ?_ | refine xG_putI rfl (by exact rfl) (by exact rfl) ?_ | refine xG_go (fun _ => rfl) ?_)
      refine xG_ret (fun _ => rfl) ⟨rfl, ?_⟩
      rw [← plg_play (show nm ≤ 6 by omega) eq, if_pos (show M 158 (18 + o) < 15 by omega)]
end XO
