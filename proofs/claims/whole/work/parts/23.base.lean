/-! PURE WORDS: a day is a row of 21 numbers: 0 cold, 1 carried, 2 lost, 3 + m mood, 9 + m nuts, 15 + o place, 18 + o wear -/
def sg (x : Int) : Int := if x < 0 then -1 else if x = 0 then 0 else 1
theorem sg_in (x : Int) : -1 ≤ sg x ∧ sg x ≤ 1 := by
  unfold sg
  split
  · omega
  · split <;> omega
def vote (coat g : Nat → Int) (m : Nat) : Int := if coat m < g 0 then 0 else sg (g (3 + m) + g (9 + m))
theorem vote_in (coat g : Nat → Int) (m : Nat) : -1 ≤ vote coat g m ∧ vote coat g m ≤ 1 := by
  unfold vote
  split
  · omega
  · exact sg_in _
def marg (coat g : Nat → Int) : Nat → Int
  | 0 => 0
  | n + 1 => marg coat g n + vote coat g n
def vcnt (coat g : Nat → Int) (v : Int) : Nat → Int
  | 0 => 0
  | n + 1 => vcnt coat g v n + if vote coat g n = v then 1 else 0
theorem marg_in (coat g : Nat → Int) : ∀ n : Nat, -(n : Int) ≤ marg coat g n ∧ marg coat g n ≤ n
  | 0 => by simp [marg]
  | n + 1 => by
    have h1 := marg_in coat g n
    have h2 := vote_in coat g n
    simp only [marg]
    omega
theorem vcnt_in (coat g : Nat → Int) (v : Int) : ∀ n : Nat, 0 ≤ vcnt coat g v n ∧ vcnt coat g v n ≤ n
  | 0 => by simp [vcnt]
  | n + 1 => by
    have h1 := vcnt_in coat g v n
    simp only [vcnt]
    split <;> omega
theorem marg_eq (coat g : Nat → Int) : ∀ n : Nat, marg coat g n = vcnt coat g 1 n - vcnt coat g (-1) n
  | 0 => by simp [marg, vcnt]
  | n + 1 => by
    have h1 := marg_eq coat g n
    have h2 := vote_in coat g n
    simp only [marg, vcnt]
    split <;> split <;> omega
def heard (tu : Int) (g : Nat → Int) (o : Nat) (t : Int) : Int := (t + g (18 + o) / 4) % tu
def clampM (x : Int) : Int := if x < -99 then -99 else if 99 < x then 99 else x
def play (nm : Nat) (tu : Int) (home : Nat → Int) (like : Nat → Nat → Int) (g : Nat → Int) (o : Nat) (t : Int) : Nat → Int := fun i =>
  if 3 ≤ i ∧ i < 3 + nm ∧ home (i - 3) = g (15 + o) then clampM (g i + like (i - 3) (heard tu g o t).toNat) else if i = 18 + o then (if g (18 + o) < 15 then g (18 + o) + 1 else 15) else g i
/-- a day's numbers in their ranges -/
def dok (g : Nat → Int) : Prop := (0 ≤ g 0 ∧ g 0 ≤ 9) ∧ (0 ≤ g 1 ∧ g 1 ≤ 999) ∧ (0 ≤ g 2 ∧ g 2 ≤ 999) ∧ (∀ m, m < 6 → -99 ≤ g (3 + m) ∧ g (3 + m) ≤ 99) ∧ (∀ m, m < 6 → 0 ≤ g (9 + m) ∧ g (9 + m) ≤ 9) ∧ (∀ o, o < 3 → 0 ≤ g (15 + o) ∧ g (15 + o) ≤ 4) ∧ (∀ o, o < 3 → 0 ≤ g (18 + o) ∧ g (18 + o) ≤ 15)
/-- the class's day at the cell D as a row -/
def dv (M : mv_M) (D : Nat) : Nat → Int := fun i => if i = 0 then M D 5 else if i = 1 then M D 6 else if i = 2 then M D 7 else if i < 9 then M (D + 1) (i - 3) else if i < 15 then M (D + 2) (i - 9) else if i < 18 then M (D + 3) (i - 15) else M (D + 4) (i - 18)
theorem dv_0 {M : mv_M} {D : Nat} : dv M D 0 = M D 5 := rfl
theorem dv_1 {M : mv_M} {D : Nat} : dv M D 1 = M D 6 := rfl
theorem dv_2 {M : mv_M} {D : Nat} : dv M D 2 = M D 7 := rfl
theorem dv_m {M : mv_M} {D m : Nat} (h : m < 6) : dv M D (3 + m) = M (D + 1) m := by
  unfold dv
  rw [if_neg (by omega), if_neg (by omega), if_neg (by omega), if_pos (by omega)]
  congr 1
  omega
theorem dv_n {M : mv_M} {D m : Nat} (h : m < 6) : dv M D (9 + m) = M (D + 2) m := by
  unfold dv
  rw [if_neg (by omega), if_neg (by omega), if_neg (by omega), if_neg (by omega), if_pos (by omega)]
  congr 1
  omega
theorem dv_p {M : mv_M} {D o : Nat} (h : o < 3) : dv M D (15 + o) = M (D + 3) o := by
  unfold dv
  rw [if_neg (by omega), if_neg (by omega), if_neg (by omega), if_neg (by omega), if_neg (by omega), if_pos (by omega)]
  congr 1
  omega
theorem dv_w {M : mv_M} {D o : Nat} : dv M D (18 + o) = M (D + 4) o := by
  unfold dv
  rw [if_neg (by omega), if_neg (by omega), if_neg (by omega), if_neg (by omega), if_neg (by omega), if_neg (by omega)]
  congr 1
  omega
/-- the class's land is in its ranges -/
def lok (M : mv_M) : Prop := (1 ≤ M 4 0 ∧ M 4 0 ≤ 5) ∧ (1 ≤ M 4 1 ∧ M 4 1 ≤ 4) ∧ (0 ≤ M 4 2 ∧ M 4 2 ≤ 6) ∧ (0 ≤ M 4 3 ∧ M 4 3 ≤ 3) ∧ (∀ m, m < 6 → 0 ≤ M 5 m ∧ M 5 m ≤ 9) ∧ (∀ m, m < 6 → 0 ≤ M 6 m ∧ M 6 m ≤ 9) ∧ (∀ m t, m < 6 → t < 4 → -3 ≤ M (8 + m) t ∧ M (8 + m) t ≤ 3) ∧ (∀ o, o < 3 → 0 ≤ M 14 o ∧ M 14 o ≤ 4) ∧ (∀ o, o < 3 → 0 ≤ M 15 o ∧ M 15 o ≤ 15)
/-- the cell D is a Day -/
def isDay (D : Nat) : Prop := SK[D]? = some (.inr (.inr (1, [7, D + 1 + 3, D + 2 + 3, D + 3 + 3, D + 4 + 3, 0, 0, 0]))) ∧ SK[D + 1]? = some (.inl (0, 6)) ∧ SK[D + 2]? = some (.inl (0, 6)) ∧ SK[D + 3]? = some (.inl (0, 3)) ∧ SK[D + 4]? = some (.inl (0, 3))
theorem isDay_today : isDay 29 := ⟨rfl, rfl, rfl, rfl, rfl⟩
theorem isDay_past : ∀ i, i < 10 → isDay (36 + 5 * i) := by
  intro i hi
  rcases (show i = 0 ∨ i = 1 ∨ i = 2 ∨ i = 3 ∨ i = 4 ∨ i = 5 ∨ i = 6 ∨ i = 7 ∨ i = 8 ∨ i = 9 by omega) with rfl | rfl | rfl | rfl | rfl | rfl | rfl | rfl | rfl | rfl <;> exact ⟨rfl, rfl, rfl, rfl, rfl⟩
theorem isDay_step : ∀ i, i < 4 → isDay (89 + 5 * i) := by
  intro i hi
  rcases (show i = 0 ∨ i = 1 ∨ i = 2 ∨ i = 3 by omega) with rfl | rfl | rfl | rfl <;> exact ⟨rfl, rfl, rfl, rfl, rfl⟩
theorem isDay_img : ∀ i, i < 2 → isDay (133 + 5 * i) := by
  intro i hi
  rcases (show i = 0 ∨ i = 1 by omega) with rfl | rfl <;> exact ⟨rfl, rfl, rfl, rfl, rfl⟩
/-! SMALL METHODS -/
section XM
variable {sc : Nat × (Nat → Int)} {d : Nat} {M : mv_M}
theorem c_compare {x z : Int} (hx : mv_in x) (hz : mv_in z) : xC sc (d + 1) n_JInt_compare [mI x, mI z] M (fun r M' => M = M' ∧ r = some (mI (sg (x - z)))) := by
  refine xC_in rfl rfl (by simp; decide) ?_
  iterate 2 (first | refine xG_getI rfl (by exact rfl) (by exact rfl) ?_ | refine xG_getR rfl (by exact rfl) (by exact rfl) ?_ | refine xG_add rfl ?_ | refine xG_sub rfl ?_ | refine xG_mul rfl ?_ | refine xG_putI rfl (by exact rfl) (by exact rfl) ?_ | refine xG_go (fun _ => rfl) ?_)
  refine xb_ge rfl hx hz (fun h1 => ?_) (fun h1 => ?_)
  · iterate 2 (first | refine xG_getI rfl (by exact rfl) (by exact rfl) ?_ | refine xG_getR rfl (by exact rfl) (by exact rfl) ?_ | refine xG_add rfl ?_ | refine xG_sub rfl ?_ | refine xG_mul rfl ?_ | refine xG_putI rfl (by exact rfl) (by exact rfl) ?_ | refine xG_go (fun _ => rfl) ?_)
    refine xb_ne rfl hx hz (fun h2 => ?_) (fun h2 => ?_)
    · iterate 1 (first | refine xG_getI rfl (by exact rfl) (by exact rfl) ?_ | refine xG_getR rfl (by exact rfl) (by exact rfl) ?_ | refine xG_add rfl ?_ | refine xG_sub rfl ?_ | refine xG_mul rfl ?_ | refine xG_putI rfl (by exact rfl) (by exact rfl) ?_ | refine xG_go (fun _ => rfl) ?_)
      exact xG_ret (fun _ => rfl) ⟨rfl, by unfold sg; rw [if_neg (by omega), if_neg (by omega)]⟩
    · iterate 2 (first | refine xG_getI rfl (by exact rfl) (by exact rfl) ?_ | refine xG_getR rfl (by exact rfl) (by exact rfl) ?_ | refine xG_add rfl ?_ | refine xG_sub rfl ?_ | refine xG_mul rfl ?_ | refine xG_putI rfl (by exact rfl) (by exact rfl) ?_ | refine xG_go (fun _ => rfl) ?_)
      exact xG_ret (fun _ => rfl) ⟨rfl, by unfold sg; rw [if_neg (by omega), if_pos (by omega)]⟩
  · iterate 2 (first | refine xG_getI rfl (by exact rfl) (by exact rfl) ?_ | refine xG_getR rfl (by exact rfl) (by exact rfl) ?_ | refine xG_add rfl ?_ | refine xG_sub rfl ?_ | refine xG_mul rfl ?_ | refine xG_putI rfl (by exact rfl) (by exact rfl) ?_ | refine xG_go (fun _ => rfl) ?_)
    exact xG_ret (fun _ => rfl) ⟨rfl, by unfold sg; rw [if_pos (by omega)]⟩
theorem c_hasMonkey {m : Int} (hm : mv_in m) (h : lok M) : xC sc (d + 1) n_Land_hasMonkey [mR 4, mI m] M (fun r M' => M = M' ∧ r = some (mI (if 0 ≤ m ∧ m < M 4 2 then 1 else 0))) := by
  have h0 := h.2.2.1
  refine xC_in rfl rfl (by simp; decide) ?_
  iterate 1 (first | refine xG_getI rfl (by exact rfl) (by exact rfl) ?_ | refine xG_getR rfl (by exact rfl) (by exact rfl) ?_ | refine xG_add rfl ?_ | refine xG_sub rfl ?_ | refine xG_mul rfl ?_ | refine xG_putI rfl (by exact rfl) (by exact rfl) ?_ | refine xG_go (fun _ => rfl) ?_)
  refine xi_lt rfl hm (fun h1 => ?_) (fun h1 => ?_)
  · iterate 1 (first | refine xG_getI rfl (by exact rfl) (by exact rfl) ?_ | refine xG_getR rfl (by exact rfl) (by exact rfl) ?_ | refine xG_add rfl ?_ | refine xG_sub rfl ?_ | refine xG_mul rfl ?_ | refine xG_putI rfl (by exact rfl) (by exact rfl) ?_ | refine xG_go (fun _ => rfl) ?_)
    exact xG_ret (fun _ => rfl) ⟨rfl, by rw [if_neg (by omega)]⟩
  · iterate 3 (first | refine xG_getI rfl (by exact rfl) (by exact rfl) ?_ | refine xG_getR rfl (by exact rfl) (by exact rfl) ?_ | refine xG_add rfl ?_ | refine xG_sub rfl ?_ | refine xG_mul rfl ?_ | refine xG_putI rfl (by exact rfl) (by exact rfl) ?_ | refine xG_go (fun _ => rfl) ?_)
    refine xb_ge rfl hm (by omega) (fun h2 => ?_) (fun h2 => ?_)
    · iterate 1 (first | refine xG_getI rfl (by exact rfl) (by exact rfl) ?_ | refine xG_getR rfl (by exact rfl) (by exact rfl) ?_ | refine xG_add rfl ?_ | refine xG_sub rfl ?_ | refine xG_mul rfl ?_ | refine xG_putI rfl (by exact rfl) (by exact rfl) ?_ | refine xG_go (fun _ => rfl) ?_)
      exact xG_ret (fun _ => rfl) ⟨rfl, by rw [if_neg (by omega)]⟩
    · iterate 2 (first | refine xG_getI rfl (by exact rfl) (by exact rfl) ?_ | refine xG_getR rfl (by exact rfl) (by exact rfl) ?_ | refine xG_add rfl ?_ | refine xG_sub rfl ?_ | refine xG_mul rfl ?_ | refine xG_putI rfl (by exact rfl) (by exact rfl) ?_ | refine xG_go (fun _ => rfl) ?_)
      exact xG_ret (fun _ => rfl) ⟨rfl, by rw [if_pos (by omega)]⟩
theorem c_hasOrgan {m : Int} (hm : mv_in m) (h : lok M) : xC sc (d + 1) n_Land_hasOrgan [mR 4, mI m] M (fun r M' => M = M' ∧ r = some (mI (if 0 ≤ m ∧ m < M 4 3 then 1 else 0))) := by
  have h0 := h.2.2.2.1
  refine xC_in rfl rfl (by simp; decide) ?_
  iterate 1 (first | refine xG_getI rfl (by exact rfl) (by exact rfl) ?_ | refine xG_getR rfl (by exact rfl) (by exact rfl) ?_ | refine xG_add rfl ?_ | refine xG_sub rfl ?_ | refine xG_mul rfl ?_ | refine xG_putI rfl (by exact rfl) (by exact rfl) ?_ | refine xG_go (fun _ => rfl) ?_)
  refine xi_lt rfl hm (fun h1 => ?_) (fun h1 => ?_)
  · iterate 1 (first | refine xG_getI rfl (by exact rfl) (by exact rfl) ?_ | refine xG_getR rfl (by exact rfl) (by exact rfl) ?_ | refine xG_add rfl ?_ | refine xG_sub rfl ?_ | refine xG_mul rfl ?_ | refine xG_putI rfl (by exact rfl) (by exact rfl) ?_ | refine xG_go (fun _ => rfl) ?_)
    exact xG_ret (fun _ => rfl) ⟨rfl, by rw [if_neg (by omega)]⟩
  · iterate 3 (first | refine xG_getI rfl (by exact rfl) (by exact rfl) ?_ | refine xG_getR rfl (by exact rfl) (by exact rfl) ?_ | refine xG_add rfl ?_ | refine xG_sub rfl ?_ | refine xG_mul rfl ?_ | refine xG_putI rfl (by exact rfl) (by exact rfl) ?_ | refine xG_go (fun _ => rfl) ?_)
    refine xb_ge rfl hm (by omega) (fun h2 => ?_) (fun h2 => ?_)
    · iterate 1 (first | refine xG_getI rfl (by exact rfl) (by exact rfl) ?_ | refine xG_getR rfl (by exact rfl) (by exact rfl) ?_ | refine xG_add rfl ?_ | refine xG_sub rfl ?_ | refine xG_mul rfl ?_ | refine xG_putI rfl (by exact rfl) (by exact rfl) ?_ | refine xG_go (fun _ => rfl) ?_)
      exact xG_ret (fun _ => rfl) ⟨rfl, by rw [if_neg (by omega)]⟩
    · iterate 2 (first | refine xG_getI rfl (by exact rfl) (by exact rfl) ?_ | refine xG_getR rfl (by exact rfl) (by exact rfl) ?_ | refine xG_add rfl ?_ | refine xG_sub rfl ?_ | refine xG_mul rfl ?_ | refine xG_putI rfl (by exact rfl) (by exact rfl) ?_ | refine xG_go (fun _ => rfl) ?_)
      exact xG_ret (fun _ => rfl) ⟨rfl, by rw [if_pos (by omega)]⟩
theorem c_hasTune {m : Int} (hm : mv_in m) (h : lok M) : xC sc (d + 1) n_Land_hasTune [mR 4, mI m] M (fun r M' => M = M' ∧ r = some (mI (if 0 ≤ m ∧ m < M 4 1 then 1 else 0))) := by
  have h0 := h.2.1
  refine xC_in rfl rfl (by simp; decide) ?_
  iterate 1 (first | refine xG_getI rfl (by exact rfl) (by exact rfl) ?_ | refine xG_getR rfl (by exact rfl) (by exact rfl) ?_ | refine xG_add rfl ?_ | refine xG_sub rfl ?_ | refine xG_mul rfl ?_ | refine xG_putI rfl (by exact rfl) (by exact rfl) ?_ | refine xG_go (fun _ => rfl) ?_)
  refine xi_lt rfl hm (fun h1 => ?_) (fun h1 => ?_)
  · iterate 1 (first | refine xG_getI rfl (by exact rfl) (by exact rfl) ?_ | refine xG_getR rfl (by exact rfl) (by exact rfl) ?_ | refine xG_add rfl ?_ | refine xG_sub rfl ?_ | refine xG_mul rfl ?_ | refine xG_putI rfl (by exact rfl) (by exact rfl) ?_ | refine xG_go (fun _ => rfl) ?_)
    exact xG_ret (fun _ => rfl) ⟨rfl, by rw [if_neg (by omega)]⟩
  · iterate 3 (first | refine xG_getI rfl (by exact rfl) (by exact rfl) ?_ | refine xG_getR rfl (by exact rfl) (by exact rfl) ?_ | refine xG_add rfl ?_ | refine xG_sub rfl ?_ | refine xG_mul rfl ?_ | refine xG_putI rfl (by exact rfl) (by exact rfl) ?_ | refine xG_go (fun _ => rfl) ?_)
    refine xb_ge rfl hm (by omega) (fun h2 => ?_) (fun h2 => ?_)
    · iterate 1 (first | refine xG_getI rfl (by exact rfl) (by exact rfl) ?_ | refine xG_getR rfl (by exact rfl) (by exact rfl) ?_ | refine xG_add rfl ?_ | refine xG_sub rfl ?_ | refine xG_mul rfl ?_ | refine xG_putI rfl (by exact rfl) (by exact rfl) ?_ | refine xG_go (fun _ => rfl) ?_)
      exact xG_ret (fun _ => rfl) ⟨rfl, by rw [if_neg (by omega)]⟩
    · iterate 2 (first | refine xG_getI rfl (by exact rfl) (by exact rfl) ?_ | refine xG_getR rfl (by exact rfl) (by exact rfl) ?_ | refine xG_add rfl ?_ | refine xG_sub rfl ?_ | refine xG_mul rfl ?_ | refine xG_putI rfl (by exact rfl) (by exact rfl) ?_ | refine xG_go (fun _ => rfl) ?_)
      exact xG_ret (fun _ => rfl) ⟨rfl, by rw [if_pos (by omega)]⟩
end XM
