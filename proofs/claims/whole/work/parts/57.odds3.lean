/-! THE ODDS: the reference -/
section YY
variable {sc : Nat × (Nat → Int)} {d c : Nat} {M : mv_M}
theorem xG_shr {y : mv_Y} {pc : Nat} {L : mv_L} {S : List mv_V} {Q : Option mv_V → mv_M → Prop} {a b len x k : Nat} {z0 : Int} (hf : mv_find y.2.2 pc = some (.ishr, len, a, b, z0)) (hk : k ≤ 30) (hx : x ≤ 2147483647) (kk : xG sc d y (pc + len) L (mI ((x / 2 ^ k : Nat) : Int) :: S) M Q) : xG sc d y pc L (mI k :: mI x :: S) M Q := by
  refine xG_by hf (fun call => ?_) kk
  simp only [mv_stp]
  rw [if_pos ⟨by omega, by omega, by omega, by omega, by omega⟩, Int.toNat_natCast, Int.natCast_ediv, Int.natCast_pow]
  rfl
theorem xG_shl {y : mv_Y} {pc : Nat} {L : mv_L} {S : List mv_V} {Q : Option mv_V → mv_M → Prop} {a b len k : Nat} {z0 : Int} (hf : mv_find y.2.2 pc = some (.ishl, len, a, b, z0)) (hk : k ≤ 30) (kk : xG sc d y (pc + len) L (mI ((2 ^ k : Nat) : Int) :: S) M Q) : xG sc d y pc L (mI k :: mI 1 :: S) M Q := by
  refine xG_by hf (fun call => ?_) kk
  simp only [mv_stp]
  rw [if_pos ⟨by omega, by omega⟩, Int.toNat_natCast, Int.one_mul, Int.natCast_pow]
  rfl
theorem xG_and1 {y : mv_Y} {pc : Nat} {L : mv_L} {S : List mv_V} {Q : Option mv_V → mv_M → Prop} {a b len x : Nat} {z0 : Int} (hf : mv_find y.2.2 pc = some (.iand, len, a, b, z0)) (kk : xG sc d y (pc + len) L (mI ((x % 2 : Nat) : Int) :: S) M Q) : xG sc d y pc L (mI 1 :: mI x :: S) M Q := by
  refine xG_by hf (fun call => ?_) kk
  simp only [mv_stp]
  rw [if_pos (Or.inl trivial), Int.natCast_emod]
  rfl
theorem m_has {a m : Nat} (ha : a ≤ 1000) (hm : m ≤ 10) : xC sc (d + 1) n_Mod_has [mI a, mI m] M (fun r M' => M = M' ∧ r = some (mI (b01 (a / 2 ^ m % 2 = 1)))) := by
  refine xC_in rfl rfl (by simp; decide) ?_
  iterate 2 (first | refine xG_getI rfl (by exact rfl) (by exact rfl) ?_ | refine xG_getR rfl (by exact rfl) (by exact rfl) ?_ | refine xG_add rfl ?_ | refine xG_sub rfl ?_ | refine xG_mul rfl ?_ | refine xG_putI rfl (by exact rfl) (by exact rfl) ?_ | refine xG_go (fun _ => rfl) ?_)
  refine xG_shr rfl (by omega) (by omega) ?_
  iterate 1 (first | refine xG_getI rfl (by exact rfl) (by exact rfl) ?_ | refine xG_getR rfl (by exact rfl) (by exact rfl) ?_ | refine xG_add rfl ?_ | refine xG_sub rfl ?_ | refine xG_mul rfl ?_ | refine xG_putI rfl (by exact rfl) (by exact rfl) ?_ | refine xG_go (fun _ => rfl) ?_)
  refine xG_and1 rfl ?_
  iterate 1 (first | refine xG_getI rfl (by exact rfl) (by exact rfl) ?_ | refine xG_getR rfl (by exact rfl) (by exact rfl) ?_ | refine xG_add rfl ?_ | refine xG_sub rfl ?_ | refine xG_mul rfl ?_ | refine xG_putI rfl (by exact rfl) (by exact rfl) ?_ | refine xG_go (fun _ => rfl) ?_)
  refine xb_ne rfl (by omega) (by decide) (fun c1 => ?_) (fun c1 => ?_)
  · iterate 1 (first | refine xG_getI rfl (by exact rfl) (by exact rfl) ?_ | refine xG_getR rfl (by exact rfl) (by exact rfl) ?_ | refine xG_add rfl ?_ | refine xG_sub rfl ?_ | refine xG_mul rfl ?_ | refine xG_putI rfl (by exact rfl) (by exact rfl) ?_ | refine xG_go (fun _ => rfl) ?_)
    exact xG_ret (fun _ => rfl) ⟨rfl, by rw [b01_f (by omega)]⟩
  · iterate 2 (first | refine xG_getI rfl (by exact rfl) (by exact rfl) ?_ | refine xG_getR rfl (by exact rfl) (by exact rfl) ?_ | refine xG_add rfl ?_ | refine xG_sub rfl ?_ | refine xG_mul rfl ?_ | refine xG_putI rfl (by exact rfl) (by exact rfl) ?_ | refine xG_go (fun _ => rfl) ?_)
    exact xG_ret (fun _ => rfl) ⟨rfl, by rw [b01_t (by omega)]⟩
theorem l_low {A B w : mv_V} {Q : Option mv_V → mv_M → Prop} : ∀ (n z y : Nat) (x5 : Option mv_V), z ≤ n → y ≤ 1000000 → z ≤ 1000000 → (∀ x4 x5, xG sc d y_Mod_lowest 26 [some A, some B, some w, some (mI (Nat.gcd y z)), x4, x5] [] M Q) → xG sc d y_Mod_lowest 5 [some A, some B, some w, some (mI y), some (mI z), x5] [] M Q := by
  intro n
  induction n with
  | zero =>
    intro z y x5 hz hy h6 kk
    have : z = 0 := by omega
    subst this
    iterate 1 (first | refine xG_getI rfl (by exact rfl) (by exact rfl) ?_ | refine xG_getR rfl (by exact rfl) (by exact rfl) ?_ | refine xG_add rfl ?_ | refine xG_sub rfl ?_ | refine xG_mul rfl ?_ | refine xG_putI rfl (by exact rfl) (by exact rfl) ?_ | refine xG_go (fun _ => rfl) ?_)
    refine xi_le rfl (by omega) (fun _ => ?_) (fun c1 => absurd c1 (by omega))
    rw [Nat.gcd_zero_right] at kk
    exact kk _ _
  | succ n ih =>
    intro z y x5 hz hy h6 kk
    iterate 1 (first | refine xG_getI rfl (by exact rfl) (by exact rfl) ?_ | refine xG_getR rfl (by exact rfl) (by exact rfl) ?_ | refine xG_add rfl ?_ | refine xG_sub rfl ?_ | refine xG_mul rfl ?_ | refine xG_putI rfl (by exact rfl) (by exact rfl) ?_ | refine xG_go (fun _ => rfl) ?_)
    refine xi_le rfl (by omega) (fun c1 => ?_) (fun c1 => ?_)
    · have : z = 0 := by omega
      subst this
      rw [Nat.gcd_zero_right] at kk
      exact kk _ _
    · iterate 2 (first | refine xG_getI rfl (by exact rfl) (by exact rfl) ?_ | refine xG_getR rfl (by exact rfl) (by exact rfl) ?_ | refine xG_add rfl ?_ | refine xG_sub rfl ?_ | refine xG_mul rfl ?_ | refine xG_putI rfl (by exact rfl) (by exact rfl) ?_ | refine xG_go (fun _ => rfl) ?_)
      refine xG_rem rfl (by omega) ?_
      have r1 := Nat.mod_lt y (show z > 0 by omega)
      rw [← Int.natCast_emod]
      iterate 6 (first | refine xG_getI rfl (by exact rfl) (by exact rfl) ?_ | refine xG_getR rfl (by exact rfl) (by exact rfl) ?_ | refine xG_add rfl ?_ | refine xG_sub rfl ?_ | refine xG_mul rfl ?_ | refine xG_putI rfl (by exact rfl) (by exact rfl) ?_ | refine xG_go (fun _ => rfl) ?_)
      refine ih (y % z) z _ (by omega) h6 (by omega) (fun x4 x5 => ?_)
      have := kk x4 x5
      rw [Nat.gcd_comm y z, Nat.gcd_rec, Nat.gcd_comm] at this
      exact this
theorem m_lowest {a b : Nat} {w : Int} (hw : 0 ≤ w ∧ w ≤ 1) (ha : a ≤ 1000000) (hb : 0 < b ∧ b ≤ 1000000) : xC sc (d + 1) n_Mod_lowest [mI a, mI b, mI w] M (fun r M' => M = M' ∧ r = some (mI (((if w = 0 then a else b) / Nat.gcd a b : Nat) : Int))) := by
  have gl : Nat.gcd a b ∣ b := Nat.gcd_dvd_right a b
  have gle := Nat.le_of_dvd hb.1 gl
  have gpos : 0 < Nat.gcd a b := Nat.gcd_pos_of_pos_right a hb.1
  refine xC_in rfl rfl (by simp; decide) ?_
  iterate 4 (first | refine xG_getI rfl (by exact rfl) (by exact rfl) ?_ | refine xG_getR rfl (by exact rfl) (by exact rfl) ?_ | refine xG_add rfl ?_ | refine xG_sub rfl ?_ | refine xG_mul rfl ?_ | refine xG_putI rfl (by exact rfl) (by exact rfl) ?_ | refine xG_go (fun _ => rfl) ?_)
  refine l_low b b a _ (Nat.le_refl _) ha hb.2 (fun x4 x5 => ?_)
  iterate 1 (first | refine xG_getI rfl (by exact rfl) (by exact rfl) ?_ | refine xG_getR rfl (by exact rfl) (by exact rfl) ?_ | refine xG_add rfl ?_ | refine xG_sub rfl ?_ | refine xG_mul rfl ?_ | refine xG_putI rfl (by exact rfl) (by exact rfl) ?_ | refine xG_go (fun _ => rfl) ?_)
  refine xi_ne rfl (by omega) (fun c1 => ?_) (fun c1 => ?_)
  · rw [if_neg c1]
    iterate 2 (first | refine xG_getI rfl (by exact rfl) (by exact rfl) ?_ | refine xG_getR rfl (by exact rfl) (by exact rfl) ?_ | refine xG_add rfl ?_ | refine xG_sub rfl ?_ | refine xG_mul rfl ?_ | refine xG_putI rfl (by exact rfl) (by exact rfl) ?_ | refine xG_go (fun _ => rfl) ?_)
    refine xG_div rfl (by omega) ?_
    exact xG_ret (fun _ => rfl) ⟨rfl, by rw [Int.natCast_ediv]⟩
  · rw [if_pos c1]
    iterate 3 (first | refine xG_getI rfl (by exact rfl) (by exact rfl) ?_ | refine xG_getR rfl (by exact rfl) (by exact rfl) ?_ | refine xG_add rfl ?_ | refine xG_sub rfl ?_ | refine xG_mul rfl ?_ | refine xG_putI rfl (by exact rfl) (by exact rfl) ?_ | refine xG_go (fun _ => rfl) ?_)
    refine xG_div rfl (by omega) ?_
    exact xG_ret (fun _ => rfl) ⟨rfl, by rw [Int.natCast_ediv]⟩
theorem smP_in {v : Nat → Int} (hv : ∀ i, -1 ≤ v i ∧ v i ≤ 1) (a : Nat) : ∀ m : Nat, -(m : Int) ≤ smP v a m ∧ smP v a m ≤ m
  | 0 => by simp [smP]
  | m + 1 => by
    have h := smP_in hv a m
    have := hv m
    simp only [smP]
    split <;> omega
def vm (M : mv_M) : Nat → Int := fun i => vote (M 145) (M 158) i
theorem l_b10 {x w : mv_V} {nm : Nat} (n6 : nm ≤ 6) (en : M 143 2 = nm) {x3 x6 x7 x8 : Option mv_V} {Q : Option mv_V → mv_M → Prop} (kk : xG sc d y_Mod_odds 55 [some (mR 143), some x, some w, x3, some (mI (10 ^ nm)), some (mI nm), x6, x7, x8] [] M Q) : ∀ (k j : Nat), j + k = nm → xG sc d y_Mod_odds 33 [some (mR 143), some x, some w, x3, some (mI (10 ^ j)), some (mI j), x6, x7, x8] [] M Q := by
  intro k
  induction k with
  | zero =>
    intro j hk
    have : j = nm := by omega
    subst this
    iterate 3 (first | refine xG_getI rfl (by exact rfl) (by exact rfl) ?_ | refine xG_getR rfl (by exact rfl) (by exact rfl) ?_ | refine xG_add rfl ?_ | refine xG_sub rfl ?_ | refine xG_mul rfl ?_ | refine xG_putI rfl (by exact rfl) (by exact rfl) ?_ | refine xG_go (fun _ => rfl) ?_)
    rw [en]
    refine xb_ge rfl (by omega) (by omega) (fun _ => ?_) (fun c1 => absurd c1 (by omega))
    exact kk
  | succ k ih =>
    intro j hk
    iterate 3 (first | refine xG_getI rfl (by exact rfl) (by exact rfl) ?_ | refine xG_getR rfl (by exact rfl) (by exact rfl) ?_ | refine xG_add rfl ?_ | refine xG_sub rfl ?_ | refine xG_mul rfl ?_ | refine xG_putI rfl (by exact rfl) (by exact rfl) ?_ | refine xG_go (fun _ => rfl) ?_)
    rw [en]
    refine xb_ge rfl (by omega) (by omega) (fun c1 => absurd c1 (by omega)) (fun _ => ?_)
    iterate 6 (first | refine xG_getI rfl (by exact rfl) (by exact rfl) ?_ | refine xG_getR rfl (by exact rfl) (by exact rfl) ?_ | refine xG_add rfl ?_ | refine xG_sub rfl ?_ | refine xG_mul rfl ?_ | refine xG_putI rfl (by exact rfl) (by exact rfl) ?_ | refine xG_go (fun _ => rfl) ?_)
    exact ih (j + 1) (by omega)
theorem l_oin {x : Int} {w : mv_V} {nm a : Nat} (ha : a ≤ 1000) (h : mok M) (hd : dok (M 158)) (en : M 143 2 = nm) {x3 x4 : Option mv_V} {Q : Option mv_V → mv_M → Prop} (kk : xG sc (d + 2) y_Mod_odds 141 [some (mR 143), some (mI x), some w, x3, x4, some (mI a), some (mI (itP x a nm)), some (mI (smP (vm M) a nm)), some (mI nm)] [] M Q) : ∀ (k j : Nat), j + k = nm → xG sc (d + 2) y_Mod_odds 78 [some (mR 143), some (mI x), some w, x3, x4, some (mI a), some (mI (itP x a j)), some (mI (smP (vm M) a j)), some (mI j)] [] M Q := by
  have h2 := h.2.2.1
  intro k
  induction k with
  | zero =>
    intro j hk
    have : j = nm := by omega
    subst this
    iterate 3 (first | refine xG_getI rfl (by exact rfl) (by exact rfl) ?_ | refine xG_getR rfl (by exact rfl) (by exact rfl) ?_ | refine xG_add rfl ?_ | refine xG_sub rfl ?_ | refine xG_mul rfl ?_ | refine xG_putI rfl (by exact rfl) (by exact rfl) ?_ | refine xG_go (fun _ => rfl) ?_)
    rw [en]
    refine xb_ge rfl (by omega) (by omega) (fun _ => ?_) (fun c1 => absurd c1 (by omega))
    exact kk
  | succ k ih =>
    intro j hk
    have key := ih (j + 1) (by omega)
    simp only [itP, smP] at key
    iterate 3 (first | refine xG_getI rfl (by exact rfl) (by exact rfl) ?_ | refine xG_getR rfl (by exact rfl) (by exact rfl) ?_ | refine xG_add rfl ?_ | refine xG_sub rfl ?_ | refine xG_mul rfl ?_ | refine xG_putI rfl (by exact rfl) (by exact rfl) ?_ | refine xG_go (fun _ => rfl) ?_)
    rw [en]
    refine xb_ge rfl (by omega) (by omega) (fun c1 => absurd c1 (by omega)) (fun _ => ?_)
    iterate 3 (first | refine xG_getI rfl (by exact rfl) (by exact rfl) ?_ | refine xG_getR rfl (by exact rfl) (by exact rfl) ?_ | refine xG_add rfl ?_ | refine xG_sub rfl ?_ | refine xG_mul rfl ?_ | refine xG_putI rfl (by exact rfl) (by exact rfl) ?_ | refine xG_go (fun _ => rfl) ?_)
    refine xS2 rfl (by decide) (by simp) (m_has (a := a) (m := j) ha (by omega)) (fun r M' hq => ?_)
    obtain ⟨rfl, rfl⟩ := hq
    by_cases q : a / 2 ^ j % 2 = 1
    · rw [b01_t q]
      rw [if_pos q, if_pos q] at key
      refine xe1 rfl ?_
      iterate 7 (first | refine xG_getI rfl (by exact rfl) (by exact rfl) ?_ | refine xG_getR rfl (by exact rfl) (by exact rfl) ?_ | refine xG_add rfl ?_ | refine xG_sub rfl ?_ | refine xG_mul rfl ?_ | refine xG_putI rfl (by exact rfl) (by exact rfl) ?_ | refine xG_go (fun _ => rfl) ?_)
      refine xS2 rfl (by decide) (by simp) (m_has (a := a) (m := j) ha (by omega)) (fun r M' hq => ?_)
      obtain ⟨rfl, rfl⟩ := hq
      rw [b01_t q]
      refine xe1 rfl ?_
      iterate 6 (first | refine xG_getI rfl (by exact rfl) (by exact rfl) ?_ | refine xG_getR rfl (by exact rfl) (by exact rfl) ?_ | refine xG_add rfl ?_ | refine xG_sub rfl ?_ | refine xG_mul rfl ?_ | refine xG_putI rfl (by exact rfl) (by exact rfl) ?_ | refine xG_go (fun _ => rfl) ?_)
      exact key
    · rw [b01_f q]
      rw [if_neg q, if_neg q] at key
      refine xe0 rfl ?_
      iterate 8 (first | refine xG_getI rfl (by exact rfl) (by exact rfl) ?_ | refine xG_getR rfl (by exact rfl) (by exact rfl) ?_ | refine xG_add rfl ?_ | refine xG_sub rfl ?_ | refine xG_mul rfl ?_ | refine xG_putI rfl (by exact rfl) (by exact rfl) ?_ | refine xG_go (fun _ => rfl) ?_)
      refine xS2 rfl (by decide) (by simp) (m_has (a := a) (m := j) ha (by omega)) (fun r M' hq => ?_)
      obtain ⟨rfl, rfl⟩ := hq
      rw [b01_f q]
      refine xe0 rfl ?_
      iterate 2 (first | refine xG_getI rfl (by exact rfl) (by exact rfl) ?_ | refine xG_getR rfl (by exact rfl) (by exact rfl) ?_ | refine xG_add rfl ?_ | refine xG_sub rfl ?_ | refine xG_mul rfl ?_ | refine xG_putI rfl (by exact rfl) (by exact rfl) ?_ | refine xG_go (fun _ => rfl) ?_)
      refine xV2 rfl (by exact rfl) (by simp) (m_voteOf h hd (show j < 6 by omega)) (fun r M' hq => ?_)
      obtain ⟨rfl, rfl⟩ := hq
      iterate 4 (first | refine xG_getI rfl (by exact rfl) (by exact rfl) ?_ | refine xG_getR rfl (by exact rfl) (by exact rfl) ?_ | refine xG_add rfl ?_ | refine xG_sub rfl ?_ | refine xG_mul rfl ?_ | refine xG_putI rfl (by exact rfl) (by exact rfl) ?_ | refine xG_go (fun _ => rfl) ?_)
      exact key
theorem l_oout {x : Int} {w : mv_V} {nm : Nat} (h : mok M) (hd : dok (M 158)) (en : M 143 2 = nm) {x4 : Option mv_V} {Q : Option mv_V → mv_M → Prop} (kk : ∀ x6 x7 x8, xG sc (d + 2) y_Mod_odds 161 [some (mR 143), some (mI x), some w, some (mI (sumT (trm x (vm M) nm 0) (2 ^ nm))), x4, some (mI ((2 ^ nm : Nat) : Int)), x6, x7, x8] [] M Q) : ∀ (k a : Nat) (x6 x7 x8 : Option mv_V), a + k = 2 ^ nm → xG sc (d + 2) y_Mod_odds 58 [some (mR 143), some (mI x), some w, some (mI (sumT (trm x (vm M) nm 0) a)), x4, some (mI a), x6, x7, x8] [] M Q := by
  have h2 := h.2.2.1
  have p2 : 2 ^ nm ≤ 64 := by
    rcases (show nm = 0 ∨ nm = 1 ∨ nm = 2 ∨ nm = 3 ∨ nm = 4 ∨ nm = 5 ∨ nm = 6 by omega) with rfl | rfl | rfl | rfl | rfl | rfl | rfl <;> decide
  intro k
  induction k with
  | zero =>
    intro a x6 x7 x8 hk
    have e : a = 2 ^ nm := by omega
    iterate 4 (first | refine xG_getI rfl (by exact rfl) (by exact rfl) ?_ | refine xG_getR rfl (by exact rfl) (by exact rfl) ?_ | refine xG_add rfl ?_ | refine xG_sub rfl ?_ | refine xG_mul rfl ?_ | refine xG_putI rfl (by exact rfl) (by exact rfl) ?_ | refine xG_go (fun _ => rfl) ?_)
    rw [en]
    refine xG_shl rfl (by omega) ?_
    refine xb_ge rfl (by omega) (by omega) (fun _ => ?_) (fun c1 => absurd c1 (by omega))
    rw [e]
    exact kk _ _ _
  | succ k ih =>
    intro a x6 x7 x8 hk
    have key := fun x6 x7 x8 => ih (a + 1) x6 x7 x8 (by omega)
    simp only [sumT] at key
    have sb := smP_in (v := vm M) (fun i => vote_in _ _ i) a nm
    iterate 4 (first | refine xG_getI rfl (by exact rfl) (by exact rfl) ?_ | refine xG_getR rfl (by exact rfl) (by exact rfl) ?_ | refine xG_add rfl ?_ | refine xG_sub rfl ?_ | refine xG_mul rfl ?_ | refine xG_putI rfl (by exact rfl) (by exact rfl) ?_ | refine xG_go (fun _ => rfl) ?_)
    rw [en]
    refine xG_shl rfl (by omega) ?_
    refine xb_ge rfl (by omega) (by omega) (fun c1 => absurd c1 (by omega)) (fun _ => ?_)
    iterate 6 (first | refine xG_getI rfl (by exact rfl) (by exact rfl) ?_ | refine xG_getR rfl (by exact rfl) (by exact rfl) ?_ | refine xG_add rfl ?_ | refine xG_sub rfl ?_ | refine xG_mul rfl ?_ | refine xG_putI rfl (by exact rfl) (by exact rfl) ?_ | refine xG_go (fun _ => rfl) ?_)
    refine l_oin (x := x) (w := w) (nm := nm) (a := a) (by omega) h hd en ?_ nm 0 (by omega)
    iterate 2 (first | refine xG_getI rfl (by exact rfl) (by exact rfl) ?_ | refine xG_getR rfl (by exact rfl) (by exact rfl) ?_ | refine xG_add rfl ?_ | refine xG_sub rfl ?_ | refine xG_mul rfl ?_ | refine xG_putI rfl (by exact rfl) (by exact rfl) ?_ | refine xG_go (fun _ => rfl) ?_)
    refine xi_le rfl (by omega) (fun c1 => ?_) (fun c1 => ?_)
    · rw [show trm x (vm M) nm 0 a = 0 by unfold trm; rw [if_neg (by omega)]] at key
      iterate 5 (first | refine xG_getI rfl (by exact rfl) (by exact rfl) ?_ | refine xG_getR rfl (by exact rfl) (by exact rfl) ?_ | refine xG_add rfl ?_ | refine xG_sub rfl ?_ | refine xG_mul rfl ?_ | refine xG_putI rfl (by exact rfl) (by exact rfl) ?_ | refine xG_go (fun _ => rfl) ?_)
      exact key _ _ _
    · rw [show trm x (vm M) nm 0 a = itP x a nm by unfold trm; rw [if_pos (by omega)]] at key
      iterate 6 (first | refine xG_getI rfl (by exact rfl) (by exact rfl) ?_ | refine xG_getR rfl (by exact rfl) (by exact rfl) ?_ | refine xG_add rfl ?_ | refine xG_sub rfl ?_ | refine xG_mul rfl ?_ | refine xG_putI rfl (by exact rfl) (by exact rfl) ?_ | refine xG_go (fun _ => rfl) ?_)
      exact key _ _ _
theorem pow10_in {nm : Nat} (h : nm ≤ 6) : 1 ≤ (10 : Int) ^ nm ∧ (10 : Int) ^ nm ≤ 1000000 := by
  rcases (show nm = 0 ∨ nm = 1 ∨ nm = 2 ∨ nm = 3 ∨ nm = 4 ∨ nm = 5 ∨ nm = 6 by omega) with rfl | rfl | rfl | rfl | rfl | rfl | rfl <;> decide
theorem m_odds {x w : Int} {nm a b : Nat} (hx : 0 ≤ x ∧ x ≤ 10) (hw : 0 ≤ w ∧ w ≤ 1) (h : mok M) (hd : dok (M 147)) (en : M 143 2 = nm) (ea : (a : Int) = wy x nm (vm (aM M)) 0) (eb : (b : Int) = 10 ^ nm) : xC sc (d + 5) n_Mod_odds [mR 143, mI x, mI w] M (fun r M' => M' = aM M ∧ r = some (mI (((if w = 0 then a else b) / Nat.gcd a b : Nat) : Int))) := by
  have h2 := h.2.2.1
  have p6 := pow10_in (nm := nm) (by omega)
  have b1 := wy_in hx nm (vm (aM M)) 0
  have hA : mok (aM M) := Sl_mok (Sc_Sl aM_Sc) h
  refine xC_in rfl rfl (by simp; decide) ?_
  iterate 3 (first | refine xG_getI rfl (by exact rfl) (by exact rfl) ?_ | refine xG_getR rfl (by exact rfl) (by exact rfl) ?_ | refine xG_add rfl ?_ | refine xG_sub rfl ?_ | refine xG_mul rfl ?_ | refine xG_putI rfl (by exact rfl) (by exact rfl) ?_ | refine xG_go (fun _ => rfl) ?_)
  refine xS3 rfl (by decide) (by simp) (m_in (by omega) (by decide) (by decide)) (fun r M' hq => ?_)
  obtain ⟨rfl, rfl⟩ := hq
  rw [b01_t hx]
  refine xe1 rfl ?_
  iterate 3 (first | refine xG_getI rfl (by exact rfl) (by exact rfl) ?_ | refine xG_getR rfl (by exact rfl) (by exact rfl) ?_ | refine xG_add rfl ?_ | refine xG_sub rfl ?_ | refine xG_mul rfl ?_ | refine xG_putI rfl (by exact rfl) (by exact rfl) ?_ | refine xG_go (fun _ => rfl) ?_)
  refine xS3 rfl (by decide) (by simp) (m_in (by omega) (by decide) (by decide)) (fun r M' hq => ?_)
  obtain ⟨rfl, rfl⟩ := hq
  rw [b01_t hw]
  refine xn1 rfl ?_
  iterate 1 (first | refine xG_getI rfl (by exact rfl) (by exact rfl) ?_ | refine xG_getR rfl (by exact rfl) (by exact rfl) ?_ | refine xG_add rfl ?_ | refine xG_sub rfl ?_ | refine xG_mul rfl ?_ | refine xG_putI rfl (by exact rfl) (by exact rfl) ?_ | refine xG_go (fun _ => rfl) ?_)
  refine xV1 rfl (by exact rfl) (by simp) m_asItIs (fun r M' hq => ?_)
  obtain ⟨rfl, rfl⟩ := hq
  change xG sc (d + 4) y_Mod_odds _ _ _ (aM M) _
  have enA : aM M 143 2 = nm := by rw [aM_ne (by decide), en]
  iterate 6 (first | refine xG_getI rfl (by exact rfl) (by exact rfl) ?_ | refine xG_getR rfl (by exact rfl) (by exact rfl) ?_ | refine xG_add rfl ?_ | refine xG_sub rfl ?_ | refine xG_mul rfl ?_ | refine xG_putI rfl (by exact rfl) (by exact rfl) ?_ | refine xG_go (fun _ => rfl) ?_)
  refine l_b10 (M := aM M) (nm := nm) (by omega) enA ?_ nm 0 (by omega)
  iterate 2 (first | refine xG_getI rfl (by exact rfl) (by exact rfl) ?_ | refine xG_getR rfl (by exact rfl) (by exact rfl) ?_ | refine xG_add rfl ?_ | refine xG_sub rfl ?_ | refine xG_mul rfl ?_ | refine xG_putI rfl (by exact rfl) (by exact rfl) ?_ | refine xG_go (fun _ => rfl) ?_)
  refine l_oout (d := d + 2) (M := aM M) (x := x) (nm := nm) hA (aM_dok hd) enA (fun x6 x7 x8 => ?_) (2 ^ nm) 0 _ _ _ (by omega)
  iterate 3 (first | refine xG_getI rfl (by exact rfl) (by exact rfl) ?_ | refine xG_getR rfl (by exact rfl) (by exact rfl) ?_ | refine xG_add rfl ?_ | refine xG_sub rfl ?_ | refine xG_mul rfl ?_ | refine xG_putI rfl (by exact rfl) (by exact rfl) ?_ | refine xG_go (fun _ => rfl) ?_)
  rw [sum_wy, ← ea, ← eb]
  refine xS3 rfl (by decide) (by simp) (m_lowest (a := a) (b := b) hw (by omega) (by omega)) (fun r M' hq => ?_)
  obtain ⟨rfl, rfl⟩ := hq
  exact xG_ret (fun _ => rfl) ⟨rfl, rfl⟩
end YY
