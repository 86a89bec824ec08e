/-! THE PLAN: the class -/
section ZA
variable {sc : Nat × (Nat → Int)} {d c : Nat} {M : mv_M}
theorem sk_step {p : Nat} (hp : p < 4) : [some 89, some 94, some 99, some 104][p]? = some (some (89 + 5 * p)) := by
  rcases (show p = 0 ∨ p = 1 ∨ p = 2 ∨ p = 3 by omega) with rfl | rfl | rfl | rfl <;> rfl
theorem dR_right {st no : Int} {g h : Nat → Int} (r : dR st no g h) : dR st no h h := ⟨r.2.1, r.2.1, fun _ _ => rfl, fun o ho => ⟨rfl, rfl, by have := r.2.2.2 o ho; omega⟩⟩
theorem dR_left {st no : Int} {g h : Nat → Int} (r : dR st no g h) : dR st no g g := ⟨r.1, r.1, fun _ _ => rfl, fun o ho => ⟨rfl, rfl, by have := r.2.2.2 o ho; omega⟩⟩
theorem frst_lt {P : Nat → Bool} : ∀ (n j : Nat) {r : Nat}, frst (fun i => if P i = true then some i else none) n j = some r → r < j + n
  | 0, j, r, h => by cases h
  | n + 1, j, r, h => by
    by_cases w : P j = true
    · rw [frst_s (r := j) (by rw [if_pos w])] at h
      cases h
      omega
    · rw [frst_n (by rw [if_neg w])] at h
      have := frst_lt n (j + 1) h
      omega
theorem srch_lt {nm : Nat} {tu no : Int} {home coat : Nat → Int} {like : Nat → Nat → Int} {k r : Nat} {g : Nat → Int} (h : srch nm tu no home coat like k g = some r) : r < 12 ^ k := by
  have := frst_lt (P := fun n => chk nm tu no home coat like k n g) (12 ^ k) 0 h
  omega
theorem dig0 {k q r : Nat} (hk : k ≤ 2) (hr : r < 12 ^ k) (hq : q < 12) : (q * 12 ^ k + r) / 12 ^ (k + 1 - 1 - 0) % 12 = q := by
  rcases (show k = 0 ∨ k = 1 ∨ k = 2 by omega) with rfl | rfl | rfl <;> simp only [Nat.reducePow, Nat.reduceSub, Nat.reduceAdd] at hr ⊢ <;> omega
theorem dig1 {k q r i : Nat} (hk : k ≤ 2) (hr : r < 12 ^ k) (hq : q < 12) (hi : i < k) : (q * 12 ^ k + r) / 12 ^ (k + 1 - 1 - (i + 1)) % 12 = r / 12 ^ (k - 1 - i) % 12 := by
  rcases (show k = 1 ∧ i = 0 ∨ k = 2 ∧ i = 0 ∨ k = 2 ∧ i = 1 by omega) with ⟨rfl, rfl⟩ | ⟨rfl, rfl⟩ | ⟨rfl, rfl⟩ <;> simp only [Nat.reducePow, Nat.reduceSub, Nat.reduceAdd] at hr ⊢ <;> omega
def cbF (N N' : mv_M) (p : Nat) : Prop := (∀ a, (a < 88 ∨ 109 ≤ a) → N' a = N a) ∧ (∀ a, 89 ≤ a → a < 94 + 5 * p → N' a = N a) ∧ ∀ i, i < p → N' 88 i = N 88 i
def cbQ (N : mv_M) (p k : Nat) (X : Option Nat) (r : Option mv_V) (N' : mv_M) : Prop := cbF N N' p ∧ r = some (mI (b01 (X.isSome = true))) ∧ ∀ n, X = some n → ∀ i, i < k → N' 88 (p + i) = enc (n / 12 ^ (k - 1 - i) % 12)
theorem cbF_refl {N : mv_M} {p : Nat} : cbF N N p := ⟨fun _ _ => rfl, fun _ _ _ => rfl, fun _ _ => rfl⟩
theorem l_cbi {nm tu no p k o : Nat} {mn : Int} {N0 : mv_M} {X : Option Nat} (hl : lok M) (en : M 4 2 = nm) (et : M 4 1 = tu) (eo : M 4 3 = no) (hp : p + k < 3) (hN0 : ∀ a, a < 16 → N0 a = M a) (hg : dR (M 4 0) (M 4 3) (dv N0 (89 + 5 * p)) (dv N0 (89 + 5 * p)))
    (ih : ∀ N, (∀ a, a < 16 → N a = M a) → dR (M 4 0) (M 4 3) (dv N (89 + 5 * (p + 1))) (dv N (89 + 5 * (p + 1))) → xC sc (d + 4 + k) n_Planner_carriesBehind [mR 86, mI ((p + 1 : Nat) : Int), mI mn] N (fun r N' => cbQ N (p + 1) k (srch nm (M 4 1) (M 4 3) (M 5) (M 6) (lk M) k (dv N (89 + 5 * (p + 1)))) r N'))
    (ho : o < no) (kk : ∀ N x4, cbF N0 N p → X = frst (sq nm (M 4 1) (M 4 3) (M 5) (M 6) (lk M) k (dv N0 (89 + 5 * p))) (12 - 4 * (o + 1)) (4 * (o + 1)) → xG sc (d + 4 + k) y_Planner_carriesBehind 22 [some (mR 86), some (mI p), some (mI mn), some (mI ((o + 1 : Nat) : Int)), x4] [] N (fun r N' => cbQ N0 p (k + 1) X r N')) :
    ∀ (m t : Nat) (N : mv_M), t + m = tu → cbF N0 N p → X = frst (sq nm (M 4 1) (M 4 3) (M 5) (M 6) (lk M) k (dv N0 (89 + 5 * p))) (12 - (4 * o + t)) (4 * o + t) → xG sc (d + 4 + k) y_Planner_carriesBehind 36 [some (mR 86), some (mI p), some (mI mn), some (mI o), some (mI t)] [] N (fun r N' => cbQ N0 p (k + 1) X r N') := by
  have h0 := hl.1
  have h1 := hl.2.1
  have h2 := hl.2.2.1
  have h3 := hl.2.2.2.1
  have n6 : nm ≤ 6 := by omega
  have iD := isDay_step p (by omega)
  have iE := isDay_step (p + 1) (by omega)
  have s0 := sk_step (p := p) (by omega)
  have s1 := sk_step (p := p + 1) (by omega)
  intro m
  induction m with
  | zero =>
    intro t N hk hN hX
    have : t = tu := by omega
    subst this
    iterate 4 (first | refine xG_getI rfl (by exact rfl) (by exact rfl) ?_ | refine xG_getR rfl (by exact rfl) (by exact rfl) ?_ | refine xG_add rfl ?_ | refine xG_sub rfl ?_ | refine xG_mul rfl ?_ | refine xG_putI rfl (by exact rfl) (by exact rfl) ?_ | refine xG_go (fun _ => rfl) ?_)
    rw [hN.1 4 (by decide), hN0 4 (by decide), et]
    refine xb_ge rfl (by omega) (by omega) (fun _ => ?_) (fun c1 => absurd c1 (by omega))
    iterate 2 (first | refine xG_getI rfl (by exact rfl) (by exact rfl) ?_ | refine xG_getR rfl (by exact rfl) (by exact rfl) ?_ | refine xG_add rfl ?_ | refine xG_sub rfl ?_ | refine xG_mul rfl ?_ | refine xG_putI rfl (by exact rfl) (by exact rfl) ?_ | refine xG_go (fun _ => rfl) ?_)
    refine kk N _ hN ?_
    rw [hX, show 12 - (4 * o + t) = (4 - t) + (12 - 4 * (o + 1)) by omega, frst_skip (4 - t) _ _ (fun i g1 g2 => by unfold sq; rw [if_neg (by omega)]), show 4 * o + t + (4 - t) = 4 * (o + 1) by omega]
  | succ m im =>
    intro t N hk hN hX
    obtain ⟨f1, f2, f3⟩ := hN
    have eN : ∀ a, a < 16 → N a = M a := fun a ha => by rw [f1 a (by omega), hN0 a ha]
    have eDN : dv N (89 + 5 * p) = dv N0 (89 + 5 * p) := dv_same (fun a _ _ => f2 a (by omega) (by omega))
    iterate 4 (first | refine xG_getI rfl (by exact rfl) (by exact rfl) ?_ | refine xG_getR rfl (by exact rfl) (by exact rfl) ?_ | refine xG_add rfl ?_ | refine xG_sub rfl ?_ | refine xG_mul rfl ?_ | refine xG_putI rfl (by exact rfl) (by exact rfl) ?_ | refine xG_go (fun _ => rfl) ?_)
    rw [eN 4 (by decide), et]
    refine xb_ge rfl (by omega) (by omega) (fun c1 => absurd c1 (by omega)) (fun _ => ?_)
    iterate 5 (first | refine xG_getI rfl (by exact rfl) (by exact rfl) ?_ | refine xG_getR rfl (by exact rfl) (by exact rfl) ?_ | refine xG_add rfl ?_ | refine xG_sub rfl ?_ | refine xG_mul rfl ?_ | refine xG_putI rfl (by exact rfl) (by exact rfl) ?_ | refine xG_go (fun _ => rfl) ?_)
    refine xG_aald rfl (by exact rfl) (Or.inl rfl) (by omega) (by rw [show ((p : Int) + 1).toNat = p + 1 by omega]; exact s1) ?_
    iterate 3 (first | refine xG_getI rfl (by exact rfl) (by exact rfl) ?_ | refine xG_getR rfl (by exact rfl) (by exact rfl) ?_ | refine xG_add rfl ?_ | refine xG_sub rfl ?_ | refine xG_mul rfl ?_ | refine xG_putI rfl (by exact rfl) (by exact rfl) ?_ | refine xG_go (fun _ => rfl) ?_)
    refine xG_aald rfl (by exact rfl) (Or.inl rfl) (by omega) (by rw [Int.toNat_natCast]; exact s0) ?_
    refine xV2 rfl iE.1 (by simp) (by rw [show d + 4 + k = d + 3 + k + 1 by omega]; exact c_becomes iE iD (by omega)) (fun r N1 hq => ?_)
    obtain ⟨rfl, q1, q2⟩ := hq
    have eN1 : ∀ a, a < 16 → N1 a = M a := fun a ha => by rw [q2 a (by omega), eN a ha]
    have g1 : dR (M 4 0) (M 4 3) (dv N0 (89 + 5 * p)) (dv N1 (89 + 5 * (p + 1))) := dR_cong h3.2 (fun _ _ => rfl) (fun i hi => by rw [q1 i hi, eDN]) hg
    iterate 5 (first | refine xG_getI rfl (by exact rfl) (by exact rfl) ?_ | refine xG_getR rfl (by exact rfl) (by exact rfl) ?_ | refine xG_add rfl ?_ | refine xG_sub rfl ?_ | refine xG_mul rfl ?_ | refine xG_putI rfl (by exact rfl) (by exact rfl) ?_ | refine xG_go (fun _ => rfl) ?_)
    refine xG_aald rfl (by exact rfl) (Or.inl rfl) (by omega) (by rw [show ((p : Int) + 1).toNat = p + 1 by omega]; exact s1) ?_
    iterate 2 (first | refine xG_getI rfl (by exact rfl) (by exact rfl) ?_ | refine xG_getR rfl (by exact rfl) (by exact rfl) ?_ | refine xG_add rfl ?_ | refine xG_sub rfl ?_ | refine xG_mul rfl ?_ | refine xG_putI rfl (by exact rfl) (by exact rfl) ?_ | refine xG_go (fun _ => rfl) ?_)
    refine xV3 rfl iE.1 (by simp) (by rw [show d + 4 + k = d + 3 + k + 1 by omega]; exact c_sounds iE (by omega) (far_lok eN1 hl) g1.2.1 (nm := nm) (by rw [eN1 4 (by decide), en]) (show o < 3 by omega) (t := (t : Int)) (by rw [eN1 4 (by decide)]; omega)) (fun r N2 hq => ?_)
    obtain ⟨rfl, q3, q4⟩ := hq
    iterate 9 (first | refine xG_getI rfl (by exact rfl) (by exact rfl) ?_ | refine xG_getR rfl (by exact rfl) (by exact rfl) ?_ | refine xG_add rfl ?_ | refine xG_sub rfl ?_ | refine xG_mul rfl ?_ | refine xG_putI rfl (by exact rfl) (by exact rfl) ?_ | refine xG_go (fun _ => rfl) ?_)
    refine xG_ast rfl (by exact rfl) (by omega) ?_
    rw [Int.toNat_natCast]
    iterate 5 (first | refine xG_getI rfl (by exact rfl) (by exact rfl) ?_ | refine xG_getR rfl (by exact rfl) (by exact rfl) ?_ | refine xG_add rfl ?_ | refine xG_sub rfl ?_ | refine xG_mul rfl ?_ | refine xG_putI rfl (by exact rfl) (by exact rfl) ?_ | refine xG_go (fun _ => rfl) ?_)
    have eN3 : ∀ a, a < 16 → mv_up N2 88 p (10 * (o : Int) + (t : Int)) a = M a := fun a ha => by rw [mv_upne (by omega), q4 a (by omega) (by omega), eN1 a ha]
    have eD3 : dv (mv_up N2 88 p (10 * (o : Int) + (t : Int))) (89 + 5 * (p + 1)) = dv N2 (89 + 5 * (p + 1)) := dv_same (fun a _ _ => mv_upne (by omega))
    have g2 : dR (M 4 0) (M 4 3) (play nm (M 4 1) (M 5) (lk M) (dv N0 (89 + 5 * p)) o t) (dv (mv_up N2 88 p (10 * (o : Int) + (t : Int))) (89 + 5 * (p + 1))) := by
      rw [eD3, q3, eN1 4 (by decide), eN1 5 (by decide)]
      exact (play_dR n6 h1 h3.2 (by omega) (fun _ _ => rfl) (fun m u hm hu => by unfold lk; rw [eN1 (8 + m) (by omega)]) g1).2
    refine xV3 rfl (by exact rfl) (by simp) (ih _ eN3 (dR_right g2)) (fun r N4 hq => ?_)
    rw [srch_dR n6 h1 h3.2 (fun _ _ => rfl) (fun _ _ => rfl) (fun _ _ _ _ => rfl) g2] at hq
    obtain ⟨⟨e1, e2, e3⟩, rfl, e4⟩ := hq
    have fr : cbF N0 N4 p := by
      refine ⟨fun a ha => ?_, fun a ha hb => ?_, fun i hi => ?_⟩
      · rw [e1 a ha, mv_upne (by omega), q4 a (by omega) (by omega), q2 a (by omega), f1 a ha]
      · rw [e2 a ha (by omega), mv_upne (by omega), q4 a (by omega) (by omega), q2 a (by omega), f2 a ha hb]
      · rw [e3 i (by omega), mv_up_j (by omega), q4 88 (by omega) (by omega), q2 88 (by omega), f3 i hi]
    have es : sq nm (M 4 1) (M 4 3) (M 5) (M 6) (lk M) k (dv N0 (89 + 5 * p)) (4 * o + t) = (srch nm (M 4 1) (M 4 3) (M 5) (M 6) (lk M) k (play nm (M 4 1) (M 5) (lk M) (dv N0 (89 + 5 * p)) o t)).map (fun r => (4 * o + t) * 12 ^ k + r) := by
      unfold sq
      rw [show (4 * o + t) / 4 = o by omega, show (4 * o + t) % 4 = t by omega, if_pos (by omega)]
    rw [show 12 - (4 * o + t) = 12 - (4 * o + (t + 1)) + 1 by omega] at hX
    cases hs : srch nm (M 4 1) (M 4 3) (M 5) (M 6) (lk M) k (play nm (M 4 1) (M 5) (lk M) (dv N0 (89 + 5 * p)) o t) with
    | none =>
      rw [hs] at es
      rw [frst_n es] at hX
      rw [b01_f (by simp)]
      refine xe0 rfl ?_
      iterate 2 (first | refine xG_getI rfl (by exact rfl) (by exact rfl) ?_ | refine xG_getR rfl (by exact rfl) (by exact rfl) ?_ | refine xG_add rfl ?_ | refine xG_sub rfl ?_ | refine xG_mul rfl ?_ | refine xG_putI rfl (by exact rfl) (by exact rfl) ?_ | refine xG_go (fun _ => rfl) ?_)
      exact im (t + 1) N4 (by omega) fr hX
    | some r =>
      rw [hs] at es e4
      rw [frst_s (r := (4 * o + t) * 12 ^ k + r) es] at hX
      rw [b01_t (by simp)]
      refine xe1 rfl ?_
      iterate 1 (first | refine xG_getI rfl (by exact rfl) (by exact rfl) ?_ | refine xG_getR rfl (by exact rfl) (by exact rfl) ?_ | refine xG_add rfl ?_ | refine xG_sub rfl ?_ | refine xG_mul rfl ?_ | refine xG_putI rfl (by exact rfl) (by exact rfl) ?_ | refine xG_go (fun _ => rfl) ?_)
      refine xG_ret (fun _ => rfl) ⟨fr, by rw [hX, b01_t (by simp)], fun n hn i hi => ?_⟩
      rw [hX] at hn
      cases hn
      have hr := srch_lt hs
      cases i with
      | zero =>
        rw [dig0 (by omega) hr (by omega), Nat.add_zero, e3 p (by omega), mv_up_at]
        unfold enc
        rw [show (4 * o + t) / 4 = o by omega, show (4 * o + t) % 4 = t by omega]
      | succ i =>
        rw [dig1 (by omega) hr (by omega) (by omega), show p + (i + 1) = p + 1 + i by omega]
        exact e4 r rfl i (by omega)
theorem l_cbo {nm tu no p k : Nat} {mn : Int} {N0 : mv_M} {X : Option Nat} (hl : lok M) (en : M 4 2 = nm) (et : M 4 1 = tu) (eo : M 4 3 = no) (hp : p + k < 3) (hN0 : ∀ a, a < 16 → N0 a = M a) (hg : dR (M 4 0) (M 4 3) (dv N0 (89 + 5 * p)) (dv N0 (89 + 5 * p)))
    (ih : ∀ N, (∀ a, a < 16 → N a = M a) → dR (M 4 0) (M 4 3) (dv N (89 + 5 * (p + 1))) (dv N (89 + 5 * (p + 1))) → xC sc (d + 4 + k) n_Planner_carriesBehind [mR 86, mI ((p + 1 : Nat) : Int), mI mn] N (fun r N' => cbQ N (p + 1) k (srch nm (M 4 1) (M 4 3) (M 5) (M 6) (lk M) k (dv N (89 + 5 * (p + 1)))) r N')) :
    ∀ (m o : Nat) (N : mv_M) (x4 : Option mv_V), o + m = no → cbF N0 N p → X = frst (sq nm (M 4 1) (M 4 3) (M 5) (M 6) (lk M) k (dv N0 (89 + 5 * p))) (12 - 4 * o) (4 * o) → xG sc (d + 4 + k) y_Planner_carriesBehind 22 [some (mR 86), some (mI p), some (mI mn), some (mI o), x4] [] N (fun r N' => cbQ N0 p (k + 1) X r N') := by
  have h1 := hl.2.1
  have h3 := hl.2.2.2.1
  intro m
  induction m with
  | zero =>
    intro o N x4 hk hN hX
    have : o = no := by omega
    subst this
    iterate 4 (first | refine xG_getI rfl (by exact rfl) (by exact rfl) ?_ | refine xG_getR rfl (by exact rfl) (by exact rfl) ?_ | refine xG_add rfl ?_ | refine xG_sub rfl ?_ | refine xG_mul rfl ?_ | refine xG_putI rfl (by exact rfl) (by exact rfl) ?_ | refine xG_go (fun _ => rfl) ?_)
    rw [hN.1 4 (by decide), hN0 4 (by decide), eo]
    refine xb_ge rfl (by omega) (by omega) (fun _ => ?_) (fun c1 => absurd c1 (by omega))
    iterate 1 (first | refine xG_getI rfl (by exact rfl) (by exact rfl) ?_ | refine xG_getR rfl (by exact rfl) (by exact rfl) ?_ | refine xG_add rfl ?_ | refine xG_sub rfl ?_ | refine xG_mul rfl ?_ | refine xG_putI rfl (by exact rfl) (by exact rfl) ?_ | refine xG_go (fun _ => rfl) ?_)
    rw [frst_none _ _ (fun i g1 g2 => by unfold sq; rw [if_neg (by omega)])] at hX
    refine xG_ret (fun _ => rfl) ⟨hN, by rw [hX, b01_f (by simp)], fun n hn => ?_⟩
    rw [hX] at hn
    cases hn
  | succ m im =>
    intro o N x4 hk hN hX
    iterate 4 (first | refine xG_getI rfl (by exact rfl) (by exact rfl) ?_ | refine xG_getR rfl (by exact rfl) (by exact rfl) ?_ | refine xG_add rfl ?_ | refine xG_sub rfl ?_ | refine xG_mul rfl ?_ | refine xG_putI rfl (by exact rfl) (by exact rfl) ?_ | refine xG_go (fun _ => rfl) ?_)
    rw [hN.1 4 (by decide), hN0 4 (by decide), eo]
    refine xb_ge rfl (by omega) (by omega) (fun c1 => absurd c1 (by omega)) (fun _ => ?_)
    iterate 2 (first | refine xG_getI rfl (by exact rfl) (by exact rfl) ?_ | refine xG_getR rfl (by exact rfl) (by exact rfl) ?_ | refine xG_add rfl ?_ | refine xG_sub rfl ?_ | refine xG_mul rfl ?_ | refine xG_putI rfl (by exact rfl) (by exact rfl) ?_ | refine xG_go (fun _ => rfl) ?_)
    exact l_cbi hl en et eo hp hN0 hg ih (show o < no by omega) (fun N x4 g1 g2 => im (o + 1) N x4 (by omega) g1 g2) tu 0 N (by omega) hN hX
theorem c_cb {nm : Nat} (hl : lok M) (en : M 4 2 = nm) : ∀ (k p : Nat) (mn : Int) (N : mv_M), p + k ≤ 3 → mn = ((p + k : Nat) : Int) → (∀ a, a < 16 → N a = M a) → dR (M 4 0) (M 4 3) (dv N (89 + 5 * p)) (dv N (89 + 5 * p)) → xC sc (d + 4 + k) n_Planner_carriesBehind [mR 86, mI p, mI mn] N (fun r N' => cbQ N p k (srch nm (M 4 1) (M 4 3) (M 5) (M 6) (lk M) k (dv N (89 + 5 * p))) r N') := by
  have h1 := hl.2.1
  have h3 := hl.2.2.2.1
  obtain ⟨tu, et⟩ := Int.eq_ofNat_of_zero_le (show 0 ≤ M 4 1 by omega)
  obtain ⟨no, eo⟩ := Int.eq_ofNat_of_zero_le (show 0 ≤ M 4 3 by omega)
  intro k
  induction k with
  | zero =>
    intro p mn N hp hm hN hg
    refine xC_in rfl rfl (by simp; decide) ?_
    iterate 2 (first | refine xG_getI rfl (by exact rfl) (by exact rfl) ?_ | refine xG_getR rfl (by exact rfl) (by exact rfl) ?_ | refine xG_add rfl ?_ | refine xG_sub rfl ?_ | refine xG_mul rfl ?_ | refine xG_putI rfl (by exact rfl) (by exact rfl) ?_ | refine xG_go (fun _ => rfl) ?_)
    refine xb_ge rfl (by omega) (by omega) (fun _ => ?_) (fun c1 => absurd c1 (by omega))
    iterate 3 (first | refine xG_getI rfl (by exact rfl) (by exact rfl) ?_ | refine xG_getR rfl (by exact rfl) (by exact rfl) ?_ | refine xG_add rfl ?_ | refine xG_sub rfl ?_ | refine xG_mul rfl ?_ | refine xG_putI rfl (by exact rfl) (by exact rfl) ?_ | refine xG_go (fun _ => rfl) ?_)
    refine xG_aald rfl (by exact rfl) (Or.inl rfl) (by omega) (by rw [Int.toNat_natCast]; exact sk_step (by omega)) ?_
    have iD := isDay_step p (by omega)
    refine xV1 rfl iD.1 (by simp) (c_carries iD (far_lok hN hl) hg.1 (nm := nm) (by rw [hN 4 (by decide), en])) (fun r M' hq => ?_)
    obtain ⟨rfl, rfl⟩ := hq
    rw [hN 6 (by decide)]
    refine m_bret (p := 0 < marg (M 6) (dv N (89 + 5 * p)) nm) rfl ⟨cbF_refl, ?_, fun n _ i hi => absurd hi (by omega)⟩
    rw [srch_0]
    by_cases w : 0 < marg (M 6) (dv N (89 + 5 * p)) nm
    · rw [if_pos w, b01_t w, b01_t (by simp)]
    · rw [if_neg w, b01_f w, b01_f (by simp)]
  | succ k ik =>
    intro p mn N hp hm hN hg
    show xC sc ((d + 4 + k) + 1) _ _ _ _
    refine xC_in rfl rfl (by simp; decide) ?_
    iterate 2 (first | refine xG_getI rfl (by exact rfl) (by exact rfl) ?_ | refine xG_getR rfl (by exact rfl) (by exact rfl) ?_ | refine xG_add rfl ?_ | refine xG_sub rfl ?_ | refine xG_mul rfl ?_ | refine xG_putI rfl (by exact rfl) (by exact rfl) ?_ | refine xG_go (fun _ => rfl) ?_)
    refine xb_ge rfl (by omega) (by omega) (fun c1 => absurd c1 (by omega)) (fun _ => ?_)
    iterate 2 (first | refine xG_getI rfl (by exact rfl) (by exact rfl) ?_ | refine xG_getR rfl (by exact rfl) (by exact rfl) ?_ | refine xG_add rfl ?_ | refine xG_sub rfl ?_ | refine xG_mul rfl ?_ | refine xG_putI rfl (by exact rfl) (by exact rfl) ?_ | refine xG_go (fun _ => rfl) ?_)
    refine xb_lt rfl (by omega) (by omega) (fun _ => ?_) (fun c1 => absurd c1 (by omega))
    iterate 2 (first | refine xG_getI rfl (by exact rfl) (by exact rfl) ?_ | refine xG_getR rfl (by exact rfl) (by exact rfl) ?_ | refine xG_add rfl ?_ | refine xG_sub rfl ?_ | refine xG_mul rfl ?_ | refine xG_putI rfl (by exact rfl) (by exact rfl) ?_ | refine xG_go (fun _ => rfl) ?_)
    exact l_cbo hl en et eo (by omega) hN hg (fun N g1 g2 => ik (p + 1) mn N (by omega) (by omega) g1 g2) no 0 N _ (by omega) cbF_refl (srch_s ..)
end ZA
