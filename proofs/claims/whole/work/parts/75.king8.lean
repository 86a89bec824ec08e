/-! THE TEXT: the reference reads a monkey -/
section ZL
variable {sc : Nat × (Nat → Int)} {d c : Nat} {M : mv_M}
def mw (N : mv_M) : Prop := (∀ m, m < 6 → (0 ≤ N 153 m ∧ N 153 m ≤ 4) ∧ (0 ≤ N 154 m ∧ N 154 m ≤ 9)) ∧ (∀ k, k < 24 → -3 ≤ N 155 k ∧ N 155 k ≤ 3) ∧ (∀ o, o < 3 → (0 ≤ N 156 o ∧ N 156 o ≤ 4) ∧ (0 ≤ N 157 o ∧ N 157 o ≤ 15))
theorem mw_same {N N' : mv_M} (e : ∀ a, 153 ≤ a → a ≤ 157 → N' a = N a) (h : mw N) : mw N' := by
  unfold mw
  rw [e 153 (by decide) (by decide), e 154 (by decide) (by decide), e 155 (by decide) (by decide), e 156 (by decide) (by decide), e 157 (by decide) (by decide)]
  exact h
theorem bgS_ne {S : mv_M} {l : Int} {a : Nat} (h : a ≠ 16) : bgS S l a = S a := by
  unfold bgS
  rw [mv_upne h, mv_upne h, mv_upne h, mv_upne h]
theorem bgS_16 {S : mv_M} {l : Int} : bgS S l 16 1 = l ∧ bgS S l 16 2 = 0 ∧ bgS S l 16 3 = S 16 3 ∧ bgS S l 16 4 = (if S 16 4 = 1 ∨ l = 115 then 1 else 0) ∧ bgS S l 16 5 = (if S 16 5 = 1 ∨ l = 116 then 1 else 0) := by
  unfold bgS
  refine ⟨?_, ?_, ?_, ?_, ?_⟩
  · rw [mv_up_j (by decide), mv_up_at]
  · rw [mv_up_at]
  · rw [mv_up_j (by decide), mv_up_j (by decide), mv_up_j (by decide), mv_up_j (by decide)]
  · rw [mv_up_j (by decide), mv_up_j (by decide), mv_up_j (by decide), mv_up_at]
  · rw [mv_up_j (by decide), mv_up_j (by decide), mv_up_at]
/-- k numbers of a monkey m are read -/
def PM (S1 S' N : mv_M) (m k : Nat) : Prop := S' 16 1 = 109 ∧ S' 16 2 = k ∧ S' 16 3 = S1 16 3 ∧ S' 16 4 = S1 16 4 ∧ S' 16 5 = S1 16 5 ∧ S' 17 = S1 17 ∧ S' 27 = S1 27 ∧ S' 28 = S1 28 ∧ (∀ i, i ≠ m → S' 18 i = S1 18 i ∧ S' 19 i = S1 19 i) ∧ (∀ i, i < 6 → i ≠ m → S' (21 + i) = S1 (21 + i)) ∧ (1 ≤ k → N 153 m = S' 18 m) ∧ (2 ≤ k → N 154 m = S' 19 m) ∧ ∀ u, u + 2 < k → N 155 (4 * m + u) = S' (21 + m) u
def NM (N0 N : mv_M) (m : Nat) : Prop := (∀ a, a ≠ 143 → a ≠ 153 → a ≠ 154 → a ≠ 155 → N a = N0 a) ∧ (∀ i, i ≠ m → N 153 i = N0 153 i ∧ N 154 i = N0 154 i) ∧ (∀ i u, i ≠ m → u < 4 → N 155 (4 * i + u) = N0 155 (4 * i + u)) ∧ (∀ j, ¬ (17 ≤ j ∧ j ≤ 21) → N 143 j = N0 143 j) ∧ mw N
theorem NM_fr5 {N0 N N' : mv_M} {m : Nat} (h : NM N0 N m) (f : fr5 N N') : NM N0 N' m := by
  obtain ⟨h1, h2, h3, h4, h5⟩ := h
  refine ⟨fun a a1 a2 a3 a4 => by rw [f.1 a a1, h1 a a1 a2 a3 a4], fun i hi => by rw [f.1 153 (by decide), f.1 154 (by decide)]; exact h2 i hi, fun i u hi hu => by rw [f.1 155 (by decide)]; exact h3 i u hi hu, fun j hj => by rw [f.2 j hj, h4 j hj], mw_same (fun a _ _ => f.1 a (by omega)) h5⟩
theorem NM_153 {N0 N : mv_M} {m : Nat} {v : Int} (hv : 0 ≤ v ∧ v ≤ 4) (h : NM N0 N m) : NM N0 (mv_up N 153 m v) m := by
  obtain ⟨h1, h2, h3, h4, h5⟩ := h
  refine ⟨fun a a1 a2 a3 a4 => by rw [mv_upne a2, h1 a a1 a2 a3 a4], fun i hi => by rw [mv_up_j hi, mv_upne (by decide)]; exact h2 i hi, fun i u hi hu => by rw [mv_upne (by decide)]; exact h3 i u hi hu, fun j hj => by rw [mv_upne (by decide), h4 j hj], fun i hi => ⟨?_, ?_⟩, fun k hk => ?_, fun o ho => ?_⟩
  · by_cases w : i = m
    · rw [w, mv_up_at]; exact hv
    · rw [mv_up_j w]; exact (h5.1 i hi).1
  · rw [mv_upne (by decide)]; exact (h5.1 i hi).2
  · rw [mv_upne (by decide)]; exact h5.2.1 k hk
  · rw [mv_upne (by decide), mv_upne (by decide)]; exact h5.2.2 o ho
theorem NM_154 {N0 N : mv_M} {m : Nat} {v : Int} (hv : 0 ≤ v ∧ v ≤ 9) (h : NM N0 N m) : NM N0 (mv_up N 154 m v) m := by
  obtain ⟨h1, h2, h3, h4, h5⟩ := h
  refine ⟨fun a a1 a2 a3 a4 => by rw [mv_upne a3, h1 a a1 a2 a3 a4], fun i hi => by rw [mv_up_j hi, mv_upne (by decide)]; exact h2 i hi, fun i u hi hu => by rw [mv_upne (by decide)]; exact h3 i u hi hu, fun j hj => by rw [mv_upne (by decide), h4 j hj], fun i hi => ⟨?_, ?_⟩, fun k hk => ?_, fun o ho => ?_⟩
  · rw [mv_upne (by decide)]; exact (h5.1 i hi).1
  · by_cases w : i = m
    · rw [w, mv_up_at]; exact hv
    · rw [mv_up_j w]; exact (h5.1 i hi).2
  · rw [mv_upne (by decide)]; exact h5.2.1 k hk
  · rw [mv_upne (by decide), mv_upne (by decide)]; exact h5.2.2 o ho
theorem NM_155 {N0 N : mv_M} {m u : Nat} {v : Int} (hu : u < 4) (hv : -3 ≤ v ∧ v ≤ 3) (h : NM N0 N m) : NM N0 (mv_up N 155 (4 * m + u) v) m := by
  obtain ⟨h1, h2, h3, h4, h5⟩ := h
  refine ⟨fun a a1 a2 a3 a4 => by rw [mv_upne a4, h1 a a1 a2 a3 a4], fun i hi => by rw [mv_upne (by decide), mv_upne (by decide)]; exact h2 i hi, fun i x hi hx => by rw [mv_up_j (by omega)]; exact h3 i x hi hx, fun j hj => by rw [mv_upne (by decide), h4 j hj], fun i hi => ?_, fun k hk => ?_, fun o ho => ?_⟩
  · rw [mv_upne (by decide), mv_upne (by decide)]; exact h5.1 i hi
  · by_cases w : k = 4 * m + u
    · rw [w, mv_up_at]; exact hv
    · rw [mv_up_j w]; exact h5.2.1 k hk
  · rw [mv_upne (by decide), mv_upne (by decide)]; exact h5.2.2 o ho
theorem good_up {U : Option Nat × mv_M} {t : Nat → Int} {L p0 : Nat} {S N : mv_M} {a i : Nat} {v : Int} (ha : a ≠ 143 ∨ (21 < i ∨ i < 17)) (h : good U t L p0 S N) : good U t L p0 S (mv_up N a i v) := by
  have e : ∀ j, 17 ≤ j → j ≤ 21 → mv_up N a i v 143 j = N 143 j := by
    intro j h1 h2
    by_cases w : 143 = a
    · subst w
      rw [mv_up_j (by omega)]
    · rw [mv_upne w]
  obtain ⟨g1, p, g2, g3, g4⟩ := h
  refine ⟨by rw [e 21 (by decide) (by decide)]; exact g1, p, g2, ?_, g4⟩
  unfold TK
  rw [e 17 (by decide) (by decide), e 18 (by decide) (by decide), e 19 (by decide) (by decide), e 20 (by decide) (by decide)]
  exact g3
theorem bad_up {U : Option Nat × mv_M} {N : mv_M} {a i : Nat} {v : Int} (ha : a ≠ 143 ∨ (21 < i ∨ i < 17)) (h : bad U N) : bad U (mv_up N a i v) := by
  have e : ∀ j, 17 ≤ j → j ≤ 21 → mv_up N a i v 143 j = N 143 j := by
    intro j h1 h2
    by_cases w : 143 = a
    · subst w
      rw [mv_up_j (by omega)]
    · rw [mv_upne w]
  obtain ⟨g1, p, g2, g3, g4⟩ := h
  exact ⟨by rw [e 21 (by decide) (by decide)]; exact g1, p, by rw [e 18 (by decide) (by decide)]; exact g2, g3, by rw [e 19 (by decide) (by decide)]; exact g4⟩
theorem NM_txt {t : Nat → Int} {L m : Nat} {N0 N : mv_M} (h : NM N0 N m) (x : txt t L N0) : txt t L N := ⟨x.1, by rw [h.2.2.2.1 16 (by omega)]; exact x.2.1, by rw [h.1 152 (by decide) (by decide) (by decide) (by decide)]; exact x.2.2⟩
/-- a number more of the monkey -/
theorem PM_step {S1 S' N N' : mv_M} {m k : Nat} {v : Int} (hm : (m : Int) = S1 17 2) (m6 : m < 6) (h : PM S1 S' N m k) (f : ∀ a, 153 ≤ a → a ≤ 155 → N' a = N a) : (k = 0 → PM S1 (snP S' v) (mv_up N' 153 m v) m 1) ∧ (k = 1 → PM S1 (snP S' v) (mv_up N' 154 m v) m 2) ∧ ∀ u, u < 4 → k = u + 2 → PM S1 (snP S' v) (mv_up N' 155 (4 * m + u) (v - 3)) m (k + 1) := by
  obtain ⟨a1, a2, a3, a4, a5, a6, a7, a8, a9, a10, a11, a12, a13⟩ := h
  have em : (S' 17 2).toNat = m := by rw [a6, ← hm]; omega
  refine ⟨fun e => ?_, fun e => ?_, fun u hu e => ?_⟩
  · subst e
    unfold snP
    rw [putn_m a1, em]
    unfold putm
    rw [if_pos (show S' 16 2 = 0 from a2)]
    refine ⟨by rw [mv_up_j (by decide), mv_upne (by decide)]; exact a1, by rw [mv_up_at, a2]; rfl, by rw [mv_up_j (by decide), mv_upne (by decide)]; exact a3, by rw [mv_up_j (by decide), mv_upne (by decide)]; exact a4, by rw [mv_up_j (by decide), mv_upne (by decide)]; exact a5, by rw [mv_upne (by decide), mv_upne (by decide)]; exact a6, by rw [mv_upne (by decide), mv_upne (by decide)]; exact a7, by rw [mv_upne (by decide), mv_upne (by decide)]; exact a8, fun i hi => ?_, fun i h6 hi => ?_, fun _ => ?_, fun z => absurd z (by omega), fun u hu => absurd hu (by omega)⟩
    · rw [mv_upne (by decide), mv_up_j hi, mv_upne (by decide), mv_upne (by decide)]; exact a9 i hi
    · rw [mv_upne (by omega), mv_upne (by omega)]; exact a10 i h6 hi
    · rw [mv_up_at, mv_upne (by decide), mv_up_at]
  · subst e
    unfold snP
    rw [putn_m a1, em]
    unfold putm
    rw [if_neg (by omega), if_pos (by omega)]
    refine ⟨by rw [mv_up_j (by decide), mv_upne (by decide)]; exact a1, by rw [mv_up_at, a2]; rfl, by rw [mv_up_j (by decide), mv_upne (by decide)]; exact a3, by rw [mv_up_j (by decide), mv_upne (by decide)]; exact a4, by rw [mv_up_j (by decide), mv_upne (by decide)]; exact a5, by rw [mv_upne (by decide), mv_upne (by decide)]; exact a6, by rw [mv_upne (by decide), mv_upne (by decide)]; exact a7, by rw [mv_upne (by decide), mv_upne (by decide)]; exact a8, fun i hi => ?_, fun i h6 hi => ?_, fun _ => ?_, fun _ => ?_, fun u hu => absurd hu (by omega)⟩
    · rw [mv_upne (by decide), mv_upne (by decide), mv_upne (by decide), mv_up_j hi]; exact a9 i hi
    · rw [mv_upne (by omega), mv_upne (by omega)]; exact a10 i h6 hi
    · rw [mv_upne (by decide), f 153 (by decide) (by decide), mv_upne (by decide), mv_upne (by decide)]; exact a11 (by omega)
    · rw [mv_up_at, mv_upne (by decide), mv_up_at]
  · unfold snP
    rw [putn_m a1, em]
    unfold putm
    rw [if_neg (by omega), if_neg (by omega), show (S' 16 2 - 2).toNat = u by omega]
    refine ⟨by rw [mv_up_j (by decide), mv_upne (by omega)]; exact a1, by rw [mv_up_at, a2]; omega, by rw [mv_up_j (by decide), mv_upne (by omega)]; exact a3, by rw [mv_up_j (by decide), mv_upne (by omega)]; exact a4, by rw [mv_up_j (by decide), mv_upne (by omega)]; exact a5, by rw [mv_upne (by decide), mv_upne (by omega)]; exact a6, by rw [mv_upne (by decide), mv_upne (by omega)]; exact a7, by rw [mv_upne (by decide), mv_upne (by omega)]; exact a8, fun i hi => ?_, fun i h6 hi => ?_, fun _ => ?_, fun _ => ?_, fun w hw => ?_⟩
    · rw [mv_upne (by decide), mv_upne (by omega), mv_upne (by decide), mv_upne (by omega)]; exact a9 i hi
    · rw [mv_upne (by omega), mv_upne (by omega)]; exact a10 i h6 hi
    · rw [mv_upne (by decide), f 153 (by decide) (by decide), mv_upne (by decide), mv_upne (by omega)]; exact a11 (by omega)
    · rw [mv_upne (by decide), f 154 (by decide) (by decide), mv_upne (by decide), mv_upne (by omega)]; exact a12 (by omega)
    · rw [mv_upne (show 21 + m ≠ 16 by omega)]
      by_cases x : w = u
      · rw [x, mv_up_at, mv_up_at]
      · rw [mv_up_j (by omega), f 155 (by decide) (by decide), mv_up_j x]
        exact a13 w (by omega)
end ZL
