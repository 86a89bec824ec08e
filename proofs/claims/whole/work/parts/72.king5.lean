/-! THE TEXT: the reference's tokens -/
def lat (t : Nat → Int) (L k : Nat) : Int := if k < L then t k else -1
def rn (t : Nat → Int) (q : Nat) : Nat → Int
  | 0 => 0
  | i + 1 => if 99 < rn t q i then rn t q i else 10 * rn t q i + t (q + i) - 48
/-- the token that lies at p, as the reference's memory N has it -/
def TK (t : Nat → Int) (L : Nat) (N : mv_M) (p : Nat) : Prop := p ≤ L ∧ N 143 18 = p ∧ ((p = L ∧ N 143 19 = 0) ∨ (p < L ∧ fig (t p) ∧ N 143 17 = dend t L p ∧ ((N 143 19 = 2 ∧ N 143 20 = numOf t p (dend t L p) ∧ 0 ≤ N 143 20 ∧ N 143 20 ≤ 99) ∨ (N 143 19 = 4 ∧ numOf t p (dend t L p) = -1))) ∨ (p < L ∧ ¬ fig (t p) ∧ t p ≠ 32 ∧ N 143 17 = ((p + 1 : Nat) : Int) ∧ N 143 20 = t p ∧ ((N 143 19 = 1 ∧ (t p = 115 ∨ t p = 116 ∨ t p = 109 ∨ t p = 111)) ∨ (N 143 19 = 3 ∧ t p = 59) ∨ (N 143 19 = 4 ∧ t p ≠ 115 ∧ t p ≠ 116 ∧ t p ≠ 109 ∧ t p ≠ 111 ∧ t p ≠ 59))))
theorem rn_in {t : Nat → Int} {q : Nat} : ∀ i : Nat, (∀ j, j < i → fig (t (q + j))) → 0 ≤ rn t q i ∧ rn t q i ≤ 999
  | 0, _ => by simp [rn]
  | i + 1, h => by
    have h1 := rn_in (t := t) (q := q) i (fun j hj => h j (by omega))
    have h2 := h i (by omega)
    simp only [rn]
    split <;> omega
theorem rn_big {t : Nat → Int} {q : Nat} : ∀ i : Nat, (∀ j, j < i + 3 → fig (t (q + j))) → t q ≠ 48 → 99 < rn t q (i + 3)
  | 0, h, h0 => by
    have a0 := h 0 (by omega)
    have a1 := h 1 (by omega)
    have a2 := h 2 (by omega)
    have e1 : rn t q 1 = t (q + 0) - 48 := by
      show (if (99 : Int) < 0 then 0 else 10 * 0 + t (q + 0) - 48) = _
      rw [if_neg (by decide)]
      omega
    have e2 : rn t q 2 = 10 * rn t q 1 + t (q + 1) - 48 := by
      show (if 99 < rn t q 1 then rn t q 1 else 10 * rn t q 1 + t (q + 1) - 48) = _
      rw [if_neg (by omega)]
    have e3 : rn t q 3 = 10 * rn t q 2 + t (q + 2) - 48 := by
      show (if 99 < rn t q 2 then rn t q 2 else 10 * rn t q 2 + t (q + 2) - 48) = _
      rw [if_neg (by omega)]
    rw [Nat.add_zero] at a0 e1
    show 99 < rn t q 3
    omega
  | i + 1, h, h0 => by
    have h1 := rn_big (t := t) (q := q) i (fun j hj => h j (by omega)) h0
    show 99 < (if 99 < rn t q (i + 3) then rn t q (i + 3) else 10 * rn t q (i + 3) + t (q + (i + 3)) - 48)
    rw [if_pos h1]
    exact h1
theorem numOf_rn {t : Nat → Int} {q n : Nat} (hn : 1 ≤ n) (h : ∀ j, j < n → fig (t (q + j))) : ((99 < rn t q n ∨ (t q = 48 ∧ 1 < n)) → numOf t q (q + n) = -1) ∧ (¬ (99 < rn t q n ∨ (t q = 48 ∧ 1 < n)) → numOf t q (q + n) = rn t q n) := by
  have a0 := h 0 (by omega)
  have e1 : rn t q 1 = t (q + 0) - 48 := by
    show (if (99 : Int) < 0 then 0 else 10 * 0 + t (q + 0) - 48) = _
    rw [if_neg (by decide)]
    omega
  rw [Nat.add_zero] at a0 e1
  unfold numOf
  by_cases w : n = 1
  · subst w
    rw [if_pos rfl, e1]
    exact ⟨fun z => by omega, fun _ => rfl⟩
  · rw [if_neg (by omega)]
    by_cases u : n = 2
    · subst u
      have a1 := h 1 (by omega)
      have e2 : rn t q 2 = 10 * rn t q 1 + t (q + 1) - 48 := by
        show (if 99 < rn t q 1 then rn t q 1 else 10 * rn t q 1 + t (q + 1) - 48) = _
        rw [if_neg (by omega)]
      refine ⟨fun z => ?_, fun z => ?_⟩
      · rw [if_pos (by omega)]
      · rw [if_neg (by omega)]
        omega
    · rw [if_pos (by omega)]
      refine ⟨fun _ => rfl, fun z => ?_⟩
      obtain ⟨i, rfl⟩ : ∃ i, n = i + 3 := ⟨n - 3, by omega⟩
      have := rn_big (t := t) (q := q) i h
      omega
/-! the pure reader at a token -/
section TKL
variable {t : Nat → Int} {L p : Nat} {S N : mv_M}
theorem tk_end (e : p = L) (h : S 16 1 ≠ 0) : (rest t L S p).1 = some p := by
  subst e
  rw [rest_end, if_neg h]
theorem tk_W1 (hw : wf S) (hi : S 16 1 ≠ 0) (hn : S 16 2 < due S) (h : TK t L N p) (hx : ¬ (N 143 19 = 2 ∧ lea S ≤ N 143 20 ∧ N 143 20 ≤ gre S)) : (rest t L S p).1 = some p := by
  have lb : 0 ≤ lea S ∧ lea S ≤ 1 := by unfold lea; split <;> omega
  obtain ⟨h1, h2, h3⟩ := h
  rcases h3 with h3 | ⟨a1, a2, a3, a4⟩ | ⟨a1, a2, a3, a4, a5, a6⟩
  · exact tk_end h3.1 hi
  · have e : tkP t S p (nxt t L p) = none := by
      unfold tkP nxt
      rw [if_neg (by omega), if_pos a2, if_pos a2]
      unfold tnP
      rw [if_neg]
      rcases a4 with a4 | a4
      · rw [← a4.2.1]
        exact fun z => hx ⟨a4.1, z.2⟩
      · rw [a4.2]
        omega
    rw [rest_none a1 e]
  · have e : tkP t S p (nxt t L p) = none := by
      unfold tkP
      rw [if_neg a3, if_neg a2]
      by_cases w : t p = 59
      · rw [if_pos w]
        unfold enP
        rw [if_pos (Or.inr hn)]
      · rw [if_neg w]
        exact bgP_f (fun z => hi z.1)
    rw [rest_none a1 e]
theorem tk_W2 (hi : S 16 1 ≠ 0) (hn : ¬ S 16 2 < due S) (h : TK t L N p) (hx : ¬ N 143 19 = 3) : (rest t L S p).1 = some p := by
  obtain ⟨h1, h2, h3⟩ := h
  rcases h3 with h3 | ⟨a1, a2, a3, a4⟩ | ⟨a1, a2, a3, a4, a5, a6⟩
  · exact tk_end h3.1 hi
  · have e : tkP t S p (nxt t L p) = none := by
      unfold tkP nxt
      rw [if_neg (by omega), if_pos a2, if_pos a2]
      unfold tnP
      rw [if_neg (fun z => hn z.1)]
    rw [rest_none a1 e]
  · have e : tkP t S p (nxt t L p) = none := by
      unfold tkP
      rw [if_neg a3, if_neg a2, if_neg (by omega)]
      exact bgP_f (fun z => hi z.1)
    rw [rest_none a1 e]
theorem tk_W3 (hw : wf S) (hi : S 16 1 = 0) (h : TK t L N p) (h0 : N 143 19 ≠ 0) (hx : ¬ (N 143 19 = 1 ∧ mayB S (N 143 20))) : (rest t L S p).1 = some p := by
  obtain ⟨h1, h2, h3⟩ := h
  rcases h3 with h3 | ⟨a1, a2, a3, a4⟩ | ⟨a1, a2, a3, a4, a5, a6⟩
  · exact absurd h3.2 h0
  · have e : tkP t S p (nxt t L p) = none := by
      unfold tkP nxt
      rw [if_neg (by omega), if_pos a2, if_pos a2]
      unfold tnP
      rw [if_neg (fun z => by have := z.1; rw [due_0 hi] at this; have := hw.2.2.2.2.2.1; omega)]
    rw [rest_none a1 e]
  · have e : tkP t S p (nxt t L p) = none := by
      unfold tkP
      rw [if_neg a3, if_neg a2]
      by_cases w : t p = 59
      · rw [if_pos w]
        unfold enP
        rw [if_pos (Or.inl hi)]
      · rw [if_neg w]
        refine bgP_f (fun z => ?_)
        rw [a5] at hx
        have z2 := z.2
        unfold mayB at z2
        exact hx ⟨by omega, z.2⟩
    rw [rest_none a1 e]
/-- a number is taken -/
def snP (S : mv_M) (v : Int) : mv_M := mv_up (putn S v) 16 2 (S 16 2 + 1)
theorem tk_G1 (hn : S 16 2 < due S) (h : TK t L N p) (h2 : N 143 19 = 2) (hx : lea S ≤ N 143 20 ∧ N 143 20 ≤ gre S) : ∃ e : Nat, p + 1 ≤ e ∧ e ≤ L ∧ N 143 17 = e ∧ tnP S (N 143 20) = some (snP S (N 143 20)) ∧ rest t L S p = rest t L (snP S (N 143 20)) e := by
  obtain ⟨h1, _, h3⟩ := h
  rcases h3 with h3 | ⟨a1, a2, a3, a4⟩ | ⟨a1, a2, a3, a4, a5, a6⟩
  · omega
  · have a5 : N 143 20 = numOf t p (dend t L p) := by
      rcases a4 with a4 | a4
      · exact a4.2.1
      · omega
    have et : tnP S (N 143 20) = some (snP S (N 143 20)) := if_pos ⟨hn, hx⟩
    have en : nxt t L p = dend t L p := by unfold nxt; rw [if_pos a2]
    have e : tkP t S p (nxt t L p) = some (snP S (N 143 20)) := by
      unfold tkP
      rw [if_neg (by omega), if_pos a2, en, ← a5]
      exact et
    have hb := nxt_in (t := t) a1
    refine ⟨dend t L p, by omega, by omega, a3, et, ?_⟩
    rw [rest_some a1 e, en]
  · omega
theorem tk_G2 (hi : S 16 1 ≠ 0) (hn : ¬ S 16 2 < due S) (h : TK t L N p) (h2 : N 143 19 = 3) : p < L ∧ N 143 17 = ((p + 1 : Nat) : Int) ∧ enP S = some (mv_up (mv_up (enS S) 16 1 0) 16 3 (S 16 3 + 1)) ∧ rest t L S p = rest t L (mv_up (mv_up (enS S) 16 1 0) 16 3 (S 16 3 + 1)) (p + 1) := by
  obtain ⟨h1, _, h3⟩ := h
  rcases h3 with h3 | ⟨a1, a2, a3, a4⟩ | ⟨a1, a2, a3, a4, a5, a6⟩
  · omega
  · omega
  · have en : nxt t L p = p + 1 := by unfold nxt; rw [if_neg a2]
    have ee : enP S = some (mv_up (mv_up (enS S) 16 1 0) 16 3 (S 16 3 + 1)) := by
      unfold enP
      rw [if_neg (fun z => z.elim hi hn)]
    have e : tkP t S p (nxt t L p) = some (mv_up (mv_up (enS S) 16 1 0) 16 3 (S 16 3 + 1)) := by
      unfold tkP
      rw [if_neg a3, if_neg a2, if_pos (by omega)]
      exact ee
    exact ⟨a1, a4, ee, by rw [rest_some a1 e, en]⟩
theorem tk_G3 (hi : S 16 1 = 0) (h : TK t L N p) (h2 : N 143 19 = 1) (hb : mayB S (N 143 20)) : p < L ∧ N 143 17 = ((p + 1 : Nat) : Int) ∧ N 143 20 = t p ∧ bgP S (N 143 20) = some (bgS S (N 143 20)) ∧ rest t L S p = rest t L (bgS S (N 143 20)) (p + 1) := by
  obtain ⟨h1, _, h3⟩ := h
  rcases h3 with h3 | ⟨a1, a2, a3, a4⟩ | ⟨a1, a2, a3, a4, a5, a6⟩
  · omega
  · omega
  · have en : nxt t L p = p + 1 := by unfold nxt; rw [if_neg a2]
    have e : tkP t S p (nxt t L p) = some (bgS S (N 143 20)) := by
      unfold tkP
      rw [if_neg a3, if_neg a2, if_neg (by omega), ← a5]
      exact bgP_t hi hb
    exact ⟨a1, a4, a5, bgP_t hi hb, by rw [rest_some a1 e, en]⟩
end TKL
