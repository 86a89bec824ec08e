/-! THE TEXT, pure: the class's reader as a function of its memory (16 reader, 17 told land, 18, 19, 21 .. 26, 27, 28 its rows) -/
abbrev fig (x : Int) : Prop := 48 ≤ x ∧ x ≤ 57
def den (t : Nat → Int) (L : Nat) : Nat → Nat → Nat
  | 0, e => e
  | k + 1, e => if e < L ∧ fig (t e) then den t L k (e + 1) else e
def dend (t : Nat → Int) (L p : Nat) : Nat := den t L (L - p) p
def numOf (t : Nat → Int) (p e : Nat) : Int := if e = p + 1 then t p - 48 else if p + 2 < e ∨ t p = 48 then -1 else 10 * (t p - 48) + (t (p + 1) - 48)
def due (S : mv_M) : Int := if S 16 1 = 115 then 1 else if S 16 1 = 116 then 1 else if S 16 1 = 109 then 2 + S 17 1 else if S 16 1 = 111 then 2 else 0
def lea (S : mv_M) : Int := if S 16 1 = 115 ∨ S 16 1 = 116 then 1 else 0
def gre (S : mv_M) : Int := if S 16 1 = 115 then 5 else if S 16 1 = 116 then 4 else if S 16 2 = 0 then S 17 0 - 1 else if S 16 1 = 111 then 15 else if S 16 2 = 1 then 9 else 6
def putm (S : mv_M) (m : Nat) (v : Int) : mv_M := if S 16 2 = 0 then mv_up S 18 m v else if S 16 2 = 1 then mv_up S 19 m v else mv_up S (21 + m) (S 16 2 - 2).toNat (v - 3)
def puto (S : mv_M) (o : Nat) (v : Int) : mv_M := if S 16 2 = 0 then mv_up S 27 o v else mv_up S 28 o v
def putn (S : mv_M) (v : Int) : mv_M := if S 16 1 = 115 then mv_up S 17 0 v else if S 16 1 = 116 then mv_up S 17 1 v else if S 16 1 = 109 then putm S (S 17 2).toNat v else puto S (S 17 3).toNat v
def tnP (S : mv_M) (v : Int) : Option mv_M := if S 16 2 < due S ∧ lea S ≤ v ∧ v ≤ gre S then some (mv_up (putn S v) 16 2 (S 16 2 + 1)) else none
def enS (S : mv_M) : mv_M := if S 16 1 = 109 then mv_up S 17 2 (S 17 2 + 1) else if S 16 1 = 111 then mv_up S 17 3 (S 17 3 + 1) else S
def enP (S : mv_M) : Option mv_M := if S 16 1 = 0 ∨ S 16 2 < due S then none else some (mv_up (mv_up (enS S) 16 1 0) 16 3 (S 16 3 + 1))
def mayB (S : mv_M) (l : Int) : Prop := (l = 115 ∧ S 17 2 = 0 ∧ S 17 3 = 0 ∧ S 16 4 = 0) ∨ (l = 116 ∧ S 17 2 = 0 ∧ S 17 3 = 0 ∧ S 16 5 = 0) ∨ (l = 109 ∧ S 17 2 < 6) ∨ (l = 111 ∧ S 17 3 < 3)
def bgS (S : mv_M) (l : Int) : mv_M := mv_up (mv_up (mv_up (mv_up S 16 4 (if S 16 4 = 1 ∨ l = 115 then 1 else 0)) 16 5 (if S 16 5 = 1 ∨ l = 116 then 1 else 0)) 16 1 l) 16 2 0
noncomputable def bgP (S : mv_M) (l : Int) : Option mv_M := if S 16 1 = 0 ∧ ((l = 115 ∧ S 17 2 = 0 ∧ S 17 3 = 0 ∧ S 16 4 = 0) ∨ (l = 116 ∧ S 17 2 = 0 ∧ S 17 3 = 0 ∧ S 16 5 = 0) ∨ (l = 109 ∧ S 17 2 < 6) ∨ (l = 111 ∧ S 17 3 < 3)) then some (bgS S l) else none
theorem bgP_t {S : mv_M} {l : Int} (h : S 16 1 = 0) (h2 : mayB S l) : bgP S l = some (bgS S l) := if_pos ⟨h, h2⟩
theorem bgP_f {S : mv_M} {l : Int} (h : ¬ (S 16 1 = 0 ∧ mayB S l)) : bgP S l = none := if_neg h
noncomputable def tkP (t : Nat → Int) (S : mv_M) (p e : Nat) : Option mv_M := if t p = 32 then some S else if fig (t p) then tnP S (numOf t p e) else if t p = 59 then enP S else bgP S (t p)
def nxt (t : Nat → Int) (L p : Nat) : Nat := if fig (t p) then dend t L p else p + 1
noncomputable def run (t : Nat → Int) (L : Nat) : Nat → mv_M → Nat → Option Nat × mv_M
  | 0, S, _ => (some 0, S)
  | f + 1, S, p => if L ≤ p then (if S 16 1 = 0 then (none, S) else (some L, S)) else match tkP t S p (nxt t L p) with
    | none => (some p, S)
    | some S' => run t L f S' (nxt t L p)
theorem den_ge (t : Nat → Int) (L : Nat) : ∀ (k e : Nat), e ≤ den t L k e
  | 0, e => Nat.le_refl _
  | k + 1, e => by
    have := den_ge t L k (e + 1)
    simp only [den]
    split <;> omega
theorem den_le (t : Nat → Int) (L : Nat) : ∀ (k e : Nat), e ≤ L → den t L k e ≤ L
  | 0, e, h => h
  | k + 1, e, h => by
    simp only [den]
    split
    · exact den_le t L k (e + 1) (by omega)
    · exact h
theorem den_fig (t : Nat → Int) (L : Nat) : ∀ (k e i : Nat), e ≤ i → i < den t L k e → fig (t i)
  | 0, e, i, h1, h2 => absurd h2 (by simp only [den]; omega)
  | k + 1, e, i, h1, h2 => by
    simp only [den] at h2
    by_cases w : e < L ∧ fig (t e)
    · rw [if_pos w] at h2
      by_cases u : i = e
      · rw [u]; exact w.2
      · exact den_fig t L k (e + 1) i (by omega) h2
    · rw [if_neg w] at h2
      omega
theorem den_stop (t : Nat → Int) (L : Nat) : ∀ (k e : Nat), e + k = L → den t L k e = L ∨ ¬ fig (t (den t L k e))
  | 0, e, h => Or.inl (by simp only [den]; omega)
  | k + 1, e, h => by
    simp only [den]
    by_cases w : e < L ∧ fig (t e)
    · rw [if_pos w]
      exact den_stop t L k (e + 1) (by omega)
    · rw [if_neg w]
      exact Or.inr (fun z => w ⟨by omega, z⟩)
theorem dend_s {t : Nat → Int} {L p : Nat} (hp : p < L) (hf : fig (t p)) : dend t L p = den t L (L - (p + 1)) (p + 1) := by
  unfold dend
  rw [show L - p = L - (p + 1) + 1 by omega]
  simp only [den]
  rw [if_pos ⟨hp, hf⟩]
theorem nxt_in {t : Nat → Int} {L p : Nat} (hp : p < L) : p + 1 ≤ nxt t L p ∧ nxt t L p ≤ L := by
  unfold nxt
  by_cases w : fig (t p)
  · rw [if_pos w, dend_s hp w]
    exact ⟨den_ge .., den_le _ _ _ _ hp⟩
  · rw [if_neg w]
    omega
theorem run_fuel {t : Nat → Int} {L : Nat} : ∀ (f f' : Nat) (S : mv_M) (p : Nat), L < f + p → L < f' + p → p ≤ L → run t L f S p = run t L f' S p
  | 0, f', S, p, h1, h2, h3 => absurd h1 (by omega)
  | f + 1, 0, S, p, h1, h2, h3 => absurd h2 (by omega)
  | f + 1, f' + 1, S, p, h1, h2, h3 => by
    simp only [run]
    by_cases w : L ≤ p
    · rw [if_pos w, if_pos w]
    · rw [if_neg w, if_neg w]
      have hn := nxt_in (t := t) (show p < L by omega)
      cases tkP t S p (nxt t L p) with
      | none => rfl
      | some S' => exact run_fuel f f' S' _ (by omega) (by omega) hn.2
/-- the whole of the rest -/
noncomputable def rest (t : Nat → Int) (L : Nat) (S : mv_M) (p : Nat) : Option Nat × mv_M := run t L (L + 1) S p
theorem rest_end {t : Nat → Int} {L : Nat} {S : mv_M} : rest t L S L = if S 16 1 = 0 then (none, S) else (some L, S) := by
  unfold rest
  simp only [run]
  rw [if_pos (Nat.le_refl _)]
theorem rest_none {t : Nat → Int} {L p : Nat} {S : mv_M} (hp : p < L) (h : tkP t S p (nxt t L p) = none) : rest t L S p = (some p, S) := by
  unfold rest
  simp only [run]
  rw [if_neg (by omega), h]
theorem rest_some {t : Nat → Int} {L p : Nat} {S S' : mv_M} (hp : p < L) (h : tkP t S p (nxt t L p) = some S') : rest t L S p = rest t L S' (nxt t L p) := by
  have hn := nxt_in (t := t) hp
  unfold rest
  have e : run t L (L + 1) S p = run t L L S' (nxt t L p) := by
    simp only [run]
    rw [if_neg (by omega), h]
  rw [e]
  exact run_fuel L (L + 1) S' _ (by omega) (by omega) hn.2
/-- the reader's memory is in order -/
def wf (S : mv_M) : Prop := (S 16 1 = 0 ∨ (S 16 1 = 115 ∧ S 17 2 = 0 ∧ S 17 3 = 0) ∨ (S 16 1 = 116 ∧ S 17 2 = 0 ∧ S 17 3 = 0) ∨ (S 16 1 = 109 ∧ S 17 2 < 6) ∨ (S 16 1 = 111 ∧ S 17 3 < 3)) ∧ (1 ≤ S 17 0 ∧ S 17 0 ≤ 5) ∧ (1 ≤ S 17 1 ∧ S 17 1 ≤ 4) ∧ (0 ≤ S 17 2 ∧ S 17 2 ≤ 6) ∧ (0 ≤ S 17 3 ∧ S 17 3 ≤ 3) ∧ (0 ≤ S 16 2 ∧ S 16 2 ≤ 10) ∧ (S 16 4 = 0 ∨ S 16 4 = 1) ∧ (S 16 5 = 0 ∨ S 16 5 = 1) ∧ 0 ≤ S 16 3
/-- its rows are in their ranges -/
def wr1 (S : mv_M) : Prop := (∀ m, m < 6 → (0 ≤ S 18 m ∧ S 18 m ≤ 4) ∧ (0 ≤ S 19 m ∧ S 19 m ≤ 9) ∧ ∀ t, t < 4 → -3 ≤ S (21 + m) t ∧ S (21 + m) t ≤ 3) ∧ (∀ o, o < 3 → (0 ≤ S 27 o ∧ S 27 o ≤ 4) ∧ (0 ≤ S 28 o ∧ S 28 o ≤ 15))
def wr2 (S : mv_M) : Prop := (∀ o : Nat, (o : Int) < S 17 3 → S 27 o < S 17 0) ∧ (S 16 1 = 111 → 0 < S 16 2 → S 27 (S 17 3).toNat < S 17 0)
def wo (S : mv_M) : Prop := wf S ∧ wr1 S ∧ wr2 S
def kfr (S S' : mv_M) : Prop := ∀ a, (a < 16 ∨ 29 ≤ a ∨ a = 20) → S' a = S a
theorem due_in {S : mv_M} (h : wf S) : 0 ≤ due S ∧ due S ≤ 6 := by
  unfold due
  have := h.2.2.1
  split
  · omega
  · split
    · omega
    · split
      · omega
      · split <;> omega
theorem wr1_same {S S' : mv_M} (e : ∀ a, 18 ≤ a → a ≤ 28 → S' a = S a) (h : wr1 S) : wr1 S' := by
  refine ⟨fun m hm => ?_, fun o ho => ?_⟩
  · rw [e 18 (by omega) (by omega), e 19 (by omega) (by omega), e (21 + m) (by omega) (by omega)]
    exact h.1 m hm
  · rw [e 27 (by omega) (by omega), e 28 (by omega) (by omega)]
    exact h.2 o ho
theorem wr1_18 {S : mv_M} {i : Nat} {v : Int} (hv : 0 ≤ v ∧ v ≤ 4) (h : wr1 S) : wr1 (mv_up S 18 i v) := by
  refine ⟨fun m hm => ⟨?_, ?_, ?_⟩, fun o ho => ?_⟩
  · by_cases w : m = i
    · rw [w, mv_up_at]; exact hv
    · rw [mv_up_j w]; exact (h.1 m hm).1
  · rw [mv_upne (by omega)]; exact (h.1 m hm).2.1
  · rw [mv_upne (by omega)]; exact (h.1 m hm).2.2
  · rw [mv_upne (by omega), mv_upne (by omega)]; exact h.2 o ho
theorem wr1_19 {S : mv_M} {i : Nat} {v : Int} (hv : 0 ≤ v ∧ v ≤ 9) (h : wr1 S) : wr1 (mv_up S 19 i v) := by
  refine ⟨fun m hm => ⟨?_, ?_, ?_⟩, fun o ho => ?_⟩
  · rw [mv_upne (by omega)]; exact (h.1 m hm).1
  · by_cases w : m = i
    · rw [w, mv_up_at]; exact hv
    · rw [mv_up_j w]; exact (h.1 m hm).2.1
  · rw [mv_upne (by omega)]; exact (h.1 m hm).2.2
  · rw [mv_upne (by omega), mv_upne (by omega)]; exact h.2 o ho
theorem wr1_21 {S : mv_M} {i k : Nat} {v : Int} (hk : k < 6) (hv : -3 ≤ v ∧ v ≤ 3) (h : wr1 S) : wr1 (mv_up S (21 + k) i v) := by
  refine ⟨fun m hm => ⟨?_, ?_, fun t ht => ?_⟩, fun o ho => ?_⟩
  · rw [mv_upne (by omega)]; exact (h.1 m hm).1
  · rw [mv_upne (by omega)]; exact (h.1 m hm).2.1
  · by_cases w : m = k
    · subst w
      by_cases u : t = i
      · rw [u, mv_up_at]; exact hv
      · rw [mv_up_j u]; exact (h.1 m hm).2.2 t ht
    · rw [mv_upne (by omega)]; exact (h.1 m hm).2.2 t ht
  · rw [mv_upne (by omega), mv_upne (by omega)]; exact h.2 o ho
theorem wr1_27 {S : mv_M} {i : Nat} {v : Int} (hv : 0 ≤ v ∧ v ≤ 4) (h : wr1 S) : wr1 (mv_up S 27 i v) := by
  refine ⟨fun m hm => ?_, fun o ho => ⟨?_, ?_⟩⟩
  · rw [mv_upne (by omega), mv_upne (by omega), mv_upne (by omega)]; exact h.1 m hm
  · by_cases w : o = i
    · rw [w, mv_up_at]; exact hv
    · rw [mv_up_j w]; exact (h.2 o ho).1
  · rw [mv_upne (by omega)]; exact (h.2 o ho).2
theorem wr1_28 {S : mv_M} {i : Nat} {v : Int} (hv : 0 ≤ v ∧ v ≤ 15) (h : wr1 S) : wr1 (mv_up S 28 i v) := by
  refine ⟨fun m hm => ?_, fun o ho => ⟨?_, ?_⟩⟩
  · rw [mv_upne (by omega), mv_upne (by omega), mv_upne (by omega)]; exact h.1 m hm
  · rw [mv_upne (by omega)]; exact (h.2 o ho).1
  · by_cases w : o = i
    · rw [w, mv_up_at]; exact hv
    · rw [mv_up_j w]; exact (h.2 o ho).2
theorem kfr_up {S S' : mv_M} {a i : Nat} {v : Int} (ha : 16 ≤ a ∧ a ≤ 28 ∧ a ≠ 20) (h : kfr S S') : kfr S (mv_up S' a i v) := fun b hb => by rw [mv_upne (by omega), h b hb]
theorem kfr_refl {S : mv_M} : kfr S S := fun _ _ => rfl
theorem kfr_trans {S S' S'' : mv_M} (h : kfr S S') (k : kfr S' S'') : kfr S S'' := fun a ha => by rw [k a ha, h a ha]
