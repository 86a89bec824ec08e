/-! THE TEXT, pure: every step keeps the reader's memory in order -/
theorem tn_wo {S S' : mv_M} {v : Int} (h : wo S) (e : tnP S v = some S') : wo S' ∧ kfr S S' ∧ S' 16 3 = S 16 3 := by
  obtain ⟨h1, h2, h3⟩ := h
  obtain ⟨a1, a2, a3, a4, a5, a6, a7, a8, a9⟩ := h1
  unfold tnP at e
  by_cases w : S 16 2 < due S ∧ lea S ≤ v ∧ v ≤ gre S
  · rw [if_pos w] at e
    cases e
    obtain ⟨w1, w2, w3⟩ := w
    rcases a1 with i | ⟨i, j1, j2⟩ | ⟨i, j1, j2⟩ | ⟨i, j⟩ | ⟨i, j⟩
    · unfold due at w1
      rw [i] at w1
      simp at w1
      omega
    · unfold lea at w2
      unfold gre at w3
      unfold due at w1
      unfold putn
      rw [i] at w1 w2 w3 ⊢
      simp at w1 w2 w3 ⊢
      refine ⟨⟨?_, wr1_same (fun a _ _ => by rw [mv_upne (by omega), mv_upne (by omega)]) h2, ?_, ?_⟩, kfr_up (by decide) (kfr_up (by decide) kfr_refl), ?_⟩
      · unfold wf; simp [mv_up]; omega
      · intro o ho; simp [mv_up] at ho; omega
      · simp [mv_up]; omega
      · simp [mv_up]
    · unfold lea at w2
      unfold gre at w3
      unfold due at w1
      unfold putn
      rw [i] at w1 w2 w3 ⊢
      simp at w1 w2 w3 ⊢
      refine ⟨⟨?_, wr1_same (fun a _ _ => by rw [mv_upne (by omega), mv_upne (by omega)]) h2, ?_, ?_⟩, kfr_up (by decide) (kfr_up (by decide) kfr_refl), ?_⟩
      · unfold wf; simp [mv_up]; omega
      · intro o ho; simp [mv_up] at ho; omega
      · simp [mv_up]; omega
      · simp [mv_up]
    · unfold lea at w2
      unfold gre at w3
      unfold due at w1
      unfold putn
      rw [i] at w1 w2 w3 ⊢
      simp at w1 w2 w3 ⊢
      unfold putm
      by_cases n0 : S 16 2 = 0
      · rw [if_pos n0] at w3 ⊢
        refine ⟨⟨?_, wr1_same (fun a _ _ => by rw [mv_upne (by omega)]) (wr1_18 (by omega) h2), ?_, ?_⟩, kfr_up (by decide) (kfr_up (by decide) kfr_refl), ?_⟩
        · unfold wf; simp [mv_up]; omega
        · intro o ho; simp [mv_up] at ho ⊢; exact h3.1 o ho
        · simp [mv_up]; omega
        · simp [mv_up]
      · rw [if_neg n0] at w3 ⊢
        by_cases n1 : S 16 2 = 1
        · rw [if_pos n1] at w3 ⊢
          refine ⟨⟨?_, wr1_same (fun a _ _ => by rw [mv_upne (by omega)]) (wr1_19 (by omega) h2), ?_, ?_⟩, kfr_up (by decide) (kfr_up (by decide) kfr_refl), ?_⟩
          · unfold wf; simp [mv_up]; omega
          · intro o ho; simp [mv_up] at ho ⊢; exact h3.1 o ho
          · simp [mv_up]; omega
          · simp [mv_up]
        · rw [if_neg n1] at w3 ⊢
          have q1 : 21 + (S 17 2).toNat ≠ 16 := by omega
          have q2 : 21 + (S 17 2).toNat ≠ 17 := by omega
          have q3 : 27 ≠ 21 + (S 17 2).toNat := by omega
          refine ⟨⟨?_, wr1_same (fun a _ _ => by rw [mv_upne (by omega)]) (wr1_21 (by omega) (by omega) h2), ?_, ?_⟩, kfr_up (by decide) (kfr_up (by omega) kfr_refl), ?_⟩
          · unfold wf
            simp [mv_up, q1.symm, q2.symm]; omega
          · intro o ho; simp [mv_up, q2.symm, q3] at ho ⊢; exact h3.1 o ho
          · simp [mv_up, q1.symm]; omega
          · simp [mv_up, q1.symm]
    · unfold lea at w2
      unfold gre at w3
      unfold due at w1
      unfold putn
      rw [i] at w1 w2 w3 ⊢
      simp at w1 w2 w3 ⊢
      unfold puto
      by_cases n0 : S 16 2 = 0
      · rw [if_pos n0] at w3 ⊢
        refine ⟨⟨?_, wr1_same (fun a _ _ => by rw [mv_upne (by omega)]) (wr1_27 (by omega) h2), ?_, ?_⟩, kfr_up (by decide) (kfr_up (by decide) kfr_refl), ?_⟩
        · unfold wf; simp [mv_up]; omega
        · intro o ho
          simp [mv_up] at ho ⊢
          rw [if_neg (by omega)]
          exact h3.1 o ho
        · intro _ _
          simp [mv_up]
          omega
        · simp [mv_up]
      · rw [if_neg n0] at w3 ⊢
        refine ⟨⟨?_, wr1_same (fun a _ _ => by rw [mv_upne (by omega)]) (wr1_28 (by omega) h2), ?_, ?_⟩, kfr_up (by decide) (kfr_up (by decide) kfr_refl), ?_⟩
        · unfold wf; simp [mv_up]; omega
        · intro o ho; simp [mv_up] at ho ⊢; exact h3.1 o ho
        · intro _ _
          simp [mv_up]
          exact h3.2 i (by omega)
        · simp [mv_up]
  · rw [if_neg w] at e
    cases e
theorem en_wo {S S' : mv_M} (h : wo S) (e : enP S = some S') : wo S' ∧ kfr S S' ∧ S' 16 3 = S 16 3 + 1 := by
  obtain ⟨h1, h2, h3⟩ := h
  obtain ⟨a1, a2, a3, a4, a5, a6, a7, a8, a9⟩ := h1
  unfold enP at e
  by_cases w : S 16 1 = 0 ∨ S 16 2 < due S
  · rw [if_pos w] at e
    cases e
  · rw [if_neg w] at e
    cases e
    unfold enS
    by_cases m : S 16 1 = 109
    · rw [if_pos m]
      refine ⟨⟨?_, wr1_same (fun a _ _ => by rw [mv_upne (by omega), mv_upne (by omega), mv_upne (by omega)]) h2, ?_, ?_⟩, kfr_up (by decide) (kfr_up (by decide) (kfr_up (by decide) kfr_refl)), ?_⟩
      · unfold wf; simp [mv_up]; omega
      · intro o ho; simp [mv_up] at ho ⊢; exact h3.1 o ho
      · simp [mv_up]
      · simp [mv_up]
    · rw [if_neg m]
      by_cases o : S 16 1 = 111
      · rw [if_pos o]
        have d2 : due S = 2 := by unfold due; rw [o]; simp
        refine ⟨⟨?_, wr1_same (fun a _ _ => by rw [mv_upne (by omega), mv_upne (by omega), mv_upne (by omega)]) h2, ?_, ?_⟩, kfr_up (by decide) (kfr_up (by decide) (kfr_up (by decide) kfr_refl)), ?_⟩
        · unfold wf; simp [mv_up]; omega
        · intro q hq
          simp [mv_up] at hq ⊢
          by_cases u : (q : Int) < S 17 3
          · exact h3.1 q u
          · rw [show q = (S 17 3).toNat by omega]
            exact h3.2 o (by omega)
        · simp [mv_up]
        · simp [mv_up]
      · rw [if_neg o]
        refine ⟨⟨?_, wr1_same (fun a _ _ => by rw [mv_upne (by omega), mv_upne (by omega)]) h2, ?_, ?_⟩, kfr_up (by decide) (kfr_up (by decide) kfr_refl), ?_⟩
        · unfold wf; simp [mv_up]; omega
        · intro q hq; simp [mv_up] at hq ⊢; exact h3.1 q hq
        · simp [mv_up]
        · simp [mv_up]
theorem bg_wo {S S' : mv_M} {l : Int} (h : wo S) (e : bgP S l = some S') : wo S' ∧ kfr S S' ∧ S' 16 3 = S 16 3 := by
  obtain ⟨h1, h2, h3⟩ := h
  obtain ⟨a1, a2, a3, a4, a5, a6, a7, a8, a9⟩ := h1
  by_cases w : S 16 1 = 0 ∧ mayB S l
  · rw [bgP_t w.1 w.2] at e
    cases e
    have w2 := w.2
    unfold mayB at w2
    unfold bgS
    refine ⟨⟨?_, wr1_same (fun a _ _ => by rw [mv_upne (by omega), mv_upne (by omega), mv_upne (by omega), mv_upne (by omega)]) h2, ?_, ?_⟩, kfr_up (by decide) (kfr_up (by decide) (kfr_up (by decide) (kfr_up (by decide) kfr_refl))), ?_⟩
    · have b4 : (if S 16 4 = 1 ∨ l = 115 then (1 : Int) else 0) = 0 ∨ (if S 16 4 = 1 ∨ l = 115 then (1 : Int) else 0) = 1 := by split <;> omega
      have b5 : (if S 16 5 = 1 ∨ l = 116 then (1 : Int) else 0) = 0 ∨ (if S 16 5 = 1 ∨ l = 116 then (1 : Int) else 0) = 1 := by split <;> omega
      generalize (if S 16 4 = 1 ∨ l = 115 then (1 : Int) else 0) = x4 at b4
      generalize (if S 16 5 = 1 ∨ l = 116 then (1 : Int) else 0) = x5 at b5
      unfold wf
      simp only [mv_up]
      simp
      omega
    · intro o ho
      simp [mv_up] at ho ⊢
      exact h3.1 o ho
    · simp [mv_up]
    · simp [mv_up]
  · rw [bgP_f w] at e
    cases e
theorem tk_wo {t : Nat → Int} {S S' : mv_M} {p q : Nat} (h : wo S) (e : tkP t S p q = some S') : wo S' ∧ kfr S S' ∧ S' 16 3 ≤ S 16 3 + 1 := by
  unfold tkP at e
  by_cases w1 : t p = 32
  · rw [if_pos w1] at e
    cases e
    exact ⟨h, kfr_refl, by omega⟩
  · rw [if_neg w1] at e
    by_cases w2 : fig (t p)
    · rw [if_pos w2] at e
      have := tn_wo h e
      exact ⟨this.1, this.2.1, by omega⟩
    · rw [if_neg w2] at e
      by_cases w3 : t p = 59
      · rw [if_pos w3] at e
        have := en_wo h e
        exact ⟨this.1, this.2.1, by omega⟩
      · rw [if_neg w3] at e
        have := bg_wo h e
        exact ⟨this.1, this.2.1, by omega⟩
theorem rest_wo {t : Nat → Int} {L : Nat} : ∀ (k p : Nat) (S : mv_M), L ≤ p + k → p ≤ L → wo S → S 16 3 ≤ p → wo (rest t L S p).2 ∧ kfr S (rest t L S p).2 ∧ (rest t L S p).2 16 3 ≤ L ∧ ∀ q, (rest t L S p).1 = some q → q ≤ L := by
  intro k
  induction k with
  | zero =>
    intro p S hp h2 hw h3
    have : p = L := by omega
    subst this
    rw [rest_end]
    by_cases w : S 16 1 = 0
    · rw [if_pos w]
      exact ⟨hw, kfr_refl, h3, fun q hq => by cases hq⟩
    · rw [if_neg w]
      exact ⟨hw, kfr_refl, h3, fun q hq => by cases hq; exact Nat.le_refl _⟩
  | succ k ik =>
    intro p S hp h2 hw h3
    by_cases e : p = L
    · subst e
      rw [rest_end]
      by_cases w : S 16 1 = 0
      · rw [if_pos w]
        exact ⟨hw, kfr_refl, h3, fun q hq => by cases hq⟩
      · rw [if_neg w]
        exact ⟨hw, kfr_refl, h3, fun q hq => by cases hq; exact Nat.le_refl _⟩
    · have hn := nxt_in (t := t) (show p < L by omega)
      cases ht : tkP t S p (nxt t L p) with
      | none =>
        rw [rest_none (by omega) ht]
        exact ⟨hw, kfr_refl, by show S 16 3 ≤ _; omega, fun q hq => by cases hq; exact h2⟩
      | some S' =>
        rw [rest_some (by omega) ht]
        obtain ⟨g1, g2, g3⟩ := tk_wo hw ht
        obtain ⟨i1, i2, i3⟩ := ik (nxt t L p) S' (by omega) hn.2 g1 (by omega)
        exact ⟨i1, kfr_trans g2 i2, i3⟩
