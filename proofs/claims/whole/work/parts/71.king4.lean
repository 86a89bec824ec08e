/-! THE TEXT: the class reads it -/
section ZI
variable {sc : Nat × (Nat → Int)} {d c : Nat} {M : mv_M}
theorem c_mayBegin {l : Int} (hx : 0 ≤ l ∧ l ≤ 255) (h : wf M) : xC sc (d + 1) n_Reader_mayBegin [mR 16, mI l] M (fun r M' => M = M' ∧ ((r = some (mI 1) ∧ mayB M l) ∨ (r = some (mI 0) ∧ ¬ mayB M l))) := by
  have h2 := h.2.2.2.1
  have h3 := h.2.2.2.2.1
  have h4 := h.2.2.2.2.2.2.1
  have h5 := h.2.2.2.2.2.2.2.1
  refine xC_in rfl rfl (by simp; decide) ?_
  have go : ∀ nb : Int, (nb = 1 ∧ M 17 2 = 0 ∧ M 17 3 = 0) ∨ (nb = 0 ∧ ¬ (M 17 2 = 0 ∧ M 17 3 = 0)) → xG sc d y_Reader_mayBegin 26 [some (mR 16), some (mI l), some (mI nb)] [] M (fun r M' => M = M' ∧ ((r = some (mI 1) ∧ mayB M l) ∨ (r = some (mI 0) ∧ ¬ mayB M l))) := by
    intro nb hb
    iterate 1 (first | refine xG_getI rfl (by exact rfl) (by exact rfl) ?_ | refine xG_getR rfl (by exact rfl) (by exact rfl) ?_ | refine xG_add rfl ?_ | refine xG_sub rfl ?_ | refine xG_mul rfl ?_ | refine xG_putI rfl (by exact rfl) (by exact rfl) ?_ | refine xG_go (fun _ => rfl) ?_)
    have dflt : l ≠ 115 → l ≠ 116 → l ≠ 109 → l ≠ 111 → xG sc d y_Reader_mayBegin 141 [some (mR 16), some (mI l), some (mI nb)] [] M (fun r M' => M = M' ∧ ((r = some (mI 1) ∧ mayB M l) ∨ (r = some (mI 0) ∧ ¬ mayB M l))) := by
      intro n1 n2 n3 n4
      iterate 1 (first | refine xG_getI rfl (by exact rfl) (by exact rfl) ?_ | refine xG_getR rfl (by exact rfl) (by exact rfl) ?_ | refine xG_add rfl ?_ | refine xG_sub rfl ?_ | refine xG_mul rfl ?_ | refine xG_putI rfl (by exact rfl) (by exact rfl) ?_ | refine xG_go (fun _ => rfl) ?_)
      exact xG_ret (fun _ => rfl) ⟨rfl, Or.inr ⟨rfl, by unfold mayB; omega⟩⟩
    by_cases p : l < 109 ∨ 116 < l
    · refine xT_out rfl (by omega) p ?_
      exact dflt (by omega) (by omega) (by omega) (by omega)
    rcases (show l = 109 ∨ l = 110 ∨ l = 111 ∨ l = 112 ∨ l = 113 ∨ l = 114 ∨ l = 115 ∨ l = 116 by omega) with rfl | rfl | rfl | rfl | rfl | rfl | rfl | rfl
    · refine xG_go (pc1 := 106) (fun _ => rfl) ?_
      iterate 4 (first | refine xG_getI rfl (by exact rfl) (by exact rfl) ?_ | refine xG_getR rfl (by exact rfl) (by exact rfl) ?_ | refine xG_add rfl ?_ | refine xG_sub rfl ?_ | refine xG_mul rfl ?_ | refine xG_putI rfl (by exact rfl) (by exact rfl) ?_ | refine xG_go (fun _ => rfl) ?_)
      refine xb_ge rfl (by omega) (by decide) (fun c1 => ?_) (fun c1 => ?_)
      · iterate 1 (first | refine xG_getI rfl (by exact rfl) (by exact rfl) ?_ | refine xG_getR rfl (by exact rfl) (by exact rfl) ?_ | refine xG_add rfl ?_ | refine xG_sub rfl ?_ | refine xG_mul rfl ?_ | refine xG_putI rfl (by exact rfl) (by exact rfl) ?_ | refine xG_go (fun _ => rfl) ?_)
        exact xG_ret (fun _ => rfl) ⟨rfl, Or.inr ⟨rfl, by unfold mayB; omega⟩⟩
      · iterate 2 (first | refine xG_getI rfl (by exact rfl) (by exact rfl) ?_ | refine xG_getR rfl (by exact rfl) (by exact rfl) ?_ | refine xG_add rfl ?_ | refine xG_sub rfl ?_ | refine xG_mul rfl ?_ | refine xG_putI rfl (by exact rfl) (by exact rfl) ?_ | refine xG_go (fun _ => rfl) ?_)
        exact xG_ret (fun _ => rfl) ⟨rfl, Or.inl ⟨rfl, by unfold mayB; omega⟩⟩
    · exact xG_go (pc1 := 141) (fun _ => rfl) (dflt (by decide) (by decide) (by decide) (by decide))
    · refine xG_go (pc1 := 124) (fun _ => rfl) ?_
      iterate 4 (first | refine xG_getI rfl (by exact rfl) (by exact rfl) ?_ | refine xG_getR rfl (by exact rfl) (by exact rfl) ?_ | refine xG_add rfl ?_ | refine xG_sub rfl ?_ | refine xG_mul rfl ?_ | refine xG_putI rfl (by exact rfl) (by exact rfl) ?_ | refine xG_go (fun _ => rfl) ?_)
      refine xb_ge rfl (by omega) (by decide) (fun c1 => ?_) (fun c1 => ?_)
      · iterate 1 (first | refine xG_getI rfl (by exact rfl) (by exact rfl) ?_ | refine xG_getR rfl (by exact rfl) (by exact rfl) ?_ | refine xG_add rfl ?_ | refine xG_sub rfl ?_ | refine xG_mul rfl ?_ | refine xG_putI rfl (by exact rfl) (by exact rfl) ?_ | refine xG_go (fun _ => rfl) ?_)
        exact xG_ret (fun _ => rfl) ⟨rfl, Or.inr ⟨rfl, by unfold mayB; omega⟩⟩
      · iterate 2 (first | refine xG_getI rfl (by exact rfl) (by exact rfl) ?_ | refine xG_getR rfl (by exact rfl) (by exact rfl) ?_ | refine xG_add rfl ?_ | refine xG_sub rfl ?_ | refine xG_mul rfl ?_ | refine xG_putI rfl (by exact rfl) (by exact rfl) ?_ | refine xG_go (fun _ => rfl) ?_)
        exact xG_ret (fun _ => rfl) ⟨rfl, Or.inl ⟨rfl, by unfold mayB; omega⟩⟩
    · exact xG_go (pc1 := 141) (fun _ => rfl) (dflt (by decide) (by decide) (by decide) (by decide))
    · exact xG_go (pc1 := 141) (fun _ => rfl) (dflt (by decide) (by decide) (by decide) (by decide))
    · exact xG_go (pc1 := 141) (fun _ => rfl) (dflt (by decide) (by decide) (by decide) (by decide))
    · refine xG_go (pc1 := 72) (fun _ => rfl) ?_
      iterate 1 (first | refine xG_getI rfl (by exact rfl) (by exact rfl) ?_ | refine xG_getR rfl (by exact rfl) (by exact rfl) ?_ | refine xG_add rfl ?_ | refine xG_sub rfl ?_ | refine xG_mul rfl ?_ | refine xG_putI rfl (by exact rfl) (by exact rfl) ?_ | refine xG_go (fun _ => rfl) ?_)
      refine xi_eq rfl (by omega) (fun c1 => ?_) (fun c1 => ?_)
      · iterate 1 (first | refine xG_getI rfl (by exact rfl) (by exact rfl) ?_ | refine xG_getR rfl (by exact rfl) (by exact rfl) ?_ | refine xG_add rfl ?_ | refine xG_sub rfl ?_ | refine xG_mul rfl ?_ | refine xG_putI rfl (by exact rfl) (by exact rfl) ?_ | refine xG_go (fun _ => rfl) ?_)
        exact xG_ret (fun _ => rfl) ⟨rfl, Or.inr ⟨rfl, by unfold mayB; omega⟩⟩
      · iterate 2 (first | refine xG_getI rfl (by exact rfl) (by exact rfl) ?_ | refine xG_getR rfl (by exact rfl) (by exact rfl) ?_ | refine xG_add rfl ?_ | refine xG_sub rfl ?_ | refine xG_mul rfl ?_ | refine xG_putI rfl (by exact rfl) (by exact rfl) ?_ | refine xG_go (fun _ => rfl) ?_)
        refine xi_ne rfl (by omega) (fun c2 => ?_) (fun c2 => ?_)
        · iterate 1 (first | refine xG_getI rfl (by exact rfl) (by exact rfl) ?_ | refine xG_getR rfl (by exact rfl) (by exact rfl) ?_ | refine xG_add rfl ?_ | refine xG_sub rfl ?_ | refine xG_mul rfl ?_ | refine xG_putI rfl (by exact rfl) (by exact rfl) ?_ | refine xG_go (fun _ => rfl) ?_)
          exact xG_ret (fun _ => rfl) ⟨rfl, Or.inr ⟨rfl, by unfold mayB; omega⟩⟩
        · iterate 2 (first | refine xG_getI rfl (by exact rfl) (by exact rfl) ?_ | refine xG_getR rfl (by exact rfl) (by exact rfl) ?_ | refine xG_add rfl ?_ | refine xG_sub rfl ?_ | refine xG_mul rfl ?_ | refine xG_putI rfl (by exact rfl) (by exact rfl) ?_ | refine xG_go (fun _ => rfl) ?_)
          exact xG_ret (fun _ => rfl) ⟨rfl, Or.inl ⟨rfl, by unfold mayB; omega⟩⟩
    · refine xG_go (pc1 := 89) (fun _ => rfl) ?_
      iterate 1 (first | refine xG_getI rfl (by exact rfl) (by exact rfl) ?_ | refine xG_getR rfl (by exact rfl) (by exact rfl) ?_ | refine xG_add rfl ?_ | refine xG_sub rfl ?_ | refine xG_mul rfl ?_ | refine xG_putI rfl (by exact rfl) (by exact rfl) ?_ | refine xG_go (fun _ => rfl) ?_)
      refine xi_eq rfl (by omega) (fun c1 => ?_) (fun c1 => ?_)
      · iterate 1 (first | refine xG_getI rfl (by exact rfl) (by exact rfl) ?_ | refine xG_getR rfl (by exact rfl) (by exact rfl) ?_ | refine xG_add rfl ?_ | refine xG_sub rfl ?_ | refine xG_mul rfl ?_ | refine xG_putI rfl (by exact rfl) (by exact rfl) ?_ | refine xG_go (fun _ => rfl) ?_)
        exact xG_ret (fun _ => rfl) ⟨rfl, Or.inr ⟨rfl, by unfold mayB; omega⟩⟩
      · iterate 2 (first | refine xG_getI rfl (by exact rfl) (by exact rfl) ?_ | refine xG_getR rfl (by exact rfl) (by exact rfl) ?_ | refine xG_add rfl ?_ | refine xG_sub rfl ?_ | refine xG_mul rfl ?_ | refine xG_putI rfl (by exact rfl) (by exact rfl) ?_ | refine xG_go (fun _ => rfl) ?_)
        refine xi_ne rfl (by omega) (fun c2 => ?_) (fun c2 => ?_)
        · iterate 1 (first | refine xG_getI rfl (by exact rfl) (by exact rfl) ?_ | refine xG_getR rfl (by exact rfl) (by exact rfl) ?_ | refine xG_add rfl ?_ | refine xG_sub rfl ?_ | refine xG_mul rfl ?_ | refine xG_putI rfl (by exact rfl) (by exact rfl) ?_ | refine xG_go (fun _ => rfl) ?_)
          exact xG_ret (fun _ => rfl) ⟨rfl, Or.inr ⟨rfl, by unfold mayB; omega⟩⟩
        · iterate 2 (first | refine xG_getI rfl (by exact rfl) (by exact rfl) ?_ | refine xG_getR rfl (by exact rfl) (by exact rfl) ?_ | refine xG_add rfl ?_ | refine xG_sub rfl ?_ | refine xG_mul rfl ?_ | refine xG_putI rfl (by exact rfl) (by exact rfl) ?_ | refine xG_go (fun _ => rfl) ?_)
          exact xG_ret (fun _ => rfl) ⟨rfl, Or.inl ⟨rfl, by unfold mayB; omega⟩⟩
  iterate 3 (first | refine xG_getI rfl (by exact rfl) (by exact rfl) ?_ | refine xG_getR rfl (by exact rfl) (by exact rfl) ?_ | refine xG_add rfl ?_ | refine xG_sub rfl ?_ | refine xG_mul rfl ?_ | refine xG_putI rfl (by exact rfl) (by exact rfl) ?_ | refine xG_go (fun _ => rfl) ?_)
  refine xi_ne rfl (by omega) (fun c1 => ?_) (fun c1 => ?_)
  · iterate 2 (first | refine xG_getI rfl (by exact rfl) (by exact rfl) ?_ | refine xG_getR rfl (by exact rfl) (by exact rfl) ?_ | refine xG_add rfl ?_ | refine xG_sub rfl ?_ | refine xG_mul rfl ?_ | refine xG_putI rfl (by exact rfl) (by exact rfl) ?_ | refine xG_go (fun _ => rfl) ?_)
    exact go 0 (Or.inr ⟨rfl, by omega⟩)
  · iterate 3 (first | refine xG_getI rfl (by exact rfl) (by exact rfl) ?_ | refine xG_getR rfl (by exact rfl) (by exact rfl) ?_ | refine xG_add rfl ?_ | refine xG_sub rfl ?_ | refine xG_mul rfl ?_ | refine xG_putI rfl (by exact rfl) (by exact rfl) ?_ | refine xG_go (fun _ => rfl) ?_)
    refine xi_ne rfl (by omega) (fun c2 => ?_) (fun c2 => ?_)
    · iterate 2 (first | refine xG_getI rfl (by exact rfl) (by exact rfl) ?_ | refine xG_getR rfl (by exact rfl) (by exact rfl) ?_ | refine xG_add rfl ?_ | refine xG_sub rfl ?_ | refine xG_mul rfl ?_ | refine xG_putI rfl (by exact rfl) (by exact rfl) ?_ | refine xG_go (fun _ => rfl) ?_)
      exact go 0 (Or.inr ⟨rfl, by omega⟩)
    · iterate 3 (first | refine xG_getI rfl (by exact rfl) (by exact rfl) ?_ | refine xG_getR rfl (by exact rfl) (by exact rfl) ?_ | refine xG_add rfl ?_ | refine xG_sub rfl ?_ | refine xG_mul rfl ?_ | refine xG_putI rfl (by exact rfl) (by exact rfl) ?_ | refine xG_go (fun _ => rfl) ?_)
      exact go 1 (Or.inl ⟨rfl, by omega, by omega⟩)
theorem c_beginsItem {l : Int} (hx : 0 ≤ l ∧ l ≤ 255) (h : wf M) : xC sc (d + 2) n_Reader_beginsItem [mR 16, mI l] M (oQ (bgP M l) M) := by
  have hi := item_in h
  have h4 := h.2.2.2.2.2.2.1
  have h5 := h.2.2.2.2.2.2.2.1
  refine xC_in rfl rfl (by simp; decide) ?_
  iterate 2 (first | refine xG_getI rfl (by exact rfl) (by exact rfl) ?_ | refine xG_getR rfl (by exact rfl) (by exact rfl) ?_ | refine xG_add rfl ?_ | refine xG_sub rfl ?_ | refine xG_mul rfl ?_ | refine xG_putI rfl (by exact rfl) (by exact rfl) ?_ | refine xG_go (fun _ => rfl) ?_)
  refine xi_ne rfl (by omega) (fun c1 => ?_) (fun c1 => ?_)
  · iterate 1 (first | refine xG_getI rfl (by exact rfl) (by exact rfl) ?_ | refine xG_getR rfl (by exact rfl) (by exact rfl) ?_ | refine xG_add rfl ?_ | refine xG_sub rfl ?_ | refine xG_mul rfl ?_ | refine xG_putI rfl (by exact rfl) (by exact rfl) ?_ | refine xG_go (fun _ => rfl) ?_)
    exact xG_ret (fun _ => rfl) (Or.inr ⟨bgP_f (fun z => c1 z.1), rfl, rfl⟩)
  iterate 2 (first | refine xG_getI rfl (by exact rfl) (by exact rfl) ?_ | refine xG_getR rfl (by exact rfl) (by exact rfl) ?_ | refine xG_add rfl ?_ | refine xG_sub rfl ?_ | refine xG_mul rfl ?_ | refine xG_putI rfl (by exact rfl) (by exact rfl) ?_ | refine xG_go (fun _ => rfl) ?_)
  refine xV2 rfl (by exact rfl) (by simp) (c_mayBegin hx h) (fun r M' hq => ?_)
  obtain ⟨rfl, hq⟩ := hq
  rcases hq with ⟨rfl, hb⟩ | ⟨rfl, hb⟩
  · refine xn1 rfl ?_
    have f36 : xG sc (d + 1) y_Reader_beginsItem 36 [some (mR 16), some (mI l)] [mI (if M 16 4 = 1 ∨ l = 115 then 1 else 0), mR 16] M (oQ (bgP M l) M) := by
      refine xG_putZ rfl (by exact rfl) (by exact rfl) (by split <;> omega) ?_
      iterate 3 (first | refine xG_getI rfl (by exact rfl) (by exact rfl) ?_ | refine xG_getR rfl (by exact rfl) (by exact rfl) ?_ | refine xG_add rfl ?_ | refine xG_sub rfl ?_ | refine xG_mul rfl ?_ | refine xG_putI rfl (by exact rfl) (by exact rfl) ?_ | refine xG_go (fun _ => rfl) ?_)
      rw [mv_up_j (show 5 ≠ 4 by decide)]
      have f58 : xG sc (d + 1) y_Reader_beginsItem 58 [some (mR 16), some (mI l)] [mI (if M 16 5 = 1 ∨ l = 116 then 1 else 0), mR 16] (mv_up M 16 4 (if M 16 4 = 1 ∨ l = 115 then 1 else 0)) (oQ (bgP M l) M) := by
        refine xG_putZ rfl (by exact rfl) (by exact rfl) (by split <;> omega) ?_
        iterate 7 (first | refine xG_getI rfl (by exact rfl) (by exact rfl) ?_ | refine xG_getR rfl (by exact rfl) (by exact rfl) ?_ | refine xG_add rfl ?_ | refine xG_sub rfl ?_ | refine xG_mul rfl ?_ | refine xG_putI rfl (by exact rfl) (by exact rfl) ?_ | refine xG_go (fun _ => rfl) ?_)
        exact xG_ret (fun _ => rfl) (Or.inl ⟨_, bgP_t c1 hb, rfl, rfl⟩)
      refine xi_ne rfl (by omega) (fun c2 => ?_) (fun c2 => ?_)
      · rw [if_pos (c := M 16 5 = 1 ∨ l = 116) (by omega)] at f58
        iterate 2 (first | refine xG_getI rfl (by exact rfl) (by exact rfl) ?_ | refine xG_getR rfl (by exact rfl) (by exact rfl) ?_ | refine xG_add rfl ?_ | refine xG_sub rfl ?_ | refine xG_mul rfl ?_ | refine xG_putI rfl (by exact rfl) (by exact rfl) ?_ | refine xG_go (fun _ => rfl) ?_)
        exact f58
      · iterate 2 (first | refine xG_getI rfl (by exact rfl) (by exact rfl) ?_ | refine xG_getR rfl (by exact rfl) (by exact rfl) ?_ | refine xG_add rfl ?_ | refine xG_sub rfl ?_ | refine xG_mul rfl ?_ | refine xG_putI rfl (by exact rfl) (by exact rfl) ?_ | refine xG_go (fun _ => rfl) ?_)
        refine xb_ne rfl (by omega) (by decide) (fun c3 => ?_) (fun c3 => ?_)
        · rw [if_neg (c := M 16 5 = 1 ∨ l = 116) (by omega)] at f58
          iterate 1 (first | refine xG_getI rfl (by exact rfl) (by exact rfl) ?_ | refine xG_getR rfl (by exact rfl) (by exact rfl) ?_ | refine xG_add rfl ?_ | refine xG_sub rfl ?_ | refine xG_mul rfl ?_ | refine xG_putI rfl (by exact rfl) (by exact rfl) ?_ | refine xG_go (fun _ => rfl) ?_)
          exact f58
        · rw [if_pos (c := M 16 5 = 1 ∨ l = 116) (by omega)] at f58
          iterate 2 (first | refine xG_getI rfl (by exact rfl) (by exact rfl) ?_ | refine xG_getR rfl (by exact rfl) (by exact rfl) ?_ | refine xG_add rfl ?_ | refine xG_sub rfl ?_ | refine xG_mul rfl ?_ | refine xG_putI rfl (by exact rfl) (by exact rfl) ?_ | refine xG_go (fun _ => rfl) ?_)
          exact f58
    iterate 3 (first | refine xG_getI rfl (by exact rfl) (by exact rfl) ?_ | refine xG_getR rfl (by exact rfl) (by exact rfl) ?_ | refine xG_add rfl ?_ | refine xG_sub rfl ?_ | refine xG_mul rfl ?_ | refine xG_putI rfl (by exact rfl) (by exact rfl) ?_ | refine xG_go (fun _ => rfl) ?_)
    refine xi_ne rfl (by omega) (fun c2 => ?_) (fun c2 => ?_)
    · rw [if_pos (by omega)] at f36
      iterate 2 (first | refine xG_getI rfl (by exact rfl) (by exact rfl) ?_ | refine xG_getR rfl (by exact rfl) (by exact rfl) ?_ | refine xG_add rfl ?_ | refine xG_sub rfl ?_ | refine xG_mul rfl ?_ | refine xG_putI rfl (by exact rfl) (by exact rfl) ?_ | refine xG_go (fun _ => rfl) ?_)
      exact f36
    · iterate 2 (first | refine xG_getI rfl (by exact rfl) (by exact rfl) ?_ | refine xG_getR rfl (by exact rfl) (by exact rfl) ?_ | refine xG_add rfl ?_ | refine xG_sub rfl ?_ | refine xG_mul rfl ?_ | refine xG_putI rfl (by exact rfl) (by exact rfl) ?_ | refine xG_go (fun _ => rfl) ?_)
      refine xb_ne rfl (by omega) (by decide) (fun c3 => ?_) (fun c3 => ?_)
      · rw [if_neg (by omega)] at f36
        iterate 1 (first | refine xG_getI rfl (by exact rfl) (by exact rfl) ?_ | refine xG_getR rfl (by exact rfl) (by exact rfl) ?_ | refine xG_add rfl ?_ | refine xG_sub rfl ?_ | refine xG_mul rfl ?_ | refine xG_putI rfl (by exact rfl) (by exact rfl) ?_ | refine xG_go (fun _ => rfl) ?_)
        exact f36
      · rw [if_pos (by omega)] at f36
        iterate 2 (first | refine xG_getI rfl (by exact rfl) (by exact rfl) ?_ | refine xG_getR rfl (by exact rfl) (by exact rfl) ?_ | refine xG_add rfl ?_ | refine xG_sub rfl ?_ | refine xG_mul rfl ?_ | refine xG_putI rfl (by exact rfl) (by exact rfl) ?_ | refine xG_go (fun _ => rfl) ?_)
        exact f36
  · refine xn0 rfl ?_
    iterate 1 (first | refine xG_getI rfl (by exact rfl) (by exact rfl) ?_ | refine xG_getR rfl (by exact rfl) (by exact rfl) ?_ | refine xG_add rfl ?_ | refine xG_sub rfl ?_ | refine xG_mul rfl ?_ | refine xG_putI rfl (by exact rfl) (by exact rfl) ?_ | refine xG_go (fun _ => rfl) ?_)
    exact xG_ret (fun _ => rfl) (Or.inr ⟨bgP_f (fun z => hb z.2), rfl, rfl⟩)
theorem numOf_in {t : Nat → Int} {p e : Nat} (h1 : 0 ≤ t p ∧ t p ≤ 255) (h2 : e = p + 2 → 0 ≤ t (p + 1) ∧ t (p + 1) ≤ 255) (he : p < e) : mv_in (numOf t p e) := by
  unfold numOf
  split
  · omega
  · split
    · omega
    · have := h2 (by omega)
      omega
theorem c_takes {p q : Nat} (hp : p ≤ q) (hq : q < 150) (ht : ∀ i, i ≤ q → 0 ≤ M 1 i ∧ M 1 i ≤ 255) (h : wf M) : xC sc (d + 3) n_Reader_takes [mR 16, mR 1, mI p, mI q] M (oQ (tkP (M 1) M p (q + 1)) M) := by
  have t1 := ht p hp
  refine xC_in rfl rfl (by simp; decide) ?_
  iterate 2 (first | refine xG_getI rfl (by exact rfl) (by exact rfl) ?_ | refine xG_getR rfl (by exact rfl) (by exact rfl) ?_ | refine xG_add rfl ?_ | refine xG_sub rfl ?_ | refine xG_mul rfl ?_ | refine xG_putI rfl (by exact rfl) (by exact rfl) ?_ | refine xG_go (fun _ => rfl) ?_)
  refine xG_cald rfl (by exact rfl) (by omega) ?_
  rw [Int.toNat_natCast]
  iterate 3 (first | refine xG_getI rfl (by exact rfl) (by exact rfl) ?_ | refine xG_getR rfl (by exact rfl) (by exact rfl) ?_ | refine xG_add rfl ?_ | refine xG_sub rfl ?_ | refine xG_mul rfl ?_ | refine xG_putI rfl (by exact rfl) (by exact rfl) ?_ | refine xG_go (fun _ => rfl) ?_)
  unfold tkP
  refine xb_ne rfl (by omega) (by decide) (fun c1 => ?_) (fun c1 => ?_)
  · rw [if_neg c1]
    iterate 1 (first | refine xG_getI rfl (by exact rfl) (by exact rfl) ?_ | refine xG_getR rfl (by exact rfl) (by exact rfl) ?_ | refine xG_add rfl ?_ | refine xG_sub rfl ?_ | refine xG_mul rfl ?_ | refine xG_putI rfl (by exact rfl) (by exact rfl) ?_ | refine xG_go (fun _ => rfl) ?_)
    refine xS1 rfl (by decide) (by simp) (c_isDigit (by omega)) (fun r M' hq => ?_)
    obtain ⟨rfl, rfl⟩ := hq
    by_cases w : fig (M 1 p)
    · rw [b01_t w, if_pos w]
      refine xe1 rfl ?_
      iterate 4 (first | refine xG_getI rfl (by exact rfl) (by exact rfl) ?_ | refine xG_getR rfl (by exact rfl) (by exact rfl) ?_ | refine xG_add rfl ?_ | refine xG_sub rfl ?_ | refine xG_mul rfl ?_ | refine xG_putI rfl (by exact rfl) (by exact rfl) ?_ | refine xG_go (fun _ => rfl) ?_)
      refine xS3 rfl (by decide) (by simp) (c_numberOf hp hq ht) (fun r M' hq => ?_)
      obtain ⟨rfl, rfl⟩ := hq
      refine xV2 rfl (by exact rfl) (by simp) (c_takesNumber (numOf_in t1 (fun _ => ht (p + 1) (by omega)) (by omega)) h) (fun r M' hq => ?_)
      rcases hq with ⟨S, e, rfl, rfl⟩ | ⟨e, rfl, rfl⟩
      · exact xG_ret (fun _ => rfl) (Or.inl ⟨_, e, rfl, rfl⟩)
      · exact xG_ret (fun _ => rfl) (Or.inr ⟨e, rfl, rfl⟩)
    · rw [b01_f w, if_neg w]
      refine xe0 rfl ?_
      iterate 2 (first | refine xG_getI rfl (by exact rfl) (by exact rfl) ?_ | refine xG_getR rfl (by exact rfl) (by exact rfl) ?_ | refine xG_add rfl ?_ | refine xG_sub rfl ?_ | refine xG_mul rfl ?_ | refine xG_putI rfl (by exact rfl) (by exact rfl) ?_ | refine xG_go (fun _ => rfl) ?_)
      refine xb_ne rfl (by omega) (by decide) (fun c2 => ?_) (fun c2 => ?_)
      · rw [if_neg c2]
        iterate 2 (first | refine xG_getI rfl (by exact rfl) (by exact rfl) ?_ | refine xG_getR rfl (by exact rfl) (by exact rfl) ?_ | refine xG_add rfl ?_ | refine xG_sub rfl ?_ | refine xG_mul rfl ?_ | refine xG_putI rfl (by exact rfl) (by exact rfl) ?_ | refine xG_go (fun _ => rfl) ?_)
        refine xV2 rfl (by exact rfl) (by simp) (c_beginsItem t1 h) (fun r M' hq => ?_)
        rcases hq with ⟨S, e, rfl, rfl⟩ | ⟨e, rfl, rfl⟩
        · exact xG_ret (fun _ => rfl) (Or.inl ⟨_, e, rfl, rfl⟩)
        · exact xG_ret (fun _ => rfl) (Or.inr ⟨e, rfl, rfl⟩)
      · rw [if_pos c2]
        iterate 1 (first | refine xG_getI rfl (by exact rfl) (by exact rfl) ?_ | refine xG_getR rfl (by exact rfl) (by exact rfl) ?_ | refine xG_add rfl ?_ | refine xG_sub rfl ?_ | refine xG_mul rfl ?_ | refine xG_putI rfl (by exact rfl) (by exact rfl) ?_ | refine xG_go (fun _ => rfl) ?_)
        refine xV1 rfl (by exact rfl) (by simp) (c_endsItem h) (fun r M' hq => ?_)
        rcases hq with ⟨S, e, rfl, rfl⟩ | ⟨e, rfl, rfl⟩
        · exact xG_ret (fun _ => rfl) (Or.inl ⟨_, e, rfl, rfl⟩)
        · exact xG_ret (fun _ => rfl) (Or.inr ⟨e, rfl, rfl⟩)
  · rw [if_pos c1]
    iterate 1 (first | refine xG_getI rfl (by exact rfl) (by exact rfl) ?_ | refine xG_getR rfl (by exact rfl) (by exact rfl) ?_ | refine xG_add rfl ?_ | refine xG_sub rfl ?_ | refine xG_mul rfl ?_ | refine xG_putI rfl (by exact rfl) (by exact rfl) ?_ | refine xG_go (fun _ => rfl) ?_)
    exact xG_ret (fun _ => rfl) (Or.inl ⟨_, rfl, rfl, rfl⟩)
def ansK (o : Option Nat × mv_M) : Int := match o.1 with
  | some q => -10 - q
  | none => o.2 16 3
theorem l_dig {t : Nat → Int} {L p : Nat} (hL : L ≤ 150) (ht : ∀ i, i < L → 0 ≤ t i ∧ t i ≤ 255) (e1 : M 1 = t) (hf : fig (t p)) {Q : Option mv_V → mv_M → Prop} (kk : xG sc (d + 1) y_Reader_readsAll 71 [some (mR 16), some (mR 1), some (mI L), some (mI ((dend t L p : Int) - 1)), some (mI p)] [] M Q) : ∀ (k at_ : Nat), at_ + 1 + k = L → p ≤ at_ → den t L k (at_ + 1) = dend t L p → xG sc (d + 1) y_Reader_readsAll 37 [some (mR 16), some (mR 1), some (mI L), some (mI at_), some (mI p)] [] M Q := by
  intro k
  have tp : p < L → 0 ≤ M 1 p ∧ M 1 p ≤ 255 := fun h => by rw [e1]; exact ht p h
  induction k with
  | zero =>
    intro at_ h1 h2 h3
    have tp := tp (by omega)
    iterate 2 (first | refine xG_getI rfl (by exact rfl) (by exact rfl) ?_ | refine xG_getR rfl (by exact rfl) (by exact rfl) ?_ | refine xG_add rfl ?_ | refine xG_sub rfl ?_ | refine xG_mul rfl ?_ | refine xG_putI rfl (by exact rfl) (by exact rfl) ?_ | refine xG_go (fun _ => rfl) ?_)
    refine xG_cald rfl (by exact rfl) (by omega) ?_
    rw [Int.toNat_natCast]
    refine xS1 rfl (by decide) (by simp) (c_isDigit (by omega)) (fun r M' hq => ?_)
    obtain ⟨rfl, rfl⟩ := hq
    rw [b01_t (by rw [e1]; exact hf)]
    refine xe1 rfl ?_
    iterate 4 (first | refine xG_getI rfl (by exact rfl) (by exact rfl) ?_ | refine xG_getR rfl (by exact rfl) (by exact rfl) ?_ | refine xG_add rfl ?_ | refine xG_sub rfl ?_ | refine xG_mul rfl ?_ | refine xG_putI rfl (by exact rfl) (by exact rfl) ?_ | refine xG_go (fun _ => rfl) ?_)
    refine xb_ge rfl (by omega) (by omega) (fun _ => ?_) (fun c1 => absurd c1 (by omega))
    simp only [den] at h3
    rw [← h3, show ((at_ + 1 : Nat) : Int) - 1 = at_ by omega] at kk
    exact kk
  | succ k ik =>
    intro at_ h1 h2 h3
    have tp := tp (by omega)
    have tq := ht (at_ + 1) (by omega)
    iterate 2 (first | refine xG_getI rfl (by exact rfl) (by exact rfl) ?_ | refine xG_getR rfl (by exact rfl) (by exact rfl) ?_ | refine xG_add rfl ?_ | refine xG_sub rfl ?_ | refine xG_mul rfl ?_ | refine xG_putI rfl (by exact rfl) (by exact rfl) ?_ | refine xG_go (fun _ => rfl) ?_)
    refine xG_cald rfl (by exact rfl) (by omega) ?_
    rw [Int.toNat_natCast]
    refine xS1 rfl (by decide) (by simp) (c_isDigit (by omega)) (fun r M' hq => ?_)
    obtain ⟨rfl, rfl⟩ := hq
    rw [b01_t (by rw [e1]; exact hf)]
    refine xe1 rfl ?_
    iterate 4 (first | refine xG_getI rfl (by exact rfl) (by exact rfl) ?_ | refine xG_getR rfl (by exact rfl) (by exact rfl) ?_ | refine xG_add rfl ?_ | refine xG_sub rfl ?_ | refine xG_mul rfl ?_ | refine xG_putI rfl (by exact rfl) (by exact rfl) ?_ | refine xG_go (fun _ => rfl) ?_)
    refine xb_ge rfl (by omega) (by omega) (fun c1 => absurd c1 (by omega)) (fun _ => ?_)
    iterate 4 (first | refine xG_getI rfl (by exact rfl) (by exact rfl) ?_ | refine xG_getR rfl (by exact rfl) (by exact rfl) ?_ | refine xG_add rfl ?_ | refine xG_sub rfl ?_ | refine xG_mul rfl ?_ | refine xG_putI rfl (by exact rfl) (by exact rfl) ?_ | refine xG_go (fun _ => rfl) ?_)
    refine xG_cald rfl (by exact rfl) (by omega) ?_
    rw [show ((at_ : Int) + 1).toNat = at_ + 1 by omega, e1]
    refine xS1 rfl (by decide) (by simp) (c_isDigit (by omega)) (fun r M' hq => ?_)
    obtain ⟨rfl, rfl⟩ := hq
    simp only [den] at h3
    by_cases w : fig (t (at_ + 1))
    · rw [b01_t w]
      rw [if_pos ⟨by omega, w⟩] at h3
      refine xe1 rfl ?_
      iterate 2 (first | refine xG_getI rfl (by exact rfl) (by exact rfl) ?_ | refine xG_getR rfl (by exact rfl) (by exact rfl) ?_ | refine xG_add rfl ?_ | refine xG_sub rfl ?_ | refine xG_mul rfl ?_ | refine xG_putI rfl (by exact rfl) (by exact rfl) ?_ | refine xG_go (fun _ => rfl) ?_)
      exact ik (at_ + 1) (by omega) (by omega) h3
    · rw [b01_f w]
      rw [if_neg (fun z => w z.2)] at h3
      refine xe0 rfl ?_
      rw [← h3, show ((at_ + 1 : Nat) : Int) - 1 = at_ by omega] at kk
      exact kk
theorem l_reads {t : Nat → Int} {L : Nat} (hL : L ≤ 150) (ht : ∀ i, i < L → 0 ≤ t i ∧ t i ≤ 255) : ∀ (k p : Nat) (S : mv_M) (x4 : Option mv_V), L ≤ p + k → p ≤ L → wo S → S 1 = t → xG sc (d + 3) y_Reader_readsAll 29 [some (mR 16), some (mR 1), some (mI L), some (mI p), x4] [] S (fun r M' => M' = (rest t L S p).2 ∧ r = some (mI (ansK (rest t L S p)))) := by
  have fin : ∀ (S : mv_M) (x4 : Option mv_V), wo S → xG sc (d + 3) y_Reader_readsAll 29 [some (mR 16), some (mR 1), some (mI L), some (mI L), x4] [] S (fun r M' => M' = (rest t L S L).2 ∧ r = some (mI (ansK (rest t L S L)))) := by
    intro S x4 hw
    have hi := item_in hw.1
    iterate 2 (first | refine xG_getI rfl (by exact rfl) (by exact rfl) ?_ | refine xG_getR rfl (by exact rfl) (by exact rfl) ?_ | refine xG_add rfl ?_ | refine xG_sub rfl ?_ | refine xG_mul rfl ?_ | refine xG_putI rfl (by exact rfl) (by exact rfl) ?_ | refine xG_go (fun _ => rfl) ?_)
    refine xb_ge rfl (by omega) (by omega) (fun _ => ?_) (fun c1 => absurd c1 (by omega))
    iterate 2 (first | refine xG_getI rfl (by exact rfl) (by exact rfl) ?_ | refine xG_getR rfl (by exact rfl) (by exact rfl) ?_ | refine xG_add rfl ?_ | refine xG_sub rfl ?_ | refine xG_mul rfl ?_ | refine xG_putI rfl (by exact rfl) (by exact rfl) ?_ | refine xG_go (fun _ => rfl) ?_)
    rw [rest_end]
    refine xi_ne rfl (by omega) (fun c1 => ?_) (fun c1 => ?_)
    · rw [if_neg c1]
      iterate 3 (first | refine xG_getI rfl (by exact rfl) (by exact rfl) ?_ | refine xG_getR rfl (by exact rfl) (by exact rfl) ?_ | refine xG_add rfl ?_ | refine xG_sub rfl ?_ | refine xG_mul rfl ?_ | refine xG_putI rfl (by exact rfl) (by exact rfl) ?_ | refine xG_go (fun _ => rfl) ?_)
      exact xG_ret (fun _ => rfl) ⟨rfl, rfl⟩
    · rw [if_pos c1]
      iterate 3 (first | refine xG_getI rfl (by exact rfl) (by exact rfl) ?_ | refine xG_getR rfl (by exact rfl) (by exact rfl) ?_ | refine xG_add rfl ?_ | refine xG_sub rfl ?_ | refine xG_mul rfl ?_ | refine xG_putI rfl (by exact rfl) (by exact rfl) ?_ | refine xG_go (fun _ => rfl) ?_)
      exact xG_ret (fun _ => rfl) ⟨rfl, rfl⟩
  intro k
  induction k with
  | zero =>
    intro p S x4 h1 h2 hw e1
    have : p = L := by omega
    subst this
    exact fin S x4 hw
  | succ k ik =>
    intro p S x4 h1 h2 hw e1
    by_cases e : p = L
    · subst e
      exact fin S x4 hw
    have hn := nxt_in (t := t) (show p < L by omega)
    have tp := ht p (by omega)
    iterate 2 (first | refine xG_getI rfl (by exact rfl) (by exact rfl) ?_ | refine xG_getR rfl (by exact rfl) (by exact rfl) ?_ | refine xG_add rfl ?_ | refine xG_sub rfl ?_ | refine xG_mul rfl ?_ | refine xG_putI rfl (by exact rfl) (by exact rfl) ?_ | refine xG_go (fun _ => rfl) ?_)
    refine xb_ge rfl (by omega) (by omega) (fun c1 => absurd c1 (by omega)) (fun _ => ?_)
    iterate 2 (first | refine xG_getI rfl (by exact rfl) (by exact rfl) ?_ | refine xG_getR rfl (by exact rfl) (by exact rfl) ?_ | refine xG_add rfl ?_ | refine xG_sub rfl ?_ | refine xG_mul rfl ?_ | refine xG_putI rfl (by exact rfl) (by exact rfl) ?_ | refine xG_go (fun _ => rfl) ?_)
    have k71 : xG sc (d + 3) y_Reader_readsAll 71 [some (mR 16), some (mR 1), some (mI L), some (mI ((nxt t L p : Int) - 1)), some (mI p)] [] S (fun r M' => M' = (rest t L S p).2 ∧ r = some (mI (ansK (rest t L S p)))) := by
      have kt := c_takes (sc := sc) (d := d) (M := S) (p := p) (q := nxt t L p - 1) (by omega) (by omega) (fun i hi => by rw [e1]; exact ht i (by omega)) hw.1
      rw [show nxt t L p - 1 + 1 = nxt t L p by omega, show ((nxt t L p - 1 : Nat) : Int) = (nxt t L p : Int) - 1 by omega, e1] at kt
      iterate 4 (first | refine xG_getI rfl (by exact rfl) (by exact rfl) ?_ | refine xG_getR rfl (by exact rfl) (by exact rfl) ?_ | refine xG_add rfl ?_ | refine xG_sub rfl ?_ | refine xG_mul rfl ?_ | refine xG_putI rfl (by exact rfl) (by exact rfl) ?_ | refine xG_go (fun _ => rfl) ?_)
      refine xV4 rfl (by exact rfl) (by simp) kt (fun r M' hq => ?_)
      rcases hq with ⟨S', e, rfl, rfl⟩ | ⟨e, rfl, rfl⟩
      · refine xn1 rfl ?_
        rw [rest_some (by omega) e]
        obtain ⟨g1, g2, g3⟩ := tk_wo hw e
        iterate 2 (first | refine xG_getI rfl (by exact rfl) (by exact rfl) ?_ | refine xG_getR rfl (by exact rfl) (by exact rfl) ?_ | refine xG_add rfl ?_ | refine xG_sub rfl ?_ | refine xG_mul rfl ?_ | refine xG_putI rfl (by exact rfl) (by exact rfl) ?_ | refine xG_go (fun _ => rfl) ?_)
        have key := ik (nxt t L p) M' (some (mI p)) (by omega) hn.2 g1 (by rw [g2 1 (by omega), e1])
        rw [show (nxt t L p : Int) - 1 + 1 = (nxt t L p : Int) by omega]
        exact key
      · refine xn0 rfl ?_
        rw [rest_none (by omega) e]
        iterate 3 (first | refine xG_getI rfl (by exact rfl) (by exact rfl) ?_ | refine xG_getR rfl (by exact rfl) (by exact rfl) ?_ | refine xG_add rfl ?_ | refine xG_sub rfl ?_ | refine xG_mul rfl ?_ | refine xG_putI rfl (by exact rfl) (by exact rfl) ?_ | refine xG_go (fun _ => rfl) ?_)
        exact xG_ret (fun _ => rfl) ⟨rfl, rfl⟩
    by_cases w : fig (t p)
    · have en : nxt t L p = dend t L p := by unfold nxt; rw [if_pos w]
      rw [en] at k71
      exact l_dig (d := d + 2) hL ht e1 w k71 (L - (p + 1)) p (by omega) (Nat.le_refl _) (dend_s (by omega) w).symm
    · have en : nxt t L p = p + 1 := by unfold nxt; rw [if_neg w]
      rw [en, show ((p + 1 : Nat) : Int) - 1 = p by omega] at k71
      iterate 2 (first | refine xG_getI rfl (by exact rfl) (by exact rfl) ?_ | refine xG_getR rfl (by exact rfl) (by exact rfl) ?_ | refine xG_add rfl ?_ | refine xG_sub rfl ?_ | refine xG_mul rfl ?_ | refine xG_putI rfl (by exact rfl) (by exact rfl) ?_ | refine xG_go (fun _ => rfl) ?_)
      refine xG_cald rfl (by exact rfl) (by omega) ?_
      rw [Int.toNat_natCast, e1]
      refine xS1 rfl (by decide) (by simp) (c_isDigit (by omega)) (fun r M' hq => ?_)
      obtain ⟨rfl, rfl⟩ := hq
      rw [b01_f w]
      refine xe0 rfl ?_
      exact k71
/-- as a text begins -/
def rst (M : mv_M) : mv_M := mv_up (mv_up (mv_up (mv_up (mv_up (mv_up (mv_up (mv_up M 17 0 3) 17 1 3) 17 2 0) 17 3 0) 16 1 0) 16 3 0) 16 4 0) 16 5 0
theorem rst_wo (h : wr1 M) (h2 : 0 ≤ M 16 2 ∧ M 16 2 ≤ 10) : wo (rst M) := by
  unfold rst
  refine ⟨?_, wr1_same (fun a _ _ => by rw [mv_upne (by omega), mv_upne (by omega), mv_upne (by omega), mv_upne (by omega), mv_upne (by omega), mv_upne (by omega), mv_upne (by omega), mv_upne (by omega)]) h, fun o ho => ?_, fun i => ?_⟩
  · unfold wf
    simp [mv_up]
    omega
  · simp [mv_up] at ho
    omega
  · simp [mv_up] at i
theorem rst_kfr : kfr M (rst M) := kfr_up (by decide) (kfr_up (by decide) (kfr_up (by decide) (kfr_up (by decide) (kfr_up (by decide) (kfr_up (by decide) (kfr_up (by decide) (kfr_up (by decide) kfr_refl)))))))
theorem c_readsAll {t : Nat → Int} {L : Nat} (hL : L ≤ 150) (ht : ∀ i, i < L → 0 ≤ t i ∧ t i ≤ 255) (e1 : M 1 = t) (h : wr1 M) (h2 : 0 ≤ M 16 2 ∧ M 16 2 ≤ 10) : xC sc (d + 4) n_Reader_readsAll [mR 16, mR 1, mI L] M (fun r M' => M' = (rest t L (rst M) 0).2 ∧ r = some (mI (ansK (rest t L (rst M) 0)))) := by
  refine xC_in rfl rfl (by simp; decide) ?_
  iterate 2 (first | refine xG_getI rfl (by exact rfl) (by exact rfl) ?_ | refine xG_getR rfl (by exact rfl) (by exact rfl) ?_ | refine xG_add rfl ?_ | refine xG_sub rfl ?_ | refine xG_mul rfl ?_ | refine xG_putI rfl (by exact rfl) (by exact rfl) ?_ | refine xG_go (fun _ => rfl) ?_)
  refine xV1 rfl (by exact rfl) (by simp) c_empties (fun r M' hq => ?_)
  obtain ⟨rfl, rfl⟩ := hq
  iterate 8 (first | refine xG_getI rfl (by exact rfl) (by exact rfl) ?_ | refine xG_getR rfl (by exact rfl) (by exact rfl) ?_ | refine xG_add rfl ?_ | refine xG_sub rfl ?_ | refine xG_mul rfl ?_ | refine xG_putI rfl (by exact rfl) (by exact rfl) ?_ | refine xG_go (fun _ => rfl) ?_)
  refine xG_putZ rfl (by exact rfl) (by exact rfl) (Or.inl rfl) ?_
  iterate 2 (first | refine xG_getI rfl (by exact rfl) (by exact rfl) ?_ | refine xG_getR rfl (by exact rfl) (by exact rfl) ?_ | refine xG_add rfl ?_ | refine xG_sub rfl ?_ | refine xG_mul rfl ?_ | refine xG_putI rfl (by exact rfl) (by exact rfl) ?_ | refine xG_go (fun _ => rfl) ?_)
  refine xG_putZ rfl (by exact rfl) (by exact rfl) (Or.inl rfl) ?_
  iterate 2 (first | refine xG_getI rfl (by exact rfl) (by exact rfl) ?_ | refine xG_getR rfl (by exact rfl) (by exact rfl) ?_ | refine xG_add rfl ?_ | refine xG_sub rfl ?_ | refine xG_mul rfl ?_ | refine xG_putI rfl (by exact rfl) (by exact rfl) ?_ | refine xG_go (fun _ => rfl) ?_)
  exact l_reads hL ht L 0 (rst M) _ (by omega) (by omega) (rst_wo h h2) (by rw [rst_kfr 1 (by omega), e1])
end ZI
