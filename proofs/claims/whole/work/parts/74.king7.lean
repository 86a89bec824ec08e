/-! THE TEXT: the reference takes a number -/
section ZK
variable {sc : Nat × (Nat → Int)} {d c : Nat} {M : mv_M}
def fr5 (N N' : mv_M) : Prop := (∀ a, a ≠ 143 → N' a = N a) ∧ ∀ j, ¬ (17 ≤ j ∧ j ≤ 21) → N' 143 j = N 143 j
theorem fr5_txt {t : Nat → Int} {L : Nat} {N N' : mv_M} (h : fr5 N N') (x : txt t L N) : txt t L N' := ⟨x.1, by rw [h.2 16 (by omega)]; exact x.2.1, by rw [h.1 152 (by decide)]; exact x.2.2⟩
/-- the reference goes on as the class's reader does from S on; or it has come to its fault -/
def good (U : Option Nat × mv_M) (t : Nat → Int) (L p0 : Nat) (S N : mv_M) : Prop := N 143 21 = 0 ∧ ∃ p, p0 ≤ p ∧ TK t L N p ∧ U = rest t L S p
def bad (U : Option Nat × mv_M) (N : mv_M) : Prop := N 143 21 = 1 ∧ ∃ p : Nat, N 143 18 = p ∧ U.1 = some p ∧ mv_in (N 143 19)
theorem m_takesNumber {U : Option Nat × mv_M} {t : Nat → Int} {L p0 : Nat} {S : mv_M} {a b : Int} (x : txt t L M) (ha : mv_in a) (hb : mv_in b) (h : bad U M ∨ (good U t L p0 S M ∧ wf S ∧ S 16 1 ≠ 0 ∧ S 16 2 < due S ∧ a = lea S ∧ b = gre S)) : xC sc (d + 4) n_Mod_takesNumber [mR 143, mI a, mI b] M (fun r N => fr5 M N ∧ ∃ v : Int, r = some (mI v) ∧ ((bad U N ∧ v = 0) ∨ (good U t L p0 (snP S v) N ∧ tnP S v = some (snP S v) ∧ a ≤ v ∧ v ≤ b ∧ M 143 21 = 0))) := by
  refine xC_in rfl rfl (by simp; decide) ?_
  iterate 2 (first | refine xG_getI rfl (by exact rfl) (by exact rfl) ?_ | refine xG_getR rfl (by exact rfl) (by exact rfl) ?_ | refine xG_add rfl ?_ | refine xG_sub rfl ?_ | refine xG_mul rfl ?_ | refine xG_putI rfl (by exact rfl) (by exact rfl) ?_ | refine xG_go (fun _ => rfl) ?_)
  have no : (∀ p : Nat, M 143 18 = p → U.1 = some p) → (∃ p : Nat, M 143 18 = p) → mv_in (M 143 19) → xG sc (d + 3) y_Mod_takesNumber 31 [some (mR 143), some (mI a), some (mI b), none, none] [] M (fun r N => fr5 M N ∧ ∃ v : Int, r = some (mI v) ∧ ((bad U N ∧ v = 0) ∨ (good U t L p0 (snP S v) N ∧ tnP S v = some (snP S v) ∧ a ≤ v ∧ v ≤ b ∧ M 143 21 = 0))) := by
    intro hU hp htk
    obtain ⟨p, ep⟩ := hp
    iterate 4 (first | refine xG_getI rfl (by exact rfl) (by exact rfl) ?_ | refine xG_getR rfl (by exact rfl) (by exact rfl) ?_ | refine xG_add rfl ?_ | refine xG_sub rfl ?_ | refine xG_mul rfl ?_ | refine xG_putI rfl (by exact rfl) (by exact rfl) ?_ | refine xG_go (fun _ => rfl) ?_)
    refine xn0 rfl ?_
    iterate 2 (first | refine xG_getI rfl (by exact rfl) (by exact rfl) ?_ | refine xG_getR rfl (by exact rfl) (by exact rfl) ?_ | refine xG_add rfl ?_ | refine xG_sub rfl ?_ | refine xG_mul rfl ?_ | refine xG_putI rfl (by exact rfl) (by exact rfl) ?_ | refine xG_go (fun _ => rfl) ?_)
    refine xG_putZ rfl (by exact rfl) (by exact rfl) (Or.inr rfl) ?_
    iterate 4 (first | refine xG_getI rfl (by exact rfl) (by exact rfl) ?_ | refine xG_getR rfl (by exact rfl) (by exact rfl) ?_ | refine xG_add rfl ?_ | refine xG_sub rfl ?_ | refine xG_mul rfl ?_ | refine xG_putI rfl (by exact rfl) (by exact rfl) ?_ | refine xG_go (fun _ => rfl) ?_)
    refine xe0 rfl ?_
    iterate 1 (first | refine xG_getI rfl (by exact rfl) (by exact rfl) ?_ | refine xG_getR rfl (by exact rfl) (by exact rfl) ?_ | refine xG_add rfl ?_ | refine xG_sub rfl ?_ | refine xG_mul rfl ?_ | refine xG_putI rfl (by exact rfl) (by exact rfl) ?_ | refine xG_go (fun _ => rfl) ?_)
    refine xe0 rfl ?_
    iterate 1 (first | refine xG_getI rfl (by exact rfl) (by exact rfl) ?_ | refine xG_getR rfl (by exact rfl) (by exact rfl) ?_ | refine xG_add rfl ?_ | refine xG_sub rfl ?_ | refine xG_mul rfl ?_ | refine xG_putI rfl (by exact rfl) (by exact rfl) ?_ | refine xG_go (fun _ => rfl) ?_)
    exact xG_ret (fun _ => rfl) ⟨⟨fun a ha => mv_upne ha, fun j hj => mv_up_j (by omega)⟩, 0, rfl, Or.inl ⟨⟨mv_up_at, p, by rw [mv_up_j (by decide), ep], hU p ep, by rw [mv_up_j (by decide)]; exact htk⟩, rfl⟩⟩
  rcases h with ⟨b1, b2⟩ | ⟨⟨g1, p, g2, g3, g4⟩, hw, hi, hn, rfl, rfl⟩
  · refine xi_ne rfl (by omega) (fun _ => ?_) (fun c1 => absurd c1 (by omega))
    obtain ⟨p, e1, e2, e3⟩ := b2
    exact no (fun q hq => by rw [e2]; congr 1; omega) ⟨p, e1⟩ e3
  · refine xi_ne rfl (by omega) (fun c1 => absurd g1 c1) (fun _ => ?_)
    have tokb : 0 ≤ M 143 19 ∧ M 143 19 ≤ 4 := by
      rcases g3.2.2 with h3 | ⟨a1, a2, a3, a4⟩ | ⟨a1, a2, a3, a4, a5, a6⟩ <;> omega
    iterate 3 (first | refine xG_getI rfl (by exact rfl) (by exact rfl) ?_ | refine xG_getR rfl (by exact rfl) (by exact rfl) ?_ | refine xG_add rfl ?_ | refine xG_sub rfl ?_ | refine xG_mul rfl ?_ | refine xG_putI rfl (by exact rfl) (by exact rfl) ?_ | refine xG_go (fun _ => rfl) ?_)
    have wrong : ¬ (M 143 19 = 2 ∧ lea S ≤ M 143 20 ∧ M 143 20 ≤ gre S) → xG sc (d + 3) y_Mod_takesNumber 31 [some (mR 143), some (mI (lea S)), some (mI (gre S)), none, none] [] M (fun r N => fr5 M N ∧ ∃ v : Int, r = some (mI v) ∧ ((bad U N ∧ v = 0) ∨ (good U t L p0 (snP S v) N ∧ tnP S v = some (snP S v) ∧ lea S ≤ v ∧ v ≤ gre S ∧ M 143 21 = 0))) := by
      intro hx
      refine no (fun q hq => ?_) ⟨p, g3.2.1⟩ (by omega)
      rw [g4, tk_W1 hw hi hn g3 hx]
      congr 1
      have := g3.2.1
      omega
    refine xb_ne rfl (by omega) (by decide) (fun c1 => ?_) (fun c1 => ?_)
    · exact wrong (fun z => c1 z.1)
    · have nb : 0 ≤ M 143 20 ∧ M 143 20 ≤ 99 := by
        rcases g3.2.2 with h3 | ⟨a1, a2, a3, a4⟩ | ⟨a1, a2, a3, a4, a5, a6⟩ <;> omega
      iterate 4 (first | refine xG_getI rfl (by exact rfl) (by exact rfl) ?_ | refine xG_getR rfl (by exact rfl) (by exact rfl) ?_ | refine xG_add rfl ?_ | refine xG_sub rfl ?_ | refine xG_mul rfl ?_ | refine xG_putI rfl (by exact rfl) (by exact rfl) ?_ | refine xG_go (fun _ => rfl) ?_)
      refine xS3 rfl (by decide) (by simp) (m_in (by omega) ha hb) (fun r M' hq => ?_)
      obtain ⟨rfl, rfl⟩ := hq
      by_cases w : lea S ≤ M 143 20 ∧ M 143 20 ≤ gre S
      · rw [b01_t w]
        refine xe1 rfl ?_
        obtain ⟨e, e1, e2, e3, e4, e5⟩ := tk_G1 (t := t) (L := L) hn g3 c1 w
        iterate 5 (first | refine xG_getI rfl (by exact rfl) (by exact rfl) ?_ | refine xG_getR rfl (by exact rfl) (by exact rfl) ?_ | refine xG_add rfl ?_ | refine xG_sub rfl ?_ | refine xG_mul rfl ?_ | refine xG_putI rfl (by exact rfl) (by exact rfl) ?_ | refine xG_go (fun _ => rfl) ?_)
        refine xn1 rfl ?_
        iterate 1 (first | refine xG_getI rfl (by exact rfl) (by exact rfl) ?_ | refine xG_getR rfl (by exact rfl) (by exact rfl) ?_ | refine xG_add rfl ?_ | refine xG_sub rfl ?_ | refine xG_mul rfl ?_ | refine xG_putI rfl (by exact rfl) (by exact rfl) ?_ | refine xG_go (fun _ => rfl) ?_)
        refine xG_putZ rfl (by exact rfl) (by exact rfl) (Or.inl rfl) ?_
        iterate 4 (first | refine xG_getI rfl (by exact rfl) (by exact rfl) ?_ | refine xG_getR rfl (by exact rfl) (by exact rfl) ?_ | refine xG_add rfl ?_ | refine xG_sub rfl ?_ | refine xG_mul rfl ?_ | refine xG_putI rfl (by exact rfl) (by exact rfl) ?_ | refine xG_go (fun _ => rfl) ?_)
        refine xe1 rfl ?_
        iterate 1 (first | refine xG_getI rfl (by exact rfl) (by exact rfl) ?_ | refine xG_getR rfl (by exact rfl) (by exact rfl) ?_ | refine xG_add rfl ?_ | refine xG_sub rfl ?_ | refine xG_mul rfl ?_ | refine xG_putI rfl (by exact rfl) (by exact rfl) ?_ | refine xG_go (fun _ => rfl) ?_)
        rw [mv_up_j (show 20 ≠ 21 by decide)]
        have xN : txt t L (mv_up M 143 21 0) := ⟨x.1, by rw [mv_up_j (by decide)]; exact x.2.1, by rw [mv_upne (by decide)]; exact x.2.2⟩
        refine xV1 rfl (by exact rfl) (by simp) (m_reads (p := e) xN e2 (by rw [mv_up_j (by decide), e3])) (fun r N hq => ?_)
        obtain ⟨rfl, f1, q, f0, f2, f3⟩ := hq
        iterate 1 (first | refine xG_getI rfl (by exact rfl) (by exact rfl) ?_ | refine xG_getR rfl (by exact rfl) (by exact rfl) ?_ | refine xG_add rfl ?_ | refine xG_sub rfl ?_ | refine xG_mul rfl ?_ | refine xG_putI rfl (by exact rfl) (by exact rfl) ?_ | refine xG_go (fun _ => rfl) ?_)
        refine xe1 rfl ?_
        iterate 2 (first | refine xG_getI rfl (by exact rfl) (by exact rfl) ?_ | refine xG_getR rfl (by exact rfl) (by exact rfl) ?_ | refine xG_add rfl ?_ | refine xG_sub rfl ?_ | refine xG_mul rfl ?_ | refine xG_putI rfl (by exact rfl) (by exact rfl) ?_ | refine xG_go (fun _ => rfl) ?_)
        refine xG_ret (fun _ => rfl) ⟨⟨fun a ha => by rw [f1.1 a ha, mv_upne ha], fun j hj => by rw [f1.2 j (by omega), mv_up_j (by omega)]⟩, _, rfl, Or.inr ⟨⟨by rw [f1.2 21 (by omega), mv_up_at], q, by omega, f2, by rw [g4, e5, f3]⟩, e4, w.1, w.2, g1⟩⟩
      · rw [b01_f w]
        refine xe0 rfl ?_
        exact wrong (fun z => w z.2)
theorem m_streetsSaid (h : -1 ≤ M 143 23 ∧ M 143 23 ≤ 5) : xC sc (d + 1) n_Mod_streetsSaid [mR 143] M (fun r M' => M = M' ∧ r = some (mI (if M 143 23 < 0 then 3 else M 143 23))) := by
  refine xC_in rfl rfl (by simp; decide) ?_
  iterate 2 (first | refine xG_getI rfl (by exact rfl) (by exact rfl) ?_ | refine xG_getR rfl (by exact rfl) (by exact rfl) ?_ | refine xG_add rfl ?_ | refine xG_sub rfl ?_ | refine xG_mul rfl ?_ | refine xG_putI rfl (by exact rfl) (by exact rfl) ?_ | refine xG_go (fun _ => rfl) ?_)
  refine xi_ge rfl (by omega) (fun c1 => ?_) (fun c1 => ?_)
  · rw [if_neg (by omega)]
    iterate 2 (first | refine xG_getI rfl (by exact rfl) (by exact rfl) ?_ | refine xG_getR rfl (by exact rfl) (by exact rfl) ?_ | refine xG_add rfl ?_ | refine xG_sub rfl ?_ | refine xG_mul rfl ?_ | refine xG_putI rfl (by exact rfl) (by exact rfl) ?_ | refine xG_go (fun _ => rfl) ?_)
    exact xG_ret (fun _ => rfl) ⟨rfl, rfl⟩
  · rw [if_pos (by omega)]
    iterate 2 (first | refine xG_getI rfl (by exact rfl) (by exact rfl) ?_ | refine xG_getR rfl (by exact rfl) (by exact rfl) ?_ | refine xG_add rfl ?_ | refine xG_sub rfl ?_ | refine xG_mul rfl ?_ | refine xG_putI rfl (by exact rfl) (by exact rfl) ?_ | refine xG_go (fun _ => rfl) ?_)
    exact xG_ret (fun _ => rfl) ⟨rfl, rfl⟩
theorem m_tunesSaid (h : -1 ≤ M 143 24 ∧ M 143 24 ≤ 5) : xC sc (d + 1) n_Mod_tunesSaid [mR 143] M (fun r M' => M = M' ∧ r = some (mI (if M 143 24 < 0 then 3 else M 143 24))) := by
  refine xC_in rfl rfl (by simp; decide) ?_
  iterate 2 (first | refine xG_getI rfl (by exact rfl) (by exact rfl) ?_ | refine xG_getR rfl (by exact rfl) (by exact rfl) ?_ | refine xG_add rfl ?_ | refine xG_sub rfl ?_ | refine xG_mul rfl ?_ | refine xG_putI rfl (by exact rfl) (by exact rfl) ?_ | refine xG_go (fun _ => rfl) ?_)
  refine xi_ge rfl (by omega) (fun c1 => ?_) (fun c1 => ?_)
  · rw [if_neg (by omega)]
    iterate 2 (first | refine xG_getI rfl (by exact rfl) (by exact rfl) ?_ | refine xG_getR rfl (by exact rfl) (by exact rfl) ?_ | refine xG_add rfl ?_ | refine xG_sub rfl ?_ | refine xG_mul rfl ?_ | refine xG_putI rfl (by exact rfl) (by exact rfl) ?_ | refine xG_go (fun _ => rfl) ?_)
    exact xG_ret (fun _ => rfl) ⟨rfl, rfl⟩
  · rw [if_pos (by omega)]
    iterate 2 (first | refine xG_getI rfl (by exact rfl) (by exact rfl) ?_ | refine xG_getR rfl (by exact rfl) (by exact rfl) ?_ | refine xG_add rfl ?_ | refine xG_sub rfl ?_ | refine xG_mul rfl ?_ | refine xG_putI rfl (by exact rfl) (by exact rfl) ?_ | refine xG_go (fun _ => rfl) ?_)
    exact xG_ret (fun _ => rfl) ⟨rfl, rfl⟩
/-- what the reference has read is what the class's reader has -/
def RS (S N : mv_M) : Prop := (-1 ≤ N 143 23 ∧ N 143 23 ≤ 5) ∧ (-1 ≤ N 143 24 ∧ N 143 24 ≤ 5) ∧ S 17 0 = (if N 143 23 < 0 then 3 else N 143 23) ∧ S 17 1 = (if N 143 24 < 0 then 3 else N 143 24) ∧ N 143 25 = S 17 2 ∧ N 143 29 = S 17 3 ∧ ((S 16 4 = 0 ∧ N 143 23 < 0) ∨ (S 16 4 = 1 ∧ 0 ≤ N 143 23)) ∧ ((S 16 5 = 0 ∧ N 143 24 < 0) ∨ (S 16 5 = 1 ∧ 0 ≤ N 143 24)) ∧ (∀ m : Nat, (m : Int) < S 17 2 → N 153 m = S 18 m ∧ N 154 m = S 19 m ∧ ∀ u : Nat, (u : Int) < S 17 1 → N 155 (4 * m + u) = S (21 + m) u) ∧ ∀ o : Nat, (o : Int) < S 17 3 → N 156 o = S 27 o ∧ N 157 o = S 28 o
theorem m_mayBegin {S : mv_M} {l : Int} (hw : wf S) (hr : RS S M) (hx : l = 115 ∨ l = 116 ∨ l = 109 ∨ l = 111) : xC sc (d + 1) n_Mod_mayBegin [mR 143, mI l] M (fun r M' => M = M' ∧ ((r = some (mI 1) ∧ mayB S l) ∨ (r = some (mI 0) ∧ ¬ mayB S l))) := by
  obtain ⟨r1, r2, r3, r4, r5, r6, r7, r8, _⟩ := hr
  have h2 := hw.2.2.2.1
  have h3 := hw.2.2.2.2.1
  refine xC_in rfl rfl (by simp; decide) ?_
  have go : ∀ nb : Int, (nb = 1 ∧ S 17 2 = 0 ∧ S 17 3 = 0) ∨ (nb = 0 ∧ ¬ (S 17 2 = 0 ∧ S 17 3 = 0)) → xG sc d y_Mod_mayBegin 20 [some (mR 143), some (mI l), some (mI nb)] [] M (fun r M' => M = M' ∧ ((r = some (mI 1) ∧ mayB S l) ∨ (r = some (mI 0) ∧ ¬ mayB S l))) := by
    intro nb hb
    iterate 1 (first | refine xG_getI rfl (by exact rfl) (by exact rfl) ?_ | refine xG_getR rfl (by exact rfl) (by exact rfl) ?_ | refine xG_add rfl ?_ | refine xG_sub rfl ?_ | refine xG_mul rfl ?_ | refine xG_putI rfl (by exact rfl) (by exact rfl) ?_ | refine xG_go (fun _ => rfl) ?_)
    rcases hx with rfl | rfl | rfl | rfl
    · refine xG_go (pc1 := 56) (fun _ => rfl) ?_
      iterate 1 (first | refine xG_getI rfl (by exact rfl) (by exact rfl) ?_ | refine xG_getR rfl (by exact rfl) (by exact rfl) ?_ | refine xG_add rfl ?_ | refine xG_sub rfl ?_ | refine xG_mul rfl ?_ | refine xG_putI rfl (by exact rfl) (by exact rfl) ?_ | refine xG_go (fun _ => rfl) ?_)
      refine xi_eq rfl (by omega) (fun c1 => ?_) (fun c1 => ?_)
      · iterate 1 (first | refine xG_getI rfl (by exact rfl) (by exact rfl) ?_ | refine xG_getR rfl (by exact rfl) (by exact rfl) ?_ | refine xG_add rfl ?_ | refine xG_sub rfl ?_ | refine xG_mul rfl ?_ | refine xG_putI rfl (by exact rfl) (by exact rfl) ?_ | refine xG_go (fun _ => rfl) ?_)
        exact xG_ret (fun _ => rfl) ⟨rfl, Or.inr ⟨rfl, by unfold mayB; omega⟩⟩
      · iterate 2 (first | refine xG_getI rfl (by exact rfl) (by exact rfl) ?_ | refine xG_getR rfl (by exact rfl) (by exact rfl) ?_ | refine xG_add rfl ?_ | refine xG_sub rfl ?_ | refine xG_mul rfl ?_ | refine xG_putI rfl (by exact rfl) (by exact rfl) ?_ | refine xG_go (fun _ => rfl) ?_)
        refine xi_ge rfl (by omega) (fun c2 => ?_) (fun c2 => ?_)
        · iterate 1 (first | refine xG_getI rfl (by exact rfl) (by exact rfl) ?_ | refine xG_getR rfl (by exact rfl) (by exact rfl) ?_ | refine xG_add rfl ?_ | refine xG_sub rfl ?_ | refine xG_mul rfl ?_ | refine xG_putI rfl (by exact rfl) (by exact rfl) ?_ | refine xG_go (fun _ => rfl) ?_)
          exact xG_ret (fun _ => rfl) ⟨rfl, Or.inr ⟨rfl, by unfold mayB; omega⟩⟩
        · iterate 2 (first | refine xG_getI rfl (by exact rfl) (by exact rfl) ?_ | refine xG_getR rfl (by exact rfl) (by exact rfl) ?_ | refine xG_add rfl ?_ | refine xG_sub rfl ?_ | refine xG_mul rfl ?_ | refine xG_putI rfl (by exact rfl) (by exact rfl) ?_ | refine xG_go (fun _ => rfl) ?_)
          exact xG_ret (fun _ => rfl) ⟨rfl, Or.inl ⟨rfl, by unfold mayB; omega⟩⟩
    · refine xG_go (pc1 := 73) (fun _ => rfl) ?_
      iterate 1 (first | refine xG_getI rfl (by exact rfl) (by exact rfl) ?_ | refine xG_getR rfl (by exact rfl) (by exact rfl) ?_ | refine xG_add rfl ?_ | refine xG_sub rfl ?_ | refine xG_mul rfl ?_ | refine xG_putI rfl (by exact rfl) (by exact rfl) ?_ | refine xG_go (fun _ => rfl) ?_)
      refine xi_eq rfl (by omega) (fun c1 => ?_) (fun c1 => ?_)
      · iterate 1 (first | refine xG_getI rfl (by exact rfl) (by exact rfl) ?_ | refine xG_getR rfl (by exact rfl) (by exact rfl) ?_ | refine xG_add rfl ?_ | refine xG_sub rfl ?_ | refine xG_mul rfl ?_ | refine xG_putI rfl (by exact rfl) (by exact rfl) ?_ | refine xG_go (fun _ => rfl) ?_)
        exact xG_ret (fun _ => rfl) ⟨rfl, Or.inr ⟨rfl, by unfold mayB; omega⟩⟩
      · iterate 2 (first | refine xG_getI rfl (by exact rfl) (by exact rfl) ?_ | refine xG_getR rfl (by exact rfl) (by exact rfl) ?_ | refine xG_add rfl ?_ | refine xG_sub rfl ?_ | refine xG_mul rfl ?_ | refine xG_putI rfl (by exact rfl) (by exact rfl) ?_ | refine xG_go (fun _ => rfl) ?_)
        refine xi_ge rfl (by omega) (fun c2 => ?_) (fun c2 => ?_)
        · iterate 1 (first | refine xG_getI rfl (by exact rfl) (by exact rfl) ?_ | refine xG_getR rfl (by exact rfl) (by exact rfl) ?_ | refine xG_add rfl ?_ | refine xG_sub rfl ?_ | refine xG_mul rfl ?_ | refine xG_putI rfl (by exact rfl) (by exact rfl) ?_ | refine xG_go (fun _ => rfl) ?_)
          exact xG_ret (fun _ => rfl) ⟨rfl, Or.inr ⟨rfl, by unfold mayB; omega⟩⟩
        · iterate 2 (first | refine xG_getI rfl (by exact rfl) (by exact rfl) ?_ | refine xG_getR rfl (by exact rfl) (by exact rfl) ?_ | refine xG_add rfl ?_ | refine xG_sub rfl ?_ | refine xG_mul rfl ?_ | refine xG_putI rfl (by exact rfl) (by exact rfl) ?_ | refine xG_go (fun _ => rfl) ?_)
          exact xG_ret (fun _ => rfl) ⟨rfl, Or.inl ⟨rfl, by unfold mayB; omega⟩⟩
    · refine xG_go (pc1 := 90) (fun _ => rfl) ?_
      iterate 3 (first | refine xG_getI rfl (by exact rfl) (by exact rfl) ?_ | refine xG_getR rfl (by exact rfl) (by exact rfl) ?_ | refine xG_add rfl ?_ | refine xG_sub rfl ?_ | refine xG_mul rfl ?_ | refine xG_putI rfl (by exact rfl) (by exact rfl) ?_ | refine xG_go (fun _ => rfl) ?_)
      rw [r5]
      refine xb_ge rfl (by omega) (by decide) (fun c1 => ?_) (fun c1 => ?_)
      · iterate 1 (first | refine xG_getI rfl (by exact rfl) (by exact rfl) ?_ | refine xG_getR rfl (by exact rfl) (by exact rfl) ?_ | refine xG_add rfl ?_ | refine xG_sub rfl ?_ | refine xG_mul rfl ?_ | refine xG_putI rfl (by exact rfl) (by exact rfl) ?_ | refine xG_go (fun _ => rfl) ?_)
        exact xG_ret (fun _ => rfl) ⟨rfl, Or.inr ⟨rfl, by unfold mayB; omega⟩⟩
      · iterate 2 (first | refine xG_getI rfl (by exact rfl) (by exact rfl) ?_ | refine xG_getR rfl (by exact rfl) (by exact rfl) ?_ | refine xG_add rfl ?_ | refine xG_sub rfl ?_ | refine xG_mul rfl ?_ | refine xG_putI rfl (by exact rfl) (by exact rfl) ?_ | refine xG_go (fun _ => rfl) ?_)
        exact xG_ret (fun _ => rfl) ⟨rfl, Or.inl ⟨rfl, by unfold mayB; omega⟩⟩
    · refine xG_go (pc1 := 105) (fun _ => rfl) ?_
      iterate 3 (first | refine xG_getI rfl (by exact rfl) (by exact rfl) ?_ | refine xG_getR rfl (by exact rfl) (by exact rfl) ?_ | refine xG_add rfl ?_ | refine xG_sub rfl ?_ | refine xG_mul rfl ?_ | refine xG_putI rfl (by exact rfl) (by exact rfl) ?_ | refine xG_go (fun _ => rfl) ?_)
      rw [r6]
      refine xb_ge rfl (by omega) (by decide) (fun c1 => ?_) (fun c1 => ?_)
      · iterate 1 (first | refine xG_getI rfl (by exact rfl) (by exact rfl) ?_ | refine xG_getR rfl (by exact rfl) (by exact rfl) ?_ | refine xG_add rfl ?_ | refine xG_sub rfl ?_ | refine xG_mul rfl ?_ | refine xG_putI rfl (by exact rfl) (by exact rfl) ?_ | refine xG_go (fun _ => rfl) ?_)
        exact xG_ret (fun _ => rfl) ⟨rfl, Or.inr ⟨rfl, by unfold mayB; omega⟩⟩
      · iterate 2 (first | refine xG_getI rfl (by exact rfl) (by exact rfl) ?_ | refine xG_getR rfl (by exact rfl) (by exact rfl) ?_ | refine xG_add rfl ?_ | refine xG_sub rfl ?_ | refine xG_mul rfl ?_ | refine xG_putI rfl (by exact rfl) (by exact rfl) ?_ | refine xG_go (fun _ => rfl) ?_)
        exact xG_ret (fun _ => rfl) ⟨rfl, Or.inl ⟨rfl, by unfold mayB; omega⟩⟩
  iterate 2 (first | refine xG_getI rfl (by exact rfl) (by exact rfl) ?_ | refine xG_getR rfl (by exact rfl) (by exact rfl) ?_ | refine xG_add rfl ?_ | refine xG_sub rfl ?_ | refine xG_mul rfl ?_ | refine xG_putI rfl (by exact rfl) (by exact rfl) ?_ | refine xG_go (fun _ => rfl) ?_)
  rw [r5]
  refine xi_ne rfl (by omega) (fun c1 => ?_) (fun c1 => ?_)
  · iterate 2 (first | refine xG_getI rfl (by exact rfl) (by exact rfl) ?_ | refine xG_getR rfl (by exact rfl) (by exact rfl) ?_ | refine xG_add rfl ?_ | refine xG_sub rfl ?_ | refine xG_mul rfl ?_ | refine xG_putI rfl (by exact rfl) (by exact rfl) ?_ | refine xG_go (fun _ => rfl) ?_)
    exact go 0 (Or.inr ⟨rfl, by omega⟩)
  · iterate 2 (first | refine xG_getI rfl (by exact rfl) (by exact rfl) ?_ | refine xG_getR rfl (by exact rfl) (by exact rfl) ?_ | refine xG_add rfl ?_ | refine xG_sub rfl ?_ | refine xG_mul rfl ?_ | refine xG_putI rfl (by exact rfl) (by exact rfl) ?_ | refine xG_go (fun _ => rfl) ?_)
    rw [r6]
    refine xi_ne rfl (by omega) (fun c2 => ?_) (fun c2 => ?_)
    · iterate 2 (first | refine xG_getI rfl (by exact rfl) (by exact rfl) ?_ | refine xG_getR rfl (by exact rfl) (by exact rfl) ?_ | refine xG_add rfl ?_ | refine xG_sub rfl ?_ | refine xG_mul rfl ?_ | refine xG_putI rfl (by exact rfl) (by exact rfl) ?_ | refine xG_go (fun _ => rfl) ?_)
      exact go 0 (Or.inr ⟨rfl, by omega⟩)
    · iterate 3 (first | refine xG_getI rfl (by exact rfl) (by exact rfl) ?_ | refine xG_getR rfl (by exact rfl) (by exact rfl) ?_ | refine xG_add rfl ?_ | refine xG_sub rfl ?_ | refine xG_mul rfl ?_ | refine xG_putI rfl (by exact rfl) (by exact rfl) ?_ | refine xG_go (fun _ => rfl) ?_)
      exact go 1 (Or.inl ⟨rfl, by omega, by omega⟩)
end ZK
