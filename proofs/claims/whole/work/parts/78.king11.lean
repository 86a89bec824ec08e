/-! THE TEXT: the reference reads an item, all items -/
section ZO
variable {sc : Nat × (Nat → Int)} {d c : Nat} {M : mv_M}
def IQ (U : Option Nat × mv_M) (t : Nat → Int) (L p : Nat) (S N N' : mv_M) : Prop := kf N N' ∧ mw N' ∧ (bad U N' ∨ ∃ S', good U t L (p + 1) S' N' ∧ wo S' ∧ kfr S S' ∧ S' 16 1 = 0 ∧ S' 16 3 = S 16 3 + 1 ∧ RS S' N')
theorem RS_22 {S N : mv_M} {v : Int} (h : RS S N) : RS S (mv_up N 143 22 v) := by
  unfold RS
  rw [mv_up_j (show 23 ≠ 22 by decide), mv_up_j (show 24 ≠ 22 by decide), mv_up_j (show 25 ≠ 22 by decide), mv_up_j (show 29 ≠ 22 by decide), mv_upne (show 153 ≠ 143 by decide), mv_upne (show 154 ≠ 143 by decide), mv_upne (show 155 ≠ 143 by decide), mv_upne (show 156 ≠ 143 by decide), mv_upne (show 157 ≠ 143 by decide)]
  exact h
theorem fr4_5 {N N' : mv_M} (h : fr4 N N') : fr5 N N' := ⟨h.1, fun j hj => h.2 j (by omega)⟩
theorem tok_in {t : Nat → Int} {L p : Nat} {N : mv_M} (h : TK t L N p) : 0 ≤ N 143 19 ∧ N 143 19 ≤ 4 := by
  rcases h.2.2 with h3 | ⟨a1, a2, a3, a4⟩ | ⟨a1, a2, a3, a4, a5, a6⟩ <;> omega
theorem m_readItem {U : Option Nat × mv_M} {t : Nat → Int} {L p : Nat} {S : mv_M} (x : txt t L M) (hS : wo S) (hi : S 16 1 = 0) (hr : RS S M) (hm : mw M) (h21 : M 143 21 = 0) (hT : TK t L M p) (hU : U = rest t L S p) (h0 : M 143 19 ≠ 0) : xC sc (d + 7) n_Mod_readItem [mR 143] M (fun r N => r = none ∧ IQ U t L p S M N) := by
  have ti := tok_in hT
  refine xC_in rfl rfl (by simp; decide) ?_
  have wrong : ¬ (M 143 19 = 1 ∧ mayB S (M 143 20)) → xG sc (d + 6) y_Mod_readItem 21 [some (mR 143), some (mI (M 143 20))] [] M (fun r N => r = none ∧ IQ U t L p S M N) := by
    intro hx
    iterate 2 (first | refine xG_getI rfl (by exact rfl) (by exact rfl) ?_ | refine xG_getR rfl (by exact rfl) (by exact rfl) ?_ | refine xG_add rfl ?_ | refine xG_sub rfl ?_ | refine xG_mul rfl ?_ | refine xG_putI rfl (by exact rfl) (by exact rfl) ?_ | refine xG_go (fun _ => rfl) ?_)
    refine xG_putZ rfl (by exact rfl) (by exact rfl) (Or.inr rfl) ?_
    refine xG_ret (fun _ => rfl) ⟨rfl, kf_up (by omega) kf_refl, mw_same (fun a _ _ => mv_upne (by omega)) hm, Or.inl ⟨mv_up_at, p, by rw [mv_up_j (by decide), hT.2.1], by rw [hU]; exact tk_W3 hS.1 hi hT h0 hx, by rw [mv_up_j (by decide)]; omega⟩⟩
  iterate 6 (first | refine xG_getI rfl (by exact rfl) (by exact rfl) ?_ | refine xG_getR rfl (by exact rfl) (by exact rfl) ?_ | refine xG_add rfl ?_ | refine xG_sub rfl ?_ | refine xG_mul rfl ?_ | refine xG_putI rfl (by exact rfl) (by exact rfl) ?_ | refine xG_go (fun _ => rfl) ?_)
  refine xb_ne rfl (by omega) (by decide) (fun c1 => ?_) (fun c1 => ?_)
  · exact wrong (fun z => c1 z.1)
  have hl : M 143 20 = 115 ∨ M 143 20 = 116 ∨ M 143 20 = 109 ∨ M 143 20 = 111 := by
    rcases hT.2.2 with h3 | ⟨a1, a2, a3, a4⟩ | ⟨a1, a2, a3, a4, a5, a6⟩ <;> omega
  iterate 2 (first | refine xG_getI rfl (by exact rfl) (by exact rfl) ?_ | refine xG_getR rfl (by exact rfl) (by exact rfl) ?_ | refine xG_add rfl ?_ | refine xG_sub rfl ?_ | refine xG_mul rfl ?_ | refine xG_putI rfl (by exact rfl) (by exact rfl) ?_ | refine xG_go (fun _ => rfl) ?_)
  refine xV2 rfl (by exact rfl) (by simp) (m_mayBegin hS.1 hr hl) (fun r M' hq => ?_)
  obtain ⟨rfl, hq⟩ := hq
  rcases hq with ⟨rfl, hb⟩ | ⟨rfl, hb⟩
  · refine xn1 rfl ?_
    obtain ⟨g1, g2, g3, g4, g5⟩ := tk_G3 (t := t) (L := L) hi hT c1 hb
    iterate 1 (first | refine xG_getI rfl (by exact rfl) (by exact rfl) ?_ | refine xG_getR rfl (by exact rfl) (by exact rfl) ?_ | refine xG_add rfl ?_ | refine xG_sub rfl ?_ | refine xG_mul rfl ?_ | refine xG_putI rfl (by exact rfl) (by exact rfl) ?_ | refine xG_go (fun _ => rfl) ?_)
    refine xV1 rfl (by exact rfl) (by simp) (m_reads (p := p + 1) x (by omega) g2) (fun r N1 hq => ?_)
    obtain ⟨rfl, f1, q, f0, f2, f3⟩ := hq
    have f15 := fr4_5 f1
    iterate 2 (first | refine xG_getI rfl (by exact rfl) (by exact rfl) ?_ | refine xG_getR rfl (by exact rfl) (by exact rfl) ?_ | refine xG_add rfl ?_ | refine xG_sub rfl ?_ | refine xG_mul rfl ?_ | refine xG_putI rfl (by exact rfl) (by exact rfl) ?_ | refine xG_go (fun _ => rfl) ?_)
    refine xV2 rfl (by exact rfl) (by simp) (m_readBody (U := U) (t := t) (L := L) (p0 := p + 1) (S := S) (fr4_txt f1 x) hS hi (RS_N f15 hr) hb (mw_same (fun a _ _ => f1.1 a (by omega)) hm) ⟨by rw [f1.2 21 (by omega)]; exact h21, q, f0, f2, by rw [hU, g5, f3]⟩) (fun r N2 hq => ?_)
    obtain ⟨rfl, k1, k2, k3⟩ := hq
    have kM : kf M N2 := ⟨fun a a1 a2 => by rw [k1.1 a a1 a2, f1.1 a a1], fun j a1 a2 a3 a4 a5 => by rw [k1.2 j a1 a2 a3 a4 a5, f1.2 j (by omega)]⟩
    iterate 3 (first | refine xG_getI rfl (by exact rfl) (by exact rfl) ?_ | refine xG_getR rfl (by exact rfl) (by exact rfl) ?_ | refine xG_add rfl ?_ | refine xG_sub rfl ?_ | refine xG_mul rfl ?_ | refine xG_putI rfl (by exact rfl) (by exact rfl) ?_ | refine xG_go (fun _ => rfl) ?_)
    rcases k3 with k3 | ⟨S', s1, s2, s3, s4, s5, s6, s7⟩
    · refine xi_ne rfl (by have := k3.1; omega) (fun _ => ?_) (fun z => absurd z (by have := k3.1; omega))
      iterate 2 (first | refine xG_getI rfl (by exact rfl) (by exact rfl) ?_ | refine xG_getR rfl (by exact rfl) (by exact rfl) ?_ | refine xG_add rfl ?_ | refine xG_sub rfl ?_ | refine xG_mul rfl ?_ | refine xG_putI rfl (by exact rfl) (by exact rfl) ?_ | refine xG_go (fun _ => rfl) ?_)
      refine xG_putZ rfl (by exact rfl) (by exact rfl) (Or.inr rfl) ?_
      iterate 2 (first | refine xG_getI rfl (by exact rfl) (by exact rfl) ?_ | refine xG_getR rfl (by exact rfl) (by exact rfl) ?_ | refine xG_add rfl ?_ | refine xG_sub rfl ?_ | refine xG_mul rfl ?_ | refine xG_putI rfl (by exact rfl) (by exact rfl) ?_ | refine xG_go (fun _ => rfl) ?_)
      rw [mv_up_at]
      refine xn1 rfl ?_
      obtain ⟨b1, b2, b3, b4, b5⟩ := k3
      exact xG_ret (fun _ => rfl) ⟨rfl, kf_up (by omega) kM, mw_same (fun a _ _ => mv_upne (by omega)) k2, Or.inl ⟨mv_up_at, b2, by rw [mv_up_j (by decide), b3], b4, by rw [mv_up_j (by decide)]; exact b5⟩⟩
    · obtain ⟨z1, q2, z2, z3, z4⟩ := s1
      have ti2 := tok_in z3
      refine xi_ne rfl (by omega) (fun z => absurd z1 z) (fun _ => ?_)
      iterate 3 (first | refine xG_getI rfl (by exact rfl) (by exact rfl) ?_ | refine xG_getR rfl (by exact rfl) (by exact rfl) ?_ | refine xG_add rfl ?_ | refine xG_sub rfl ?_ | refine xG_mul rfl ?_ | refine xG_putI rfl (by exact rfl) (by exact rfl) ?_ | refine xG_go (fun _ => rfl) ?_)
      refine xb_eq rfl (by omega) (by decide) (fun c2 => ?_) (fun c2 => ?_)
      · iterate 1 (first | refine xG_getI rfl (by exact rfl) (by exact rfl) ?_ | refine xG_getR rfl (by exact rfl) (by exact rfl) ?_ | refine xG_add rfl ?_ | refine xG_sub rfl ?_ | refine xG_mul rfl ?_ | refine xG_putI rfl (by exact rfl) (by exact rfl) ?_ | refine xG_go (fun _ => rfl) ?_)
        refine xG_putZ rfl (by exact rfl) (by exact rfl) (Or.inl rfl) ?_
        iterate 2 (first | refine xG_getI rfl (by exact rfl) (by exact rfl) ?_ | refine xG_getR rfl (by exact rfl) (by exact rfl) ?_ | refine xG_add rfl ?_ | refine xG_sub rfl ?_ | refine xG_mul rfl ?_ | refine xG_putI rfl (by exact rfl) (by exact rfl) ?_ | refine xG_go (fun _ => rfl) ?_)
        rw [mv_up_at]
        refine xn0 rfl ?_
        obtain ⟨y1, y2, y3, y4⟩ := tk_G2 (t := t) (L := L) s4 s5 z3 c2
        have ew := en_wo s2 y3
        iterate 1 (first | refine xG_getI rfl (by exact rfl) (by exact rfl) ?_ | refine xG_getR rfl (by exact rfl) (by exact rfl) ?_ | refine xG_add rfl ?_ | refine xG_sub rfl ?_ | refine xG_mul rfl ?_ | refine xG_putI rfl (by exact rfl) (by exact rfl) ?_ | refine xG_go (fun _ => rfl) ?_)
        have kU : kf M (mv_up N2 143 21 0) := kf_up (by omega) kM
        refine xV1 rfl (by exact rfl) (by simp) (m_reads (p := q2 + 1) (kf_txt kU x) (by omega) (by rw [mv_up_j (by decide)]; exact y2)) (fun r N3 hq => ?_)
        obtain ⟨rfl, e1, q3, e0, e2, e3⟩ := hq
        have e15 := fr4_5 e1
        have fu : fr5 N2 (mv_up N2 143 21 0) := ⟨fun a ha => mv_upne ha, fun j hj => mv_up_j (by omega)⟩
        refine xG_ret (fun _ => rfl) ⟨rfl, kf_fr5 kU e15, mw_same (fun a _ _ => by rw [e1.1 a (by omega), mv_upne (by omega)]) k2, Or.inr ⟨_, ⟨by rw [e1.2 21 (by omega), mv_up_at], q3, by omega, e2, by rw [z4, y4, e3]⟩, ew.1, kfr_trans s3 ew.2.1, by rw [mv_up_j (by decide), mv_up_at], by rw [ew.2.2, s6], RS_N e15 (RS_N fu (RS_S (fun a ha => by rw [mv_upne ha, mv_upne ha]) (by rw [mv_up_j (by decide), mv_up_j (by decide)]) (by rw [mv_up_j (by decide), mv_up_j (by decide)]) s7))⟩⟩
      · iterate 2 (first | refine xG_getI rfl (by exact rfl) (by exact rfl) ?_ | refine xG_getR rfl (by exact rfl) (by exact rfl) ?_ | refine xG_add rfl ?_ | refine xG_sub rfl ?_ | refine xG_mul rfl ?_ | refine xG_putI rfl (by exact rfl) (by exact rfl) ?_ | refine xG_go (fun _ => rfl) ?_)
        refine xG_putZ rfl (by exact rfl) (by exact rfl) (Or.inr rfl) ?_
        iterate 2 (first | refine xG_getI rfl (by exact rfl) (by exact rfl) ?_ | refine xG_getR rfl (by exact rfl) (by exact rfl) ?_ | refine xG_add rfl ?_ | refine xG_sub rfl ?_ | refine xG_mul rfl ?_ | refine xG_putI rfl (by exact rfl) (by exact rfl) ?_ | refine xG_go (fun _ => rfl) ?_)
        rw [mv_up_at]
        refine xn1 rfl ?_
        exact xG_ret (fun _ => rfl) ⟨rfl, kf_up (by omega) kM, mw_same (fun a _ _ => mv_upne (by omega)) k2, Or.inl ⟨mv_up_at, q2, by rw [mv_up_j (by decide), z3.2.1], by rw [z4]; exact tk_W2 s4 s5 z3 c2, by rw [mv_up_j (by decide)]; omega⟩⟩
  · refine xn0 rfl ?_
    exact wrong (fun z => hb z.2)
/-- all items: K the memory at the beginning -/
def kfi (N N' : mv_M) : Prop := (∀ a, a ≠ 143 → ¬ (153 ≤ a ∧ a ≤ 157) → N' a = N a) ∧ ∀ j, ¬ (17 ≤ j ∧ j ≤ 25) → j ≠ 29 → N' 143 j = N 143 j
theorem l_items {U : Option Nat × mv_M} {t : Nat → Int} {L : Nat} {K : mv_M} (x : txt t L K) {Q : Option mv_V → mv_M → Prop} (kk : ∀ N, kfi K N → mw N → (bad U N ∨ (N 143 21 = 0 ∧ ∃ S', U = (none, S') ∧ wo S' ∧ RS S' N ∧ N 143 22 = S' 16 3 ∧ S' 16 3 ≤ L)) → xG sc (d + 7) y_Mod_kingdom 70 [some (mR 143)] [] N Q) : ∀ (k p : Nat) (S N : mv_M), L ≤ p + k → kfi K N → mw N → wo S → S 16 1 = 0 → RS S N → N 143 22 = S 16 3 → S 16 3 ≤ p → N 143 21 = 0 → TK t L N p → U = rest t L S p → xG sc (d + 7) y_Mod_kingdom 39 [some (mR 143)] [] N Q := by
  intro k
  have ended : ∀ (p : Nat) (S N : mv_M), N 143 19 = 0 → kfi K N → mw N → wo S → S 16 1 = 0 → RS S N → N 143 22 = S 16 3 → S 16 3 ≤ p → N 143 21 = 0 → TK t L N p → U = rest t L S p → xG sc (d + 7) y_Mod_kingdom 39 [some (mR 143)] [] N Q := by
    intro p S N h19 h1 h2 h3 h4 h5 h6 h6' h7 h8 h9
    have eL : p = L := by
      rcases h8.2.2 with h3 | ⟨a1, a2, a3, a4⟩ | ⟨a1, a2, a3, a4, a5, a6⟩ <;> omega
    iterate 2 (first | refine xG_getI rfl (by exact rfl) (by exact rfl) ?_ | refine xG_getR rfl (by exact rfl) (by exact rfl) ?_ | refine xG_add rfl ?_ | refine xG_sub rfl ?_ | refine xG_mul rfl ?_ | refine xG_putI rfl (by exact rfl) (by exact rfl) ?_ | refine xG_go (fun _ => rfl) ?_)
    rw [h19]
    refine xe0 rfl ?_
    refine kk N h1 h2 (Or.inr ⟨h7, S, ?_, h3, h5, h6, by omega⟩)
    rw [h9, eL, rest_end, if_pos h4]
  induction k with
  | zero =>
    intro p S N h0 h1 h2 h3 h4 h5 h6 h6' h7 h8 h9
    refine ended p S N ?_ h1 h2 h3 h4 h5 h6 h6' h7 h8 h9
    have := h8.1
    rcases h8.2.2 with h3 | ⟨a1, a2, a3, a4⟩ | ⟨a1, a2, a3, a4, a5, a6⟩ <;> omega
  | succ k ik =>
    intro p S N h0 h1 h2 h3 h4 h5 h6 h6' h7 h8 h9
    by_cases w : N 143 19 = 0
    · exact ended p S N w h1 h2 h3 h4 h5 h6 h6' h7 h8 h9
    have ti := tok_in h8
    iterate 2 (first | refine xG_getI rfl (by exact rfl) (by exact rfl) ?_ | refine xG_getR rfl (by exact rfl) (by exact rfl) ?_ | refine xG_add rfl ?_ | refine xG_sub rfl ?_ | refine xG_mul rfl ?_ | refine xG_putI rfl (by exact rfl) (by exact rfl) ?_ | refine xG_go (fun _ => rfl) ?_)
    refine xi_eq rfl (by omega) (fun z => absurd z w) (fun _ => ?_)
    iterate 2 (first | refine xG_getI rfl (by exact rfl) (by exact rfl) ?_ | refine xG_getR rfl (by exact rfl) (by exact rfl) ?_ | refine xG_add rfl ?_ | refine xG_sub rfl ?_ | refine xG_mul rfl ?_ | refine xG_putI rfl (by exact rfl) (by exact rfl) ?_ | refine xG_go (fun _ => rfl) ?_)
    rw [h7]
    refine xn0 rfl ?_
    iterate 1 (first | refine xG_getI rfl (by exact rfl) (by exact rfl) ?_ | refine xG_getR rfl (by exact rfl) (by exact rfl) ?_ | refine xG_add rfl ?_ | refine xG_sub rfl ?_ | refine xG_mul rfl ?_ | refine xG_putI rfl (by exact rfl) (by exact rfl) ?_ | refine xG_go (fun _ => rfl) ?_)
    have xN : txt t L N := ⟨x.1, by rw [h1.2 16 (by omega) (by omega)]; exact x.2.1, by rw [h1.1 152 (by decide) (by decide)]; exact x.2.2⟩
    refine xV1 rfl (by exact rfl) (by simp) (m_readItem xN h3 h4 h5 h2 h7 h8 h9 w) (fun r N1 hq => ?_)
    obtain ⟨rfl, f1, f2, f3⟩ := hq
    have e22 : N1 143 22 = N 143 22 := f1.2 22 (by omega) (by omega) (by omega) (by omega) (by omega) |> fun z => z
    iterate 3 (first | refine xG_getI rfl (by exact rfl) (by exact rfl) ?_ | refine xG_getR rfl (by exact rfl) (by exact rfl) ?_ | refine xG_add rfl ?_ | refine xG_sub rfl ?_ | refine xG_mul rfl ?_ | refine xG_putI rfl (by exact rfl) (by exact rfl) ?_ | refine xG_go (fun _ => rfl) ?_)
    rw [e22]
    iterate 4 (first | refine xG_getI rfl (by exact rfl) (by exact rfl) ?_ | refine xG_getR rfl (by exact rfl) (by exact rfl) ?_ | refine xG_add rfl ?_ | refine xG_sub rfl ?_ | refine xG_mul rfl ?_ | refine xG_putI rfl (by exact rfl) (by exact rfl) ?_ | refine xG_go (fun _ => rfl) ?_)
    have fk : kfi K (mv_up N1 143 22 (N 143 22 + 1)) := ⟨fun a a1 a2 => by rw [mv_upne a1, f1.1 a a1 a2, h1.1 a a1 a2], fun j a1 a2 => by rw [mv_up_j (by omega), f1.2 j (by omega) (by omega) (by omega) (by omega) a2, h1.2 j a1 a2]⟩
    have fm : mw (mv_up N1 143 22 (N 143 22 + 1)) := mw_same (fun a _ _ => mv_upne (by omega)) f2
    rcases f3 with f3 | ⟨S', s1, s2, s3, s4, s5, s6⟩
    · have fb := bad_up (i := 22) (a := 143) (v := N 143 22 + 1) (Or.inr (Or.inl (by decide))) f3
      iterate 2 (first | refine xG_getI rfl (by exact rfl) (by exact rfl) ?_ | refine xG_getR rfl (by exact rfl) (by exact rfl) ?_ | refine xG_add rfl ?_ | refine xG_sub rfl ?_ | refine xG_mul rfl ?_ | refine xG_putI rfl (by exact rfl) (by exact rfl) ?_ | refine xG_go (fun _ => rfl) ?_)
      have tz : xG sc (d + 7) y_Mod_kingdom 46 [some (mR 143)] [] (mv_up N1 143 22 (N 143 22 + 1)) Q := by
        iterate 2 (first | refine xG_getI rfl (by exact rfl) (by exact rfl) ?_ | refine xG_getR rfl (by exact rfl) (by exact rfl) ?_ | refine xG_add rfl ?_ | refine xG_sub rfl ?_ | refine xG_mul rfl ?_ | refine xG_putI rfl (by exact rfl) (by exact rfl) ?_ | refine xG_go (fun _ => rfl) ?_)
        rw [fb.1]
        refine xn1 rfl ?_
        exact kk _ fk fm (Or.inl fb)
      have fb0 := fb
      obtain ⟨_, _, _, _, fb5⟩ := fb0
      refine xi_eq rfl fb5 (fun _ => ?_) (fun _ => tz)
      exact kk _ fk fm (Or.inl fb)
    · obtain ⟨z1, q2, z2, z3, z4⟩ := good_up (i := 22) (a := 143) (v := N 143 22 + 1) (Or.inr (Or.inl (by decide))) s1
      refine ik q2 S' _ (by omega) fk fm s2 s4 ?_ (by rw [mv_up_at, h6, s5]) (by omega) z1 z3 z4
      exact RS_22 s6
end ZO
