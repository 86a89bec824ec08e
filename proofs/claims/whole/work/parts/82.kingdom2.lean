/-! THE CALLS: kingdom, both -/
section ZS
variable {sc : Nat × (Nat → Int)} {d c : Nat} {M : mv_M}
theorem b_kingdom (h : R c M) : both sc 30 n_MV_kingdom n_Mod_kingdom [] M c := by
  obtain ⟨h1, h2, h3, h4, h5, h6, h7, h8⟩ := h
  obtain ⟨L, hL, eL, eL2, hT⟩ := h6
  have w1 : wr1 M := ⟨h8.1, h8.2.1⟩
  have w2 : 0 ≤ M 16 2 ∧ M 16 2 ≤ 10 := h8.2.2.2.2.2
  have m0 : mw M := ⟨h8.2.2.1, h8.2.2.2.1, h8.2.2.2.2.1⟩
  have rw0 := rst_wo w1 w2
  obtain ⟨u1, u2, u3, u4⟩ := rest_wo (t := M 1) (L := L) L 0 (rst M) (by omega) (by omega) rw0 (by unfold rst; simp [mv_up])
  have uM : kfr M (rest (M 1) L (rst M) 0).2 := kfr_trans rst_kfr u2
  refine xC_mono (c_kingdom (d := 24) (t := M 1) (L := L) hL eL (fun i hi => (hT i hi).1) rfl w1 w2) (fun r1 N hq => ?_)
  obtain ⟨rfl, hq⟩ := hq
  have nk : ∀ a, 143 ≤ a → N a = M a := by
    intro a ha
    rcases hq with ⟨q, _, rfl⟩ | ⟨_, kc⟩
    · exact uM a (by omega)
    · rw [kc.1 a (by omega) (by omega) (by omega) (by omega) (by omega), uM a (by omega)]
  have xN : txt (M 1) L N := ⟨hL, by rw [nk 143 (by decide), eL2], fun i hi => ⟨by rw [nk 152 (by decide)]; exact (hT i hi).2, (hT i hi).1⟩⟩
  refine xC_mono (m_kingdom (d := 22) (S := rst M) xN (mw_same (fun a _ _ => nk a (by omega)) m0) rw0 (by unfold rst; simp [mv_up]) (by unfold rst; simp [mv_up]) (by unfold rst; simp [mv_up]) (by unfold rst; simp [mv_up]) (by unfold rst; simp [mv_up]) (by unfold rst; simp [mv_up]) (by unfold rst; simp [mv_up]) (by unfold rst; simp [mv_up])) (fun r2 N2 hq2 => ?_)
  obtain ⟨K, k1, k2, k3⟩ := hq2
  generalize rest (M 1) L (rst M) 0 = U at u1 u2 u3 u4 uM hq k3 ⊢
  rcases k3 with ⟨q, e1, rfl, rfl⟩ | ⟨S, no, e1, e2, e3, e4, e5, rfl⟩
  · rcases hq with ⟨q', e2, rfl⟩ | ⟨e2, _⟩
    · have eq : q' = q := by rw [e1] at e2; cases e2; rfl
      subst eq
      have q4 := u4 q' e1
      refine ⟨⟨-10 - (q' : Int), by omega, ?_, rfl⟩, ?_⟩
      · unfold ansK
        rw [e1]
      have e : ∀ a, (a < 16 ∨ 29 ≤ a) → a ≠ 143 → ¬ (153 ≤ a ∧ a ≤ 157) → N2 a = M a := fun a a1 a2 a3 => by rw [k1.1 a a2 a3, uM a (by omega)]
      have e3 : ∀ j, ¬ (17 ≤ j ∧ j ≤ 25) → j ≠ 29 → N2 143 j = M 143 j := fun j a1 a2 => by rw [k1.2 j a1 a2, uM 143 (by omega)]
      have e4 : ∀ a, 16 ≤ a → a ≤ 28 → N2 a = U.2 a := fun a a1 a2 => k1.1 a (by omega) (by omega)
      refine ⟨Sl_Rl ⟨fun a _ _ => e a (by omega) (by omega) (by omega), fun a _ _ => e a (by omega) (by omega) (by omega), e3 0 (by omega) (by omega), e3 1 (by omega) (by omega), e3 2 (by omega) (by omega), e3 6 (by omega) (by omega)⟩ h1, S_Rd (e 4 (by omega) (by omega) (by omega)) (fun a _ _ => e a (by omega) (by omega) (by omega)) (e _ (by omega) (by omega) (by omega)) h2, S_Rh (e 4 (by omega) (by omega) (by omega)) (e _ (by omega) (by omega) (by omega)) (fun a _ _ => e a (by omega) (by omega) (by omega)) (e _ (by omega) (by omega) (by omega)) (e3 9 (by omega) (by omega)) h3, S_Ri (e 4 (by omega) (by omega) (by omega)) (e _ (by omega) (by omega) (by omega)) (fun a _ _ => e a (by omega) (by omega) (by omega)) (e _ (by omega) (by omega) (by omega)) (e _ (by omega) (by omega) (by omega)) h4, S_Rk (e 4 (by omega) (by omega) (by omega)) (e _ (by omega) (by omega) (by omega)) (e _ (by omega) (by omega) (by omega)) (e _ (by omega) (by omega) (by omega)) (e _ (by omega) (by omega) (by omega)) (by rw [e 120 (by omega) (by omega) (by omega)]) (e3 12 (by omega) (by omega)) h5, S_Rt (e _ (by omega) (by omega) (by omega)) (e _ (by omega) (by omega) (by omega)) (by rw [e 0 (by omega) (by omega) (by omega)]) (e3 16 (by omega) (by omega)) ⟨L, hL, eL, eL2, hT⟩, S_Rc (e3 14 (by omega) (by omega)) (by rw [e 132 (by omega) (by omega) (by omega)]) h7, ?_⟩
      have w := wr1_same (S := U.2) (S' := N2) (fun a a1 a2 => e4 a (by omega) a2) u1.2.1
      exact ⟨w.1, w.2, k2.1, k2.2.1, k2.2.2, by rw [e4 16 (by omega) (by omega)]; exact u1.1.2.2.2.2.2.1⟩
    · rw [e1] at e2
      cases e2
  · rcases hq with ⟨q', e6, _⟩ | ⟨e6, kc⟩
    · rw [e1] at e6
      cases e6
    · rw [e1] at kc u1 uM u3
      have u1 : wo S := u1
      have uM : kfr M S := uM
      have u3 : S 16 3 ≤ L := u3
      refine ⟨⟨S 16 3, by have := u1.1.2.2.2.2.2.2.2.2; omega, by rw [e1]; rfl, rfl⟩, ?_⟩
      obtain ⟨q0, q1, q2, q3, q4, q5, q6, q7, q8, q9, q10, q11, q12, q13, q14, q15⟩ := e5
      obtain ⟨c0, c1, c2, c3, c4, c5, c6, c7, c8, c9, c10, c11, c12, c13⟩ : KC S N := kc
      obtain ⟨r1, r2, r3, r4, r5, r6, r7, r8, r9, r10⟩ := e3
      obtain ⟨⟨a1, a2, a3, a4, a5, a6, a7, a8, a9⟩, ⟨b1, b2⟩, d1, d2⟩ := u1
      have eK : ∀ a, a ≠ 143 → ¬ (153 ≤ a ∧ a ≤ 157) → K a = N a := k1.1
      have e : ∀ a, a < 143 → N2 a = N a := fun a ha => by rw [q0 a (by omega) (by omega), eK a (by omega) (by omega)]
      have eM : ∀ a, (a < 16 ∨ 29 ≤ a) → a ≠ 0 → a ≠ 3 → ¬ (4 ≤ a ∧ a ≤ 15) → ¬ (29 ≤ a ∧ a ≤ 34) → a ≠ 120 → N a = M a := fun a x1 x2 x3 x4 x5 x6 => by rw [c0 a x2 x3 x4 x5 x6, uM a (by omega)]
      have eh : ∀ a, 148 ≤ a → a ≤ 149 → N2 a = M a := fun a x1 x2 => by rw [q0 a (by omega) (by omega), eK a (by omega) (by omega), nk a (by omega)]
      have lk2 : lok N2 := by
        unfold lok
        rw [e 4 (by omega), e 5 (by omega), e 6 (by omega), e 14 (by omega), e 15 (by omega), c3, c4, c5, c6]
        refine ⟨a2, a3, a4, a5, fun m hm => ?_, fun m hm => ?_, fun m u hm hu => ?_, fun o ho => ?_, fun o ho => ?_⟩
        · rw [(c7 m hm).1]; have := (b1 m hm).1; omega
        · rw [(c7 m hm).2.1]; exact (b1 m hm).2.1
        · rw [e (8 + m) (by omega), (c7 m hm).2.2 u hu]; exact (b1 m hm).2.2 u hu
        · rw [(c8 o ho).1]; exact (b2 o ho).1
        · rw [(c8 o ho).2]; exact (b2 o ho).2
      have mk2 : mok N2 := by
        unfold mok
        rw [q1, q2, q3, q4]
        refine ⟨a2, a3, a4, a5, fun m hm => ?_, fun m hm => ?_, fun k hk => ?_⟩
        · rw [(q10 m hm).1]; have := (k2.1 m hm).1; omega
        · rw [(q10 m hm).2]; exact (k2.1 m hm).2
        · rw [q11 k hk]; exact k2.2.1 k hk
      have ed : dv N2 29 = dv N 29 := dv_same (fun a _ _ => e a (by omega))
      refine ⟨⟨lk2, mk2, ?_, ?_, ?_, ?_, fun m hm => ?_⟩, ?_, ?_, fun i hi => ?_, ?_, ?_, ?_, ?_⟩
      · rw [e 4 (by omega), q1, c3]
      · rw [e 4 (by omega), q2, c4]
      · rw [e 4 (by omega), q3, c5]
      · rw [e 4 (by omega), q4, c6]
      · rw [e 4 (by omega), c5] at hm
        have m6 : m < 6 := by omega
        rw [e 4 (by omega), c4, e 5 (by omega), e 6 (by omega), e (8 + m) (by omega), (q10 m m6).1, (q10 m m6).2, (c7 m m6).1, (c7 m m6).2.1]
        have r := r9 m hm
        refine ⟨r.1, r.2.1, fun u hu => ?_⟩
        rw [q11 _ (by omega), (c7 m m6).2.2 u (by omega)]
        exact r.2.2 u hu
      · unfold Rd
        rw [ed, e 4 (by omega), c3, c6]
        refine ⟨⟨?_, ?_, ?_, fun m hm => ?_, fun m hm => ?_, fun o ho => ?_, fun o ho => ?_⟩, ⟨?_, ?_, ?_, fun m hm => ?_, fun m hm => ?_, fun o ho => ?_, fun o ho => ?_⟩, fun i hi => ?_, fun o ho => ?_⟩
        · rw [c9 0 (by omega)]; decide
        · rw [c9 1 (by omega)]; decide
        · rw [c9 2 (by omega)]; decide
        · rw [c9 (3 + m) (by omega)]; decide
        · rw [c9 (9 + m) (by omega)]; decide
        · rw [(c10 o ho).1]; exact (b2 o ho).1
        · rw [(c10 o ho).2]; exact (b2 o ho).2
        · rw [q12 0 (by omega)]; decide
        · rw [q12 1 (by omega)]; decide
        · rw [q12 2 (by omega)]; decide
        · rw [q12 (3 + m) (by omega)]; decide
        · rw [q12 (9 + m) (by omega)]; decide
        · rw [(q13 o ho).1]
          have := (k2.2.2 o ho).1
          split <;> omega
        · rw [(q13 o ho).2]
          have := (k2.2.2 o ho).2
          split <;> omega
        · rw [c9 i hi, q12 i hi]
        · have o3 : o < 3 := by omega
          have r := r10 o ho
          rw [(c10 o o3).1, (c10 o o3).2, (q13 o o3).1, (q13 o o3).2, if_pos (by omega), if_pos (by omega), r.1, r.2]
          exact ⟨rfl, rfl, d1 o ho⟩
      · obtain ⟨f, n, hf, hn, x1, x2, x3, _⟩ := h3
        exact ⟨f, 0, hf, by omega, by rw [e 34 (by omega), c11, uM 34 (by omega), x1], by rw [e 34 (by omega), c12]; rfl, by rw [q5]; rfl, fun i hi => absurd hi (by omega)⟩
      · have z3 : N2 3 i = 0 := by rw [e 3 (by omega), c2 i hi]
        have z5 : N2 150 i = 0 := by
          rcases (show i = 0 ∨ i = 1 by omega) with rfl | rfl
          · exact q14
          · exact q15
        exact ⟨by rw [z3, z5], Or.inl z3, fun z => by rw [z3] at z; cases z⟩
      · exact ⟨0, by omega, by rw [e 120 (by omega), c13]; rfl, by rw [q6]; rfl, fun i hi => absurd hi (by omega)⟩
      · exact ⟨0, by omega, by rw [e 0 (by omega), c1]; rfl, by rw [q7]; rfl, fun i hi => absurd hi (by omega)⟩
      · refine S_Rc (M := M) ?_ ?_ h7
        · rw [q8, k1.2 14 (by omega) (by omega), nk 143 (by decide)]
        · rw [e 132 (by omega), eM 132 (by omega) (by omega) (by omega) (by omega) (by omega) (by omega)]
      · have e5 : ∀ a, 16 ≤ a → a ≤ 28 → N2 a = S a := fun a x1 x2 => by rw [e a (by omega), c0 a (by omega) (by omega) (by omega) (by omega) (by omega)]
        have w := wr1_same (S := S) (S' := N2) (fun a x1 x2 => e5 a (by omega) x2) ⟨b1, b2⟩
        have mw2 := mw_same (N := K) (N' := N2) (fun a x1 x2 => q0 a (by omega) (by omega)) k2
        exact ⟨w.1, w.2, mw2.1, mw2.2.1, mw2.2.2, by rw [e5 16 (by omega) (by omega)]; exact a6⟩
end ZS
