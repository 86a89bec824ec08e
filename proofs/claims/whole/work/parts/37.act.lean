/-! WHAT IS DONE: a day is remembered, and today changes -/
section YF
variable {sc : Nat × (Nat → Int)} {d c : Nat} {M M1 M2 M3 M4 : mv_M}
theorem mv_up_setp {a i : Nat} {v : Int} : mv_up M a i v a = setp (M a) i v := by
  funext j
  unfold setp
  by_cases w : j = i
  · rw [w, mv_up_at, if_pos rfl]
  · rw [mv_up_j w, if_neg w]
theorem setp_at {g : Nat → Int} {i : Nat} {v : Int} : setp g i v i = v := by
  unfold setp
  rw [if_pos rfl]
theorem setp_ne {g : Nat → Int} {i j : Nat} {v : Int} (h : j ≠ i) : setp g i v j = g j := by
  unfold setp
  rw [if_neg h]
theorem dok_setp {g : Nat → Int} {i : Nat} {v : Int} (h : dok g) (hv : (i = 0 ∧ 0 ≤ v ∧ v ≤ 9) ∨ (9 ≤ i ∧ i < 15 ∧ 0 ≤ v ∧ v ≤ 9) ∨ (15 ≤ i ∧ i < 18 ∧ 0 ≤ v ∧ v ≤ 4) ∨ (18 ≤ i ∧ i < 21 ∧ 0 ≤ v ∧ v ≤ 15)) : dok (setp g i v) := by
  obtain ⟨h0, h1, h2, h3, h4, h5, h6⟩ := h
  refine ⟨?_, ?_, ?_, fun m hm => ?_, fun m hm => ?_, fun m hm => ?_, fun m hm => ?_⟩
  · by_cases w : 0 = i
    · rw [← w, setp_at]; omega
    · rw [setp_ne w]; exact h0
  · rw [setp_ne (by omega)]; exact h1
  · rw [setp_ne (by omega)]; exact h2
  · rw [setp_ne (by omega)]; exact h3 m hm
  · by_cases w : 9 + m = i
    · rw [← w, setp_at]; omega
    · rw [setp_ne w]; exact h4 m hm
  · by_cases w : 15 + m = i
    · rw [← w, setp_at]; omega
    · rw [setp_ne w]; exact h5 m hm
  · by_cases w : 18 + m = i
    · rw [← w, setp_at]; omega
    · rw [setp_ne w]; exact h6 m hm
theorem dR_setp {st no : Int} {g h : Nat → Int} {i : Nat} {v : Int} (r : dR st no g h) (hv : (i = 0 ∧ 0 ≤ v ∧ v ≤ 9) ∨ (9 ≤ i ∧ i < 15 ∧ 0 ≤ v ∧ v ≤ 9) ∨ (15 ≤ i ∧ i < 18 ∧ (0 ≤ v ∧ v ≤ 4) ∧ v < st) ∨ (18 ≤ i ∧ i < 21 ∧ 0 ≤ v ∧ v ≤ 15)) (n3 : no ≤ 3) : dR st no (setp g i v) (setp h i v) := by
  refine ⟨dok_setp r.1 (by omega), dok_setp r.2.1 (by omega), fun k hk => ?_, fun o ho => ?_⟩
  · by_cases w : k = i
    · rw [w, setp_at, setp_at]
    · rw [setp_ne w, setp_ne w]; exact r.2.2.1 k hk
  · have q := r.2.2.2 o ho
    by_cases w : 15 + o = i
    · rw [← w, setp_at, setp_at, setp_ne (by omega), setp_ne (by omega)]
      exact ⟨rfl, q.2.1, by omega⟩
    · rw [setp_ne w, setp_ne w]
      by_cases u : 18 + o = i
      · rw [← u, setp_at, setp_at]
        exact ⟨q.1, rfl, q.2.2⟩
      · rw [setp_ne u, setp_ne u]
        exact q
/-- the class's past, when a day is remembered, and today may have changed -/
def crem (M M' : mv_M) (f n : Nat) : Prop := (∀ i, i < 21 → dv M' (36 + 5 * f) i = dv M 29 i) ∧ M' 34 1 = ((f + 1) % 10 : Nat) ∧ M' 34 2 = (if (n : Int) < 10 then (n : Int) + 1 else 10) ∧ ∀ a, a ≠ 34 → (a < 36 + 5 * f ∨ 36 + 5 * f + 5 ≤ a) → (a < 29 ∨ 34 ≤ a) → M' a = M a
theorem R_act {f n : Nat} (h : R c M) (hf : f < 10) (hn : n ≤ 10) (e1 : M 34 1 = f) (e2 : M 34 2 = n) (hh : ∀ i, i < n → dR (M 4 0) (M 4 3) (dv M (36 + 5 * ((f + 10 - n + i) % 10))) (fun k => M 148 (21 * i + k))) (cr : crem M M2 f n) (rm : remd M2 M3 n) (s4 : ∀ a, a ≠ 147 → a ≠ 158 → M4 a = M3 a) (hd : dR (M 4 0) (M 4 3) (dv M2 29) (M4 147)) : R (c + 1) M4 := by
  obtain ⟨h1, h2, h3, h4, h5, h6, h7, h8⟩ := h
  have no3 := h1.1.2.2.2.1
  obtain ⟨c1, c2, c3, c4⟩ := cr
  obtain ⟨r1, r2, r3, r4, r5⟩ := rm
  have e : ∀ a, (a < 29 ∨ 86 ≤ a) ∧ a ≠ 143 ∧ a ≠ 147 ∧ a ≠ 148 ∧ a ≠ 158 → M4 a = M a := fun a ha => by rw [s4 a (by omega) (by omega), r1 a (by omega) (by omega), c4 a (by omega) (by omega) (by omega)]
  have s3 : ∀ j, j ≠ 9 → M4 143 j = M 143 j := fun j hj => by rw [s4 143 (by omega) (by omega), r2 j hj, c4 143 (by omega) (by omega) (by omega)]
  have ed : ∀ D, (29 ≤ D ∧ D + 5 ≤ 86) → dv M4 D = dv M2 D := fun D hD => dv_same (fun a _ _ => by rw [s4 a (by omega) (by omega), r1 a (by omega) (by omega)])
  have e34 : M4 34 = M2 34 := by rw [s4 34 (by decide) (by decide), r1 34 (by decide) (by decide)]
  have ep : ∀ x, x < 10 → x ≠ f → dv M4 (36 + 5 * x) = dv M (36 + 5 * x) := fun x hx hne => by
    rw [ed _ (by omega)]
    exact dv_same (fun a _ _ => c4 a (by omega) (by omega) (by omega))
  have e8 : M4 148 = M3 148 := s4 148 (by decide) (by decide)
  have q8 : M2 148 = M 148 := c4 148 (by decide) (by omega) (by decide)
  have q7 : M2 147 = M 147 := c4 147 (by decide) (by omega) (by decide)
  have e4 : M4 4 = M 4 := e 4 (by decide)
  refine ⟨Sl_Rl ⟨fun a _ _ => e a (by omega), fun a _ _ => e a (by omega), s3 _ (by omega), s3 _ (by omega), s3 _ (by omega), s3 _ (by omega)⟩ h1, ?_, ?_, S_Ri e4 (e _ (by omega)) (fun a _ _ => e a (by omega)) (e _ (by omega)) (e _ (by omega)) h4, S_Rk e4 (e _ (by omega)) (e _ (by omega)) (e _ (by omega)) (e _ (by omega)) (by rw [e 120 (by omega)]) (s3 _ (by omega)) h5, S_Rt (e _ (by omega)) (e _ (by omega)) (by rw [e 0 (by omega)]) (s3 _ (by omega)) h6, S_Rc (s3 _ (by omega)) (by rw [e 132 (by omega)]) h7, S_Rs (fun a _ _ => e a (by omega)) (fun a _ _ => e a (by omega)) h8⟩
  · unfold Rd
    rw [e4, ed 29 (by decide)]
    exact hd
  · by_cases w : n < 10
    · refine ⟨(f + 1) % 10, n + 1, by omega, by omega, by rw [e34, c2], by rw [e34, c3, if_pos (by omega)]; rfl, by rw [s4 143 (by decide) (by decide), r3, if_pos w]; rfl, fun i hi => ?_⟩
      rw [e4]
      by_cases u : i = n
      · subst u
        rw [show ((f + 1) % 10 + 10 - (i + 1) + i) % 10 = f by omega, ed _ (by omega)]
        refine dR_cong no3.2 c1 (fun k hk => ?_) h2
        show M4 148 (21 * i + k) = M 147 k
        rw [e8, r4 w]
        unfold crow
        rw [if_pos (by omega), q7, show 0 + (21 * i + k - 21 * i) = k by omega]
      · rw [show ((f + 1) % 10 + 10 - (n + 1) + i) % 10 = (f + 10 - n + i) % 10 by omega, ep _ (by omega) (by omega)]
        refine dR_cong no3.2 (fun k _ => rfl) (fun k hk => ?_) (hh i (by omega))
        show M4 148 (21 * i + k) = M 148 (21 * i + k)
        rw [e8, r4 w]
        unfold crow
        rw [if_neg (by omega), q8]
    · have n10 : n = 10 := by omega
      refine ⟨(f + 1) % 10, 10, by omega, by omega, by rw [e34, c2], by rw [e34, c3, if_neg (by omega)]; rfl, by rw [s4 143 (by decide) (by decide), r3, if_neg w]; rfl, fun i hi => ?_⟩
      rw [e4]
      by_cases u : i = 9
      · subst u
        rw [show ((f + 1) % 10 + 10 - 10 + 9) % 10 = f by omega, ed _ (by omega)]
        refine dR_cong no3.2 c1 (fun k hk => ?_) h2
        show M4 148 (21 * 9 + k) = M 147 k
        rw [e8, r5 n10 _ (by omega), if_neg (by omega), q7, show 21 * 9 + k - 189 = k by omega]
      · rw [show ((f + 1) % 10 + 10 - 10 + i) % 10 = (f + 10 - n + (i + 1)) % 10 by omega, ep _ (by omega) (by omega)]
        refine dR_cong no3.2 (fun k _ => rfl) (fun k hk => ?_) (hh (i + 1) (by omega))
        show M4 148 (21 * i + k) = M 148 (21 * (i + 1) + k)
        rw [e8, r5 n10 _ (by omega), if_pos (by omega), q8, show 21 * i + k + 21 = 21 * (i + 1) + k by omega]
/-- a call that does something: the class's way, the reference's way -/
theorem both_act {n1 n2 : Nat} {as : List mv_V} {z : Int} (hz : mv_in z) (h : R c M) (k1 : ∀ f n : Nat, f < 10 → n ≤ 10 → M 34 1 = f → M 34 2 = n → M 143 9 = n → xC sc 30 n1 (mR 0 :: as) M (fun r M2 => r = some (mI z) ∧ crem M M2 f n ∧ xC sc 30 n2 (mR 143 :: as) M2 (fun r M4 => r = some (mI z) ∧ ∃ M3, remd M2 M3 n ∧ (∀ a, a ≠ 147 → a ≠ 158 → M4 a = M3 a) ∧ dR (M 4 0) (M 4 3) (dv M2 29) (M4 147)))) : both sc 30 n1 n2 as M c := by
  obtain ⟨f, n, hf, hn, e1, e2, e3, hh⟩ := h.2.2.1
  refine xC_mono (k1 f n hf hn e1 e2 e3) (fun r1 M2 hq => ?_)
  obtain ⟨rfl, cr, k2⟩ := hq
  refine xC_mono k2 (fun r2 M4 hq => ?_)
  obtain ⟨rfl, M3, rm, s4, hd⟩ := hq
  exact ⟨⟨z, hz, rfl, rfl⟩, R_act h hf hn e1 e2 hh cr rm s4 hd⟩
/-- between the class's past and its present -/
theorem crem_of {f n : Nat} (e2 : M 34 2 = n) (hq : (∀ i, i < 21 → dv M1 (36 + 5 * f) i = dv M 29 i) ∧ M1 34 1 = ((f + 1) % 10 : Nat) ∧ M1 34 2 = (if M 34 2 < 10 then M 34 2 + 1 else 10) ∧ ∀ a, a ≠ 34 → (a < 36 + 5 * f ∨ 36 + 5 * f + 5 ≤ a) → M1 a = M a) (s : ∀ a, (a < 29 ∨ 34 ≤ a) → M2 a = M1 a) : crem M M2 f n := by
  obtain ⟨h1, h2, h3, h4⟩ := hq
  refine ⟨fun i hi => ?_, by rw [s 34 (by decide), h2], by rw [s 34 (by decide), h3, e2], fun a ha hb hc => by rw [s a hc, h4 a ha hb]⟩
  rw [dv_same (fun a _ _ => s a (by omega)), h1 i hi]
theorem crem_lok {f n : Nat} (cr : crem M M2 f n) (h : lok M) : lok M2 := by
  have e : ∀ a, a < 29 → M2 a = M a := fun a ha => cr.2.2.2 a (by omega) (by omega) (by omega)
  unfold lok
  rw [e 4 (by decide), e 5 (by decide), e 6 (by decide), e 14 (by decide), e 15 (by decide)]
  refine ⟨h.1, h.2.1, h.2.2.1, h.2.2.2.1, h.2.2.2.2.1, h.2.2.2.2.2.1, fun m t hm ht => ?_, h.2.2.2.2.2.2.2.1, h.2.2.2.2.2.2.2.2⟩
  rw [e (8 + m) (by omega)]
  exact h.2.2.2.2.2.2.1 m t hm ht
theorem crem_hi {f n : Nat} (hf : f < 10) (cr : crem M M2 f n) {a : Nat} (ha : 143 ≤ a) : M2 a = M a := cr.2.2.2 a (by omega) (by omega) (by omega)
theorem crem_mok {f n : Nat} (hf : f < 10) (cr : crem M M2 f n) (h : mok M) : mok M2 := by
  unfold mok
  rw [crem_hi hf cr (show 143 ≤ 143 by decide), crem_hi hf cr (show 143 ≤ 144 by decide), crem_hi hf cr (show 143 ≤ 145 by decide), crem_hi hf cr (show 143 ≤ 146 by decide)]
  exact h
end YF
