/-! THE CLASS AGAINST THE REFERENCE -/
section XQ
variable {sc : Nat × (Nat → Int)} {d : Nat} {M M' : mv_M}
/-- two rows of a day say the same of what lives -/
def dR (st no : Int) (g h : Nat → Int) : Prop := dok g ∧ dok h ∧ (∀ k, k < 15 → g k = h k) ∧ ∀ o : Nat, (o : Int) < no → g (15 + o) = h (15 + o) ∧ g (18 + o) = h (18 + o) ∧ g (15 + o) < st
theorem dok_cong {g h : Nat → Int} (e : ∀ k, k < 21 → g k = h k) (hd : dok h) : dok g := by
  obtain ⟨h0, h1, h2, h3, h4, h5, h6⟩ := hd
  refine ⟨?_, ?_, ?_, fun m hm => ?_, fun m hm => ?_, fun m hm => ?_, fun m hm => ?_⟩
  · rw [e 0 (by omega)]; exact h0
  · rw [e 1 (by omega)]; exact h1
  · rw [e 2 (by omega)]; exact h2
  · rw [e (3 + m) (by omega)]; exact h3 m hm
  · rw [e (9 + m) (by omega)]; exact h4 m hm
  · rw [e (15 + m) (by omega)]; exact h5 m hm
  · rw [e (18 + m) (by omega)]; exact h6 m hm
theorem dR_cong {st no : Int} {g h g' h' : Nat → Int} (n3 : no ≤ 3) (e : ∀ k, k < 21 → g' k = g k) (f : ∀ k, k < 21 → h' k = h k) (r : dR st no g h) : dR st no g' h' := by
  refine ⟨dok_cong e r.1, dok_cong f r.2.1, fun k hk => ?_, fun o ho => ?_⟩
  · rw [e k (by omega), f k (by omega)]; exact r.2.2.1 k hk
  · rw [e _ (by omega), e _ (by omega), f _ (by omega), f _ (by omega)]; exact r.2.2.2 o ho
def Rl (M : mv_M) : Prop := lok M ∧ mok M ∧ M 143 0 = M 4 0 ∧ M 143 1 = M 4 1 ∧ M 143 2 = M 4 2 ∧ M 143 6 = M 4 3 ∧ ∀ m : Nat, (m : Int) < M 4 2 → M 144 m = M 5 m ∧ M 145 m = M 6 m ∧ ∀ t : Nat, (t : Int) < M 4 1 → M 146 (4 * m + t) = M (8 + m) t
def Rd (M : mv_M) : Prop := dR (M 4 0) (M 4 3) (dv M 29) (M 147)
def Rh (M : mv_M) : Prop := ∃ f n : Nat, f < 10 ∧ n ≤ 10 ∧ M 34 1 = f ∧ M 34 2 = n ∧ M 143 9 = n ∧ ∀ i, i < n → dR (M 4 0) (M 4 3) (dv M (36 + 5 * ((f + 10 - n + i) % 10))) (fun k => M 148 (21 * i + k))
def Ri (M : mv_M) : Prop := ∀ i, i < 2 → M 150 i = M 3 i ∧ (M 3 i = 0 ∨ M 3 i = 1) ∧ (M 3 i = 1 → dR (M 4 0) (M 4 3) (dv M (133 + 5 * i)) (fun k => M 149 (21 * i + k)))
def Rk (M : mv_M) : Prop := ∃ n : Nat, n ≤ 6 ∧ M 120 4 = n ∧ M 143 12 = n ∧ ∀ i, i < n → (0 ≤ M 121 i ∧ M 121 i < M 4 1) ∧ (0 ≤ M 122 i ∧ M 122 i < M 4 1) ∧ (-1 ≤ M 123 i ∧ M 123 i ≤ 1) ∧ M 151 (3 * i) = M 121 i ∧ M 151 (3 * i + 1) = M 122 i ∧ M 151 (3 * i + 2) = M 123 i
def Rt (M : mv_M) : Prop := ∃ n : Nat, n ≤ 150 ∧ M 0 1 = n ∧ M 143 16 = n ∧ ∀ i, i < n → (0 ≤ M 1 i ∧ M 1 i ≤ 255) ∧ M 152 i = M 1 i
def Rc (c : Nat) (M : mv_M) : Prop := M 143 14 = M 132 2 ∧ 0 ≤ M 132 2 ∧ M 132 2 ≤ 200000 * c
/-- what the readers keep from text to text is in range -/
def Rs (M : mv_M) : Prop := (∀ m, m < 6 → (0 ≤ M 18 m ∧ M 18 m ≤ 4) ∧ (0 ≤ M 19 m ∧ M 19 m ≤ 9) ∧ ∀ t, t < 4 → -3 ≤ M (21 + m) t ∧ M (21 + m) t ≤ 3) ∧ (∀ o, o < 3 → (0 ≤ M 27 o ∧ M 27 o ≤ 4) ∧ (0 ≤ M 28 o ∧ M 28 o ≤ 15)) ∧ (∀ m, m < 6 → (0 ≤ M 153 m ∧ M 153 m ≤ 4) ∧ (0 ≤ M 154 m ∧ M 154 m ≤ 9)) ∧ (∀ k, k < 24 → -3 ≤ M 155 k ∧ M 155 k ≤ 3) ∧ (∀ o, o < 3 → (0 ≤ M 156 o ∧ M 156 o ≤ 4) ∧ (0 ≤ M 157 o ∧ M 157 o ≤ 15)) ∧ 0 ≤ M 16 2 ∧ M 16 2 ≤ 10
def R (c : Nat) (M : mv_M) : Prop := Rl M ∧ Rd M ∧ Rh M ∧ Ri M ∧ Rk M ∧ Rt M ∧ Rc c M ∧ Rs M
/-! what each piece looks at -/
def Sl (M M' : mv_M) : Prop := (∀ a, 4 ≤ a → a ≤ 15 → M' a = M a) ∧ (∀ a, 144 ≤ a → a ≤ 146 → M' a = M a) ∧ M' 143 0 = M 143 0 ∧ M' 143 1 = M 143 1 ∧ M' 143 2 = M 143 2 ∧ M' 143 6 = M 143 6
theorem Sl_lok (s : Sl M M') (h : lok M) : lok M' := by
  obtain ⟨s1, _⟩ := s
  unfold lok
  rw [s1 4 (by decide) (by decide), s1 5 (by decide) (by decide), s1 6 (by decide) (by decide), s1 14 (by decide) (by decide), s1 15 (by decide) (by decide)]
  refine ⟨h.1, h.2.1, h.2.2.1, h.2.2.2.1, h.2.2.2.2.1, h.2.2.2.2.2.1, fun m t hm ht => ?_, h.2.2.2.2.2.2.2.1, h.2.2.2.2.2.2.2.2⟩
  rw [s1 (8 + m) (by omega) (by omega)]
  exact h.2.2.2.2.2.2.1 m t hm ht
theorem Sl_mok (s : Sl M M') (h : mok M) : mok M' := by
  obtain ⟨_, s2, s3, s4, s5, s6⟩ := s
  unfold mok
  rw [s2 144 (by decide) (by decide), s2 145 (by decide) (by decide), s2 146 (by decide) (by decide), s3, s4, s5, s6]
  exact h
theorem Sl_Rl (s : Sl M M') (h : Rl M) : Rl M' := by
  have hl := h.1
  obtain ⟨_, _, h0, h1, h2, h3, h4⟩ := h
  refine ⟨Sl_lok s (by assumption), Sl_mok s (by assumption), ?_⟩
  obtain ⟨s1, s2, s3, s4, s5, s6⟩ := s
  rw [s1 4 (by decide) (by decide), s1 5 (by decide) (by decide), s1 6 (by decide) (by decide), s2 144 (by decide) (by decide), s2 145 (by decide) (by decide), s2 146 (by decide) (by decide), s3, s4, s5, s6]
  refine ⟨h0, h1, h2, h3, fun m hm => ⟨(h4 m hm).1, (h4 m hm).2.1, fun t ht => ?_⟩⟩
  have := hl.2.2.1
  rw [s1 (8 + m) (by omega) (by omega)]
  exact (h4 m hm).2.2 t ht
theorem dv_same {D : Nat} (s : ∀ a, D ≤ a → a < D + 5 → M' a = M a) : dv M' D = dv M D := by
  unfold dv
  rw [s D (by omega) (by omega), s (D + 1) (by omega) (by omega), s (D + 2) (by omega) (by omega), s (D + 3) (by omega) (by omega), s (D + 4) (by omega) (by omega)]
theorem S_Rd (s4 : M' 4 = M 4) (s : ∀ a, 29 ≤ a → a < 34 → M' a = M a) (s7 : M' 147 = M 147) (h : Rd M) : Rd M' := by
  unfold Rd
  rw [dv_same s, s4, s7]
  exact h
theorem S_Rh (s4 : M' 4 = M 4) (sp : M' 34 = M 34) (s : ∀ a, 36 ≤ a → a < 86 → M' a = M a) (s8 : M' 148 = M 148) (s9 : M' 143 9 = M 143 9) (h : Rh M) : Rh M' := by
  obtain ⟨f, n, hf, hn, e1, e2, e3, hh⟩ := h
  refine ⟨f, n, hf, hn, by rw [sp, e1], by rw [sp, e2], by rw [s9, e3], fun i hi => ?_⟩
  have hx := Nat.mod_lt (f + 10 - n + i) (show 10 > 0 by decide)
  rw [dv_same (fun a h1 h2 => s a (by omega) (by omega)), s4, s8]
  exact hh i hi
theorem S_Ri (s4 : M' 4 = M 4) (s3 : M' 3 = M 3) (s : ∀ a, 133 ≤ a → a < 143 → M' a = M a) (s8 : M' 149 = M 149) (s9 : M' 150 = M 150) (h : Ri M) : Ri M' := by
  intro i hi
  rw [dv_same (fun a h1 h2 => s a (by omega) (by omega)), s4, s3, s8, s9]
  exact h i hi
theorem S_Rk (s4 : M' 4 = M 4) (s1 : M' 121 = M 121) (s2 : M' 122 = M 122) (s3 : M' 123 = M 123) (s5 : M' 151 = M 151) (s6 : M' 120 4 = M 120 4) (s7 : M' 143 12 = M 143 12) (h : Rk M) : Rk M' := by
  obtain ⟨n, hn, e1, e2, hh⟩ := h
  refine ⟨n, hn, by rw [s6, e1], by rw [s7, e2], ?_⟩
  rw [s4, s1, s2, s3, s5]
  exact hh
theorem S_Rt (s1 : M' 1 = M 1) (s2 : M' 152 = M 152) (s3 : M' 0 1 = M 0 1) (s4 : M' 143 16 = M 143 16) (h : Rt M) : Rt M' := by
  obtain ⟨n, hn, e1, e2, hh⟩ := h
  refine ⟨n, hn, by rw [s3, e1], by rw [s4, e2], ?_⟩
  rw [s1, s2]
  exact hh
theorem S_Rc {c : Nat} (s1 : M' 143 14 = M 143 14) (s2 : M' 132 2 = M 132 2) (h : Rc c M) : Rc (c + 1) M' := by
  obtain ⟨h1, h2, h3⟩ := h
  refine ⟨by rw [s1, s2, h1], by rw [s2]; exact h2, by rw [s2]; omega⟩
theorem S_Rs (s : ∀ a, 16 ≤ a → a ≤ 28 → M' a = M a) (t : ∀ a, 153 ≤ a → a ≤ 157 → M' a = M a) (h : Rs M) : Rs M' := by
  unfold Rs
  rw [s 16 (by decide) (by decide), s 18 (by decide) (by decide), s 19 (by decide) (by decide), s 27 (by decide) (by decide), s 28 (by decide) (by decide), t 153 (by decide) (by decide), t 154 (by decide) (by decide), t 155 (by decide) (by decide), t 156 (by decide) (by decide), t 157 (by decide) (by decide)]
  refine ⟨fun m hm => ⟨(h.1 m hm).1, (h.1 m hm).2.1, ?_⟩, h.2⟩
  rw [s (21 + m) (by omega) (by omega)]
  exact (h.1 m hm).2.2
/-- nothing has changed but rows that are made anew before they are read -/
def Sc (M M' : mv_M) : Prop := (∀ a, (1 ≤ a ∧ a ≤ 85 ∨ 121 ≤ a ∧ a ≤ 123 ∨ 132 ≤ a ∧ a ≤ 142 ∨ 144 ≤ a ∧ a ≤ 157) → M' a = M a) ∧ M' 0 1 = M 0 1 ∧ M' 120 4 = M 120 4 ∧ ∀ j, (j < 3 ∨ j = 6 ∨ j = 9 ∨ j = 12 ∨ j = 14 ∨ j = 16) → M' 143 j = M 143 j
theorem Sc_refl : Sc M M := ⟨fun _ _ => rfl, rfl, rfl, fun _ _ => rfl⟩
theorem Sc_trans {M'' : mv_M} (h : Sc M M') (k : Sc M' M'') : Sc M M'' := ⟨fun a ha => by rw [k.1 a ha, h.1 a ha], by rw [k.2.1, h.2.1], by rw [k.2.2.1, h.2.2.1], fun j hj => by rw [k.2.2.2 j hj, h.2.2.2 j hj]⟩
theorem Sc_all (h : ∀ a, ¬ (86 ≤ a ∧ a ≤ 119) → ¬ (124 ≤ a ∧ a ≤ 131) → ¬ (158 ≤ a) → M' a = M a) : Sc M M' :=
  ⟨fun a ha => h a (by omega) (by omega) (by omega), by rw [h 0 (by omega) (by omega) (by omega)], by rw [h 120 (by omega) (by omega) (by omega)], fun j _ => by rw [h 143 (by omega) (by omega) (by omega)]⟩
theorem Sc_Sl (s : Sc M M') : Sl M M' := ⟨fun a h1 h2 => s.1 a (by omega), fun a h1 h2 => s.1 a (by omega), s.2.2.2 0 (by omega), s.2.2.2 1 (by omega), s.2.2.2 2 (by omega), s.2.2.2 6 (by omega)⟩
theorem Sc_R {c : Nat} (s : Sc M M') (h : R c M) : R (c + 1) M' := by
  obtain ⟨h1, h2, h3, h4, h5, h6, h7, h8⟩ := h
  have e := s.1
  refine ⟨Sl_Rl (Sc_Sl s) h1, S_Rd (e _ (by omega)) (fun a _ _ => e a (by omega)) (e _ (by omega)) h2, S_Rh (e _ (by omega)) (e _ (by omega)) (fun a _ _ => e a (by omega)) (e _ (by omega)) (s.2.2.2 9 (by omega)) h3, S_Ri (e _ (by omega)) (e _ (by omega)) (fun a _ _ => e a (by omega)) (e _ (by omega)) (e _ (by omega)) h4, S_Rk (e _ (by omega)) (e _ (by omega)) (e _ (by omega)) (e _ (by omega)) (e _ (by omega)) s.2.2.1 (s.2.2.2 12 (by omega)) h5, S_Rt (e _ (by omega)) (e _ (by omega)) s.2.1 (s.2.2.2 16 (by omega)) h6, S_Rc (s.2.2.2 14 (by omega)) (by rw [e 132 (by omega)]) h7, S_Rs (fun a _ _ => e a (by omega)) (fun a _ _ => e a (by omega)) h8⟩
/-- a call of both answers alike -/
def both (sc : Nat × (Nat → Int)) (d n1 n2 : Nat) (as : List mv_V) (M : mv_M) (c : Nat) : Prop := xC sc d n1 (mR 0 :: as) M (fun r1 M1 => xC sc d n2 (mR 143 :: as) M1 (fun r2 M2 => (∃ z : Int, mv_in z ∧ r1 = some (mI z) ∧ r2 = some (mI z)) ∧ R (c + 1) M2))
end XQ
