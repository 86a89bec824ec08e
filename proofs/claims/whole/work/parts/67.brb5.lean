/-! THE CALLS: bribes -/
section ZG
variable {sc : Nat × (Nat → Int)} {d c : Nat} {M : mv_M}
def mF (M : mv_M) (nm n : Nat) : Int := fn (cst (M 145) (M 147)) (vote (M 145) (M 147)) nm 0 0 n
def lst (M N : mv_M) (nm i : Nat) (least : Int) : Prop := (∀ a, a ≠ 158 → a ≠ 160 → a ≠ 161 → N a = M a) ∧ ((least = 999 ∧ ∀ n, n < i → 999 ≤ mF M nm n) ∨ (0 ≤ least ∧ least < 999 ∧ ∃ b, b < i ∧ mF M nm b = least ∧ (∀ n, n < b → least < mF M nm n) ∧ (∀ n, n < i → least ≤ mF M nm n) ∧ ∀ q, q < nm → N 161 q = nd (M 145) (M 147) q (dgt nm b q)))
theorem l_best6 {m l n s : mv_V} {N : mv_M} {Q : Option mv_V → mv_M → Prop} (kk : ∀ N' x5, (∀ a, a ≠ 161 → N' a = N a) → (∀ q, q < 6 → N' 161 q = N 160 q) → xG sc d y_Mod_bribes 86 [some (mR 143), some m, some l, some n, some s, x5] [] N' Q) : ∀ (k j : Nat) (N' : mv_M), j + k = 6 → (∀ a, a ≠ 161 → N' a = N a) → (∀ q, q < j → N' 161 q = N 160 q) → xG sc d y_Mod_bribes 59 [some (mR 143), some m, some l, some n, some s, some (mI j)] [] N' Q := by
  intro k
  induction k with
  | zero =>
    intro j N' hj h1 h2
    have : j = 6 := by omega
    subst this
    iterate 2 (first | refine xG_getI rfl (by exact rfl) (by exact rfl) ?_ | refine xG_getR rfl (by exact rfl) (by exact rfl) ?_ | refine xG_add rfl ?_ | refine xG_sub rfl ?_ | refine xG_mul rfl ?_ | refine xG_putI rfl (by exact rfl) (by exact rfl) ?_ | refine xG_go (fun _ => rfl) ?_)
    refine xb_ge rfl (by omega) (by omega) (fun _ => ?_) (fun c1 => absurd c1 (by omega))
    exact kk N' _ h1 h2
  | succ k ik =>
    intro j N' hj h1 h2
    iterate 2 (first | refine xG_getI rfl (by exact rfl) (by exact rfl) ?_ | refine xG_getR rfl (by exact rfl) (by exact rfl) ?_ | refine xG_add rfl ?_ | refine xG_sub rfl ?_ | refine xG_mul rfl ?_ | refine xG_putI rfl (by exact rfl) (by exact rfl) ?_ | refine xG_go (fun _ => rfl) ?_)
    refine xb_ge rfl (by omega) (by omega) (fun c1 => absurd c1 (by omega)) (fun _ => ?_)
    iterate 6 (first | refine xG_getI rfl (by exact rfl) (by exact rfl) ?_ | refine xG_getR rfl (by exact rfl) (by exact rfl) ?_ | refine xG_add rfl ?_ | refine xG_sub rfl ?_ | refine xG_mul rfl ?_ | refine xG_putI rfl (by exact rfl) (by exact rfl) ?_ | refine xG_go (fun _ => rfl) ?_)
    refine xG_ald rfl (by exact rfl) (by omega) ?_
    refine xG_ast rfl (by exact rfl) (by omega) ?_
    rw [Int.toNat_natCast, h1 160 (by decide)]
    iterate 2 (first | refine xG_getI rfl (by exact rfl) (by exact rfl) ?_ | refine xG_getR rfl (by exact rfl) (by exact rfl) ?_ | refine xG_add rfl ?_ | refine xG_sub rfl ?_ | refine xG_mul rfl ?_ | refine xG_putI rfl (by exact rfl) (by exact rfl) ?_ | refine xG_go (fun _ => rfl) ?_)
    refine ik (j + 1) _ (by omega) (fun a ha => by rw [mv_upne ha, h1 a ha]) (fun q hq => ?_)
    by_cases w : q = j
    · rw [w, mv_up_at]
    · rw [mv_up_j w, h2 q (by omega)]
theorem l_mbr {nm : Nat} {m : Int} (hk : mok M) (hd : dok (M 147)) (n6 : nm ≤ 6) (en : M 143 2 = nm) {Q : Option mv_V → mv_M → Prop} (kk : ∀ N least x3 x4 x5, lst M N nm (3 ^ nm) least → xG sc (d + 4) y_Mod_bribes 92 [some (mR 143), some (mI m), some (mI least), x3, x4, x5] [] N Q) : ∀ (k i : Nat) (N : mv_M) (least : Int) (x4 x5 : Option mv_V), i + k = 3 ^ nm → lst M N nm i least → xG sc (d + 4) y_Mod_bribes 22 [some (mR 143), some (mI m), some (mI least), some (mI i), x4, x5] [] N Q := by
  have p3 := pw3 n6
  intro k
  induction k with
  | zero =>
    intro i N least x4 x5 hi hN
    have e : i = 3 ^ nm := by omega
    iterate 3 (first | refine xG_getI rfl (by exact rfl) (by exact rfl) ?_ | refine xG_getR rfl (by exact rfl) (by exact rfl) ?_ | refine xG_add rfl ?_ | refine xG_sub rfl ?_ | refine xG_mul rfl ?_ | refine xG_putI rfl (by exact rfl) (by exact rfl) ?_ | refine xG_go (fun _ => rfl) ?_)
    rw [hN.1 143 (by decide) (by decide) (by decide), en]
    refine xS1 rfl (by decide) (by simp) (m_threes n6) (fun r M' hq => ?_)
    obtain ⟨rfl, rfl⟩ := hq
    rw [← p3.2.2]
    refine xb_ge rfl (by omega) (by omega) (fun _ => ?_) (fun c1 => absurd c1 (by omega))
    rw [e] at hN
    exact kk N least _ _ _ hN
  | succ k ik =>
    intro i N least x4 x5 hi hN
    obtain ⟨f1, f2⟩ := hN
    have hn : i < 3 ^ nm := by omega
    have ef : mF M nm i = sumc (cst (M 145) (M 147)) nm i nm + if 0 < mgc (vote (M 145) (M 147)) nm i nm then 0 else 1000 := fn_all hn
    have lb : 0 ≤ least ∧ least ≤ 999 := by rcases f2 with f2 | f2 <;> omega
    have stay : ∀ N1 : mv_M, (∀ a, a ≠ 158 → a ≠ 160 → a ≠ 161 → N1 a = M a) → N1 161 = N 161 → least ≤ mF M nm i → lst M N1 nm (i + 1) least := by
      intro N1 g1 g2 g3
      refine ⟨g1, ?_⟩
      rcases f2 with ⟨f3, f4⟩ | ⟨f3, f4, b, f5, f6, f7, f8, f9⟩
      · left
        refine ⟨f3, fun n h => ?_⟩
        by_cases w : n = i
        · rw [w]; omega
        · exact f4 n (by omega)
      · right
        refine ⟨f3, f4, b, by omega, f6, f7, fun n h => ?_, fun q hq => by rw [g2, f9 q hq]⟩
        by_cases w : n = i
        · rw [w]; omega
        · exact f8 n (by omega)
    iterate 3 (first | refine xG_getI rfl (by exact rfl) (by exact rfl) ?_ | refine xG_getR rfl (by exact rfl) (by exact rfl) ?_ | refine xG_add rfl ?_ | refine xG_sub rfl ?_ | refine xG_mul rfl ?_ | refine xG_putI rfl (by exact rfl) (by exact rfl) ?_ | refine xG_go (fun _ => rfl) ?_)
    rw [f1 143 (by decide) (by decide) (by decide), en]
    refine xS1 rfl (by decide) (by simp) (m_threes n6) (fun r M' hq => ?_)
    obtain ⟨rfl, rfl⟩ := hq
    rw [← p3.2.2]
    refine xb_ge rfl (by omega) (by omega) (fun c1 => absurd c1 (by omega)) (fun _ => ?_)
    iterate 2 (first | refine xG_getI rfl (by exact rfl) (by exact rfl) ?_ | refine xG_getR rfl (by exact rfl) (by exact rfl) ?_ | refine xG_add rfl ?_ | refine xG_sub rfl ?_ | refine xG_mul rfl ?_ | refine xG_putI rfl (by exact rfl) (by exact rfl) ?_ | refine xG_go (fun _ => rfl) ?_)
    refine xV2 rfl (by exact rfl) (by simp) (m_waysBy (n := i) hk hd n6 hn en f1) (fun r N1 hq => ?_)
    obtain ⟨g1, g2, g3, z, rfl, g4⟩ := hq
    have zb : 0 ≤ z ∧ z ≤ 999 := by omega
    iterate 3 (first | refine xG_getI rfl (by exact rfl) (by exact rfl) ?_ | refine xG_getR rfl (by exact rfl) (by exact rfl) ?_ | refine xG_add rfl ?_ | refine xG_sub rfl ?_ | refine xG_mul rfl ?_ | refine xG_putI rfl (by exact rfl) (by exact rfl) ?_ | refine xG_go (fun _ => rfl) ?_)
    refine xb_ge rfl (by omega) (by omega) (fun c1 => ?_) (fun c1 => ?_)
    · iterate 2 (first | refine xG_getI rfl (by exact rfl) (by exact rfl) ?_ | refine xG_getR rfl (by exact rfl) (by exact rfl) ?_ | refine xG_add rfl ?_ | refine xG_sub rfl ?_ | refine xG_mul rfl ?_ | refine xG_putI rfl (by exact rfl) (by exact rfl) ?_ | refine xG_go (fun _ => rfl) ?_)
      refine ik (i + 1) N1 least _ _ (by omega) (stay N1 g1 g2 ?_)
      rw [ef]
      split <;> omega
    · rcases g4 with ⟨e1, e2, e3, e4, e5⟩ | g4
      · iterate 1 (first | refine xG_getI rfl (by exact rfl) (by exact rfl) ?_ | refine xG_getR rfl (by exact rfl) (by exact rfl) ?_ | refine xG_add rfl ?_ | refine xG_sub rfl ?_ | refine xG_mul rfl ?_ | refine xG_putI rfl (by exact rfl) (by exact rfl) ?_ | refine xG_go (fun _ => rfl) ?_)
        have kN : mok N1 := by
          unfold mok
          rw [g1 143 (by decide) (by decide) (by decide), g1 144 (by decide) (by decide) (by decide), g1 145 (by decide) (by decide) (by decide), g1 146 (by decide) (by decide) (by decide)]
          exact hk
        refine xV1 rfl (by exact rfl) (by simp) (m_carries kN e4 (nm := nm) (by rw [g1 143 (by decide) (by decide) (by decide), en])) (fun r M' hq => ?_)
        obtain ⟨rfl, rfl⟩ := hq
        rw [g1 145 (by decide) (by decide) (by decide), e5]
        by_cases w : 0 < mgc (vote (M 145) (M 147)) nm i nm
        · rw [b01_t w]
          rw [if_pos w] at ef
          refine xe1 rfl ?_
          iterate 4 (first | refine xG_getI rfl (by exact rfl) (by exact rfl) ?_ | refine xG_getR rfl (by exact rfl) (by exact rfl) ?_ | refine xG_add rfl ?_ | refine xG_sub rfl ?_ | refine xG_mul rfl ?_ | refine xG_putI rfl (by exact rfl) (by exact rfl) ?_ | refine xG_go (fun _ => rfl) ?_)
          refine l_best6 (N := N1) (fun N' x5 h1 h2 => ?_) 6 0 N1 (by omega) (fun _ _ => rfl) (fun q hq => absurd hq (by omega))
          iterate 2 (first | refine xG_getI rfl (by exact rfl) (by exact rfl) ?_ | refine xG_getR rfl (by exact rfl) (by exact rfl) ?_ | refine xG_add rfl ?_ | refine xG_sub rfl ?_ | refine xG_mul rfl ?_ | refine xG_putI rfl (by exact rfl) (by exact rfl) ?_ | refine xG_go (fun _ => rfl) ?_)
          refine ik (i + 1) N' z _ _ (by omega) ⟨fun a k1 k2 k3 => by rw [h1 a k3, g1 a k1 k2 k3], Or.inr ⟨by omega, by omega, i, by omega, by omega, fun n hn => ?_, fun n hn => ?_, fun q hq => by rw [h2 q (by omega), g3 q hq]⟩⟩
          · rcases f2 with f2 | ⟨f3, f4, b, f5, f6, f7, f8, f9⟩
            · have := f2.2 n hn
              omega
            · have := f8 n hn
              omega
          · by_cases u : n = i
            · rw [u]; omega
            · rcases f2 with f2 | ⟨f3, f4, b, f5, f6, f7, f8, f9⟩
              · have := f2.2 n (by omega)
                omega
              · have := f8 n (by omega)
                omega
        · rw [b01_f w]
          rw [if_neg w] at ef
          refine xe0 rfl ?_
          iterate 2 (first | refine xG_getI rfl (by exact rfl) (by exact rfl) ?_ | refine xG_getR rfl (by exact rfl) (by exact rfl) ?_ | refine xG_add rfl ?_ | refine xG_sub rfl ?_ | refine xG_mul rfl ?_ | refine xG_putI rfl (by exact rfl) (by exact rfl) ?_ | refine xG_go (fun _ => rfl) ?_)
          exact ik (i + 1) N1 least _ _ (by omega) (stay N1 g1 g2 (by omega))
      · exact absurd c1 (by omega)
theorem m_bribes {nm : Nat} {m : Int} (hk : mok M) (hd : dok (M 147)) (n6 : nm ≤ 6) (en : M 143 2 = nm) (hm : -1 ≤ m ∧ m < nm) : xC sc (d + 5) n_Mod_bribes [mR 143, mI m] M (fun r N => ∃ least, lst M N nm (3 ^ nm) least ∧ r = some (mI (if least = 999 then -9 else if m < 0 then least else N 161 m.toNat))) := by
  have h2 := hk.2.2.1
  refine xC_in rfl rfl (by simp; decide) ?_
  iterate 6 (first | refine xG_getI rfl (by exact rfl) (by exact rfl) ?_ | refine xG_getR rfl (by exact rfl) (by exact rfl) ?_ | refine xG_add rfl ?_ | refine xG_sub rfl ?_ | refine xG_mul rfl ?_ | refine xG_putI rfl (by exact rfl) (by exact rfl) ?_ | refine xG_go (fun _ => rfl) ?_)
  refine xS3 rfl (by decide) (by simp) (m_in (by omega) (by decide) (by omega)) (fun r M' hq => ?_)
  obtain ⟨rfl, rfl⟩ := hq
  rw [b01_t (by omega)]
  refine xn1 rfl ?_
  iterate 4 (first | refine xG_getI rfl (by exact rfl) (by exact rfl) ?_ | refine xG_getR rfl (by exact rfl) (by exact rfl) ?_ | refine xG_add rfl ?_ | refine xG_sub rfl ?_ | refine xG_mul rfl ?_ | refine xG_putI rfl (by exact rfl) (by exact rfl) ?_ | refine xG_go (fun _ => rfl) ?_)
  refine l_mbr (m := m) hk hd n6 en (fun N least x3 x4 x5 hN => ?_) (3 ^ nm) 0 M 999 _ _ (by omega) ⟨fun _ _ _ _ => rfl, Or.inl ⟨rfl, fun n hn => absurd hn (by omega)⟩⟩
  have lb : 0 ≤ least ∧ least ≤ 999 := by rcases hN.2 with f2 | f2 <;> omega
  iterate 2 (first | refine xG_getI rfl (by exact rfl) (by exact rfl) ?_ | refine xG_getR rfl (by exact rfl) (by exact rfl) ?_ | refine xG_add rfl ?_ | refine xG_sub rfl ?_ | refine xG_mul rfl ?_ | refine xG_putI rfl (by exact rfl) (by exact rfl) ?_ | refine xG_go (fun _ => rfl) ?_)
  refine xb_ne rfl (by omega) (by omega) (fun c1 => ?_) (fun c1 => ?_)
  · iterate 1 (first | refine xG_getI rfl (by exact rfl) (by exact rfl) ?_ | refine xG_getR rfl (by exact rfl) (by exact rfl) ?_ | refine xG_add rfl ?_ | refine xG_sub rfl ?_ | refine xG_mul rfl ?_ | refine xG_putI rfl (by exact rfl) (by exact rfl) ?_ | refine xG_go (fun _ => rfl) ?_)
    refine xi_ge rfl (by omega) (fun c2 => ?_) (fun c2 => ?_)
    · iterate 3 (first | refine xG_getI rfl (by exact rfl) (by exact rfl) ?_ | refine xG_getR rfl (by exact rfl) (by exact rfl) ?_ | refine xG_add rfl ?_ | refine xG_sub rfl ?_ | refine xG_mul rfl ?_ | refine xG_putI rfl (by exact rfl) (by exact rfl) ?_ | refine xG_go (fun _ => rfl) ?_)
      refine xG_ald rfl (by exact rfl) (by omega) ?_
      exact xG_ret (fun _ => rfl) ⟨least, hN, by rw [if_neg c1, if_neg (by omega)]⟩
    · iterate 2 (first | refine xG_getI rfl (by exact rfl) (by exact rfl) ?_ | refine xG_getR rfl (by exact rfl) (by exact rfl) ?_ | refine xG_add rfl ?_ | refine xG_sub rfl ?_ | refine xG_mul rfl ?_ | refine xG_putI rfl (by exact rfl) (by exact rfl) ?_ | refine xG_go (fun _ => rfl) ?_)
      exact xG_ret (fun _ => rfl) ⟨least, hN, by rw [if_neg c1, if_pos (by omega)]⟩
  · iterate 2 (first | refine xG_getI rfl (by exact rfl) (by exact rfl) ?_ | refine xG_getR rfl (by exact rfl) (by exact rfl) ?_ | refine xG_add rfl ?_ | refine xG_sub rfl ?_ | refine xG_mul rfl ?_ | refine xG_putI rfl (by exact rfl) (by exact rfl) ?_ | refine xG_go (fun _ => rfl) ?_)
    exact xG_ret (fun _ => rfl) ⟨least, hN, by rw [if_pos c1]⟩
theorem fn_cong {c c' : Nat → Nat → Int} {v v' : Nat → Int} {nm : Nat} (ec : ∀ m e, m < nm → c' m e = c m e) (ev : ∀ m, m < nm → v' m = v m) : ∀ (k m : Nat) (s : Int) (n : Nat), m + k ≤ nm → fn c' v' k m s n = fn c v k m s n
  | 0, m, s, n, _ => rfl
  | k + 1, m, s, n, h => by
    simp only [fn]
    rw [ec m _ (by omega), ev m (by omega), fn_cong ec ev k (m + 1) _ _ (by omega)]
theorem cst_cong {coat coat' g h : Nat → Int} {m : Nat} (e : coat' m = coat m) (e0 : g 0 = h 0) (e3 : g (3 + m) = h (3 + m)) (e9 : g (9 + m) = h (9 + m)) (x : Nat) : cst coat' h m x = cst coat g m x := by
  unfold cst
  rw [vote_cong e e0 e3 e9, e, e0, e3, e9]
theorem b_bribes {m : Int} (hx : mv_in m) (h : R c M) : both sc 30 n_MV_bribes n_Mod_bribes [mI m] M c := by
  have hl := h.1.1
  have hr := h.1.2.2.2.2.2.2
  obtain ⟨_, hk, e0, e1, e2, e3, _⟩ := h.1
  have hd := h.2.1
  obtain ⟨nm, n6, en, en2⟩ := R_nm h
  have ok := cM_ok hd.1
  have p3 := pw3 n6
  have f1 := fw_in (c := cM M) (v := vt M) nm 0 0
  have f2 := fw_ge ok nm 0 0
  by_cases p : m = -1 ∨ (0 ≤ m ∧ m < M 4 2)
  · have k1 : xC sc 30 n_MV_bribes [mR 0, mI m] M (fun r N => far M N ∧ r = some (mI (if fw (cM M) (vt M) nm 0 0 < 1000 then (if m < 0 then fw (cM M) (vt M) nm 0 0 else cM M m.toNat (dgt nm (nc (cM M) (vt M) nm 0 0) m.toNat)) else -9))) := by
      refine xC_in rfl rfl (by simp; decide) ?_
      have go : xG sc 29 y_MV_bribes 18 [some (mR 0), some (mI m), none] [] M (fun r N => far M N ∧ r = some (mI (if fw (cM M) (vt M) nm 0 0 < 1000 then (if m < 0 then fw (cM M) (vt M) nm 0 0 else cM M m.toNat (dgt nm (nc (cM M) (vt M) nm 0 0) m.toNat)) else -9))) := by
        iterate 4 (first | refine xG_getI rfl (by exact rfl) (by exact rfl) ?_ | refine xG_getR rfl (by exact rfl) (by exact rfl) ?_ | refine xG_add rfl ?_ | refine xG_sub rfl ?_ | refine xG_mul rfl ?_ | refine xG_putI rfl (by exact rfl) (by exact rfl) ?_ | refine xG_go (fun _ => rfl) ?_)
        refine xV2 rfl (by exact rfl) (by simp) (c_fewestNuts (d := 22) hl hd.1 n6 en) (fun r N hq => ?_)
        obtain ⟨g1, rfl, g2⟩ := hq
        iterate 2 (first | refine xG_getI rfl (by exact rfl) (by exact rfl) ?_ | refine xG_getR rfl (by exact rfl) (by exact rfl) ?_ | refine xG_add rfl ?_ | refine xG_sub rfl ?_ | refine xG_mul rfl ?_ | refine xG_putI rfl (by exact rfl) (by exact rfl) ?_ | refine xG_go (fun _ => rfl) ?_)
        by_cases w : fw (cM M) (vt M) nm 0 0 < 1000
        · rw [if_pos w, if_pos w]
          refine xi_lt rfl (by omega) (fun c1 => ?_) (fun c1 => ?_)
          · rw [if_pos c1]
            iterate 1 (first | refine xG_getI rfl (by exact rfl) (by exact rfl) ?_ | refine xG_getR rfl (by exact rfl) (by exact rfl) ?_ | refine xG_add rfl ?_ | refine xG_sub rfl ?_ | refine xG_mul rfl ?_ | refine xG_putI rfl (by exact rfl) (by exact rfl) ?_ | refine xG_go (fun _ => rfl) ?_)
            exact xG_ret (fun _ => rfl) ⟨g1, rfl⟩
          · rw [if_neg c1]
            iterate 2 (first | refine xG_getI rfl (by exact rfl) (by exact rfl) ?_ | refine xG_getR rfl (by exact rfl) (by exact rfl) ?_ | refine xG_add rfl ?_ | refine xG_sub rfl ?_ | refine xG_mul rfl ?_ | refine xG_putI rfl (by exact rfl) (by exact rfl) ?_ | refine xG_go (fun _ => rfl) ?_)
            refine xb_ne rfl (by omega) (by decide) (fun _ => ?_) (fun c2 => absurd c2 (by omega))
            iterate 4 (first | refine xG_getI rfl (by exact rfl) (by exact rfl) ?_ | refine xG_getR rfl (by exact rfl) (by exact rfl) ?_ | refine xG_add rfl ?_ | refine xG_sub rfl ?_ | refine xG_mul rfl ?_ | refine xG_putI rfl (by exact rfl) (by exact rfl) ?_ | refine xG_go (fun _ => rfl) ?_)
            refine xG_ald rfl (by exact rfl) (by omega) ?_
            rw [g2 w m.toNat (by omega)]
            exact xG_ret (fun _ => rfl) ⟨g1, rfl⟩
        · rw [if_neg w, if_neg w]
          refine xi_lt rfl (by omega) (fun c1 => ?_) (fun c1 => ?_)
          · iterate 1 (first | refine xG_getI rfl (by exact rfl) (by exact rfl) ?_ | refine xG_getR rfl (by exact rfl) (by exact rfl) ?_ | refine xG_add rfl ?_ | refine xG_sub rfl ?_ | refine xG_mul rfl ?_ | refine xG_putI rfl (by exact rfl) (by exact rfl) ?_ | refine xG_go (fun _ => rfl) ?_)
            exact xG_ret (fun _ => rfl) ⟨g1, rfl⟩
          · iterate 2 (first | refine xG_getI rfl (by exact rfl) (by exact rfl) ?_ | refine xG_getR rfl (by exact rfl) (by exact rfl) ?_ | refine xG_add rfl ?_ | refine xG_sub rfl ?_ | refine xG_mul rfl ?_ | refine xG_putI rfl (by exact rfl) (by exact rfl) ?_ | refine xG_go (fun _ => rfl) ?_)
            refine xb_ne rfl (by decide) (by decide) (fun c2 => absurd rfl c2) (fun _ => ?_)
            iterate 1 (first | refine xG_getI rfl (by exact rfl) (by exact rfl) ?_ | refine xG_getR rfl (by exact rfl) (by exact rfl) ?_ | refine xG_add rfl ?_ | refine xG_sub rfl ?_ | refine xG_mul rfl ?_ | refine xG_putI rfl (by exact rfl) (by exact rfl) ?_ | refine xG_go (fun _ => rfl) ?_)
            exact xG_ret (fun _ => rfl) ⟨g1, rfl⟩
      iterate 2 (first | refine xG_getI rfl (by exact rfl) (by exact rfl) ?_ | refine xG_getR rfl (by exact rfl) (by exact rfl) ?_ | refine xG_add rfl ?_ | refine xG_sub rfl ?_ | refine xG_mul rfl ?_ | refine xG_putI rfl (by exact rfl) (by exact rfl) ?_ | refine xG_go (fun _ => rfl) ?_)
      refine xb_eq rfl hx (by decide) (fun c1 => ?_) (fun c1 => ?_)
      · exact go
      · iterate 3 (first | refine xG_getI rfl (by exact rfl) (by exact rfl) ?_ | refine xG_getR rfl (by exact rfl) (by exact rfl) ?_ | refine xG_add rfl ?_ | refine xG_sub rfl ?_ | refine xG_mul rfl ?_ | refine xG_putI rfl (by exact rfl) (by exact rfl) ?_ | refine xG_go (fun _ => rfl) ?_)
        refine xV2 rfl (by exact rfl) (by simp) (c_hasMonkey hx hl) (fun r M' hq => ?_)
        obtain ⟨rfl, rfl⟩ := hq
        rw [if_pos (by omega)]
        refine xn1 rfl ?_
        exact go
    refine xC_mono k1 (fun r1 M1 hq => ?_)
    obtain ⟨g1, rfl⟩ := hq
    have e143 : M1 143 = M 143 := g1 143 (by decide)
    have e145 : M1 145 = M 145 := g1 145 (by decide)
    have e147 : M1 147 = M 147 := g1 147 (by decide)
    have sS : Sc M M1 := Sc_all (fun a h1 h2 h3 => g1 a (by omega))
    have hk1 : mok M1 := Sl_mok (Sc_Sl sS) hk
    refine xC_mono (m_bribes (d := 25) (nm := nm) (m := m) hk1 (by rw [e147]; exact hd.2.1) n6 (by rw [e143, en2]) (by omega)) (fun r2 M2 hq => ?_)
    obtain ⟨least, ⟨q1, q2⟩, rfl⟩ := hq
    have ec : ∀ q x, q < nm → cst (M 145) (M 147) q x = cM M q x := fun q x hq => cst_cong (hr q (by omega)).2.1 (hd.2.2.1 0 (by omega)) (hd.2.2.1 (3 + q) (by omega)) (hd.2.2.1 (9 + q) (by omega)) x
    have ev : ∀ q, q < nm → vote (M 145) (M 147) q = vt M q := fun q hq => vote_cong (hr q (by omega)).2.1 (hd.2.2.1 0 (by omega)) (hd.2.2.1 (3 + q) (by omega)) (hd.2.2.1 (9 + q) (by omega))
    have eF : ∀ n, mF M1 nm n = fn (cM M) (vt M) nm 0 0 n := fun n => by
      unfold mF
      rw [e145, e147]
      exact fn_cong ec ev nm 0 0 n (by omega)
    simp only [eF] at q2
    rw [e145, e147] at q2
    refine ⟨⟨_, ?_, rfl, ?_⟩, Sc_R (Sc_trans sS (Sc_all (fun a h1 h2 h3 => q1 a (by omega) (by omega) (by omega)))) h⟩
    · split
      · split
        · omega
        · have := ok.2.1 m.toNat (dgt nm (nc (cM M) (vt M) nm 0 0) m.toNat) (dgt_lt ..)
          omega
      · decide
    · by_cases w : fw (cM M) (vt M) nm 0 0 < 1000
      · rw [if_pos w]
        obtain ⟨n1, n2⟩ := fn_nc ok nm 0 0 w
        have n3 := nc_lt ok nm 0 0
        have n4 := fn_or ok n6 n3
        rcases q2 with ⟨q3, q4⟩ | ⟨q3, q4, b, q5, q6, q7, q8, q9⟩
        · have := q4 _ n3
          omega
        · have eb : b = nc (cM M) (vt M) nm 0 0 := least_one (f := fun n => fn (cM M) (vt M) nm 0 0 n) q5 n3 (fun n hn => by rw [q6]; exact q7 n hn) (fun n hn => by rw [q6]; exact q8 n hn) (fun n hn => by rw [n1]; exact n2 n hn) (fun n hn => by rw [n1]; exact fn_ge ok nm 0 0 n hn)
          have el : least = fw (cM M) (vt M) nm 0 0 := by rw [← q6, eb, n1]
          rw [if_neg (by omega)]
          by_cases u : m < 0
          · rw [if_pos u, if_pos u, el]
          · rw [if_neg u, if_neg u, q9 m.toNat (by omega), eb]
            have s1 := sumc_or ok (nm := nm) (n := nc (cM M) (vt M) nm 0 0) nm
            have s2 := fn_all (c := cM M) (v := vt M) n3
            have s3 : cM M m.toNat (dgt nm (nc (cM M) (vt M) nm 0 0) m.toNat) ≤ 9 := by
              rcases s1 with s1 | s1
              · exact s1.2.2 _ (by omega)
              · split at s2 <;> omega
            unfold nd
            rw [ec _ _ (by omega), if_neg (by omega)]
      · rw [if_neg w]
        rcases q2 with ⟨q3, q4⟩ | ⟨q3, q4, b, q5, q6, q7, q8, q9⟩
        · rw [if_pos q3]
        · have := fn_ge ok nm 0 0 b q5
          omega
  · refine both_of (z := -1) (by decide) h ?_ ?_
    · refine xC_in rfl rfl (by simp; decide) ?_
      iterate 2 (first | refine xG_getI rfl (by exact rfl) (by exact rfl) ?_ | refine xG_getR rfl (by exact rfl) (by exact rfl) ?_ | refine xG_add rfl ?_ | refine xG_sub rfl ?_ | refine xG_mul rfl ?_ | refine xG_putI rfl (by exact rfl) (by exact rfl) ?_ | refine xG_go (fun _ => rfl) ?_)
      refine xb_eq rfl hx (by decide) (fun c1 => absurd c1 (by omega)) (fun c1 => ?_)
      iterate 3 (first | refine xG_getI rfl (by exact rfl) (by exact rfl) ?_ | refine xG_getR rfl (by exact rfl) (by exact rfl) ?_ | refine xG_add rfl ?_ | refine xG_sub rfl ?_ | refine xG_mul rfl ?_ | refine xG_putI rfl (by exact rfl) (by exact rfl) ?_ | refine xG_go (fun _ => rfl) ?_)
      refine xV2 rfl (by exact rfl) (by simp) (c_hasMonkey hx hl) (fun r M' hq => ?_)
      obtain ⟨rfl, rfl⟩ := hq
      rw [if_neg (by omega)]
      refine xn0 rfl ?_
      iterate 1 (first | refine xG_getI rfl (by exact rfl) (by exact rfl) ?_ | refine xG_getR rfl (by exact rfl) (by exact rfl) ?_ | refine xG_add rfl ?_ | refine xG_sub rfl ?_ | refine xG_mul rfl ?_ | refine xG_putI rfl (by exact rfl) (by exact rfl) ?_ | refine xG_go (fun _ => rfl) ?_)
      exact xG_ret (fun _ => rfl) ⟨rfl, rfl⟩
    · refine xC_in rfl rfl (by simp; decide) ?_
      iterate 6 (first | refine xG_getI rfl (by exact rfl) (by exact rfl) ?_ | refine xG_getR rfl (by exact rfl) (by exact rfl) ?_ | refine xG_add rfl ?_ | refine xG_sub rfl ?_ | refine xG_mul rfl ?_ | refine xG_putI rfl (by exact rfl) (by exact rfl) ?_ | refine xG_go (fun _ => rfl) ?_)
      refine xS3 rfl (by decide) (by simp) (m_in hx (by decide) (by omega)) (fun r M' hq => ?_)
      obtain ⟨rfl, rfl⟩ := hq
      rw [b01_f (by omega)]
      refine xn0 rfl ?_
      iterate 1 (first | refine xG_getI rfl (by exact rfl) (by exact rfl) ?_ | refine xG_getR rfl (by exact rfl) (by exact rfl) ?_ | refine xG_add rfl ?_ | refine xG_sub rfl ?_ | refine xG_mul rfl ?_ | refine xG_putI rfl (by exact rfl) (by exact rfl) ?_ | refine xG_go (fun _ => rfl) ?_)
      exact xG_ret (fun _ => rfl) ⟨Sc_refl, rfl⟩
end ZG
