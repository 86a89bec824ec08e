/-! THE CALLS: odds -/
section YZa
variable {sc : Nat × (Nat → Int)} {d c : Nat} {M : mv_M}
theorem wy_cong {x : Int} : ∀ (k : Nat) (v v' : Nat → Int) (s : Int), (∀ i, i < k → v' i = v i) → wy x k v' s = wy x k v s
  | 0, v, v', s, _ => rfl
  | k + 1, v, v', s, h => by
    simp only [wy]
    rw [h 0 (by omega), wy_cong k (shf1 v) (shf1 v') _ (fun i hi => h (i + 1) (by omega)), wy_cong k (shf1 v) (shf1 v') _ (fun i hi => h (i + 1) (by omega))]
theorem b_odds {x w : Int} (hx : mv_in x) (hw : mv_in w) (h : R c M) : both sc 30 n_MV_odds n_Mod_odds [mI x, mI w] M c := by
  have hl := h.1.1
  obtain ⟨_, hk, e0, e1, e2, e3, _⟩ := h.1
  have hd := h.2.1
  obtain ⟨nm, n6, en, en2⟩ := R_nm h
  by_cases p : (0 ≤ x ∧ x ≤ 10) ∧ (0 ≤ w ∧ w ≤ 1)
  · obtain ⟨p, q⟩ := p
    obtain ⟨u, l, eu', el, kw⟩ := c_weighs (sc := sc) (d := 19) p hl hd.1 en
    have b1 := cw_in p nm (vt M) 0
    have b2 := lw_in (vt M) nm
    have b3 := pow10_in n6
    have k1 : xC sc 30 n_MV_odds [mR 0, mI x, mI w] M (fun r M' => r = some (mI (((if w = 0 then u else l) / Nat.gcd l u : Nat) : Int)) ∧ ∀ a, a ≠ 119 → M' a = M a) := by
      refine xC_in rfl rfl (by simp; decide) ?_
      iterate 1 (first | refine xG_getI rfl (by exact rfl) (by exact rfl) ?_ | refine xG_getR rfl (by exact rfl) (by exact rfl) ?_ | refine xG_add rfl ?_ | refine xG_sub rfl ?_ | refine xG_mul rfl ?_ | refine xG_putI rfl (by exact rfl) (by exact rfl) ?_ | refine xG_go (fun _ => rfl) ?_)
      refine xi_lt rfl hx (fun c1 => absurd c1 (by omega)) (fun _ => ?_)
      iterate 2 (first | refine xG_getI rfl (by exact rfl) (by exact rfl) ?_ | refine xG_getR rfl (by exact rfl) (by exact rfl) ?_ | refine xG_add rfl ?_ | refine xG_sub rfl ?_ | refine xG_mul rfl ?_ | refine xG_putI rfl (by exact rfl) (by exact rfl) ?_ | refine xG_go (fun _ => rfl) ?_)
      refine xb_gt rfl hx (by decide) (fun c1 => absurd c1 (by omega)) (fun _ => ?_)
      iterate 1 (first | refine xG_getI rfl (by exact rfl) (by exact rfl) ?_ | refine xG_getR rfl (by exact rfl) (by exact rfl) ?_ | refine xG_add rfl ?_ | refine xG_sub rfl ?_ | refine xG_mul rfl ?_ | refine xG_putI rfl (by exact rfl) (by exact rfl) ?_ | refine xG_go (fun _ => rfl) ?_)
      refine xi_lt rfl hw (fun c1 => absurd c1 (by omega)) (fun _ => ?_)
      iterate 2 (first | refine xG_getI rfl (by exact rfl) (by exact rfl) ?_ | refine xG_getR rfl (by exact rfl) (by exact rfl) ?_ | refine xG_add rfl ?_ | refine xG_sub rfl ?_ | refine xG_mul rfl ?_ | refine xG_putI rfl (by exact rfl) (by exact rfl) ?_ | refine xG_go (fun _ => rfl) ?_)
      refine xb_le rfl hw (by decide) (fun _ => ?_) (fun c1 => absurd c1 (by omega))
      iterate 5 (first | refine xG_getI rfl (by exact rfl) (by exact rfl) ?_ | refine xG_getR rfl (by exact rfl) (by exact rfl) ?_ | refine xG_add rfl ?_ | refine xG_sub rfl ?_ | refine xG_mul rfl ?_ | refine xG_putI rfl (by exact rfl) (by exact rfl) ?_ | refine xG_go (fun _ => rfl) ?_)
      refine xV3 rfl (by exact rfl) (by simp) kw (fun r N hq => ?_)
      obtain ⟨rfl, f1, f2, f3⟩ := hq
      iterate 1 (first | refine xG_getI rfl (by exact rfl) (by exact rfl) ?_ | refine xG_getR rfl (by exact rfl) (by exact rfl) ?_ | refine xG_add rfl ?_ | refine xG_sub rfl ?_ | refine xG_mul rfl ?_ | refine xG_putI rfl (by exact rfl) (by exact rfl) ?_ | refine xG_go (fun _ => rfl) ?_)
      refine xi_ne rfl hw (fun c1 => ?_) (fun c1 => ?_)
      · rw [if_neg c1]
        iterate 3 (first | refine xG_getI rfl (by exact rfl) (by exact rfl) ?_ | refine xG_getR rfl (by exact rfl) (by exact rfl) ?_ | refine xG_add rfl ?_ | refine xG_sub rfl ?_ | refine xG_mul rfl ?_ | refine xG_putI rfl (by exact rfl) (by exact rfl) ?_ | refine xG_go (fun _ => rfl) ?_)
        rw [f3]
        exact xG_ret (fun _ => rfl) ⟨rfl, f1⟩
      · rw [if_pos c1]
        iterate 3 (first | refine xG_getI rfl (by exact rfl) (by exact rfl) ?_ | refine xG_getR rfl (by exact rfl) (by exact rfl) ?_ | refine xG_add rfl ?_ | refine xG_sub rfl ?_ | refine xG_mul rfl ?_ | refine xG_putI rfl (by exact rfl) (by exact rfl) ?_ | refine xG_go (fun _ => rfl) ?_)
        rw [f2]
        iterate 1 (first | refine xG_getI rfl (by exact rfl) (by exact rfl) ?_ | refine xG_getR rfl (by exact rfl) (by exact rfl) ?_ | refine xG_add rfl ?_ | refine xG_sub rfl ?_ | refine xG_mul rfl ?_ | refine xG_putI rfl (by exact rfl) (by exact rfl) ?_ | refine xG_go (fun _ => rfl) ?_)
        exact xG_ret (fun _ => rfl) ⟨rfl, f1⟩
    refine xC_mono k1 (fun r1 M1 hq => ?_)
    obtain ⟨rfl, f1⟩ := hq
    have sS : Sc M M1 := Sc_all (fun a h1 h2 h3 => f1 a (by omega))
    have h' := Sc_R sS h
    have e143 : M1 143 = M 143 := f1 143 (by decide)
    have ew : wy x nm (vm (aM M1)) 0 = wy x nm (vt M) 0 := wy_cong nm _ _ 0 (fun i hi => by
      have := R_vote h' (m := i) (by rw [f1 4 (by decide)]; omega)
      rw [f1 6 (by decide), dv_same (fun a _ _ => f1 a (by omega))] at this
      exact this)
    have ea : ((10 ^ zc (vt M) nm * u : Nat) : Int) = wy x nm (vm (aM M1)) 0 := by
      rw [ew, wy_cw, ← eu', Int.natCast_mul, Int.natCast_pow]
      rfl
    have eb : ((10 ^ zc (vt M) nm * l : Nat) : Int) = 10 ^ nm := by
      rw [lw_eq (vt M) nm, ← el, Int.natCast_mul, Int.natCast_pow]
      rfl
    refine xC_mono (m_odds (d := 25) (M := M1) p q h'.1.2.1 h'.2.1.2.1 (by rw [e143, en2]) ea eb) (fun r2 M2 hq => ?_)
    obtain ⟨rfl, rfl⟩ := hq
    have gpos : 0 < Nat.gcd l u := Nat.gcd_pos_of_pos_left u (by omega)
    have pz : 0 < 10 ^ zc (vt M) nm := Nat.pow_pos (by decide)
    have du := Nat.div_le_self u (Nat.gcd l u)
    have dl := Nat.div_le_self l (Nat.gcd l u)
    refine ⟨⟨_, ?_, rfl, ?_⟩, Sc_R (Sc_trans sS aM_Sc) h⟩
    · have hA : ∀ n : Nat, n ≤ 1000000 → mv_in (n : Int) := fun n hn => by omega
      split
      · exact hA _ (Nat.le_trans du (by omega))
      · exact hA _ (Nat.le_trans dl (by omega))
    · rw [Nat.gcd_mul_left, Nat.gcd_comm u l]
      by_cases u1 : w = 0
      · rw [if_pos u1, if_pos u1, Nat.mul_div_mul_left _ _ pz]
      · rw [if_neg u1, if_neg u1, Nat.mul_div_mul_left _ _ pz]
  · refine both_of (z := -1) (by decide) h ?_ ?_
    · refine xC_in rfl rfl (by simp; decide) ?_
      iterate 1 (first | refine xG_getI rfl (by exact rfl) (by exact rfl) ?_ | refine xG_getR rfl (by exact rfl) (by exact rfl) ?_ | refine xG_add rfl ?_ | refine xG_sub rfl ?_ | refine xG_mul rfl ?_ | refine xG_putI rfl (by exact rfl) (by exact rfl) ?_ | refine xG_go (fun _ => rfl) ?_)
      refine xi_lt rfl hx (fun c1 => ?_) (fun c1 => ?_)
      · iterate 1 (first | refine xG_getI rfl (by exact rfl) (by exact rfl) ?_ | refine xG_getR rfl (by exact rfl) (by exact rfl) ?_ | refine xG_add rfl ?_ | refine xG_sub rfl ?_ | refine xG_mul rfl ?_ | refine xG_putI rfl (by exact rfl) (by exact rfl) ?_ | refine xG_go (fun _ => rfl) ?_)
        exact xG_ret (fun _ => rfl) ⟨rfl, rfl⟩
      iterate 2 (first | refine xG_getI rfl (by exact rfl) (by exact rfl) ?_ | refine xG_getR rfl (by exact rfl) (by exact rfl) ?_ | refine xG_add rfl ?_ | refine xG_sub rfl ?_ | refine xG_mul rfl ?_ | refine xG_putI rfl (by exact rfl) (by exact rfl) ?_ | refine xG_go (fun _ => rfl) ?_)
      refine xb_gt rfl hx (by decide) (fun c2 => ?_) (fun c2 => ?_)
      · iterate 1 (first | refine xG_getI rfl (by exact rfl) (by exact rfl) ?_ | refine xG_getR rfl (by exact rfl) (by exact rfl) ?_ | refine xG_add rfl ?_ | refine xG_sub rfl ?_ | refine xG_mul rfl ?_ | refine xG_putI rfl (by exact rfl) (by exact rfl) ?_ | refine xG_go (fun _ => rfl) ?_)
        exact xG_ret (fun _ => rfl) ⟨rfl, rfl⟩
      iterate 1 (first | refine xG_getI rfl (by exact rfl) (by exact rfl) ?_ | refine xG_getR rfl (by exact rfl) (by exact rfl) ?_ | refine xG_add rfl ?_ | refine xG_sub rfl ?_ | refine xG_mul rfl ?_ | refine xG_putI rfl (by exact rfl) (by exact rfl) ?_ | refine xG_go (fun _ => rfl) ?_)
      refine xi_lt rfl hw (fun c3 => ?_) (fun c3 => ?_)
      · iterate 1 (first | refine xG_getI rfl (by exact rfl) (by exact rfl) ?_ | refine xG_getR rfl (by exact rfl) (by exact rfl) ?_ | refine xG_add rfl ?_ | refine xG_sub rfl ?_ | refine xG_mul rfl ?_ | refine xG_putI rfl (by exact rfl) (by exact rfl) ?_ | refine xG_go (fun _ => rfl) ?_)
        exact xG_ret (fun _ => rfl) ⟨rfl, rfl⟩
      iterate 2 (first | refine xG_getI rfl (by exact rfl) (by exact rfl) ?_ | refine xG_getR rfl (by exact rfl) (by exact rfl) ?_ | refine xG_add rfl ?_ | refine xG_sub rfl ?_ | refine xG_mul rfl ?_ | refine xG_putI rfl (by exact rfl) (by exact rfl) ?_ | refine xG_go (fun _ => rfl) ?_)
      refine xb_le rfl hw (by decide) (fun c4 => absurd c4 (by omega)) (fun c4 => ?_)
      iterate 1 (first | refine xG_getI rfl (by exact rfl) (by exact rfl) ?_ | refine xG_getR rfl (by exact rfl) (by exact rfl) ?_ | refine xG_add rfl ?_ | refine xG_sub rfl ?_ | refine xG_mul rfl ?_ | refine xG_putI rfl (by exact rfl) (by exact rfl) ?_ | refine xG_go (fun _ => rfl) ?_)
      exact xG_ret (fun _ => rfl) ⟨rfl, rfl⟩
    · refine xC_in rfl rfl (by simp; decide) ?_
      iterate 3 (first | refine xG_getI rfl (by exact rfl) (by exact rfl) ?_ | refine xG_getR rfl (by exact rfl) (by exact rfl) ?_ | refine xG_add rfl ?_ | refine xG_sub rfl ?_ | refine xG_mul rfl ?_ | refine xG_putI rfl (by exact rfl) (by exact rfl) ?_ | refine xG_go (fun _ => rfl) ?_)
      refine xS3 rfl (by decide) (by simp) (m_in hx (by decide) (by decide)) (fun r M' hq => ?_)
      obtain ⟨rfl, rfl⟩ := hq
      by_cases q : 0 ≤ x ∧ x ≤ 10
      · rw [b01_t q]
        refine xe1 rfl ?_
        iterate 3 (first | refine xG_getI rfl (by exact rfl) (by exact rfl) ?_ | refine xG_getR rfl (by exact rfl) (by exact rfl) ?_ | refine xG_add rfl ?_ | refine xG_sub rfl ?_ | refine xG_mul rfl ?_ | refine xG_putI rfl (by exact rfl) (by exact rfl) ?_ | refine xG_go (fun _ => rfl) ?_)
        refine xS3 rfl (by decide) (by simp) (m_in hw (by decide) (by decide)) (fun r M' hq => ?_)
        obtain ⟨rfl, rfl⟩ := hq
        rw [b01_f (fun z => p ⟨q, z⟩)]
        refine xn0 rfl ?_
        iterate 1 (first | refine xG_getI rfl (by exact rfl) (by exact rfl) ?_ | refine xG_getR rfl (by exact rfl) (by exact rfl) ?_ | refine xG_add rfl ?_ | refine xG_sub rfl ?_ | refine xG_mul rfl ?_ | refine xG_putI rfl (by exact rfl) (by exact rfl) ?_ | refine xG_go (fun _ => rfl) ?_)
        exact xG_ret (fun _ => rfl) ⟨Sc_refl, rfl⟩
      · rw [b01_f q]
        refine xe0 rfl ?_
        iterate 1 (first | refine xG_getI rfl (by exact rfl) (by exact rfl) ?_ | refine xG_getR rfl (by exact rfl) (by exact rfl) ?_ | refine xG_add rfl ?_ | refine xG_sub rfl ?_ | refine xG_mul rfl ?_ | refine xG_putI rfl (by exact rfl) (by exact rfl) ?_ | refine xG_go (fun _ => rfl) ?_)
        exact xG_ret (fun _ => rfl) ⟨Sc_refl, rfl⟩
end YZa
