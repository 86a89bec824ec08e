/-! THE BRIBES: the class -/
def cst (coat g : Nat → Int) (m e : Nat) : Int := if e = 0 then 0 else if 6 ≤ m ∨ coat m < g 0 ∨ 1 < vote coat g m + e ∨ 9 < vote coat g m + e - g (3 + m) then 1000 else vote coat g m + e - g (3 + m) - g (9 + m)
theorem cst_ok {coat g : Nat → Int} (hd : dok g) : cok (cst coat g) (vote coat g) := by
  refine ⟨fun m => vote_in _ _ _, fun m e he => ?_, fun m e he hv => ?_⟩
  · unfold cst
    by_cases w : e = 0
    · rw [if_pos w]
      exact Or.inl (by omega)
    · rw [if_neg w]
      by_cases u : 6 ≤ m ∨ coat m < g 0 ∨ 1 < vote coat g m + e ∨ 9 < vote coat g m + e - g (3 + m)
      · rw [if_pos u]
        exact Or.inr rfl
      · rw [if_neg u]
        have n0 := hd.2.2.2.2.1 m (by omega)
        have ev : vote coat g m = sg (g (3 + m) + g (9 + m)) := by
          unfold vote
          rw [if_neg (by omega)]
        rw [ev] at u ⊢
        unfold sg at u ⊢
        left
        split at u
        · rename_i z
          rw [if_pos z]
          omega
        · rename_i z
          rw [if_neg z]
          split at u
          · rename_i y
            rw [if_pos y]
            omega
          · rename_i y
            rw [if_neg y]
            omega
  · unfold cst
    have := vote_in coat g m
    rw [if_neg (by omega), if_pos (Or.inr (Or.inr (Or.inl hv)))]
section ZD
variable {sc : Nat × (Nat → Int)} {d c : Nat} {M : mv_M}
def cM (M : mv_M) : Nat → Nat → Int := cst (M 6) (dv M 29)
theorem cM_ok (hd : dok (dv M 29)) : cok (cM M) (vt M) := cst_ok hd
theorem vt_far {N : mv_M} (e : ∀ a, a < 111 → N a = M a) : vt N = vt M ∧ cM N = cM M ∧ dv N 29 = dv M 29 := by
  have e1 : dv N 29 = dv M 29 := dv_same (fun a _ _ => e a (by omega))
  have e2 := e 6 (by decide)
  refine ⟨?_, ?_, e1⟩
  · unfold vt
    rw [e1, e2]
  · unfold cM
    rw [e1, e2]
theorem sk_few {m : Nat} (hm : m < 7) : SK[111 + m]? = some (.inl (0, 13)) ∧ [some 111, some 112, some 113, some 114, some 115, some 116, some 117][m]? = some (some (111 + m)) := by
  rcases (show m = 0 ∨ m = 1 ∨ m = 2 ∨ m = 3 ∨ m = 4 ∨ m = 5 ∨ m = 6 by omega) with rfl | rfl | rfl | rfl | rfl | rfl | rfl <;> exact ⟨rfl, rfl⟩
theorem c_price {m e : Nat} (hl : lok M) (hd : dok (dv M 29)) (hm : m < 6) (he : e ≤ 2) (hv : vt M m + e ≤ 1) : xC sc (d + 3) n_Briber_price [mR 109, mR 29, mI m, mI (vt M m + e)] M (fun r M' => M = M' ∧ r = some (mI (cM M m e))) := by
  have h0 := d_cold hd
  have h1 := hl.2.2.2.2.2.1 m hm
  have h2 : -99 ≤ M 30 m ∧ M 30 m ≤ 99 := d_mood hd hm
  have h3 : 0 ≤ M 31 m ∧ M 31 m ≤ 9 := d_nuts hd hm
  have hvi := vote_in (M 6) (dv M 29) m
  have hvd : vt M m = vote (M 6) (dv M 29) m := rfl
  have e0 : dv M 29 0 = M 29 5 := dv_0
  have e3 : dv M 29 (3 + m) = M 30 m := dv_m hm
  have e9 : dv M 29 (9 + m) = M 31 m := dv_n hm
  refine xC_in rfl rfl (by simp; decide) ?_
  iterate 3 (first | refine xG_getI rfl (by exact rfl) (by exact rfl) ?_ | refine xG_getR rfl (by exact rfl) (by exact rfl) ?_ | refine xG_add rfl ?_ | refine xG_sub rfl ?_ | refine xG_mul rfl ?_ | refine xG_putI rfl (by exact rfl) (by exact rfl) ?_ | refine xG_go (fun _ => rfl) ?_)
  refine xV2 rfl (by exact rfl) (by simp) (c_voteOf isDay_today hl hd hm) (fun r M' hq => ?_)
  obtain ⟨rfl, rfl⟩ := hq
  unfold cM cst
  rw [e0, e3, e9]
  refine xb_ne rfl (by omega) (by omega) (fun c1 => ?_) (fun c1 => ?_)
  · rw [if_neg (by omega)]
    iterate 4 (first | refine xG_getI rfl (by exact rfl) (by exact rfl) ?_ | refine xG_getR rfl (by exact rfl) (by exact rfl) ?_ | refine xG_add rfl ?_ | refine xG_sub rfl ?_ | refine xG_mul rfl ?_ | refine xG_putI rfl (by exact rfl) (by exact rfl) ?_ | refine xG_go (fun _ => rfl) ?_)
    refine xG_ald rfl (by exact rfl) (by omega) ?_
    iterate 4 (first | refine xG_getI rfl (by exact rfl) (by exact rfl) ?_ | refine xG_getR rfl (by exact rfl) (by exact rfl) ?_ | refine xG_add rfl ?_ | refine xG_sub rfl ?_ | refine xG_mul rfl ?_ | refine xG_putI rfl (by exact rfl) (by exact rfl) ?_ | refine xG_go (fun _ => rfl) ?_)
    refine xG_ald rfl (by exact rfl) (by omega) ?_
    iterate 8 (first | refine xG_getI rfl (by exact rfl) (by exact rfl) ?_ | refine xG_getR rfl (by exact rfl) (by exact rfl) ?_ | refine xG_add rfl ?_ | refine xG_sub rfl ?_ | refine xG_mul rfl ?_ | refine xG_putI rfl (by exact rfl) (by exact rfl) ?_ | refine xG_go (fun _ => rfl) ?_)
    refine xG_ald rfl (by exact rfl) (by omega) ?_
    rw [Int.toNat_natCast]
    refine xb_le rfl (by omega) (by omega) (fun c2 => ?_) (fun c2 => ?_)
    · iterate 3 (first | refine xG_getI rfl (by exact rfl) (by exact rfl) ?_ | refine xG_getR rfl (by exact rfl) (by exact rfl) ?_ | refine xG_add rfl ?_ | refine xG_sub rfl ?_ | refine xG_mul rfl ?_ | refine xG_putI rfl (by exact rfl) (by exact rfl) ?_ | refine xG_go (fun _ => rfl) ?_)
      refine xn0 rfl ?_
      iterate 3 (first | refine xG_getI rfl (by exact rfl) (by exact rfl) ?_ | refine xG_getR rfl (by exact rfl) (by exact rfl) ?_ | refine xG_add rfl ?_ | refine xG_sub rfl ?_ | refine xG_mul rfl ?_ | refine xG_putI rfl (by exact rfl) (by exact rfl) ?_ | refine xG_go (fun _ => rfl) ?_)
      refine xG_ald rfl (by exact rfl) (by omega) ?_
      rw [Int.toNat_natCast]
      iterate 3 (first | refine xG_getI rfl (by exact rfl) (by exact rfl) ?_ | refine xG_getR rfl (by exact rfl) (by exact rfl) ?_ | refine xG_add rfl ?_ | refine xG_sub rfl ?_ | refine xG_mul rfl ?_ | refine xG_putI rfl (by exact rfl) (by exact rfl) ?_ | refine xG_go (fun _ => rfl) ?_)
      refine xb_le rfl (by omega) (by omega) (fun c3 => ?_) (fun c3 => ?_)
      · rw [if_neg (by omega)]
        iterate 1 (first | refine xG_getI rfl (by exact rfl) (by exact rfl) ?_ | refine xG_getR rfl (by exact rfl) (by exact rfl) ?_ | refine xG_add rfl ?_ | refine xG_sub rfl ?_ | refine xG_mul rfl ?_ | refine xG_putI rfl (by exact rfl) (by exact rfl) ?_ | refine xG_go (fun _ => rfl) ?_)
        exact xG_ret (fun _ => rfl) ⟨rfl, rfl⟩
      · rw [if_pos (by omega)]
        iterate 2 (first | refine xG_getI rfl (by exact rfl) (by exact rfl) ?_ | refine xG_getR rfl (by exact rfl) (by exact rfl) ?_ | refine xG_add rfl ?_ | refine xG_sub rfl ?_ | refine xG_mul rfl ?_ | refine xG_putI rfl (by exact rfl) (by exact rfl) ?_ | refine xG_go (fun _ => rfl) ?_)
        exact xG_ret (fun _ => rfl) ⟨rfl, rfl⟩
    · rw [if_pos (by omega)]
      iterate 4 (first | refine xG_getI rfl (by exact rfl) (by exact rfl) ?_ | refine xG_getR rfl (by exact rfl) (by exact rfl) ?_ | refine xG_add rfl ?_ | refine xG_sub rfl ?_ | refine xG_mul rfl ?_ | refine xG_putI rfl (by exact rfl) (by exact rfl) ?_ | refine xG_go (fun _ => rfl) ?_)
      refine xn1 rfl ?_
      iterate 2 (first | refine xG_getI rfl (by exact rfl) (by exact rfl) ?_ | refine xG_getR rfl (by exact rfl) (by exact rfl) ?_ | refine xG_add rfl ?_ | refine xG_sub rfl ?_ | refine xG_mul rfl ?_ | refine xG_putI rfl (by exact rfl) (by exact rfl) ?_ | refine xG_go (fun _ => rfl) ?_)
      exact xG_ret (fun _ => rfl) ⟨rfl, rfl⟩
  · rw [if_pos (by omega)]
    iterate 1 (first | refine xG_getI rfl (by exact rfl) (by exact rfl) ?_ | refine xG_getR rfl (by exact rfl) (by exact rfl) ?_ | refine xG_add rfl ?_ | refine xG_sub rfl ?_ | refine xG_mul rfl ?_ | refine xG_putI rfl (by exact rfl) (by exact rfl) ?_ | refine xG_go (fun _ => rfl) ?_)
    exact xG_ret (fun _ => rfl) ⟨rfl, rfl⟩
theorem c_nutsBy {m e : Nat} {s f : Int} (hl : lok M) (hd : dok (dv M 29)) (hm : m < 6) (he : e ≤ 2) (hv : vt M m + e ≤ 1) (hs : -(m : Int) ≤ s ∧ s ≤ m) (hf : M (111 + (m + 1)) (s + (vt M m + e) + 6).toNat = f) (bf : 0 ≤ f ∧ f ≤ 1000) : xC sc (d + 4) n_Briber_nutsBy [mR 109, mR 29, mI m, mI s, mI (vt M m + e)] M (fun r M' => M = M' ∧ r = some (mI (nb (cM M m e) f))) := by
  have hvi := vote_in (M 6) (dv M 29) m
  have hvd : vt M m = vote (M 6) (dv M 29) m := rfl
  have sk := sk_few (m := m + 1) (by omega)
  have ck := (cM_ok hd).2.1 m e he
  refine xC_in rfl rfl (by simp; decide) ?_
  iterate 5 (first | refine xG_getI rfl (by exact rfl) (by exact rfl) ?_ | refine xG_getR rfl (by exact rfl) (by exact rfl) ?_ | refine xG_add rfl ?_ | refine xG_sub rfl ?_ | refine xG_mul rfl ?_ | refine xG_putI rfl (by exact rfl) (by exact rfl) ?_ | refine xG_go (fun _ => rfl) ?_)
  refine xG_aald rfl (by exact rfl) (Or.inr rfl) (by omega) (by rw [show ((m : Int) + 1).toNat = m + 1 by omega]; exact sk.2) ?_
  iterate 5 (first | refine xG_getI rfl (by exact rfl) (by exact rfl) ?_ | refine xG_getR rfl (by exact rfl) (by exact rfl) ?_ | refine xG_add rfl ?_ | refine xG_sub rfl ?_ | refine xG_mul rfl ?_ | refine xG_putI rfl (by exact rfl) (by exact rfl) ?_ | refine xG_go (fun _ => rfl) ?_)
  refine xG_ald rfl sk.1 (by omega) ?_
  rw [hf]
  iterate 6 (first | refine xG_getI rfl (by exact rfl) (by exact rfl) ?_ | refine xG_getR rfl (by exact rfl) (by exact rfl) ?_ | refine xG_add rfl ?_ | refine xG_sub rfl ?_ | refine xG_mul rfl ?_ | refine xG_putI rfl (by exact rfl) (by exact rfl) ?_ | refine xG_go (fun _ => rfl) ?_)
  refine xV4 rfl (by exact rfl) (by simp) (c_price hl hd hm he hv) (fun r M' hq => ?_)
  obtain ⟨rfl, rfl⟩ := hq
  iterate 2 (first | refine xG_getI rfl (by exact rfl) (by exact rfl) ?_ | refine xG_getR rfl (by exact rfl) (by exact rfl) ?_ | refine xG_add rfl ?_ | refine xG_sub rfl ?_ | refine xG_mul rfl ?_ | refine xG_putI rfl (by exact rfl) (by exact rfl) ?_ | refine xG_go (fun _ => rfl) ?_)
  refine xG_min rfl (by decide) (by omega) (by simp) ?_
  exact xG_ret (fun _ => rfl) ⟨rfl, rfl⟩
theorem l_bv2 {m k b : Nat} {s : Int} (hl : lok M) (hd : dok (dv M 29)) (hm : m < 6) (hs : -(m : Int) ≤ s ∧ s ≤ m) (hf : ∀ e : Nat, e ≤ 2 → vt M m + e ≤ 1 → M (111 + (m + 1)) (s + (vt M m + e) + 6).toNat = fw (cM M) (vt M) k (m + 1) (s + vt M m + e)) (hb : b ≤ 1) (hvb : vt M m + b ≤ 1) : xG sc (d + 4) y_Briber_bestVote 13 [some (mR 109), some (mR 29), some (mI m), some (mI s), some (mI (vt M m + b)), some (mI (vt M m + 2))] [] M (fun r M' => M = M' ∧ r = some (mI (vt M m + ((if vt M m + 2 ≤ 1 ∧ nb (cM M m 2) (fw (cM M) (vt M) k (m + 1) (s + vt M m + (2 : Nat))) < nb (cM M m b) (fw (cM M) (vt M) k (m + 1) (s + vt M m + b)) then 2 else b : Nat) : Int)))) := by
  have hvi := vote_in (M 6) (dv M 29) m
  have hvd : vt M m = vote (M 6) (dv M 29) m := rfl
  have ok := cM_ok hd
  iterate 2 (first | refine xG_getI rfl (by exact rfl) (by exact rfl) ?_ | refine xG_getR rfl (by exact rfl) (by exact rfl) ?_ | refine xG_add rfl ?_ | refine xG_sub rfl ?_ | refine xG_mul rfl ?_ | refine xG_putI rfl (by exact rfl) (by exact rfl) ?_ | refine xG_go (fun _ => rfl) ?_)
  refine xb_gt rfl (by omega) (by omega) (fun c1 => ?_) (fun c1 => ?_)
  · rw [if_neg (fun z => absurd z.1 (by omega))]
    iterate 1 (first | refine xG_getI rfl (by exact rfl) (by exact rfl) ?_ | refine xG_getR rfl (by exact rfl) (by exact rfl) ?_ | refine xG_add rfl ?_ | refine xG_sub rfl ?_ | refine xG_mul rfl ?_ | refine xG_putI rfl (by exact rfl) (by exact rfl) ?_ | refine xG_go (fun _ => rfl) ?_)
    exact xG_ret (fun _ => rfl) ⟨rfl, rfl⟩
  · have b2 := fw_in (c := cM M) (v := vt M) k (m + 1) (s + vt M m + (2 : Nat))
    have b3 := fw_ge ok k (m + 1) (s + vt M m + (2 : Nat))
    have b4 := fw_in (c := cM M) (v := vt M) k (m + 1) (s + vt M m + b)
    have b5 := fw_ge ok k (m + 1) (s + vt M m + b)
    have c2 := ok.2.1 m 2 (by omega)
    have c3 := ok.2.1 m b (by omega)
    iterate 5 (first | refine xG_getI rfl (by exact rfl) (by exact rfl) ?_ | refine xG_getR rfl (by exact rfl) (by exact rfl) ?_ | refine xG_add rfl ?_ | refine xG_sub rfl ?_ | refine xG_mul rfl ?_ | refine xG_putI rfl (by exact rfl) (by exact rfl) ?_ | refine xG_go (fun _ => rfl) ?_)
    refine xV5 rfl (by exact rfl) (by simp) (c_nutsBy (e := 2) hl hd hm (by omega) (by omega) hs (hf 2 (by omega) (by omega)) ⟨b3, b2⟩) (fun r M' hq => ?_)
    obtain ⟨rfl, rfl⟩ := hq
    iterate 5 (first | refine xG_getI rfl (by exact rfl) (by exact rfl) ?_ | refine xG_getR rfl (by exact rfl) (by exact rfl) ?_ | refine xG_add rfl ?_ | refine xG_sub rfl ?_ | refine xG_mul rfl ?_ | refine xG_putI rfl (by exact rfl) (by exact rfl) ?_ | refine xG_go (fun _ => rfl) ?_)
    refine xV5 rfl (by exact rfl) (by simp) (c_nutsBy (e := b) hl hd hm (by omega) (by omega) hs (hf b (by omega) (by omega)) ⟨b5, b4⟩) (fun r M' hq => ?_)
    obtain ⟨rfl, rfl⟩ := hq
    have n1 : -1000 ≤ nb (cM M m 2) (fw (cM M) (vt M) k (m + 1) (s + vt M m + (2 : Nat))) ∧ nb (cM M m 2) (fw (cM M) (vt M) k (m + 1) (s + vt M m + (2 : Nat))) ≤ 1000 := by unfold nb; split <;> omega
    have n2 : -1000 ≤ nb (cM M m b) (fw (cM M) (vt M) k (m + 1) (s + vt M m + b)) ∧ nb (cM M m b) (fw (cM M) (vt M) k (m + 1) (s + vt M m + b)) ≤ 1000 := by unfold nb; split <;> omega
    refine xb_ge rfl (by omega) (by omega) (fun c4 => ?_) (fun c4 => ?_)
    · rw [if_neg (fun z => absurd z.2 (by omega))]
      iterate 4 (first | refine xG_getI rfl (by exact rfl) (by exact rfl) ?_ | refine xG_getR rfl (by exact rfl) (by exact rfl) ?_ | refine xG_add rfl ?_ | refine xG_sub rfl ?_ | refine xG_mul rfl ?_ | refine xG_putI rfl (by exact rfl) (by exact rfl) ?_ | refine xG_go (fun _ => rfl) ?_)
      refine xb_gt rfl (by omega) (by omega) (fun _ => ?_) (fun c5 => absurd c5 (by omega))
      iterate 1 (first | refine xG_getI rfl (by exact rfl) (by exact rfl) ?_ | refine xG_getR rfl (by exact rfl) (by exact rfl) ?_ | refine xG_add rfl ?_ | refine xG_sub rfl ?_ | refine xG_mul rfl ?_ | refine xG_putI rfl (by exact rfl) (by exact rfl) ?_ | refine xG_go (fun _ => rfl) ?_)
      exact xG_ret (fun _ => rfl) ⟨rfl, rfl⟩
    · rw [if_pos ⟨by omega, by omega⟩]
      iterate 6 (first | refine xG_getI rfl (by exact rfl) (by exact rfl) ?_ | refine xG_getR rfl (by exact rfl) (by exact rfl) ?_ | refine xG_add rfl ?_ | refine xG_sub rfl ?_ | refine xG_mul rfl ?_ | refine xG_putI rfl (by exact rfl) (by exact rfl) ?_ | refine xG_go (fun _ => rfl) ?_)
      refine xb_gt rfl (by omega) (by omega) (fun _ => ?_) (fun c5 => absurd c5 (by omega))
      iterate 1 (first | refine xG_getI rfl (by exact rfl) (by exact rfl) ?_ | refine xG_getR rfl (by exact rfl) (by exact rfl) ?_ | refine xG_add rfl ?_ | refine xG_sub rfl ?_ | refine xG_mul rfl ?_ | refine xG_putI rfl (by exact rfl) (by exact rfl) ?_ | refine xG_go (fun _ => rfl) ?_)
      exact xG_ret (fun _ => rfl) ⟨rfl, rfl⟩
theorem c_bestVote {m k : Nat} {s : Int} (hl : lok M) (hd : dok (dv M 29)) (hm : m < 6) (hs : -(m : Int) ≤ s ∧ s ≤ m) (hf : ∀ e : Nat, e ≤ 2 → vt M m + e ≤ 1 → M (111 + (m + 1)) (s + (vt M m + e) + 6).toNat = fw (cM M) (vt M) k (m + 1) (s + vt M m + e)) : xC sc (d + 5) n_Briber_bestVote [mR 109, mR 29, mI m, mI s] M (fun r M' => M = M' ∧ r = some (mI (vt M m + bs (cM M) (vt M) k m s))) := by
  have hvi := vote_in (M 6) (dv M 29) m
  have hvd : vt M m = vote (M 6) (dv M 29) m := rfl
  have ok := cM_ok hd
  refine xC_in rfl rfl (by simp; decide) ?_
  iterate 2 (first | refine xG_getI rfl (by exact rfl) (by exact rfl) ?_ | refine xG_getR rfl (by exact rfl) (by exact rfl) ?_ | refine xG_add rfl ?_ | refine xG_sub rfl ?_ | refine xG_mul rfl ?_ | refine xG_putI rfl (by exact rfl) (by exact rfl) ?_ | refine xG_go (fun _ => rfl) ?_)
  refine xV2 rfl (by exact rfl) (by simp) (c_voteOf isDay_today hl hd hm) (fun r M' hq => ?_)
  obtain ⟨rfl, rfl⟩ := hq
  rw [← hvd]
  iterate 7 (first | refine xG_getI rfl (by exact rfl) (by exact rfl) ?_ | refine xG_getR rfl (by exact rfl) (by exact rfl) ?_ | refine xG_add rfl ?_ | refine xG_sub rfl ?_ | refine xG_mul rfl ?_ | refine xG_putI rfl (by exact rfl) (by exact rfl) ?_ | refine xG_go (fun _ => rfl) ?_)
  unfold bs bst3
  refine xb_gt rfl (by omega) (by omega) (fun c1 => ?_) (fun c1 => ?_)
  · rw [if_neg (fun z => absurd z.1 (by omega)), if_neg (fun z => absurd z.1 (by omega)), show vt M m + ((0 : Nat) : Int) = vt M m by omega]
    iterate 1 (first | refine xG_getI rfl (by exact rfl) (by exact rfl) ?_ | refine xG_getR rfl (by exact rfl) (by exact rfl) ?_ | refine xG_add rfl ?_ | refine xG_sub rfl ?_ | refine xG_mul rfl ?_ | refine xG_putI rfl (by exact rfl) (by exact rfl) ?_ | refine xG_go (fun _ => rfl) ?_)
    exact xG_ret (fun _ => rfl) ⟨rfl, rfl⟩
  · have b2 := fw_in (c := cM M) (v := vt M) k (m + 1) (s + vt M m + (1 : Nat))
    have b3 := fw_ge ok k (m + 1) (s + vt M m + (1 : Nat))
    have b4 := fw_in (c := cM M) (v := vt M) k (m + 1) (s + vt M m + (0 : Nat))
    have b5 := fw_ge ok k (m + 1) (s + vt M m + (0 : Nat))
    have c2 := ok.2.1 m 1 (by omega)
    have c3 := ok.2.1 m 0 (by omega)
    have k1 := c_nutsBy (sc := sc) (d := d) (e := 1) hl hd hm (by omega) (by omega) hs (hf 1 (by omega) (by omega)) ⟨b3, b2⟩
    have k0 := c_nutsBy (sc := sc) (d := d) (e := 0) hl hd hm (by omega) (by omega) hs (hf 0 (by omega) (by omega)) ⟨b5, b4⟩
    rw [show vt M m + ((0 : Nat) : Int) = vt M m by omega] at k0
    iterate 5 (first | refine xG_getI rfl (by exact rfl) (by exact rfl) ?_ | refine xG_getR rfl (by exact rfl) (by exact rfl) ?_ | refine xG_add rfl ?_ | refine xG_sub rfl ?_ | refine xG_mul rfl ?_ | refine xG_putI rfl (by exact rfl) (by exact rfl) ?_ | refine xG_go (fun _ => rfl) ?_)
    refine xV5 rfl (by exact rfl) (by simp) k1 (fun r M' hq => ?_)
    obtain ⟨rfl, rfl⟩ := hq
    iterate 5 (first | refine xG_getI rfl (by exact rfl) (by exact rfl) ?_ | refine xG_getR rfl (by exact rfl) (by exact rfl) ?_ | refine xG_add rfl ?_ | refine xG_sub rfl ?_ | refine xG_mul rfl ?_ | refine xG_putI rfl (by exact rfl) (by exact rfl) ?_ | refine xG_go (fun _ => rfl) ?_)
    refine xV5 rfl (by exact rfl) (by simp) k0 (fun r M' hq => ?_)
    obtain ⟨rfl, rfl⟩ := hq
    have n1 : -1000 ≤ nb (cM M m 1) (fw (cM M) (vt M) k (m + 1) (s + vt M m + (1 : Nat))) ∧ nb (cM M m 1) (fw (cM M) (vt M) k (m + 1) (s + vt M m + (1 : Nat))) ≤ 1000 := by unfold nb; split <;> omega
    have n2 : -1000 ≤ nb (cM M m 0) (fw (cM M) (vt M) k (m + 1) (s + vt M m + (0 : Nat))) ∧ nb (cM M m 0) (fw (cM M) (vt M) k (m + 1) (s + vt M m + (0 : Nat))) ≤ 1000 := by unfold nb; split <;> omega
    refine xb_ge rfl (by omega) (by omega) (fun c4 => ?_) (fun c4 => ?_)
    · rw [if_neg (c := vt M m + 1 ≤ 1 ∧ nb (cM M m 1) (fw (cM M) (vt M) k (m + 1) (s + vt M m + (1 : Nat))) < nb (cM M m 0) (fw (cM M) (vt M) k (m + 1) (s + vt M m + (0 : Nat)))) (fun z => absurd z.2 (by omega))]
      iterate 2 (first | refine xG_getI rfl (by exact rfl) (by exact rfl) ?_ | refine xG_getR rfl (by exact rfl) (by exact rfl) ?_ | refine xG_add rfl ?_ | refine xG_sub rfl ?_ | refine xG_mul rfl ?_ | refine xG_putI rfl (by exact rfl) (by exact rfl) ?_ | refine xG_go (fun _ => rfl) ?_)
      have key := l_bv2 (sc := sc) (d := d) (k := k) (b := 0) hl hd hm hs hf (by omega) (by omega)
      rw [show vt M m + ((0 : Nat) : Int) = vt M m by omega, show vt M m + 2 = vt M m + 1 + 1 by omega] at key
      rw [show vt M m + 2 = vt M m + 1 + 1 by omega]
      exact key
    · rw [if_pos (c := vt M m + 1 ≤ 1 ∧ nb (cM M m 1) (fw (cM M) (vt M) k (m + 1) (s + vt M m + (1 : Nat))) < nb (cM M m 0) (fw (cM M) (vt M) k (m + 1) (s + vt M m + (0 : Nat)))) ⟨by omega, by omega⟩]
      iterate 4 (first | refine xG_getI rfl (by exact rfl) (by exact rfl) ?_ | refine xG_getR rfl (by exact rfl) (by exact rfl) ?_ | refine xG_add rfl ?_ | refine xG_sub rfl ?_ | refine xG_mul rfl ?_ | refine xG_putI rfl (by exact rfl) (by exact rfl) ?_ | refine xG_go (fun _ => rfl) ?_)
      have key := l_bv2 (sc := sc) (d := d) (k := k) (b := 1) hl hd hm hs hf (by omega) (by omega)
      rw [show vt M m + ((1 : Nat) : Int) = vt M m + 1 by omega, show vt M m + 2 = vt M m + 1 + 1 by omega] at key
      rw [show vt M m + 2 = vt M m + 1 + 1 by omega]
      exact key
end ZD
