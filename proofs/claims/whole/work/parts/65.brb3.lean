/-! THE BRIBES: the class's tables -/
section ZE
variable {sc : Nat × (Nat → Int)} {d c : Nat} {M : mv_M}
def far (M N : mv_M) : Prop := ∀ a, (a < 111 ∨ 119 ≤ a) → N a = M a
/-- the rows of the table from m on -/
def tab (M N : mv_M) (nm m : Nat) : Prop := ∀ m' : Nat, m ≤ m' → m' ≤ nm → ∀ s : Int, -(m' : Int) ≤ s → s ≤ m' → N (111 + m') (s + 6).toNat = fw (cM M) (vt M) (nm - m') m' s
theorem l_fn1 {nm : Nat} (n6 : nm ≤ 6) (en : M 4 2 = nm) {x3 x4 : Option mv_V} {Q : Option mv_V → mv_M → Prop} (kk : ∀ N x2, far M N → tab M N nm nm → xG sc d y_Briber_fewestNuts 54 [some (mR 109), some (mR 29), x2, x3, x4] [] N Q) : ∀ (q : Nat) (s : Int) (N : mv_M), s + q = nm + 1 → -(nm : Int) ≤ s → far M N → (∀ t : Int, -(nm : Int) ≤ t → t < s → N (111 + nm) (t + 6).toNat = if 0 < t then 0 else 1000) → xG sc d y_Briber_fewestNuts 9 [some (mR 109), some (mR 29), some (mI s), x3, x4] [] N Q := by
  have sk := sk_few (m := nm) (by omega)
  intro q
  induction q with
  | zero =>
    intro s N hq hs hN ht
    iterate 4 (first | refine xG_getI rfl (by exact rfl) (by exact rfl) ?_ | refine xG_getR rfl (by exact rfl) (by exact rfl) ?_ | refine xG_add rfl ?_ | refine xG_sub rfl ?_ | refine xG_mul rfl ?_ | refine xG_putI rfl (by exact rfl) (by exact rfl) ?_ | refine xG_go (fun _ => rfl) ?_)
    rw [hN 4 (by decide), en]
    refine xb_gt rfl (by omega) (by omega) (fun _ => ?_) (fun c1 => absurd c1 (by omega))
    refine kk N _ hN (fun m' h1 h2 t h3 h4 => ?_)
    have : m' = nm := by omega
    subst this
    rw [Nat.sub_self, ht t h3 (by omega)]
    rfl
  | succ q iq =>
    intro s N hq hs hN ht
    iterate 4 (first | refine xG_getI rfl (by exact rfl) (by exact rfl) ?_ | refine xG_getR rfl (by exact rfl) (by exact rfl) ?_ | refine xG_add rfl ?_ | refine xG_sub rfl ?_ | refine xG_mul rfl ?_ | refine xG_putI rfl (by exact rfl) (by exact rfl) ?_ | refine xG_go (fun _ => rfl) ?_)
    rw [hN 4 (by decide), en]
    refine xb_gt rfl (by omega) (by omega) (fun c1 => absurd c1 (by omega)) (fun _ => ?_)
    iterate 5 (first | refine xG_getI rfl (by exact rfl) (by exact rfl) ?_ | refine xG_getR rfl (by exact rfl) (by exact rfl) ?_ | refine xG_add rfl ?_ | refine xG_sub rfl ?_ | refine xG_mul rfl ?_ | refine xG_putI rfl (by exact rfl) (by exact rfl) ?_ | refine xG_go (fun _ => rfl) ?_)
    rw [hN 4 (by decide), en]
    refine xG_aald rfl (by exact rfl) (Or.inr rfl) (by omega) (by rw [Int.toNat_natCast]; exact sk.2) ?_
    iterate 4 (first | refine xG_getI rfl (by exact rfl) (by exact rfl) ?_ | refine xG_getR rfl (by exact rfl) (by exact rfl) ?_ | refine xG_add rfl ?_ | refine xG_sub rfl ?_ | refine xG_mul rfl ?_ | refine xG_putI rfl (by exact rfl) (by exact rfl) ?_ | refine xG_go (fun _ => rfl) ?_)
    have fin : xG sc d y_Briber_fewestNuts 47 [some (mR 109), some (mR 29), some (mI s), x3, x4] [mI (if 0 < s then 0 else 1000), mI (s + 6), mR (111 + nm)] N Q := by
      refine xG_ast rfl sk.1 (by omega) ?_
      iterate 2 (first | refine xG_getI rfl (by exact rfl) (by exact rfl) ?_ | refine xG_getR rfl (by exact rfl) (by exact rfl) ?_ | refine xG_add rfl ?_ | refine xG_sub rfl ?_ | refine xG_mul rfl ?_ | refine xG_putI rfl (by exact rfl) (by exact rfl) ?_ | refine xG_go (fun _ => rfl) ?_)
      refine iq (s + 1) _ (by omega) (by omega) (fun a ha => by rw [mv_upne (by omega), hN a ha]) (fun t h1 h2 => ?_)
      by_cases w : t = s
      · rw [w, mv_up_at]
      · rw [mv_up_j (by omega), ht t h1 (by omega)]
    refine xi_le rfl (by omega) (fun c1 => ?_) (fun c1 => ?_)
    · rw [if_neg (by omega)] at fin
      iterate 1 (first | refine xG_getI rfl (by exact rfl) (by exact rfl) ?_ | refine xG_getR rfl (by exact rfl) (by exact rfl) ?_ | refine xG_add rfl ?_ | refine xG_sub rfl ?_ | refine xG_mul rfl ?_ | refine xG_putI rfl (by exact rfl) (by exact rfl) ?_ | refine xG_go (fun _ => rfl) ?_)
      exact fin
    · rw [if_pos (by omega)] at fin
      iterate 2 (first | refine xG_getI rfl (by exact rfl) (by exact rfl) ?_ | refine xG_getR rfl (by exact rfl) (by exact rfl) ?_ | refine xG_add rfl ?_ | refine xG_sub rfl ?_ | refine xG_mul rfl ?_ | refine xG_putI rfl (by exact rfl) (by exact rfl) ?_ | refine xG_go (fun _ => rfl) ?_)
      exact fin
theorem far_tab {N : mv_M} {nm m k : Nat} {s : Int} (hN : far M N) (ht : tab M N nm (m + 1)) (hm : m + (k + 1) = nm) (hs : -(m : Int) ≤ s ∧ s ≤ m) : ∀ e : Nat, e ≤ 2 → vt N m + e ≤ 1 → N (111 + (m + 1)) (s + (vt N m + e) + 6).toNat = fw (cM N) (vt N) k (m + 1) (s + vt N m + e) := by
  intro e he hv
  have e1 := vt_far (M := M) (N := N) (fun a ha => hN a (by omega))
  have hvi := vote_in (M 6) (dv M 29) m
  have hvd : vt M m = vote (M 6) (dv M 29) m := rfl
  rw [e1.1] at hv ⊢
  rw [e1.2.1, ht (m + 1) (by omega) (by omega) _ (by omega) (by omega), show nm - (m + 1) = k by omega, Int.add_assoc]
theorem l_fn2 {nm m k : Nat} (hl : lok M) (hd : dok (dv M 29)) (hm : m + (k + 1) = nm) (n6 : nm ≤ 6) {Q : Option mv_V → mv_M → Prop} (kk : ∀ N x3 x4, far M N → tab M N nm m → xG sc (d + 5) y_Briber_fewestNuts 111 [some (mR 109), some (mR 29), some (mI m), x3, x4] [] N Q) : ∀ (q : Nat) (s : Int) (N : mv_M) (x4 : Option mv_V), s + q = m + 1 → -(m : Int) ≤ s → far M N → tab M N nm (m + 1) → (∀ t : Int, -(m : Int) ≤ t → t < s → N (111 + m) (t + 6).toNat = fw (cM M) (vt M) (nm - m) m t) → xG sc (d + 5) y_Briber_fewestNuts 71 [some (mR 109), some (mR 29), some (mI m), some (mI s), x4] [] N Q := by
  have sk := sk_few (m := m) (by omega)
  have ok := cM_ok hd
  intro q
  induction q with
  | zero =>
    intro s N x4 hq hs hN ht hr
    iterate 2 (first | refine xG_getI rfl (by exact rfl) (by exact rfl) ?_ | refine xG_getR rfl (by exact rfl) (by exact rfl) ?_ | refine xG_add rfl ?_ | refine xG_sub rfl ?_ | refine xG_mul rfl ?_ | refine xG_putI rfl (by exact rfl) (by exact rfl) ?_ | refine xG_go (fun _ => rfl) ?_)
    refine xb_gt rfl (by omega) (by omega) (fun _ => ?_) (fun c1 => absurd c1 (by omega))
    refine kk N _ _ hN (fun m' h1 h2 t h3 h4 => ?_)
    by_cases w : m' = m
    · subst w
      exact hr t h3 (by omega)
    · exact ht m' (by omega) h2 t h3 h4
  | succ q iq =>
    intro s N x4 hq hs hN ht hr
    have e1 := vt_far (M := M) (N := N) (fun a ha => hN a (by omega))
    have lN : lok N := far_lok (fun a ha => hN a (by omega)) hl
    have dN : dok (dv N 29) := by rw [e1.2.2]; exact hd
    have bsp := bs_spec ok k m s
    have hf := far_tab (M := M) hN ht hm (s := s) ⟨hs, by omega⟩
    iterate 2 (first | refine xG_getI rfl (by exact rfl) (by exact rfl) ?_ | refine xG_getR rfl (by exact rfl) (by exact rfl) ?_ | refine xG_add rfl ?_ | refine xG_sub rfl ?_ | refine xG_mul rfl ?_ | refine xG_putI rfl (by exact rfl) (by exact rfl) ?_ | refine xG_go (fun _ => rfl) ?_)
    refine xb_gt rfl (by omega) (by omega) (fun c1 => absurd c1 (by omega)) (fun _ => ?_)
    iterate 4 (first | refine xG_getI rfl (by exact rfl) (by exact rfl) ?_ | refine xG_getR rfl (by exact rfl) (by exact rfl) ?_ | refine xG_add rfl ?_ | refine xG_sub rfl ?_ | refine xG_mul rfl ?_ | refine xG_putI rfl (by exact rfl) (by exact rfl) ?_ | refine xG_go (fun _ => rfl) ?_)
    refine xV4 rfl (by exact rfl) (by simp) (c_bestVote (d := d) (k := k) lN dN (show m < 6 by omega) ⟨hs, by omega⟩ hf) (fun r M' hq => ?_)
    obtain ⟨rfl, rfl⟩ := hq
    iterate 4 (first | refine xG_getI rfl (by exact rfl) (by exact rfl) ?_ | refine xG_getR rfl (by exact rfl) (by exact rfl) ?_ | refine xG_add rfl ?_ | refine xG_sub rfl ?_ | refine xG_mul rfl ?_ | refine xG_putI rfl (by exact rfl) (by exact rfl) ?_ | refine xG_go (fun _ => rfl) ?_)
    refine xG_aald rfl (by exact rfl) (Or.inr rfl) (by omega) (by rw [Int.toNat_natCast]; exact sk.2) ?_
    iterate 8 (first | refine xG_getI rfl (by exact rfl) (by exact rfl) ?_ | refine xG_getR rfl (by exact rfl) (by exact rfl) ?_ | refine xG_add rfl ?_ | refine xG_sub rfl ?_ | refine xG_mul rfl ?_ | refine xG_putI rfl (by exact rfl) (by exact rfl) ?_ | refine xG_go (fun _ => rfl) ?_)
    have f1 := fw_in (c := cM N) (v := vt N) k (m + 1) (s + vt N m + bs (cM N) (vt N) k m s)
    have f2 := fw_ge (cM_ok dN) k (m + 1) (s + vt N m + bs (cM N) (vt N) k m s)
    have b2 := bs_spec (cM_ok dN) k m s
    refine xV5 rfl (by exact rfl) (by simp) (c_nutsBy (d := d + 1) (e := bs (cM N) (vt N) k m s) lN dN (show m < 6 by omega) b2.1 b2.2.1 ⟨hs, by omega⟩ (hf _ b2.1 b2.2.1) ⟨f2, f1⟩) (fun r M' hq => ?_)
    obtain ⟨rfl, rfl⟩ := hq
    rw [← fw_s, e1.1, e1.2.1]
    refine xG_ast rfl sk.1 (by omega) ?_
    iterate 2 (first | refine xG_getI rfl (by exact rfl) (by exact rfl) ?_ | refine xG_getR rfl (by exact rfl) (by exact rfl) ?_ | refine xG_add rfl ?_ | refine xG_sub rfl ?_ | refine xG_mul rfl ?_ | refine xG_putI rfl (by exact rfl) (by exact rfl) ?_ | refine xG_go (fun _ => rfl) ?_)
    refine iq (s + 1) _ _ (by omega) (by omega) (fun a ha => by rw [mv_upne (by omega), hN a ha]) (fun m' h1 h2 t h3 h4 => by rw [mv_upne (by omega), ht m' h1 h2 t h3 h4]) (fun t h1 h2 => ?_)
    by_cases w : t = s
    · rw [w, mv_up_at, show nm - m = k + 1 by omega]
    · rw [mv_up_j (by omega), hr t h1 (by omega)]
theorem l_fn3 {nm : Nat} (hl : lok M) (hd : dok (dv M 29)) (n6 : nm ≤ 6) {Q : Option mv_V → mv_M → Prop} (kk : ∀ N x2 x3 x4, far M N → tab M N nm 0 → xG sc (d + 5) y_Briber_fewestNuts 117 [some (mR 109), some (mR 29), x2, x3, x4] [] N Q) : ∀ (m : Nat) (N : mv_M) (x3 x4 : Option mv_V), m ≤ nm → far M N → tab M N nm m → xG sc (d + 5) y_Briber_fewestNuts 64 [some (mR 109), some (mR 29), some (mI ((m : Int) - 1)), x3, x4] [] N Q := by
  intro m
  induction m with
  | zero =>
    intro N x3 x4 hm hN ht
    iterate 1 (first | refine xG_getI rfl (by exact rfl) (by exact rfl) ?_ | refine xG_getR rfl (by exact rfl) (by exact rfl) ?_ | refine xG_add rfl ?_ | refine xG_sub rfl ?_ | refine xG_mul rfl ?_ | refine xG_putI rfl (by exact rfl) (by exact rfl) ?_ | refine xG_go (fun _ => rfl) ?_)
    refine xi_lt rfl (by omega) (fun _ => ?_) (fun c1 => absurd c1 (by omega))
    exact kk N _ _ _ hN ht
  | succ m im =>
    intro N x3 x4 hm hN ht
    rw [show ((m + 1 : Nat) : Int) - 1 = (m : Int) by omega]
    iterate 1 (first | refine xG_getI rfl (by exact rfl) (by exact rfl) ?_ | refine xG_getR rfl (by exact rfl) (by exact rfl) ?_ | refine xG_add rfl ?_ | refine xG_sub rfl ?_ | refine xG_mul rfl ?_ | refine xG_putI rfl (by exact rfl) (by exact rfl) ?_ | refine xG_go (fun _ => rfl) ?_)
    refine xi_lt rfl (by omega) (fun c1 => absurd c1 (by omega)) (fun _ => ?_)
    iterate 3 (first | refine xG_getI rfl (by exact rfl) (by exact rfl) ?_ | refine xG_getR rfl (by exact rfl) (by exact rfl) ?_ | refine xG_add rfl ?_ | refine xG_sub rfl ?_ | refine xG_mul rfl ?_ | refine xG_putI rfl (by exact rfl) (by exact rfl) ?_ | refine xG_go (fun _ => rfl) ?_)
    refine l_fn2 (k := nm - (m + 1)) hl hd (by omega) n6 (fun N x3 x4 g1 g2 => ?_) (2 * m + 1) (-(m : Int)) N x4 (by omega) (by omega) hN ht (fun t h1 h2 => absurd h1 (by omega))
    iterate 2 (first | refine xG_getI rfl (by exact rfl) (by exact rfl) ?_ | refine xG_getR rfl (by exact rfl) (by exact rfl) ?_ | refine xG_add rfl ?_ | refine xG_sub rfl ?_ | refine xG_mul rfl ?_ | refine xG_putI rfl (by exact rfl) (by exact rfl) ?_ | refine xG_go (fun _ => rfl) ?_)
    have key := im N x3 x4 (by omega) g1 g2
    rw [show (m : Int) - 1 = (m : Int) + -1 by omega] at key
    exact key
/-- who is given what, up to the monkey j -/
theorem l_share {nm : Nat} (hl : lok M) (hd : dok (dv M 29)) (n6 : nm ≤ 6) (en : M 4 2 = nm) : ∀ (k j : Nat) (N : mv_M) (x4 : Option mv_V), j + k = nm → far M N → tab M N nm 0 → (-(j : Int) ≤ mgc (vt M) nm (nc (cM M) (vt M) nm 0 0) j ∧ mgc (vt M) nm (nc (cM M) (vt M) nm 0 0) j ≤ j) → (∀ i, i < j → N 118 i = cM M i (dgt nm (nc (cM M) (vt M) nm 0 0) i)) → xG sc (d + 5) y_Briber_sharesOut 4 [some (mR 109), some (mR 29), some (mI (mgc (vt M) nm (nc (cM M) (vt M) nm 0 0) j)), some (mI j), x4] [] N (fun r N' => r = none ∧ far M N' ∧ ∀ i, i < nm → N' 118 i = cM M i (dgt nm (nc (cM M) (vt M) nm 0 0) i)) := by
  have ok := cM_ok hd
  intro k
  induction k with
  | zero =>
    intro j N x4 hk hN ht hm hr
    have : j = nm := by omega
    subst this
    iterate 4 (first | refine xG_getI rfl (by exact rfl) (by exact rfl) ?_ | refine xG_getR rfl (by exact rfl) (by exact rfl) ?_ | refine xG_add rfl ?_ | refine xG_sub rfl ?_ | refine xG_mul rfl ?_ | refine xG_putI rfl (by exact rfl) (by exact rfl) ?_ | refine xG_go (fun _ => rfl) ?_)
    rw [hN 4 (by decide), en]
    refine xb_ge rfl (by omega) (by omega) (fun _ => ?_) (fun c1 => absurd c1 (by omega))
    exact xG_ret (fun _ => rfl) ⟨rfl, hN, hr⟩
  | succ k ik =>
    intro j N x4 hk hN ht hm hr
    have hvi := vote_in (M 6) (dv M 29) j
    have hvd : vt M j = vote (M 6) (dv M 29) j := rfl
    have ed := (nc_dig ok (k + 1) j hk).2 k rfl
    have em : mgc (vt M) nm (nc (cM M) (vt M) nm 0 0) (j + 1) = mgc (vt M) nm (nc (cM M) (vt M) nm 0 0) j + vt M j + dgt nm (nc (cM M) (vt M) nm 0 0) j := rfl
    have bsp := bs_spec ok k j (mgc (vt M) nm (nc (cM M) (vt M) nm 0 0) j)
    rw [← ed] at bsp
    have e1 := vt_far (M := M) (N := N) (fun a ha => hN a (by omega))
    have lN : lok N := far_lok (fun a ha => hN a (by omega)) hl
    have dN : dok (dv N 29) := by rw [e1.2.2]; exact hd
    have hf := far_tab (M := M) hN (fun m' h1 h2 => ht m' (by omega) h2) hk hm
    iterate 4 (first | refine xG_getI rfl (by exact rfl) (by exact rfl) ?_ | refine xG_getR rfl (by exact rfl) (by exact rfl) ?_ | refine xG_add rfl ?_ | refine xG_sub rfl ?_ | refine xG_mul rfl ?_ | refine xG_putI rfl (by exact rfl) (by exact rfl) ?_ | refine xG_go (fun _ => rfl) ?_)
    rw [hN 4 (by decide), en]
    refine xb_ge rfl (by omega) (by omega) (fun c1 => absurd c1 (by omega)) (fun _ => ?_)
    iterate 4 (first | refine xG_getI rfl (by exact rfl) (by exact rfl) ?_ | refine xG_getR rfl (by exact rfl) (by exact rfl) ?_ | refine xG_add rfl ?_ | refine xG_sub rfl ?_ | refine xG_mul rfl ?_ | refine xG_putI rfl (by exact rfl) (by exact rfl) ?_ | refine xG_go (fun _ => rfl) ?_)
    refine xV4 rfl (by exact rfl) (by simp) (c_bestVote (d := d) (k := k) lN dN (show j < 6 by omega) hm hf) (fun r M' hq => ?_)
    obtain ⟨rfl, rfl⟩ := hq
    rw [e1.1, e1.2.1, ← ed]
    iterate 8 (first | refine xG_getI rfl (by exact rfl) (by exact rfl) ?_ | refine xG_getR rfl (by exact rfl) (by exact rfl) ?_ | refine xG_add rfl ?_ | refine xG_sub rfl ?_ | refine xG_mul rfl ?_ | refine xG_putI rfl (by exact rfl) (by exact rfl) ?_ | refine xG_go (fun _ => rfl) ?_)
    have kp := c_price (sc := sc) (d := d + 2) (e := dgt nm (nc (cM M) (vt M) nm 0 0) j) lN dN (show j < 6 by omega) (dgt_lt ..) (by rw [e1.1]; exact bsp.2.1)
    rw [e1.1, e1.2.1] at kp
    refine xV4 rfl (by exact rfl) (by simp) kp (fun r M' hq => ?_)
    obtain ⟨rfl, rfl⟩ := hq
    refine xG_ast rfl (by exact rfl) (by omega) ?_
    rw [Int.toNat_natCast]
    iterate 6 (first | refine xG_getI rfl (by exact rfl) (by exact rfl) ?_ | refine xG_getR rfl (by exact rfl) (by exact rfl) ?_ | refine xG_add rfl ?_ | refine xG_sub rfl ?_ | refine xG_mul rfl ?_ | refine xG_putI rfl (by exact rfl) (by exact rfl) ?_ | refine xG_go (fun _ => rfl) ?_)
    have key := ik (j + 1) (mv_up N 118 j (cM M j (dgt nm (nc (cM M) (vt M) nm 0 0) j))) (some (mI (vt M j + dgt nm (nc (cM M) (vt M) nm 0 0) j))) (by omega) (fun a ha => by rw [mv_upne (by omega), hN a ha]) (fun m' h1 h2 t h3 h4 => by rw [mv_upne (by omega), ht m' h1 h2 t h3 h4]) (by rw [em]; omega) (fun i hi => by
      by_cases w : i = j
      · rw [w, mv_up_at]
      · rw [mv_up_j w, hr i (by omega)])
    rw [em, Int.add_assoc] at key
    exact key
theorem c_fewestNuts {nm : Nat} (hl : lok M) (hd : dok (dv M 29)) (n6 : nm ≤ 6) (en : M 4 2 = nm) : xC sc (d + 7) n_Briber_fewestNuts [mR 109, mR 29] M (fun r N => far M N ∧ r = some (mI (if fw (cM M) (vt M) nm 0 0 < 1000 then fw (cM M) (vt M) nm 0 0 else -9)) ∧ (fw (cM M) (vt M) nm 0 0 < 1000 → ∀ i, i < nm → N 118 i = cM M i (dgt nm (nc (cM M) (vt M) nm 0 0) i))) := by
  have ok := cM_ok hd
  have f1 := fw_in (c := cM M) (v := vt M) nm 0 0
  have f2 := fw_ge ok nm 0 0
  refine xC_in rfl rfl (by simp; decide) ?_
  iterate 5 (first | refine xG_getI rfl (by exact rfl) (by exact rfl) ?_ | refine xG_getR rfl (by exact rfl) (by exact rfl) ?_ | refine xG_add rfl ?_ | refine xG_sub rfl ?_ | refine xG_mul rfl ?_ | refine xG_putI rfl (by exact rfl) (by exact rfl) ?_ | refine xG_go (fun _ => rfl) ?_)
  rw [en]
  refine l_fn1 n6 en (fun N x2 g1 g2 => ?_) (2 * nm + 1) (-(nm : Int)) M (by omega) (by omega) (fun _ _ => rfl) (fun t h1 h2 => absurd h1 (by omega))
  iterate 6 (first | refine xG_getI rfl (by exact rfl) (by exact rfl) ?_ | refine xG_getR rfl (by exact rfl) (by exact rfl) ?_ | refine xG_add rfl ?_ | refine xG_sub rfl ?_ | refine xG_mul rfl ?_ | refine xG_putI rfl (by exact rfl) (by exact rfl) ?_ | refine xG_go (fun _ => rfl) ?_)
  rw [g1 4 (by decide), en]
  refine l_fn3 (d := d + 1) hl hd n6 (fun N x2 x3 x4 g1 g2 => ?_) nm N _ _ (Nat.le_refl _) g1 g2
  iterate 3 (first | refine xG_getI rfl (by exact rfl) (by exact rfl) ?_ | refine xG_getR rfl (by exact rfl) (by exact rfl) ?_ | refine xG_add rfl ?_ | refine xG_sub rfl ?_ | refine xG_mul rfl ?_ | refine xG_putI rfl (by exact rfl) (by exact rfl) ?_ | refine xG_go (fun _ => rfl) ?_)
  refine xG_aald rfl (by exact rfl) (Or.inr rfl) (by decide) (by exact rfl) ?_
  iterate 1 (first | refine xG_getI rfl (by exact rfl) (by exact rfl) ?_ | refine xG_getR rfl (by exact rfl) (by exact rfl) ?_ | refine xG_add rfl ?_ | refine xG_sub rfl ?_ | refine xG_mul rfl ?_ | refine xG_putI rfl (by exact rfl) (by exact rfl) ?_ | refine xG_go (fun _ => rfl) ?_)
  refine xG_ald rfl (by exact rfl) (by decide) ?_
  rw [show N 111 (6 : Int).toNat = fw (cM M) (vt M) nm 0 0 from g2 0 (by omega) (by omega) 0 (by omega) (by omega)]
  iterate 3 (first | refine xG_getI rfl (by exact rfl) (by exact rfl) ?_ | refine xG_getR rfl (by exact rfl) (by exact rfl) ?_ | refine xG_add rfl ?_ | refine xG_sub rfl ?_ | refine xG_mul rfl ?_ | refine xG_putI rfl (by exact rfl) (by exact rfl) ?_ | refine xG_go (fun _ => rfl) ?_)
  refine xb_lt rfl (by omega) (by omega) (fun c1 => ?_) (fun c1 => ?_)
  · rw [if_pos c1]
    iterate 2 (first | refine xG_getI rfl (by exact rfl) (by exact rfl) ?_ | refine xG_getR rfl (by exact rfl) (by exact rfl) ?_ | refine xG_add rfl ?_ | refine xG_sub rfl ?_ | refine xG_mul rfl ?_ | refine xG_putI rfl (by exact rfl) (by exact rfl) ?_ | refine xG_go (fun _ => rfl) ?_)
    have ks : xC sc (d + 6) n_Briber_sharesOut [mR 109, mR 29] N (fun r N' => r = none ∧ far M N' ∧ ∀ i, i < nm → N' 118 i = cM M i (dgt nm (nc (cM M) (vt M) nm 0 0) i)) := by
      refine xC_in rfl rfl (by simp; decide) ?_
      iterate 4 (first | refine xG_getI rfl (by exact rfl) (by exact rfl) ?_ | refine xG_getR rfl (by exact rfl) (by exact rfl) ?_ | refine xG_add rfl ?_ | refine xG_sub rfl ?_ | refine xG_mul rfl ?_ | refine xG_putI rfl (by exact rfl) (by exact rfl) ?_ | refine xG_go (fun _ => rfl) ?_)
      exact l_share (d := d) hl hd n6 en nm 0 N _ (by omega) g1 g2 (by simp [mgc]) (fun i hi => absurd hi (by omega))
    refine xV2 rfl (by exact rfl) (by simp) ks (fun r N' hq => ?_)
    obtain ⟨rfl, g3, g4⟩ := hq
    iterate 1 (first | refine xG_getI rfl (by exact rfl) (by exact rfl) ?_ | refine xG_getR rfl (by exact rfl) (by exact rfl) ?_ | refine xG_add rfl ?_ | refine xG_sub rfl ?_ | refine xG_mul rfl ?_ | refine xG_putI rfl (by exact rfl) (by exact rfl) ?_ | refine xG_go (fun _ => rfl) ?_)
    exact xG_ret (fun _ => rfl) ⟨g3, rfl, fun _ => g4⟩
  · rw [if_neg c1]
    iterate 1 (first | refine xG_getI rfl (by exact rfl) (by exact rfl) ?_ | refine xG_getR rfl (by exact rfl) (by exact rfl) ?_ | refine xG_add rfl ?_ | refine xG_sub rfl ?_ | refine xG_mul rfl ?_ | refine xG_putI rfl (by exact rfl) (by exact rfl) ?_ | refine xG_go (fun _ => rfl) ?_)
    exact xG_ret (fun _ => rfl) ⟨g1, rfl, fun z => absurd z c1⟩
end ZE
