/-! THE LAW ANSWERS TRUE -/
theorem left_ok (sc : Nat × (Nat → Int)) : left sc := fun c M h => ⟨b_kingdom h, fun x hx => b_plan hx h, fun x hx => b_bribes hx h, fun x z hx hz => b_odds hx hz h, fun x z hx hz => b_can hx hz h, b_next h⟩
theorem ini_R {M : mv_M} (h : ichk M = true) : R 0 M := by
  have z : ∀ a n, (a, n) ∈ irows → (a ≠ 4 ∧ a ≠ 17 ∧ a ≠ 143) → ∀ i, i < n → M a i = 0 := fun a n hm ha i hi => by
    rw [ichk_at h hm hi]
    unfold ixp
    rw [if_neg (by omega)]
  have z4 : ∀ i, i < 4 → M 4 i = if i < 2 then 3 else 0 := fun i hi => by
    rw [ichk_at h (show (4, 4) ∈ irows by decide) hi]
    unfold ixp
    by_cases w : i < 2
    · rw [if_pos w, if_pos ⟨Or.inl rfl, w⟩]
    · rw [if_neg w, if_neg (fun y => w y.2)]
  have zm : ∀ i, i < 30 → M 143 i = if i < 2 then 3 else 0 := fun i hi => by
    rw [ichk_at h (show (143, 30) ∈ irows by decide) hi]
    unfold ixp
    by_cases w : i < 2
    · rw [if_pos w, if_pos ⟨Or.inr (Or.inr rfl), w⟩]
    · rw [if_neg w, if_neg (fun y => w y.2)]
  have a0 : M 4 0 = 3 := z4 0 (by decide)
  have a1 : M 4 1 = 3 := z4 1 (by decide)
  have a2 : M 4 2 = 0 := z4 2 (by decide)
  have a3 : M 4 3 = 0 := z4 3 (by decide)
  have b0 : M 143 0 = 3 := zm 0 (by decide)
  have b1 : M 143 1 = 3 := zm 1 (by decide)
  have b2 : M 143 2 = 0 := zm 2 (by decide)
  have b6 : M 143 6 = 0 := zm 6 (by decide)
  have b9 : M 143 9 = 0 := zm 9 (by decide)
  have b12 : M 143 12 = 0 := zm 12 (by decide)
  have b14 : M 143 14 = 0 := zm 14 (by decide)
  have b16 : M 143 16 = 0 := zm 16 (by decide)
  have l8 : ∀ m t, m < 6 → t < 4 → M (8 + m) t = 0 := by
    intro m t hm ht
    rcases (show m = 0 ∨ m = 1 ∨ m = 2 ∨ m = 3 ∨ m = 4 ∨ m = 5 by omega) with rfl | rfl | rfl | rfl | rfl | rfl <;> exact z _ 4 (by decide) (by decide) t ht
  have l21 : ∀ m t, m < 6 → t < 4 → M (21 + m) t = 0 := by
    intro m t hm ht
    rcases (show m = 0 ∨ m = 1 ∨ m = 2 ∨ m = 3 ∨ m = 4 ∨ m = 5 by omega) with rfl | rfl | rfl | rfl | rfl | rfl <;> exact z _ 4 (by decide) (by decide) t ht
  have d0 : ∀ i, i < 21 → dv M 29 i = 0 := dv_21 (g := fun _ => 0) (z 29 8 (by decide) (by decide) 5 (by decide)) (z 29 8 (by decide) (by decide) 6 (by decide)) (z 29 8 (by decide) (by decide) 7 (by decide)) (fun m hm => z 30 6 (by decide) (by decide) m hm) (fun m hm => z 31 6 (by decide) (by decide) m hm) (fun m hm => z 32 3 (by decide) (by decide) m hm) (fun m hm => z 33 3 (by decide) (by decide) m hm)
  have e0 : ∀ i, i < 21 → M 147 i = 0 := z 147 21 (by decide) (by decide)
  have dk : ∀ g : Nat → Int, (∀ i, i < 21 → g i = 0) → dok g := by
    intro g hg
    refine ⟨?_, ?_, ?_, fun m hm => ?_, fun m hm => ?_, fun m hm => ?_, fun m hm => ?_⟩
    · rw [hg 0 (by omega)]; decide
    · rw [hg 1 (by omega)]; decide
    · rw [hg 2 (by omega)]; decide
    · rw [hg (3 + m) (by omega)]; decide
    · rw [hg (9 + m) (by omega)]; decide
    · rw [hg (15 + m) (by omega)]; decide
    · rw [hg (18 + m) (by omega)]; decide
  refine ⟨⟨⟨by omega, by omega, by omega, by omega, fun m hm => ?_, fun m hm => ?_, fun m t hm ht => ?_, fun o ho => ?_, fun o ho => ?_⟩, ⟨by omega, by omega, by omega, by omega, fun m hm => ?_, fun m hm => ?_, fun k hk => ?_⟩, by omega, by omega, by omega, by omega, fun m hm => absurd hm (by omega)⟩, ⟨dk _ d0, dk _ e0, fun k hk => by rw [d0 k (by omega), e0 k (by omega)], fun o ho => absurd ho (by omega)⟩, ⟨0, 0, by decide, by decide, ?_, ?_, b9, fun i hi => absurd hi (by omega)⟩, fun i hi => ?_, ⟨0, by decide, ?_, b12, fun i hi => absurd hi (by omega)⟩, ⟨0, by decide, ?_, b16, fun i hi => absurd hi (by omega)⟩, ⟨?_, ?_, ?_⟩, ?_⟩
  · rw [z 5 6 (by decide) (by decide) m hm]; decide
  · rw [z 6 6 (by decide) (by decide) m hm]; decide
  · rw [l8 m t hm ht]; decide
  · rw [z 14 3 (by decide) (by decide) o ho]; decide
  · rw [z 15 3 (by decide) (by decide) o ho]; decide
  · rw [z 144 6 (by decide) (by decide) m hm]; decide
  · rw [z 145 6 (by decide) (by decide) m hm]; decide
  · rw [z 146 24 (by decide) (by decide) k hk]; decide
  · exact z 34 3 (by decide) (by decide) 1 (by decide)
  · exact z 34 3 (by decide) (by decide) 2 (by decide)
  · have y3 := z 3 2 (by decide) (by decide) i hi
    have y5 := z 150 2 (by decide) (by decide) i hi
    exact ⟨by rw [y3, y5], Or.inl y3, fun w => by rw [y3] at w; cases w⟩
  · exact z 120 5 (by decide) (by decide) 4 (by decide)
  · exact z 0 2 (by decide) (by decide) 1 (by decide)
  · rw [b14, z 132 3 (by decide) (by decide) 2 (by decide)]
  · rw [z 132 3 (by decide) (by decide) 2 (by decide)]; decide
  · rw [z 132 3 (by decide) (by decide) 2 (by decide)]; omega
  · refine ⟨fun m hm => ⟨?_, ?_, fun t ht => ?_⟩, fun o ho => ⟨?_, ?_⟩, fun m hm => ⟨?_, ?_⟩, fun k hk => ?_, fun o ho => ⟨?_, ?_⟩, ?_⟩
    · rw [z 18 6 (by decide) (by decide) m hm]; decide
    · rw [z 19 6 (by decide) (by decide) m hm]; decide
    · rw [l21 m t hm ht]; decide
    · rw [z 27 3 (by decide) (by decide) o ho]; decide
    · rw [z 28 3 (by decide) (by decide) o ho]; decide
    · rw [z 153 6 (by decide) (by decide) m hm]; decide
    · rw [z 154 6 (by decide) (by decide) m hm]; decide
    · rw [z 155 24 (by decide) (by decide) k hk]; decide
    · rw [z 156 3 (by decide) (by decide) o ho]; decide
    · rw [z 157 3 (by decide) (by decide) o ho]; decide
    · rw [z 16 6 (by decide) (by decide) 2 (by decide)]; decide
theorem run_st {st : mv_F → mv_O} {n : Nat} {f f' : mv_F} (h : st f = some (.inl f')) : mv_run st (n + 1) f = mv_run st n f' := by
  unfold mv_run
  rw [h]
  cases n <;> rfl
theorem ini_spec (sc : Nat × (Nat → Int)) : ∃ (K : List mv_K) (M M2 : mv_M), mv_ev mv_df mv_mt sc 400 30 0 [mR 0] ([.inr (.inr (9, mv_df 9))], mv_new (fun _ _ => 0) 0) = some (none, (K, M)) ∧ K.length = 143 ∧ mv_ev mv_df mv_mt sc 400 30 94 [mR 143] (K ++ [.inr (.inr (10, mv_df 10))], mv_new M 143) = some (none, (SK, M2)) ∧ ichk M2 = true := by
  have h := ini_ok
  unfold ini at h
  split at h
  · rename_i K M e1
    simp only [Bool.and_eq_true] at h
    obtain ⟨h1, h2⟩ := h
    split at h2
    · rename_i K2 M2 e2
      simp only [Bool.and_eq_true] at h2
      have eK : K2 = SK := of_decide_eq_true h2.1
      rw [eK] at e2
      exact ⟨K, M, M2, ev_ns 30 _ _ _ _ e1, of_decide_eq_true h1, ev_ns 30 _ _ _ _ e2, h2.2⟩
    · cases h2
  · cases h
set_option maxRecDepth 100000 in
theorem mv_main (L : Nat) (xs : Nat → Int32) (hL : L ≤ 2048) : ∃ (n : Nat) (h' : mv_H), mv_ev mv_df mv_mt (L, fun j => (xs j).toInt) n 31 157 [mR 9999] ([], fun _ _ => 0) = some (some (mI 1), h') ∧ h'.1.length ≤ 600000 ∧ mv_sl h'.1 ≤ 7302250 := by
  have hs : ∀ j, mv_in ((xs j).toInt) := fun j => by
    have h1 := Int32.le_toInt (xs j)
    have h2 := Int32.toInt_lt (xs j)
    omega
  obtain ⟨K, M, M2, e1, e2, e3, e4⟩ := ini_spec (L, fun j => (xs j).toInt)
  have law := l_law (sc := (L, fun j => (xs j).toInt)) (n := L) rfl hL hs (left_ok _) L 0 M2 (by omega) (by omega) (ini_R e4)
  obtain ⟨n, r, M', e5, e6⟩ := law
  refine ⟨n + 400 + 10, (SK, M'), ?_, by show SK.length ≤ 600000; decide, by show mv_sl SK ≤ 7302250; decide +kernel⟩
  have f1 := mv_ev_fuel (show 400 ≤ n + 400 + 10 by omega) 30 0 _ _ _ e1
  have f2 := mv_ev_fuel (show 400 ≤ n + 400 + 10 by omega) 30 94 _ _ _ e3
  have f5 := mv_run_fuel (y := y_Law_law) (fun y a h r e => mv_ev_fuel (show n ≤ n + 400 + 10 by omega) 30 y a h r e) n (n + 400) _ _ (by omega) e5
  rw [e6] at f5
  have rc : (K ++ [Sum.inr (Sum.inr (10, mv_df 10))] : List mv_K)[143]? = some (.inr (.inr (10, mv_df 10))) := by
    rw [← e2, List.getElem?_append_right (Nat.le_refl _), Nat.sub_self]
    rfl
  unfold mv_ev
  show mv_run (mv_at mv_df (L, fun j => (xs j).toInt) (mv_ev mv_df mv_mt (L, fun j => (xs j).toInt) (n + 400 + 10) 30) y_Law_law) (n + 400 + 10) (0, [some (mR 9999), none, none, none], [], ([], fun _ _ => 0)) = _
  generalize hcall : mv_ev mv_df mv_mt (L, fun j => (xs j).toInt) (n + 400 + 10) 30 = call at f1 f2 f5 ⊢
  rw [run_st (f' := (3, [some (mR 9999), none, none, none], [mR 0], ([.inr (.inr (9, mv_df 9))], mv_new (fun _ _ => 0) 0))) rfl]
  rw [run_st (f' := (4, [some (mR 9999), none, none, none], [mR 0, mR 0], ([.inr (.inr (9, mv_df 9))], mv_new (fun _ _ => 0) 0))) rfl]
  rw [run_st (f' := (7, [some (mR 9999), none, none, none], [mR 0], (K, M))) (by
    show mv_call call 0 1 7 _ [mR 0, mR 0] _ = _
    unfold mv_call
    rw [if_pos ⟨by decide, Or.inl (by decide)⟩]
    show (match call 0 [mR 0] _ with | some (r, h') => mv_nx 7 _ (r.toList ++ [mR 0]) h' | none => none) = _
    rw [f1]
    rfl)]
  rw [run_st (f' := (8, [some (mR 9999), some (mR 0), none, none], [], (K, M))) rfl]
  rw [run_st (f' := (11, [some (mR 9999), some (mR 0), none, none], [mR 143], (K ++ [.inr (.inr (10, mv_df 10))], mv_new M 143))) (by
    show (if K.length ≤ 5000 then mv_nx 11 _ (mR K.length :: []) (K ++ [.inr (.inr (10, mv_df 10))], mv_new M K.length) else none) = _
    rw [e2, if_pos (by decide)]
    rfl)]
  rw [run_st (f' := (12, [some (mR 9999), some (mR 0), none, none], [mR 143, mR 143], (K ++ [.inr (.inr (10, mv_df 10))], mv_new M 143))) rfl]
  rw [run_st (f' := (15, [some (mR 9999), some (mR 0), none, none], [mR 143], (SK, M2))) (by
    show (if mv_recv 10 0 [mR 143, mR 143] (K ++ [.inr (.inr (10, mv_df 10))], mv_new M 143) = true then mv_call call 94 1 15 _ [mR 143, mR 143] _ else none) = _
    have hrc : mv_recv 10 0 [mR 143, mR 143] (K ++ [.inr (.inr (10, mv_df 10))], mv_new M 143) = true := by
      simp [mv_recv, rc]
    rw [if_pos hrc]
    unfold mv_call
    rw [if_pos ⟨by decide, Or.inl (by decide)⟩]
    show (match call 94 [mR 143] _ with | some (r, h') => mv_nx 15 _ (r.toList ++ [mR 143]) h' | none => none) = _
    rw [f2]
    rfl)]
  rw [run_st (f' := (16, [some (mR 9999), some (mR 0), some (mR 143), none], [], (SK, M2))) rfl]
  rw [run_st (f' := (17, [some (mR 9999), some (mR 0), some (mR 143), none], [mI 0], (SK, M2))) rfl]
  rw [run_st (f' := (18, [some (mR 9999), some (mR 0), some (mR 143), some (mI 0)], [], (SK, M2))) rfl]
  exact f5
