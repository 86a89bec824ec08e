/-! THE CONSTRUCTORS: they never look at the script -/
def mv_ns (e : mv_E) : Bool := match e.1 with
  | .iaload => false
  | .caload => false
  | .baload => false
  | .arraylength => false
  | _ => true
def mv_mt0 (k : Nat) : Option mv_Y := match mv_mt k with
  | some y => if y.2.2.all (fun q => mv_ns q.2) = true then some y else none
  | none => none
theorem stp_ns {df : Nat → List Nat} {sc sc' : Nat × (Nat → Int)} {call : Nat → List mv_V → mv_H → Option (Option mv_V × mv_H)} {i : Instr} {len a b : Nat} {z : Int} {f : mv_F} (h : mv_ns (i, len, a, b, z) = true) : mv_stp df sc call (i, len, a, b, z) f = mv_stp df sc' call (i, len, a, b, z) f := by
  obtain ⟨pc, L, S, hh⟩ := f
  cases i with
  | iaload => cases h
  | caload => cases h
  | baload => cases h
  | arraylength => cases h
  | _ => rfl
theorem find_mem : ∀ {l : List (Nat × mv_E)} {pc : Nat} {e : mv_E}, mv_find l pc = some e → ∃ k, (k, e) ∈ l
  | [], _, _, h => by cases h
  | (k, e') :: l, pc, e, h => by
    simp only [mv_find] at h
    by_cases w : k = pc
    · rw [if_pos w] at h
      cases h
      exact ⟨k, List.mem_cons_self⟩
    · rw [if_neg w] at h
      obtain ⟨k', hk⟩ := find_mem h
      exact ⟨k', List.mem_cons_of_mem _ hk⟩
theorem run_ns {df : Nat → List Nat} {sc sc' : Nat × (Nat → Int)} {call call' : Nat → List mv_V → mv_H → Option (Option mv_V × mv_H)} (hc : ∀ y a h r, call y a h = some r → call' y a h = some r) {y : mv_Y} (hy : y.2.2.all (fun q => mv_ns q.2) = true) : ∀ (n : Nat) (f : mv_F) (r : Option mv_V × mv_H), mv_run (mv_at df sc call y) n f = some r → mv_run (mv_at df sc' call' y) n f = some r
  | 0, f, r, e => by cases e
  | n + 1, f, r, e => by
    have key : ∀ o, mv_at df sc call y f = some o → mv_at df sc' call' y f = some o := by
      intro o e0
      unfold mv_at at e0 ⊢
      split at e0
      · rename_i en hen
        obtain ⟨i, len, a, b, z⟩ := en
        obtain ⟨k, hk⟩ := find_mem hen
        have hn := List.all_eq_true.mp hy _ hk
        rw [stp_ns (sc' := sc') hn] at e0
        exact mv_stp_fuel hc e0
      · cases e0
    unfold mv_run at e ⊢
    split at e
    · cases e
    · rename_i r0 e0
      rw [key _ e0]
      exact e
    · rename_i f' e0
      rw [key _ e0]
      exact run_ns hc hy n f' r e
theorem ev_ns {sc sc' : Nat × (Nat → Int)} {n : Nat} : ∀ (d k : Nat) (args : List mv_V) (h : mv_H) (r : Option mv_V × mv_H), mv_ev mv_df mv_mt0 sc n d k args h = some r → mv_ev mv_df mv_mt sc' n d k args h = some r
  | 0, k, args, h, r, e => by cases e
  | d + 1, k, args, h, r, e => by
    unfold mv_ev at e ⊢
    have hm : ∀ y, mv_mt0 k = some y → mv_mt k = some y ∧ y.2.2.all (fun q => mv_ns q.2) = true := by
      intro y hy
      unfold mv_mt0 at hy
      split at hy
      · rename_i y' ey
        by_cases w : y'.2.2.all (fun q => mv_ns q.2) = true
        · rw [if_pos w] at hy
          cases hy
          exact ⟨ey, w⟩
        · rw [if_neg w] at hy
          cases hy
      · cases hy
    split at e
    · cases e
    · rename_i y ey
      obtain ⟨m1, m2⟩ := hm y ey
      rw [m1]
      simp only
      split at e
      · rename_i hc
        rw [if_pos hc]
        exact run_ns (fun y a h r e => ev_ns d y a h r e) m2 n _ r e
      · cases e
/-! what the memory is behind them -/
def ixp (a i : Nat) : Int := if (a = 4 ∨ a = 17 ∨ a = 143) ∧ i < 2 then 3 else 0
def irows : List (Nat × Nat) := [(0, 2), (3, 2), (4, 4), (5, 6), (6, 6), (8, 4), (9, 4), (10, 4), (11, 4), (12, 4), (13, 4), (14, 3), (15, 3), (16, 6), (18, 6), (19, 6), (21, 4), (22, 4), (23, 4), (24, 4), (25, 4), (26, 4), (27, 3), (28, 3), (29, 8), (30, 6), (31, 6), (32, 3), (33, 3), (34, 3), (120, 5), (132, 3), (143, 30), (144, 6), (145, 6), (146, 24), (147, 21), (150, 2), (153, 6), (154, 6), (155, 24), (156, 3), (157, 3)]
def ichk (M : mv_M) : Bool := irows.all (fun q => (List.range q.2).all (fun i => decide (M q.1 i = ixp q.1 i)))
theorem ichk_at {M : mv_M} (h : ichk M = true) {a n i : Nat} (hm : (a, n) ∈ irows) (hi : i < n) : M a i = ixp a i := by
  have h1 := List.all_eq_true.mp h _ hm
  have h2 := List.all_eq_true.mp h1 i (List.mem_range.mpr hi)
  exact of_decide_eq_true h2
def ini : Bool := match mv_ev mv_df mv_mt0 (0, fun _ => 0) 400 30 0 [mR 0] ([.inr (.inr (9, mv_df 9))], mv_new (fun _ _ => 0) 0) with
  | some (none, (K, M)) => decide (K.length = 143) && match mv_ev mv_df mv_mt0 (0, fun _ => 0) 400 30 94 [mR 143] (K ++ [.inr (.inr (10, mv_df 10))], mv_new M 143) with
    | some (none, (K2, M2)) => decide (K2 = SK) && ichk M2
    | _ => false
  | _ => false
theorem ini_ok : ini = true := by decide +kernel
