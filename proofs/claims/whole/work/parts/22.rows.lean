/-! MORE FUEL, THE SAME ANSWER -/
theorem mv_stp_fuel {df : Nat → List Nat} {sc : Nat × (Nat → Int)} {call call' : Nat → List mv_V → mv_H → Option (Option mv_V × mv_H)} (hc : ∀ y a h r, call y a h = some r → call' y a h = some r) {i : Instr} {len a b : Nat} {z : Int} {f : mv_F} {o : mv_F ⊕ (Option mv_V × mv_H)}
    (e : mv_stp df sc call (i, len, a, b, z) f = some o) : mv_stp df sc call' (i, len, a, b, z) f = some o := by
  obtain ⟨pc, L, S, h⟩ := f
  have key : ∀ (y n pc : Nat), mv_call call y n pc L S h = some o → mv_call call' y n pc L S h = some o := by
    intro y n pc e
    unfold mv_call at e ⊢
    split at e
    · rename_i hs
      rw [if_pos hs]
      split at e
      · rename_i r h' e1
        rw [hc _ _ _ _ e1]
        exact e
      · cases e
    · cases e
  cases i with
  | invokestatic k =>
    simp only [mv_stp] at e ⊢
    by_cases q1 : a = 998
    · rw [if_pos q1] at e ⊢; exact e
    · rw [if_neg q1] at e ⊢
      by_cases q2 : a = 997
      · rw [if_pos q2] at e ⊢; exact e
      · rw [if_neg q2] at e ⊢
        by_cases q3 : a = 996
        · rw [if_pos q3] at e ⊢; exact e
        · rw [if_neg q3] at e ⊢
          exact key _ _ _ e
  | invokevirtual k =>
    simp only [mv_stp] at e ⊢
    by_cases q : mv_recv z.toNat b S h = true
    · rw [if_pos q] at e ⊢
      exact key _ _ _ e
    · rw [if_neg q] at e
      cases e
  | invokespecial k =>
    simp only [mv_stp] at e ⊢
    by_cases q1 : a = 999
    · rw [if_pos q1] at e ⊢
      exact e
    · rw [if_neg q1] at e ⊢
      by_cases q : mv_recv z.toNat b S h = true
      · rw [if_pos q] at e ⊢
        exact key _ _ _ e
      · rw [if_neg q] at e
        cases e
  | _ => exact e
theorem mv_run_fuel {df : Nat → List Nat} {sc : Nat × (Nat → Int)} {call call' : Nat → List mv_V → mv_H → Option (Option mv_V × mv_H)} (hc : ∀ y a h r, call y a h = some r → call' y a h = some r) {y : mv_Y} : ∀ (n n' : Nat) (f : mv_F) (r : Option mv_V × mv_H), n ≤ n' → mv_run (mv_at df sc call y) n f = some r → mv_run (mv_at df sc call' y) n' f = some r
  | 0, n', f, r, _, e => by cases e
  | n + 1, 0, f, r, h, e => absurd h (by omega)
  | n + 1, n' + 1, f, r, h, e => by
    unfold mv_run at e ⊢
    split at e
    · cases e
    · rename_i r0 e0
      have e1 : mv_at df sc call' y f = some (.inr r0) := by
        unfold mv_at at e0 ⊢
        split at e0
        · rename_i en hen
          obtain ⟨i, len, a, b, z⟩ := en
          exact mv_stp_fuel hc e0
        · cases e0
      rw [e1]
      exact e
    · rename_i f' e0
      have e1 : mv_at df sc call' y f = some (.inl f') := by
        unfold mv_at at e0 ⊢
        split at e0
        · rename_i en hen
          obtain ⟨i, len, a, b, z⟩ := en
          exact mv_stp_fuel hc e0
        · cases e0
      rw [e1]
      exact mv_run_fuel hc n n' f' r (by omega) e
theorem mv_ev_fuel {df : Nat → List Nat} {mt : Nat → Option mv_Y} {sc : Nat × (Nat → Int)} {n n' : Nat} (hn : n ≤ n') : ∀ (d k : Nat) (args : List mv_V) (h : mv_H) (r : Option mv_V × mv_H), mv_ev df mt sc n d k args h = some r → mv_ev df mt sc n' d k args h = some r
  | 0, k, args, h, r, e => by cases e
  | d + 1, k, args, h, r, e => by
    unfold mv_ev at e ⊢
    split at e
    · cases e
    · split at e
      · rename_i hc
        rw [if_pos hc]
        exact mv_run_fuel (fun y a h r e => mv_ev_fuel hn d y a h r e) n n' _ r hn e
      · cases e
/-! THE ROWS: a method's run over the skeleton SK, goal first -/
/-- from the frame f on the method y comes to an answer and a memory with Q; calls at most d deep -/
def xG (sc : Nat × (Nat → Int)) (d : Nat) (y : mv_Y) (pc : Nat) (L : mv_L) (S : List mv_V) (M : mv_M) (Q : Option mv_V → mv_M → Prop) : Prop := ∃ (n : Nat) (r : Option mv_V) (M' : mv_M), mv_run (mv_at mv_df sc (mv_ev mv_df mv_mt sc n d) y) n (pc, L, S, (SK, M)) = some (r, (SK, M')) ∧ Q r M'
/-- the method of number k, called -/
def xC (sc : Nat × (Nat → Int)) (d k : Nat) (args : List mv_V) (M : mv_M) (Q : Option mv_V → mv_M → Prop) : Prop := ∃ (n : Nat) (r : Option mv_V) (M' : mv_M), mv_ev mv_df mv_mt sc n d k args (SK, M) = some (r, (SK, M')) ∧ Q r M'
section XR
variable {sc : Nat × (Nat → Int)} {d : Nat} {y : mv_Y} {pc : Nat} {L : mv_L} {S : List mv_V} {Q : Option mv_V → mv_M → Prop} {M : mv_M}
theorem xC_in {k : Nat} {args : List mv_V} (hk : mv_mt k = some y) (ha : args.all mv_c1 = true) (hl : args.length ≤ y.1.2.2.1) (h : xG sc d y 0 (args.map some ++ List.replicate (y.1.2.2.1 - args.length) none) [] M Q) : xC sc (d + 1) k args M Q := by
  obtain ⟨n, r, M', e, q⟩ := h
  refine ⟨n, r, M', ?_, q⟩
  unfold mv_ev
  rw [hk]
  simp only
  rw [if_pos ⟨ha, hl⟩]
  exact e
theorem xC_mono {k : Nat} {args : List mv_V} {Q' : Option mv_V → mv_M → Prop} (h : xC sc d k args M Q) (hq : ∀ r M', Q r M' → Q' r M') : xC sc d k args M Q' := by
  obtain ⟨n, r, M', e, q⟩ := h
  exact ⟨n, r, M', e, hq _ _ q⟩
theorem xG_mono {Q' : Option mv_V → mv_M → Prop} (h : xG sc d y pc L S M Q) (hq : ∀ r M', Q r M' → Q' r M') : xG sc d y pc L S M Q' := by
  obtain ⟨n, r, M', e, q⟩ := h
  exact ⟨n, r, M', e, hq _ _ q⟩
theorem xG_st {pc1 : Nat} {L1 : mv_L} {S1 : List mv_V} {M1 : mv_M} (h : ∀ call, mv_at mv_df sc call y (pc, L, S, (SK, M)) = some (.inl (pc1, L1, S1, (SK, M1)))) (k : xG sc d y pc1 L1 S1 M1 Q) : xG sc d y pc L S M Q := by
  obtain ⟨n, r, M', e, q⟩ := k
  refine ⟨n + 1, r, M', ?_, q⟩
  unfold mv_run
  rw [h]
  exact mv_run_fuel (fun y a h r e => mv_ev_fuel (Nat.le_succ n) d y a h r e) n n _ _ (Nat.le_refl n) e
theorem xG_go {pc1 : Nat} {L1 : mv_L} {S1 : List mv_V} (h : ∀ call, mv_at mv_df sc call y (pc, L, S, (SK, M)) = some (.inl (pc1, L1, S1, (SK, M)))) (k : xG sc d y pc1 L1 S1 M Q) : xG sc d y pc L S M Q := xG_st h k
theorem xG_ret {r : Option mv_V} (h : ∀ call, mv_at mv_df sc call y (pc, L, S, (SK, M)) = some (.inr (r, (SK, M)))) (q : Q r M) : xG sc d y pc L S M Q := by
  refine ⟨1, r, M, ?_, q⟩
  unfold mv_run
  rw [h]
theorem mv_at_of {call : Nat → List mv_V → mv_H → Option (Option mv_V × mv_H)} {e : mv_E} {h : mv_H} (hf : mv_find y.2.2 pc = some e) : mv_at mv_df sc call y (pc, L, S, h) = mv_stp mv_df sc call e (pc, L, S, h) := by
  unfold mv_at
  rw [show (pc, L, S, h).1 = pc from rfl, hf]
theorem xG_by {e : mv_E} {pc1 : Nat} {L1 : mv_L} {S1 : List mv_V} {M1 : mv_M} (hf : mv_find y.2.2 pc = some e) (hs : ∀ call, mv_stp mv_df sc call e (pc, L, S, (SK, M)) = some (.inl (pc1, L1, S1, (SK, M1)))) (k : xG sc d y pc1 L1 S1 M1 Q) : xG sc d y pc L S M Q := xG_st (fun call => (mv_at_of hf).trans (hs call)) k
theorem xG_if {cd : Jvm.ClassFile.Cond} {o : Int} {a b len : Nat} {z0 x : Int} (hf : mv_find y.2.2 pc = some (.ifCond cd o, len, a, b, z0)) (hx : mv_in x) (kt : mv_cmp cd x 0 = true → xG sc d y a L S M Q) (kf : mv_cmp cd x 0 = false → xG sc d y (pc + len) L S M Q) : xG sc d y pc L (mI x :: S) M Q := by
  cases hc : mv_cmp cd x 0 with
  | true => exact xG_by hf (fun call => by simp [mv_stp, mv_br, hx, hc, mv_nx]) (kt hc)
  | false => exact xG_by hf (fun call => by simp [mv_stp, mv_br, hx, hc, mv_nx]) (kf hc)
theorem xG_ic {cd : Jvm.ClassFile.Cond} {o : Int} {a b len : Nat} {z0 x z : Int} (hf : mv_find y.2.2 pc = some (.if_icmp cd o, len, a, b, z0)) (hx : mv_in x) (hz : mv_in z) (kt : mv_cmp cd x z = true → xG sc d y a L S M Q) (kf : mv_cmp cd x z = false → xG sc d y (pc + len) L S M Q) : xG sc d y pc L (mI z :: mI x :: S) M Q := by
  cases hc : mv_cmp cd x z with
  | true => exact xG_by hf (fun call => by simp [mv_stp, mv_br, hx, hz, hc, mv_nx]) (kt hc)
  | false => exact xG_by hf (fun call => by simp [mv_stp, mv_br, hx, hz, hc, mv_nx]) (kf hc)
theorem xi_eq {o : Int} {a b len : Nat} {z0 x : Int} (hf : mv_find y.2.2 pc = some (.ifCond .eq o, len, a, b, z0)) (hx : mv_in x) (kt : x = 0 → xG sc d y a L S M Q) (kf : ¬ x = 0 → xG sc d y (pc + len) L S M Q) : xG sc d y pc L (mI x :: S) M Q :=
  xG_if hf hx (fun q => kt (of_decide_eq_true q)) (fun q => kf (of_decide_eq_false q))
theorem xb_eq {o : Int} {a b len : Nat} {z0 x z : Int} (hf : mv_find y.2.2 pc = some (.if_icmp .eq o, len, a, b, z0)) (hx : mv_in x) (hz : mv_in z) (kt : x = z → xG sc d y a L S M Q) (kf : ¬ x = z → xG sc d y (pc + len) L S M Q) : xG sc d y pc L (mI z :: mI x :: S) M Q :=
  xG_ic hf hx hz (fun q => kt (of_decide_eq_true q)) (fun q => kf (of_decide_eq_false q))
theorem xi_ne {o : Int} {a b len : Nat} {z0 x : Int} (hf : mv_find y.2.2 pc = some (.ifCond .ne o, len, a, b, z0)) (hx : mv_in x) (kt : ¬ x = 0 → xG sc d y a L S M Q) (kf : x = 0 → xG sc d y (pc + len) L S M Q) : xG sc d y pc L (mI x :: S) M Q :=
  xG_if hf hx (fun q => kt (of_decide_eq_true q)) (fun q => kf (Decidable.not_not.mp (of_decide_eq_false q)))
theorem xb_ne {o : Int} {a b len : Nat} {z0 x z : Int} (hf : mv_find y.2.2 pc = some (.if_icmp .ne o, len, a, b, z0)) (hx : mv_in x) (hz : mv_in z) (kt : ¬ x = z → xG sc d y a L S M Q) (kf : x = z → xG sc d y (pc + len) L S M Q) : xG sc d y pc L (mI z :: mI x :: S) M Q :=
  xG_ic hf hx hz (fun q => kt (of_decide_eq_true q)) (fun q => kf (Decidable.not_not.mp (of_decide_eq_false q)))
theorem xi_lt {o : Int} {a b len : Nat} {z0 x : Int} (hf : mv_find y.2.2 pc = some (.ifCond .lt o, len, a, b, z0)) (hx : mv_in x) (kt : x < 0 → xG sc d y a L S M Q) (kf : ¬ x < 0 → xG sc d y (pc + len) L S M Q) : xG sc d y pc L (mI x :: S) M Q :=
  xG_if hf hx (fun q => kt (of_decide_eq_true q)) (fun q => kf (of_decide_eq_false q))
theorem xb_lt {o : Int} {a b len : Nat} {z0 x z : Int} (hf : mv_find y.2.2 pc = some (.if_icmp .lt o, len, a, b, z0)) (hx : mv_in x) (hz : mv_in z) (kt : x < z → xG sc d y a L S M Q) (kf : ¬ x < z → xG sc d y (pc + len) L S M Q) : xG sc d y pc L (mI z :: mI x :: S) M Q :=
  xG_ic hf hx hz (fun q => kt (of_decide_eq_true q)) (fun q => kf (of_decide_eq_false q))
theorem xi_ge {o : Int} {a b len : Nat} {z0 x : Int} (hf : mv_find y.2.2 pc = some (.ifCond .ge o, len, a, b, z0)) (hx : mv_in x) (kt : 0 ≤ x → xG sc d y a L S M Q) (kf : ¬ 0 ≤ x → xG sc d y (pc + len) L S M Q) : xG sc d y pc L (mI x :: S) M Q :=
  xG_if hf hx (fun q => kt (of_decide_eq_true q)) (fun q => kf (of_decide_eq_false q))
theorem xb_ge {o : Int} {a b len : Nat} {z0 x z : Int} (hf : mv_find y.2.2 pc = some (.if_icmp .ge o, len, a, b, z0)) (hx : mv_in x) (hz : mv_in z) (kt : z ≤ x → xG sc d y a L S M Q) (kf : ¬ z ≤ x → xG sc d y (pc + len) L S M Q) : xG sc d y pc L (mI z :: mI x :: S) M Q :=
  xG_ic hf hx hz (fun q => kt (of_decide_eq_true q)) (fun q => kf (of_decide_eq_false q))
theorem xi_gt {o : Int} {a b len : Nat} {z0 x : Int} (hf : mv_find y.2.2 pc = some (.ifCond .gt o, len, a, b, z0)) (hx : mv_in x) (kt : 0 < x → xG sc d y a L S M Q) (kf : ¬ 0 < x → xG sc d y (pc + len) L S M Q) : xG sc d y pc L (mI x :: S) M Q :=
  xG_if hf hx (fun q => kt (of_decide_eq_true q)) (fun q => kf (of_decide_eq_false q))
theorem xb_gt {o : Int} {a b len : Nat} {z0 x z : Int} (hf : mv_find y.2.2 pc = some (.if_icmp .gt o, len, a, b, z0)) (hx : mv_in x) (hz : mv_in z) (kt : z < x → xG sc d y a L S M Q) (kf : ¬ z < x → xG sc d y (pc + len) L S M Q) : xG sc d y pc L (mI z :: mI x :: S) M Q :=
  xG_ic hf hx hz (fun q => kt (of_decide_eq_true q)) (fun q => kf (of_decide_eq_false q))
theorem xi_le {o : Int} {a b len : Nat} {z0 x : Int} (hf : mv_find y.2.2 pc = some (.ifCond .le o, len, a, b, z0)) (hx : mv_in x) (kt : x ≤ 0 → xG sc d y a L S M Q) (kf : ¬ x ≤ 0 → xG sc d y (pc + len) L S M Q) : xG sc d y pc L (mI x :: S) M Q :=
  xG_if hf hx (fun q => kt (of_decide_eq_true q)) (fun q => kf (of_decide_eq_false q))
theorem xb_le {o : Int} {a b len : Nat} {z0 x z : Int} (hf : mv_find y.2.2 pc = some (.if_icmp .le o, len, a, b, z0)) (hx : mv_in x) (hz : mv_in z) (kt : x ≤ z → xG sc d y a L S M Q) (kf : ¬ x ≤ z → xG sc d y (pc + len) L S M Q) : xG sc d y pc L (mI z :: mI x :: S) M Q :=
  xG_ic hf hx hz (fun q => kt (of_decide_eq_true q)) (fun q => kf (of_decide_eq_false q))
theorem xG_ald {a b len n r : Nat} {z0 i : Int} (hf : mv_find y.2.2 pc = some (.iaload, len, a, b, z0)) (hk : SK[r]? = some (.inl (0, n))) (h0 : 0 ≤ i ∧ i < n ∧ n ≤ 1000) (kk : xG sc d y (pc + len) L (mI (M r i.toNat) :: S) M Q) : xG sc d y pc L (mI i :: mR r :: S) M Q := by
  refine xG_by hf (fun call => ?_) kk
  simp only [mv_stp, mv_ald, hk]
  rw [if_pos ⟨trivial, h0.1, h0.2.1, by omega, by omega⟩]
  rfl
theorem xG_bald {a b len n r : Nat} {z0 i : Int} (hf : mv_find y.2.2 pc = some (.baload, len, a, b, z0)) (hk : SK[r]? = some (.inl (2, n))) (h0 : 0 ≤ i ∧ i < n ∧ n ≤ 1000) (kk : xG sc d y (pc + len) L (mI (M r i.toNat) :: S) M Q) : xG sc d y pc L (mI i :: mR r :: S) M Q := by
  refine xG_by hf (fun call => ?_) kk
  simp only [mv_stp, mv_ald, hk]
  rw [if_pos ⟨trivial, h0.1, h0.2.1, by omega, by omega⟩]
  rfl
theorem xG_cald {a b len n r : Nat} {z0 i : Int} (hf : mv_find y.2.2 pc = some (.caload, len, a, b, z0)) (hk : SK[r]? = some (.inl (1, n))) (h0 : 0 ≤ i ∧ i < n ∧ n ≤ 1000) (kk : xG sc d y (pc + len) L (mI (M r i.toNat) :: S) M Q) : xG sc d y pc L (mI i :: mR r :: S) M Q := by
  refine xG_by hf (fun call => ?_) kk
  simp only [mv_stp, mv_ald, hk]
  rw [if_pos ⟨trivial, h0.1, h0.2.1, by omega, by omega⟩]
  rfl
theorem xG_sld {a b len : Nat} {z0 i : Int} (hf : mv_find y.2.2 pc = some (.iaload, len, a, b, z0)) (h0 : 0 ≤ i ∧ i < sc.1 ∧ sc.1 ≤ 100000) (kk : xG sc d y (pc + len) L (mI (sc.2 i.toNat) :: S) M Q) : xG sc d y pc L (mI i :: mR 9999 :: S) M Q := by
  refine xG_by hf (fun call => ?_) kk
  have hk : SK[9999]? = none := rfl
  simp only [mv_stp, mv_ald, hk]
  rw [if_pos ⟨trivial, trivial, h0.1, h0.2.1, by omega, by omega⟩]
  rfl
theorem xG_ast {a b len n r : Nat} {z0 i x : Int} (hf : mv_find y.2.2 pc = some (.iastore, len, a, b, z0)) (hk : SK[r]? = some (.inl (0, n))) (h0 : 0 ≤ i ∧ i < n ∧ n ≤ 1000) (kk : xG sc d y (pc + len) L S (mv_up M r i.toNat x) Q) : xG sc d y pc L (mI x :: mI i :: mR r :: S) M Q := by
  refine xG_by hf (fun call => ?_) kk
  simp only [mv_stp, mv_ast, hk]
  rw [if_pos ⟨trivial, h0.1, h0.2.1, ⟨by omega, by omega⟩, rfl⟩]
  rfl
theorem xG_bast {a b len n r : Nat} {z0 i x : Int} (hf : mv_find y.2.2 pc = some (.bastore, len, a, b, z0)) (hk : SK[r]? = some (.inl (2, n))) (h0 : 0 ≤ i ∧ i < n ∧ n ≤ 1000) (hx : x = 0 ∨ x = 1) (kk : xG sc d y (pc + len) L S (mv_up M r i.toNat x) Q) : xG sc d y pc L (mI x :: mI i :: mR r :: S) M Q := by
  refine xG_by hf (fun call => ?_) kk
  simp only [mv_stp, mv_ast, hk]
  rw [if_pos ⟨trivial, h0.1, h0.2.1, ⟨by omega, by omega⟩, decide_eq_true hx⟩]
  rfl
theorem xG_cast {a b len n r : Nat} {z0 i x : Int} (hf : mv_find y.2.2 pc = some (.castore, len, a, b, z0)) (hk : SK[r]? = some (.inl (1, n))) (h0 : 0 ≤ i ∧ i < n ∧ n ≤ 1000) (hx : 0 ≤ x ∧ x ≤ 65535) (kk : xG sc d y (pc + len) L S (mv_up M r i.toNat x) Q) : xG sc d y pc L (mI x :: mI i :: mR r :: S) M Q := by
  refine xG_by hf (fun call => ?_) kk
  simp only [mv_stp, mv_ast, hk]
  rw [if_pos ⟨trivial, h0.1, h0.2.1, ⟨by omega, by omega⟩, decide_eq_true hx⟩]
  rfl
theorem xG_aald {a b len t r q : Nat} {z0 i : Int} {fs : List (Option Nat)} (hf : mv_find y.2.2 pc = some (.aaload, len, a, b, z0)) (hk : SK[r]? = some (.inr (.inl (t, fs)))) (ht : t = 3 ∨ t = 4) (h0 : 0 ≤ i ∧ i ≤ 1000) (hq : fs[i.toNat]? = some (some q)) (kk : xG sc d y (pc + len) L (mR q :: S) M Q) : xG sc d y pc L (mI i :: mR r :: S) M Q := by
  refine xG_by hf (fun call => ?_) kk
  simp only [mv_stp, mv_aald, hk]
  rw [if_pos ⟨ht, h0.1, by omega, by omega⟩]
  simp only [hq]
  rfl
theorem xG_div {a b len : Nat} {z0 v w : Int} (hf : mv_find y.2.2 pc = some (.idiv, len, a, b, z0)) (h0 : 0 ≤ v ∧ v ≤ 2147483647 ∧ 0 < w ∧ w ≤ 2147483647) (kk : xG sc d y (pc + len) L (mI (v / w) :: S) M Q) : xG sc d y pc L (mI w :: mI v :: S) M Q := by
  refine xG_by hf (fun call => ?_) kk
  simp only [mv_stp]
  rw [if_pos ⟨by omega, ⟨by omega, by omega⟩, ⟨by omega, by omega⟩, by omega⟩, Int.tdiv_eq_ediv_of_nonneg h0.1]
  rfl
theorem xG_rem {a b len : Nat} {z0 v w : Int} (hf : mv_find y.2.2 pc = some (.irem, len, a, b, z0)) (h0 : 0 ≤ v ∧ v ≤ 2147483647 ∧ 0 < w ∧ w ≤ 2147483647) (kk : xG sc d y (pc + len) L (mI (v % w) :: S) M Q) : xG sc d y pc L (mI w :: mI v :: S) M Q := by
  refine xG_by hf (fun call => ?_) kk
  simp only [mv_stp]
  rw [if_pos ⟨by omega, ⟨by omega, by omega⟩, ⟨by omega, by omega⟩⟩, Int.tmod_eq_emod_of_nonneg h0.1]
  rfl
theorem xG_add {a b len : Nat} {z0 v w : Int} (hf : mv_find y.2.2 pc = some (.iadd, len, a, b, z0)) (kk : xG sc d y (pc + len) L (mI (v + w) :: S) M Q) : xG sc d y pc L (mI w :: mI v :: S) M Q := xG_by hf (fun call => rfl) kk
theorem xG_sub {a b len : Nat} {z0 v w : Int} (hf : mv_find y.2.2 pc = some (.isub, len, a, b, z0)) (kk : xG sc d y (pc + len) L (mI (v - w) :: S) M Q) : xG sc d y pc L (mI w :: mI v :: S) M Q := xG_by hf (fun call => rfl) kk
theorem xG_mul {a b len : Nat} {z0 v w : Int} (hf : mv_find y.2.2 pc = some (.imul, len, a, b, z0)) (kk : xG sc d y (pc + len) L (mI (v * w) :: S) M Q) : xG sc d y pc L (mI w :: mI v :: S) M Q := xG_by hf (fun call => rfl) kk
theorem xG_max {b len idx : Nat} {z0 v w : Int} (hf : mv_find y.2.2 pc = some (.invokestatic idx, len, 997, b, z0)) (hv : mv_in v) (hw : mv_in w) (hl : S.length ≤ 4) (kk : xG sc d y (pc + len) L (mI (if v < w then w else v) :: S) M Q) : xG sc d y pc L (mI w :: mI v :: S) M Q := by
  refine xG_by hf (fun call => ?_) kk
  simp [mv_stp, mv_mm, hv, hw, hl, mv_nx]
theorem xG_min {b len idx : Nat} {z0 v w : Int} (hf : mv_find y.2.2 pc = some (.invokestatic idx, len, 996, b, z0)) (hv : mv_in v) (hw : mv_in w) (hl : S.length ≤ 4) (kk : xG sc d y (pc + len) L (mI (if w < v then w else v) :: S) M Q) : xG sc d y pc L (mI w :: mI v :: S) M Q := by
  refine xG_by hf (fun call => ?_) kk
  simp [mv_stp, mv_mm, hv, hw, hl, mv_nx]
theorem xG_getI {idx len a b r : Nat} {z0 : Int} {fs : List Nat} (hf : mv_find y.2.2 pc = some (.getfield idx, len, a, b, z0)) (hk : SK[r]? = some (.inr (.inr (a, fs)))) (hv : fs[b]? = some 0) (kk : xG sc d y (pc + len) L (mI (M r b) :: S) M Q) : xG sc d y pc L (mR r :: S) M Q := by
  refine xG_by hf (fun call => ?_) kk
  simp [mv_stp, mv_getf, hk, hv, mv_fld, mv_nx]
theorem xG_getL {idx len a b r : Nat} {z0 : Int} {fs : List Nat} (hf : mv_find y.2.2 pc = some (.getfield idx, len, a, b, z0)) (hk : SK[r]? = some (.inr (.inr (a, fs)))) (hv : fs[b]? = some 1) (kk : xG sc d y (pc + len) L (mL (M r b) :: S) M Q) : xG sc d y pc L (mR r :: S) M Q := by
  refine xG_by hf (fun call => ?_) kk
  simp [mv_stp, mv_getf, hk, hv, mv_fld, mv_nx]
theorem xG_getR {idx len a b r q : Nat} {z0 : Int} {fs : List Nat} (hf : mv_find y.2.2 pc = some (.getfield idx, len, a, b, z0)) (hk : SK[r]? = some (.inr (.inr (a, fs)))) (hv : fs[b]? = some (q + 3)) (kk : xG sc d y (pc + len) L (mR q :: S) M Q) : xG sc d y pc L (mR r :: S) M Q := by
  refine xG_by hf (fun call => ?_) kk
  simp [mv_stp, mv_getf, hk, hv, mv_fld, mv_nx]
theorem xG_putI {idx len a b r : Nat} {x : Int} {fs : List Nat} (hf : mv_find y.2.2 pc = some (.putfield idx, len, a, b, 0)) (hk : SK[r]? = some (.inr (.inr (a, fs)))) (hv : fs[b]? = some 0) (kk : xG sc d y (pc + len) L S (mv_up M r b x) Q) : xG sc d y pc L (mI x :: mR r :: S) M Q := by
  refine xG_by hf (fun call => ?_) kk
  simp [mv_stp, mv_putf, hk, hv, mv_nx]
theorem xG_putZ {idx len a b r : Nat} {x : Int} {fs : List Nat} (hf : mv_find y.2.2 pc = some (.putfield idx, len, a, b, 2)) (hk : SK[r]? = some (.inr (.inr (a, fs)))) (hv : fs[b]? = some 0) (hx : x = 0 ∨ x = 1) (kk : xG sc d y (pc + len) L S (mv_up M r b x) Q) : xG sc d y pc L (mI x :: mR r :: S) M Q := by
  refine xG_by hf (fun call => ?_) kk
  simp [mv_stp, mv_putf, hk, hv, mv_nx, hx]
theorem xG_putL {idx len a b r : Nat} {x : Int} {fs : List Nat} (hf : mv_find y.2.2 pc = some (.putfield idx, len, a, b, 1)) (hk : SK[r]? = some (.inr (.inr (a, fs)))) (hv : fs[b]? = some 1) (kk : xG sc d y (pc + len) L S (mv_up M r b x) Q) : xG sc d y pc L (mL x :: mR r :: S) M Q := by
  refine xG_by hf (fun call => ?_) kk
  simp [mv_stp, mv_putf, hk, hv, mv_nx]
theorem xG_copy {idx len b r q n0 n1 : Nat} {z0 n dp sp : Int} (hf : mv_find y.2.2 pc = some (.invokestatic idx, len, 998, b, z0)) (hq : SK[q]? = some (.inl (0, n0))) (hr : SK[r]? = some (.inl (0, n1))) (hl : S.length ≤ 4) (hn : 0 ≤ n ∧ 0 ≤ dp ∧ 0 ≤ sp ∧ sp + n ≤ n0 ∧ dp + n ≤ n1 ∧ n0 ≤ 100000 ∧ n1 ≤ 100000)
    (kk : xG sc d y (pc + len) L S (mv_row M r (fun i => if dp.toNat ≤ i ∧ i < dp.toNat + n.toNat then M q (sp.toNat + (i - dp.toNat)) else M r i)) Q) : xG sc d y pc L (mI n :: mI dp :: mR r :: mI sp :: mR q :: S) M Q := by
  refine xG_by hf (fun call => ?_) kk
  simp only [mv_stp, mv_copy, hq, hr]
  rw [if_pos trivial, if_pos ⟨trivial, trivial, hn.1, hn.2.1, hn.2.2.1, hn.2.2.2.1, hn.2.2.2.2.1, hn.2.2.2.2.2.1, hn.2.2.2.2.2.2, hl⟩]
  rfl
theorem xG_call {e : mv_E} {k n pc1 : Nat} (hf : mv_find y.2.2 pc = some e) (h : ∀ call, mv_stp mv_df sc call e (pc, L, S, (SK, M)) = mv_call call k n pc1 L S (SK, M)) (hn : n ≤ S.length ∧ ((S.drop n).length ≤ 4 ∨ ((S.drop n).length ≤ 8 ∧ (S.drop n).all mv_c1 = true))) {Qc : Option mv_V → mv_M → Prop} (hc : xC sc d k (S.take n).reverse M Qc) (kk : ∀ r M', Qc r M' → xG sc d y pc1 L (r.toList ++ S.drop n) M' Q) : xG sc d y pc L S M Q := by
  obtain ⟨n1, r, M1, e1, q1⟩ := hc
  obtain ⟨n2, r2, M2, e2, q2⟩ := kk r M1 q1
  refine ⟨n1 + n2 + 1, r2, M2, ?_, q2⟩
  unfold mv_run
  rw [mv_at_of hf, h]
  have e3 := mv_ev_fuel (show n1 ≤ n1 + n2 + 1 by omega) d k _ _ _ e1
  have e4 : mv_call (mv_ev mv_df mv_mt sc (n1 + n2 + 1) d) k n pc1 L S (SK, M) = some (.inl (pc1, L, r.toList ++ S.drop n, (SK, M1))) := by
    unfold mv_call
    rw [if_pos hn, e3]
    rfl
  rw [e4]
  exact mv_run_fuel (fun y a h r e => mv_ev_fuel (show n2 ≤ n1 + n2 + 1 by omega) d y a h r e) n2 (n1 + n2) _ _ (by omega) e2
theorem xS1 {idx len k : Nat} {z0 : Int} {v1 : mv_V} (hf : mv_find y.2.2 pc = some (.invokestatic idx, len, k, 1, z0)) (hk : k < 900) (hl : S.length ≤ 4) {Qc : Option mv_V → mv_M → Prop} (hc : xC sc d k [v1] M Qc) (kk : ∀ r M', Qc r M' → xG sc d y (pc + len) L (r.toList ++ S) M' Q) : xG sc d y pc L (v1 :: S) M Q :=
  xG_call (k := k) (n := 1) (pc1 := pc + len) hf (fun call => by simp only [mv_stp]; rw [if_neg (by omega), if_neg (by omega), if_neg (by omega)]) ⟨by simp, Or.inl hl⟩ hc kk
theorem xS1w {idx len k : Nat} {z0 : Int} {v1 : mv_V} (hf : mv_find y.2.2 pc = some (.invokestatic idx, len, k, 1, z0)) (hk : k < 900) (hl : S.length ≤ 8 ∧ S.all mv_c1 = true) {Qc : Option mv_V → mv_M → Prop} (hc : xC sc d k [v1] M Qc) (kk : ∀ r M', Qc r M' → xG sc d y (pc + len) L (r.toList ++ S) M' Q) : xG sc d y pc L (v1 :: S) M Q :=
  xG_call (k := k) (n := 1) (pc1 := pc + len) hf (fun call => by simp only [mv_stp]; rw [if_neg (by omega), if_neg (by omega), if_neg (by omega)]) ⟨by simp, Or.inr hl⟩ hc kk
theorem xV1 {idx len k r : Nat} {z0 : Int} {fs : List Nat} (hf : mv_find y.2.2 pc = some (.invokevirtual idx, len, k, 0, z0)) (hk : SK[r]? = some (.inr (.inr (z0.toNat, fs)))) (hl : S.length ≤ 4) {Qc : Option mv_V → mv_M → Prop} (hc : xC sc d k [mR r] M Qc) (kk : ∀ r M', Qc r M' → xG sc d y (pc + len) L (r.toList ++ S) M' Q) : xG sc d y pc L (mR r :: S) M Q :=
  xG_call (k := k) (n := 1) (pc1 := pc + len) hf (fun call => by simp [mv_stp, mv_recv, hk]) ⟨by simp, Or.inl hl⟩ hc kk
theorem xS2 {idx len k : Nat} {z0 : Int} {v1 v2 : mv_V} (hf : mv_find y.2.2 pc = some (.invokestatic idx, len, k, 2, z0)) (hk : k < 900) (hl : S.length ≤ 4) {Qc : Option mv_V → mv_M → Prop} (hc : xC sc d k [v1, v2] M Qc) (kk : ∀ r M', Qc r M' → xG sc d y (pc + len) L (r.toList ++ S) M' Q) : xG sc d y pc L (v2 :: v1 :: S) M Q :=
  xG_call (k := k) (n := 2) (pc1 := pc + len) hf (fun call => by simp only [mv_stp]; rw [if_neg (by omega), if_neg (by omega), if_neg (by omega)]) ⟨by simp, Or.inl hl⟩ hc kk
theorem xV2 {idx len k r : Nat} {z0 : Int} {fs : List Nat} {v2 : mv_V} (hf : mv_find y.2.2 pc = some (.invokevirtual idx, len, k, 1, z0)) (hk : SK[r]? = some (.inr (.inr (z0.toNat, fs)))) (hl : S.length ≤ 4) {Qc : Option mv_V → mv_M → Prop} (hc : xC sc d k [mR r, v2] M Qc) (kk : ∀ r M', Qc r M' → xG sc d y (pc + len) L (r.toList ++ S) M' Q) : xG sc d y pc L (v2 :: mR r :: S) M Q :=
  xG_call (k := k) (n := 2) (pc1 := pc + len) hf (fun call => by simp [mv_stp, mv_recv, hk]) ⟨by simp, Or.inl hl⟩ hc kk
theorem xS3 {idx len k : Nat} {z0 : Int} {v1 v2 v3 : mv_V} (hf : mv_find y.2.2 pc = some (.invokestatic idx, len, k, 3, z0)) (hk : k < 900) (hl : S.length ≤ 4) {Qc : Option mv_V → mv_M → Prop} (hc : xC sc d k [v1, v2, v3] M Qc) (kk : ∀ r M', Qc r M' → xG sc d y (pc + len) L (r.toList ++ S) M' Q) : xG sc d y pc L (v3 :: v2 :: v1 :: S) M Q :=
  xG_call (k := k) (n := 3) (pc1 := pc + len) hf (fun call => by simp only [mv_stp]; rw [if_neg (by omega), if_neg (by omega), if_neg (by omega)]) ⟨by simp, Or.inl hl⟩ hc kk
theorem xV3 {idx len k r : Nat} {z0 : Int} {fs : List Nat} {v2 v3 : mv_V} (hf : mv_find y.2.2 pc = some (.invokevirtual idx, len, k, 2, z0)) (hk : SK[r]? = some (.inr (.inr (z0.toNat, fs)))) (hl : S.length ≤ 4) {Qc : Option mv_V → mv_M → Prop} (hc : xC sc d k [mR r, v2, v3] M Qc) (kk : ∀ r M', Qc r M' → xG sc d y (pc + len) L (r.toList ++ S) M' Q) : xG sc d y pc L (v3 :: v2 :: mR r :: S) M Q :=
  xG_call (k := k) (n := 3) (pc1 := pc + len) hf (fun call => by simp [mv_stp, mv_recv, hk]) ⟨by simp, Or.inl hl⟩ hc kk
theorem xS4 {idx len k : Nat} {z0 : Int} {v1 v2 v3 v4 : mv_V} (hf : mv_find y.2.2 pc = some (.invokestatic idx, len, k, 4, z0)) (hk : k < 900) (hl : S.length ≤ 4) {Qc : Option mv_V → mv_M → Prop} (hc : xC sc d k [v1, v2, v3, v4] M Qc) (kk : ∀ r M', Qc r M' → xG sc d y (pc + len) L (r.toList ++ S) M' Q) : xG sc d y pc L (v4 :: v3 :: v2 :: v1 :: S) M Q :=
  xG_call (k := k) (n := 4) (pc1 := pc + len) hf (fun call => by simp only [mv_stp]; rw [if_neg (by omega), if_neg (by omega), if_neg (by omega)]) ⟨by simp, Or.inl hl⟩ hc kk
theorem xV4 {idx len k r : Nat} {z0 : Int} {fs : List Nat} {v2 v3 v4 : mv_V} (hf : mv_find y.2.2 pc = some (.invokevirtual idx, len, k, 3, z0)) (hk : SK[r]? = some (.inr (.inr (z0.toNat, fs)))) (hl : S.length ≤ 4) {Qc : Option mv_V → mv_M → Prop} (hc : xC sc d k [mR r, v2, v3, v4] M Qc) (kk : ∀ r M', Qc r M' → xG sc d y (pc + len) L (r.toList ++ S) M' Q) : xG sc d y pc L (v4 :: v3 :: v2 :: mR r :: S) M Q :=
  xG_call (k := k) (n := 4) (pc1 := pc + len) hf (fun call => by simp [mv_stp, mv_recv, hk]) ⟨by simp, Or.inl hl⟩ hc kk
theorem xS5 {idx len k : Nat} {z0 : Int} {v1 v2 v3 v4 v5 : mv_V} (hf : mv_find y.2.2 pc = some (.invokestatic idx, len, k, 5, z0)) (hk : k < 900) (hl : S.length ≤ 4) {Qc : Option mv_V → mv_M → Prop} (hc : xC sc d k [v1, v2, v3, v4, v5] M Qc) (kk : ∀ r M', Qc r M' → xG sc d y (pc + len) L (r.toList ++ S) M' Q) : xG sc d y pc L (v5 :: v4 :: v3 :: v2 :: v1 :: S) M Q :=
  xG_call (k := k) (n := 5) (pc1 := pc + len) hf (fun call => by simp only [mv_stp]; rw [if_neg (by omega), if_neg (by omega), if_neg (by omega)]) ⟨by simp, Or.inl hl⟩ hc kk
theorem xV5 {idx len k r : Nat} {z0 : Int} {fs : List Nat} {v2 v3 v4 v5 : mv_V} (hf : mv_find y.2.2 pc = some (.invokevirtual idx, len, k, 4, z0)) (hk : SK[r]? = some (.inr (.inr (z0.toNat, fs)))) (hl : S.length ≤ 4) {Qc : Option mv_V → mv_M → Prop} (hc : xC sc d k [mR r, v2, v3, v4, v5] M Qc) (kk : ∀ r M', Qc r M' → xG sc d y (pc + len) L (r.toList ++ S) M' Q) : xG sc d y pc L (v5 :: v4 :: v3 :: v2 :: mR r :: S) M Q :=
  xG_call (k := k) (n := 5) (pc1 := pc + len) hf (fun call => by simp [mv_stp, mv_recv, hk]) ⟨by simp, Or.inl hl⟩ hc kk
theorem mv_up_at {M : mv_M} {a i : Nat} {v : Int} : mv_up M a i v a i = v := by simp [mv_up]
theorem mv_up_j {M : mv_M} {a i j : Nat} {v : Int} (h : j ≠ i) : mv_up M a i v a j = M a j := by simp [mv_up, h]
theorem mv_row_at {M : mv_M} {a : Nat} {g : Nat → Int} : mv_row M a g a = g := by simp [mv_row]
theorem mv_row_ne {M : mv_M} {a b : Nat} {g : Nat → Int} (h : b ≠ a) : mv_row M a g b = M b := by simp [mv_row, h]
end XR
