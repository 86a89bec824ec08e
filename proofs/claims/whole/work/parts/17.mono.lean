/-! THE ABSTRACT HEAP ONLY GROWS -/
def mv_Le (h h' : mv_H) : Prop := h.1.length ≤ h'.1.length ∧ mv_sl h.1 ≤ mv_sl h'.1
theorem mv_Le.rf {h : mv_H} : mv_Le h h := ⟨Nat.le_refl _, Nat.le_refl _⟩
theorem mv_Le.tr {a b c : mv_H} (h1 : mv_Le a b) (h2 : mv_Le b c) : mv_Le a c := ⟨Nat.le_trans h1.1 h2.1, Nat.le_trans h1.2 h2.2⟩
theorem mv_Le.nx {pc : Nat} {L : mv_L} {S : List mv_V} {h : mv_H} {f : mv_F} (e : mv_nx pc L S h = some (.inl f)) : mv_Le h f.2.2.2 := by
  rw [mv_nx_inv e]
  exact mv_Le.rf
theorem mv_Le.app {sk ks : List mv_K} {M M' : mv_M} : mv_Le (sk, M) (sk ++ ks, M') := ⟨by simp, by show mv_sl sk ≤ mv_sl (sk ++ ks); rw [mv_sl_app]; omega⟩
theorem mv_Le.call {call : Nat → List mv_V → mv_H → Option (Option mv_V × mv_H)} (hc : ∀ y a h r h', call y a h = some (r, h') → mv_Le h h') {y n pc : Nat} {L : mv_L} {S : List mv_V} {h : mv_H} {f : mv_F} (e : mv_call call y n pc L S h = some (.inl f)) : mv_Le h f.2.2.2 := by
  obtain ⟨-, -, r, h', e1, rfl⟩ := mv_call_inv e
  exact hc _ _ _ _ _ e1
theorem mv_stp_le {df : Nat → List Nat} {sc : Nat × (Nat → Int)} {call : Nat → List mv_V → mv_H → Option (Option mv_V × mv_H)} (hc : ∀ y a h r h', call y a h = some (r, h') → mv_Le h h') {i : Instr} {len a b : Nat} {z : Int} {pc : Nat} {L : mv_L} {S : List mv_V} {h : mv_H} {f' : mv_F}
    (e : mv_stp df sc call (i, len, a, b, z) (pc, L, S, h) = some (.inl f')) : mv_Le h f'.2.2.2 := by
  cases i with
  | iload_n k => obtain ⟨x, -, rfl⟩ := mv_ldi_inv e; exact mv_Le.rf
  | iload k => obtain ⟨x, -, rfl⟩ := mv_ldi_inv e; exact mv_Le.rf
  | aload_n k => obtain ⟨x, -, rfl⟩ := mv_lda_inv e; exact mv_Le.rf
  | aload k => obtain ⟨x, -, rfl⟩ := mv_lda_inv e; exact mv_Le.rf
  | istore_n k => obtain ⟨x, S', -, -, rfl⟩ := mv_sti_inv e; exact mv_Le.rf
  | istore k => obtain ⟨x, S', -, -, rfl⟩ := mv_sti_inv e; exact mv_Le.rf
  | astore_n k => obtain ⟨x, S', -, -, rfl⟩ := mv_sta_inv e; exact mv_Le.rf
  | astore k => obtain ⟨x, S', -, -, rfl⟩ := mv_sta_inv e; exact mv_Le.rf
  | iadd => obtain ⟨x, y, S', -, rfl⟩ := mv_bin_inv e; exact mv_Le.rf
  | isub => obtain ⟨x, y, S', -, rfl⟩ := mv_bin_inv e; exact mv_Le.rf
  | imul => obtain ⟨x, y, S', -, rfl⟩ := mv_bin_inv e; exact mv_Le.rf
  | getfield k => obtain ⟨r, S', fs, x, -, -, -, rfl⟩ := mv_getf_inv e; exact mv_Le.rf
  | putfield k =>
    obtain ⟨v, r, S', fs, -, hk, ⟨x, -, -, -, rfl⟩ | ⟨x, -, -, -, rfl⟩ | ⟨q, -, -, -, -, -, rfl⟩⟩ := mv_putf_inv e
    · exact mv_Le.rf
    · exact mv_Le.rf
    · exact ⟨by simp, by show mv_sl h.1 ≤ mv_sl (h.1.set _ _); rw [mv_sl_set _ _ _ _ hk (by simp [mv_sz])]; exact Nat.le_refl _⟩
  | iaload => obtain ⟨i, r, S', -, -, -, ⟨n, -, -, rfl⟩ | ⟨-, -, -, rfl⟩⟩ := mv_ald_inv e <;> exact mv_Le.rf
  | baload => obtain ⟨i, r, S', -, -, -, ⟨n, -, -, rfl⟩ | ⟨-, -, -, rfl⟩⟩ := mv_ald_inv e <;> exact mv_Le.rf
  | caload => obtain ⟨i, r, S', -, -, -, ⟨n, -, -, rfl⟩ | ⟨-, -, -, rfl⟩⟩ := mv_ald_inv e <;> exact mv_Le.rf
  | iastore => obtain ⟨x, i, r, S', n, -, -, -, -, -, -, rfl⟩ := mv_ast_inv e; exact mv_Le.rf
  | bastore => obtain ⟨x, i, r, S', n, -, -, -, -, -, -, rfl⟩ := mv_ast_inv e; exact mv_Le.rf
  | castore => obtain ⟨x, i, r, S', n, -, -, -, -, -, -, rfl⟩ := mv_ast_inv e; exact mv_Le.rf
  | aaload => obtain ⟨i, r, S', t, fs, q, -, -, -, -, -, -, rfl⟩ := mv_aald_inv e; exact mv_Le.rf
  | aastore =>
    obtain ⟨q, i, r, S', fs, gs, -, hk, -, -, -, -, rfl⟩ := mv_aast_inv e
    exact ⟨by simp, by show mv_sl h.1 ≤ mv_sl (h.1.set _ _); rw [mv_sl_set _ _ _ _ hk (by simp [mv_sz])]; exact Nat.le_refl _⟩
  | arraylength => obtain ⟨r, S', -, ⟨n, -, rfl⟩ | ⟨-, rfl⟩⟩ := mv_alen_inv e <;> exact mv_Le.rf
  | newarray t => obtain ⟨n, S', -, -, -, -, rfl⟩ := mv_newa_inv e; exact mv_Le.app
  | anewarray k => obtain ⟨n, S', -, -, -, -, rfl⟩ := mv_newq_inv e; exact mv_Le.app
  | multianewarray k q => obtain ⟨k, n, S', -, -, -, -, -, -, rfl⟩ := mv_grid_inv e; exact mv_Le.app
  | new k =>
    simp only [mv_stp] at e
    split at e
    · have e1 := mv_nx_inv e
      subst e1
      exact mv_Le.app
    · cases e
  | ifCond cd o =>
    simp only [mv_stp] at e
    split at e
    · obtain ⟨-, -, rfl⟩ := mv_br_inv e; exact mv_Le.rf
    · cases e
  | if_icmp cd o =>
    simp only [mv_stp] at e
    split at e
    · obtain ⟨-, -, rfl⟩ := mv_br_inv e; exact mv_Le.rf
    · cases e
  | invokestatic k =>
    simp only [mv_stp] at e
    split at e
    · obtain ⟨n, dp, r, sp, q, S', n0, n1, -, -, -, -, -, -, -, -, -, -, -, rfl⟩ := mv_copy_inv e; exact mv_Le.rf
    · split at e
      · obtain ⟨x, y, S', -, -, -, -, rfl⟩ := mv_mm_inv e; exact mv_Le.rf
      · split at e
        · obtain ⟨x, y, S', -, -, -, -, rfl⟩ := mv_mm_inv e; exact mv_Le.rf
        · exact mv_Le.call hc e
  | invokevirtual k =>
    simp only [mv_stp] at e
    split at e
    · exact mv_Le.call hc e
    · cases e
  | invokespecial k =>
    simp only [mv_stp] at e
    split at e
    · split at e
      · split at e
        · exact mv_Le.nx e
        · cases e
      · cases e
    · split at e
      · exact mv_Le.call hc e
      · cases e
  | _ =>
    simp only [mv_stp] at e
    first
      | exact mv_Le.nx e
      | (cases e; done)
      | (split at e <;> first | exact mv_Le.nx e | (cases e; done) | (split at e <;> first | exact mv_Le.nx e | (cases e; done) | (split at e <;> first | exact mv_Le.nx e | (cases e; done) | (split at e <;> first | exact mv_Le.nx e | (cases e; done)))))
/-- a step that ends the method: nothing of the heap changes -/
theorem mv_stp_end {df : Nat → List Nat} {sc : Nat × (Nat → Int)} {call : Nat → List mv_V → mv_H → Option (Option mv_V × mv_H)} {i : Instr} {len a b : Nat} {z : Int} {pc : Nat} {L : mv_L} {S : List mv_V} {h h' : mv_H} {r : Option mv_V}
    (e : mv_stp df sc call (i, len, a, b, z) (pc, L, S, h) = some (.inr (r, h'))) : h' = h ∧ ((i = .ireturn ∧ ∃ x, S = [mI x] ∧ r = some (mI x) ∧ (a = 0 ∨ x = 0 ∨ x = 1)) ∨ (i = .lreturn ∧ ∃ x, S = [mL x] ∧ r = some (mL x)) ∨ (i = .return_ ∧ S = [] ∧ r = none)) := by
  cases i with
  | ireturn =>
    simp only [mv_stp] at e
    split at e
    · rename_i x
      split at e
      · rename_i hc
        simp only [Option.some.injEq, Sum.inr.injEq, Prod.mk.injEq] at e
        exact ⟨e.2.symm, Or.inl ⟨rfl, x, rfl, e.1.symm, hc⟩⟩
      · cases e
    · cases e
  | lreturn =>
    simp only [mv_stp] at e
    split at e
    · rename_i x
      simp only [Option.some.injEq, Sum.inr.injEq, Prod.mk.injEq] at e
      exact ⟨e.2.symm, Or.inr (Or.inl ⟨rfl, x, rfl, e.1.symm⟩)⟩
    · cases e
  | return_ =>
    simp only [mv_stp] at e
    split at e
    · simp only [Option.some.injEq, Sum.inr.injEq, Prod.mk.injEq] at e
      exact ⟨e.2.symm, Or.inr (Or.inr ⟨rfl, rfl, e.1.symm⟩)⟩
    · cases e
  | _ =>
    exfalso
    simp only [mv_stp, mv_nx, mv_ldi, mv_lda, mv_sti, mv_sta, mv_bin, mv_mm, mv_br, mv_ald, mv_ast, mv_getf, mv_putf, mv_alen, mv_copy, mv_call, mv_aald, mv_aast, mv_grid, mv_newa, mv_newq] at e
    first
      | (cases e; done)
      | (split at e <;> first | (cases e; done) | (split at e <;> first | (cases e; done) | (split at e <;> first | (cases e; done) | (split at e <;> first | (cases e; done) | (split at e <;> first | (cases e; done) | (split at e <;> first | (cases e; done) | (split at e <;> first | (cases e; done) | (split at e <;> first | (cases e; done)))))))))
theorem mv_run_le {df : Nat → List Nat} {sc : Nat × (Nat → Int)} {call : Nat → List mv_V → mv_H → Option (Option mv_V × mv_H)} (hc : ∀ y a h r h', call y a h = some (r, h') → mv_Le h h') {y : mv_Y} : ∀ (n : Nat) (f : mv_F) (r : Option mv_V) (h' : mv_H), mv_run (mv_at df sc call y) n f = some (r, h') → mv_Le f.2.2.2 h'
  | 0, f, r, h', e => by cases e
  | n + 1, f, r, h', e => by
    obtain ⟨pc, L, S, h⟩ := f
    unfold mv_run at e
    split at e
    · cases e
    · rename_i r0 e0
      unfold mv_at at e0
      split at e0
      · rename_i en hen
        obtain ⟨i, len, a, b, z⟩ := en
        obtain ⟨r1, h1⟩ := r0
        cases e
        rw [(mv_stp_end e0).1]
        exact mv_Le.rf
      · cases e0
    · rename_i f' e0
      unfold mv_at at e0
      split at e0
      · rename_i en hen
        obtain ⟨i, len, a, b, z⟩ := en
        exact (mv_stp_le hc e0).tr (mv_run_le hc n f' r h' e)
      · cases e0
theorem mv_ev_le {df : Nat → List Nat} {mt : Nat → Option mv_Y} {sc : Nat × (Nat → Int)} {n : Nat} : ∀ (d y : Nat) (args : List mv_V) (h : mv_H) (r : Option mv_V) (h' : mv_H), mv_ev df mt sc n d y args h = some (r, h') → mv_Le h h'
  | 0, y, args, h, r, h', e => by cases e
  | d + 1, y, args, h, r, h', e => by
    unfold mv_ev at e
    split at e
    · cases e
    · split at e
      · exact mv_run_le (fun y a h r h' e => mv_ev_le d y a h r h' e) n _ r h' e
      · cases e
