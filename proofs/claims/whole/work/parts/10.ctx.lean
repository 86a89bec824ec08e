/-! THE FACTS OF THE TABLES, as the rows of the kit want them -/
theorem mv_inTB {w : Jvm.Cond} (h : w ∈ lw_tbl) (hg : goodWord w = true) : w ∈ mv_TB := List.mem_filter.mpr ⟨h, hg⟩
theorem mv_TBg {w : Jvm.Cond} (h : w ∈ mv_TB) : goodWord w = true := (List.mem_filter.mp h).2
theorem mv_okF_spec {own idx ci k : Nat} (h : mv_okF own idx ci k = true) : ∃ C T N, mv_cl[ci]? = some (C, T, N) ∧ k < N ∧ Jvm.Cond.fieldLink (mv_ow own) idx (T k).1 (T k).2.1 (T k).2.2.1 ∈ mv_TB := by
  obtain ⟨q, hq, e⟩ := List.any_eq_true.mp h
  obtain ⟨rfl, rfl, rfl, rfl⟩ := of_decide_eq_true e
  have h2 := List.all_eq_true.mp mv_fl_ok q hq
  unfold mv_flB at h2
  split at h2
  · rename_i C T N hc
    simp only [Bool.and_eq_true, decide_eq_true_eq] at h2
    exact ⟨C, T, N, hc, h2.1, mv_inTB (mv_tb_mem h2.2) rfl⟩
  · cases h2
theorem mv_okM_spec {own idx y : Nat} (h : mv_okM own idx y 0 = true) : ∃ r, mv_mt y = some r ∧ Jvm.Cond.methodLink (mv_ow own) idx r.1.1 ∈ mv_TB := by
  obtain ⟨q, hq, e⟩ := List.any_eq_true.mp h
  obtain ⟨rfl, rfl, rfl, e4⟩ := of_decide_eq_true e
  have h2 := List.all_eq_true.mp mv_ml_ok q hq
  unfold mv_mlB at h2
  split at h2
  · rename_i r hr
    rw [if_pos e4] at h2
    exact ⟨r, hr, mv_inTB (mv_tb_mem h2) rfl⟩
  · cases h2
theorem mv_okM1_spec {own idx y : Nat} (h : mv_okM own idx y 1 = true) : ∃ q ∈ mv_ml, q.1 = own ∧ q.2.1 = idx ∧ q.2.2.1 = y ∧ q.2.2.2.1 = 1 := by
  obtain ⟨q, hq, e⟩ := List.any_eq_true.mp h
  obtain ⟨e1, e2, e3, e4⟩ := of_decide_eq_true e
  exact ⟨q, hq, e1, e2, e3, e4⟩
theorem mv_ok3_spec {l : List (Nat × Nat × Nat)} {own idx : Nat} (h : mv_ok3 l own idx = true) : ∃ q ∈ l, q.1 = own ∧ q.2.1 = idx := by
  obtain ⟨q, hq, e⟩ := List.any_eq_true.mp h
  obtain ⟨e1, e2⟩ := of_decide_eq_true e
  exact ⟨q, hq, e1, e2⟩
theorem mv_ok4_spec {l : List (Nat × Nat × Int × Nat)} {own idx : Nat} {z : Int} (h : mv_ok4 l own idx z = true) : ∃ q ∈ l, q.1 = own ∧ q.2.1 = idx ∧ q.2.2.1 = z := by
  obtain ⟨q, hq, e⟩ := List.any_eq_true.mp h
  obtain ⟨e1, e2, e3⟩ := of_decide_eq_true e
  exact ⟨q, hq, e1, e2, e3⟩
/-- a method of the table, and its words -/
theorem mv_mw_spec {k : Nat} {y : mv_Y} {q : Nat × Nat × Nat × Nat × Nat × Nat} (h : mv_mt k = some y) (hq : mv_mw[k]? = some q) (hl : q.2.1 ≠ 2) :
    Jvm.Cond.initialized y.1.1.cls ∈ mv_TB ∧ (y.1.1.cls ≠ "java/lang/invoke/MethodHandle" ∧ y.1.1.cls ≠ "java/lang/invoke/VarHandle" ∧ (parseMethodDescriptor y.1.1.desc).map (fun d => d.parameters.length) = some q.2.2.2.2.2) ∧
    y.1.1.cls = mv_ow y.2.1 ∧ y.1.2.2.1 ≤ 20 ∧ (q.2.1 = 1 → Jvm.Cond.static y.1.1 ∈ mv_TB) ∧ (q.2.1 = 0 → Jvm.Cond.instanceMethod y.1.1 ∈ mv_TB) ∧ (q.2.2.2.1 ≠ 5000 → Jvm.Cond.selects y.1.1.cls y.1.1 y.1.1 ∈ mv_TB) := by
  have hm : (y, q) ∈ mv_mtl.zip mv_mw := List.mem_of_getElem? (i := k) (by rw [List.getElem?_zip_eq_some]; exact ⟨h, hq⟩)
  have h2 := List.all_eq_true.mp mv_mw_ok _ hm
  simp only [mv_mwB, Bool.or_eq_true, Bool.and_eq_true, decide_eq_true_eq] at h2
  rcases h2 with h2 | ⟨⟨⟨⟨⟨h1, h3⟩, h4⟩, h5⟩, h6⟩, h7⟩
  · exact absurd h2 hl
  · refine ⟨mv_inTB (mv_tb_mem h1) rfl, h3, h4, h5, fun e => ?_, fun e => ?_, fun e => ?_⟩
    · rw [if_pos e] at h6
      exact mv_inTB (mv_tb_mem h6) rfl
    · rw [if_neg (by omega)] at h6
      exact mv_inTB (mv_tb_mem h6) rfl
    · rcases h7 with h7 | h7
      · exact absurd h7 e
      · exact mv_inTB (mv_tb_mem h7) rfl
theorem mv_mt_mem {k : Nat} {y : mv_Y} (h : mv_mt k = some y) : y ∈ mv_mtl := List.mem_of_getElem? h
theorem mv_pn_of {y : mv_Y} (h1 : y.1.1.cls = mv_ow y.2.1) (h2 : y.1.1.cls ≠ "java/lang/Math") (h3 : y.1.1.cls ≠ "") : plainName y.1.1.cls = true := by
  rw [h1] at h2 h3 ⊢
  unfold mv_ow at h2 h3 ⊢
  have hm : mv_own.getD y.2.1 "" ∈ mv_own := by
    rw [List.getD_eq_getElem?_getD] at h3 ⊢
    cases hc : mv_own[y.2.1]? with
    | none => rw [hc] at h3; exact absurd rfl h3
    | some o => exact List.mem_of_getElem? hc
  rcases mv_pn _ hm with h | h
  · exact absurd h h2
  · exact h
/-- the words on fields are good ones -/
theorem mv_lay_good {C : String} {T : u_T} {N : Nat} : ∀ w ∈ u_ws C T N, goodWord w = true := by
  intro w hw
  obtain ⟨k, -, rfl⟩ := List.mem_map.mp hw
  unfold u_lay
  split <;> rfl
def mv_dfs (n : Nat) (v : FieldType) : Nat := match v with
  | .long => 1
  | .object _ => 2
  | .array _ => 2
  | _ => 0
theorem mv_dflt {B b a : Nat} {M : mv_M} {n j : Nat} {ty : FieldType} (ht : ty = .int ∨ ty = .boolean ∨ ty = .long ∨ (∃ C, ty = .object C) ∨ ∃ t, ty = .array t) (hM : M a j = 0) : defaultValue ty = mv_cv B b (mv_fld M a j (mv_dfs n ty)) := by
  rcases ht with rfl | rfl | rfl | ⟨C, rfl⟩ | ⟨t, rfl⟩
  · simp [defaultValue, mv_dfs, mv_fld, mv_cv, hM]
  · simp [defaultValue, mv_dfs, mv_fld, mv_cv, hM]
  · simp [defaultValue, mv_dfs, mv_fld, mv_cv, hM]
  · simp [defaultValue, mv_dfs, mv_fld, mv_cv]
  · simp [defaultValue, mv_dfs, mv_fld, mv_cv]
def mv_tyB (ty : FieldType) : Bool := match ty with
  | .int => true
  | .boolean => true
  | .long => true
  | .object _ => true
  | .array _ => true
  | _ => false
theorem mv_tyB_spec {ty : FieldType} (h : mv_tyB ty = true) : ty = .int ∨ ty = .boolean ∨ ty = .long ∨ (∃ C, ty = .object C) ∨ ∃ t, ty = .array t := by
  cases ty <;> first | exact Or.inl rfl | exact Or.inr (Or.inl rfl) | exact Or.inr (Or.inr (Or.inl rfl)) | exact Or.inr (Or.inr (Or.inr (Or.inl ⟨_, rfl⟩))) | exact Or.inr (Or.inr (Or.inr (Or.inr ⟨_, rfl⟩))) | (simp [mv_tyB] at h)
theorem mv_dfB : (List.range 11).all (fun n => match mv_cl[n]? with | some (_, _, N) => decide ((mv_df n).length = N) && (List.range N).all (fun j => mv_tyB (mv_ty n j) && decide ((mv_df n)[j]? = some (mv_dfs n (mv_ty n j)))) | none => false) = true := by decide +kernel
/-- a class of the table -/
theorem mv_cls {ci : Nat} {C : String} {T : u_T} {N : Nat} (h : mv_cl[ci]? = some (C, T, N)) :
    (∀ w ∈ u_ws C T N, w ∈ mv_TB) ∧ (∀ k, k < N → parseFieldDescriptor (T k).2.2.1 = some (mv_ty ci k)) ∧ (∀ a, a < N → ∀ b, b < N → a ≠ b → (T a).2.1 ≠ (T b).2.1) ∧ Jvm.Cond.instantiable C N ∈ mv_TB ∧ Jvm.Cond.initialized C ∈ mv_TB ∧
    (mv_df ci).length = N ∧ ∀ j, j < N → mv_tyB (mv_ty ci j) = true ∧ (mv_df ci)[j]? = some (mv_dfs ci (mv_ty ci j)) := by
  have hl : ci < 11 := (List.getElem?_eq_some_iff.mp h).1
  have hd := List.all_eq_true.mp mv_dfB ci (List.mem_range.mpr hl)
  rw [h] at hd
  simp only [Bool.and_eq_true, decide_eq_true_eq, List.all_eq_true, List.mem_range] at hd
  refine ⟨fun w hw => ?_, ?_, ?_, ?_, ?_, hd.1, fun j hj => hd.2 j hj⟩
  · refine mv_inTB ?_ (mv_lay_good w hw)
    match ci, h with
    | 0, h => cases h; exact mv_ci0.1 w hw
    | 1, h => cases h; exact mv_ci1.1 w hw
    | 2, h => cases h; exact mv_ci2.1 w hw
    | 3, h => cases h; exact mv_ci3.1 w hw
    | 4, h => cases h; exact mv_ci4.1 w hw
    | 5, h => cases h; exact mv_ci5.1 w hw
    | 6, h => cases h; exact mv_ci6.1 w hw
    | 7, h => cases h; exact mv_ci7.1 w hw
    | 8, h => cases h; exact mv_ci8.1 w hw
    | 9, h => cases h; exact mv_ci9.1 w hw
    | 10, h => cases h; exact mv_ci10.1 w hw
  · match ci, h with
    | 0, h => cases h; exact tyX0_ok
    | 1, h => cases h; exact tyX1_ok
    | 2, h => cases h; exact tyX2_ok
    | 3, h => cases h; exact tyX3_ok
    | 4, h => cases h; exact tyX4_ok
    | 5, h => cases h; exact tyX5_ok
    | 6, h => cases h; exact tyX6_ok
    | 7, h => cases h; exact tyX7_ok
    | 8, h => cases h; exact tyX8_ok
    | 9, h => cases h; exact tyX9_ok
    | 10, h => cases h; exact tyX10_ok
  · match ci, h with
    | 0, h => cases h; exact nmX0
    | 1, h => cases h; exact nmX1
    | 2, h => cases h; exact nmX2
    | 3, h => cases h; exact nmX3
    | 4, h => cases h; exact nmX4
    | 5, h => cases h; exact nmX5
    | 6, h => cases h; exact nmX6
    | 7, h => cases h; exact nmX7
    | 8, h => cases h; exact nmX8
    | 9, h => cases h; exact nmX9
    | 10, h => cases h; exact nmX10
  · refine mv_inTB ?_ rfl
    match ci, h with
    | 0, h => cases h; exact mv_tb_mem mv_ci0.2.1
    | 1, h => cases h; exact mv_tb_mem mv_ci1.2.1
    | 2, h => cases h; exact mv_tb_mem mv_ci2.2.1
    | 3, h => cases h; exact mv_tb_mem mv_ci3.2.1
    | 4, h => cases h; exact mv_tb_mem mv_ci4.2.1
    | 5, h => cases h; exact mv_tb_mem mv_ci5.2.1
    | 6, h => cases h; exact mv_tb_mem mv_ci6.2.1
    | 7, h => cases h; exact mv_tb_mem mv_ci7.2.1
    | 8, h => cases h; exact mv_tb_mem mv_ci8.2.1
    | 9, h => cases h; exact mv_tb_mem mv_ci9.2.1
    | 10, h => cases h; exact mv_tb_mem mv_ci10.2.1
  · refine mv_inTB ?_ rfl
    match ci, h with
    | 0, h => cases h; exact mv_tb_mem mv_ci0.2.2
    | 1, h => cases h; exact mv_tb_mem mv_ci1.2.2
    | 2, h => cases h; exact mv_tb_mem mv_ci2.2.2
    | 3, h => cases h; exact mv_tb_mem mv_ci3.2.2
    | 4, h => cases h; exact mv_tb_mem mv_ci4.2.2
    | 5, h => cases h; exact mv_tb_mem mv_ci5.2.2
    | 6, h => cases h; exact mv_tb_mem mv_ci6.2.2
    | 7, h => cases h; exact mv_tb_mem mv_ci7.2.2
    | 8, h => cases h; exact mv_tb_mem mv_ci8.2.2
    | 9, h => cases h; exact mv_tb_mem mv_ci9.2.2
    | 10, h => cases h; exact mv_tb_mem mv_ci10.2.2
/-- what holds in a method's body of its own class and code -/
def mv_Cx (p : Program) (s : State) (m : MethodId) (args : Array Value) (c : Code) (own : String) (cc : ByteArray) (nL : Nat) (D : va_G) (dA : Nat → ClassId) (b Ls : Nat) (xs : Nat → Int32) : Prop :=
  p.tables.exec = Jvm.exec ∧ c.code = cc ∧ c.maxLocals = nL ∧ s.vm.findClass own = some m.cls ∧ (∀ w ∈ mv_TB, w.before args s = true) ∧ mv_Kx D dA b Ls xs s
/-- from the frame f on, wherever its cells and locals are held, the machine comes to Q -/
def mv_G (p : Program) (l : Launch) (e : Env) (R : Room) (s : State) (m : MethodId) (args : Array Value) (below : List Frame) (meth : Method) (c : Code) (Q : State → Prop) (D : va_G) (dA : Nat → ClassId) (B b nL n0 s0 : Nat) (f : mv_F) : Prop :=
  ∀ (H : Heap) (locs : List Loc) (cells slots : Nat) (ls : Array Slot), mv_R D dA B b s f.2.2.2 H locs → mv_Lr B b ls nL f.2.1 → cells + n0 = f.2.2.2.1.length → slots + s0 = mv_sl f.2.2.2.1 →
    W p l e R s m args below meth c H locs cells slots Q (F0 m f.1 ls (f.2.2.1.map (mv_cv B b)))
section MVC
variable {p : Program} {l : Launch} {e : Env} {R : Room} {s : State} {m : MethodId} {args : Array Value} {below : List Frame} {meth : Method} {c : Code} {Q : State → Prop} {D : va_G} {dA : Nat → ClassId} {B b nL n0 s0 : Nat}
theorem mv_st {pc pc' : Nat} {L : mv_L} {S S' : List mv_V} {h : mv_H} (row : ∀ (H : Heap) (locs : List Loc) (cells slots : Nat) (ls : Array Slot), W p l e R s m args below meth c H locs cells slots Q (F0 m pc' ls (S'.map (mv_cv B b))) → W p l e R s m args below meth c H locs cells slots Q (F0 m pc ls (S.map (mv_cv B b))))
    (kk : mv_G p l e R s m args below meth c Q D dA B b nL n0 s0 (pc', L, S', h)) : mv_G p l e R s m args below meth c Q D dA B b nL n0 s0 (pc, L, S, h) :=
  fun H locs cells slots ls h1 h2 h3 h4 => row H locs cells slots ls (kk H locs cells slots ls h1 h2 h3 h4)
end MVC
