/-! THE RELATION: what the real heap holds where the abstract one holds something -/
theorem mv_toInt {x : Int} (h : mv_in x) : (Int32.ofInt x).toInt = x := Int32.toInt_ofInt_of_le (by have := h.1; omega) (by have := h.2; omega)
theorem mv_clamp {x : Int} (h : mv_in x) : (Int32.ofInt x).toNatClampNeg = x.toNat := Int32.toNatClampNeg_ofInt_of_le (by have := h.1; omega) (by have := h.2; omega)
theorem mv_lt {x y : Int} (hx : mv_in x) (hy : mv_in y) : Int32.ofInt x < Int32.ofInt y ↔ x < y := by rw [Int32.lt_iff_toInt_lt, mv_toInt hx, mv_toInt hy]
theorem mv_le {x y : Int} (hx : mv_in x) (hy : mv_in y) : Int32.ofInt x ≤ Int32.ofInt y ↔ x ≤ y := by rw [Int32.le_iff_toInt_le, mv_toInt hx, mv_toInt hy]
theorem mv_eq {x y : Int} (hx : mv_in x) (hy : mv_in y) : Int32.ofInt x = Int32.ofInt y ↔ x = y := ⟨fun h => by rw [← mv_toInt hx, h, mv_toInt hy], fun h => by rw [h]⟩
theorem mv_in0 : mv_in 0 := by decide
theorem mv_o0 : (0 : Int32) = Int32.ofInt 0 := by decide +kernel
theorem mv_vin {i : Int} {n : Nat} (h0 : 0 ≤ i) (h1 : i < n) (h : mv_in i) : vp_in (Int32.ofInt i) n := by
  refine vp_in_iff.mpr ⟨by rw [mv_toInt h]; exact h0, by rw [mv_toInt h]; exact h1⟩
/-- a cell's number as an address: 9999 is the script -/
def mv_ad (B b a : Nat) : Nat := if a = 9999 then b else B + a
def mv_cv (B b : Nat) : mv_V → Value
  | .inl x => .int (Int32.ofInt x)
  | .inr (.inl x) => .long (Int64.ofInt x)
  | .inr (.inr none) => .null
  | .inr (.inr (some a)) => .ref (mv_ad B b a)
def mv_ce (B b : Nat) (dA : Nat → ClassId) (M : mv_M) (a : Nat) : mv_K → va_E
  | .inl (t, n) => .inl (dA t, n, .inl (fun i => Int32.ofInt (M a i)))
  | .inr (.inl (t, fs)) => .inl (dA t, fs.length, .inr (.inr (.inr (.inr (fun i => (fs.getD i none).map (mv_ad B b))))))
  | .inr (.inr (ci, fs)) => .inr (ci, fs.mapIdx (fun k x => mv_cv B b (mv_fld M a k x)))
def mv_ws (B b : Nat) (dA : Nat → ClassId) (h : mv_H) : va_W := h.1.mapIdx (fun a c => (B + a, mv_ce B b dA h.2 a c))
def mv_tys (dA : Nat → ClassId) : List (ClassId × FieldType) := [(dA 0, .int), (dA 1, .char), (dA 2, .boolean), (dA 3, .object "MonkeyVotes$Day"), (dA 4, .array .int)]
def mv_A (B : Nat) : Nat → Prop := fun q => B ≤ q
theorem mv_ws_get {B b : Nat} {dA : Nat → ClassId} {h : mv_H} {a : Nat} {k : mv_K} (e : h.1[a]? = some k) : (mv_ws B b dA h)[a]? = some (B + a, mv_ce B b dA h.2 a k) := by
  simp [mv_ws, List.getElem?_mapIdx, e]
theorem mv_ws_inv {B b : Nat} {dA : Nat → ClassId} {h : mv_H} {a : Nat} {q : Nat × va_E} (e : (mv_ws B b dA h)[a]? = some q) : q.1 = B + a := by
  simp only [mv_ws, List.getElem?_mapIdx, Option.map_eq_some_iff] at e
  obtain ⟨k, -, rfl⟩ := e
  rfl
theorem mv_D {B b : Nat} {dA : Nat → ClassId} {h : mv_H} : va_D (mv_A B) (mv_ws B b dA h) := by
  refine ⟨fun i j p q hp hq hpq => ?_, fun k q hk => ?_⟩
  · have h1 := mv_ws_inv hp
    have h2 := mv_ws_inv hq
    omega
  · have h1 := mv_ws_inv hk
    show B ≤ q.1
    omega
theorem mv_ad_in {B b a : Nat} (h : a < 9999) : mv_ad B b a = B + a := by
  unfold mv_ad
  rw [if_neg (by omega)]
theorem mv_lt_of {h : mv_H} {a : Nat} {k : mv_K} (e : h.1[a]? = some k) : a < h.1.length := (List.getElem?_eq_some_iff.mp e).1
/-- a cell's numbers alone change -/
theorem mv_ws_mem {B b : Nat} {dA : Nat → ClassId} {sk : List mv_K} {M M' : mv_M} {a : Nat} {k : mv_K} (e : sk[a]? = some k) (hM : ∀ c, c ≠ a → M' c = M c) {x : va_E} (hx : x = mv_ce B b dA M' a k) :
    (mv_ws B b dA (sk, M)).set a (B + a, x) = mv_ws B b dA (sk, M') := by
  have hl := (List.getElem?_eq_some_iff.mp e).1
  apply List.ext_getElem?
  intro i
  subst hx
  by_cases hi : i = a
  · subst hi
    have hl2 : i < (mv_ws B b dA (sk, M)).length := by simp [mv_ws]; exact hl
    rw [List.getElem?_set_self hl2]
    simp only [mv_ws, List.getElem?_mapIdx, e, Option.map_some]
  · rw [List.getElem?_set_ne (Ne.symm hi)]
    simp only [mv_ws, List.getElem?_mapIdx]
    congr 1
    funext c
    rcases c with ⟨t, n⟩ | ⟨t, fs⟩ | ⟨ci, fs⟩
    · simp [mv_ce, hM i hi]
    · simp [mv_ce]
    · simp only [mv_ce]
      congr 4
      funext k x
      rcases x with _ | _ | _ | r <;> simp [mv_fld, hM i hi]
/-- a cell's shape changes -/
theorem mv_ws_set {B b : Nat} {dA : Nat → ClassId} {sk : List mv_K} {M : mv_M} {a : Nat} {k k' : mv_K} (e : sk[a]? = some k) {x : va_E} (hx : x = mv_ce B b dA M a k') :
    (mv_ws B b dA (sk, M)).set a (B + a, x) = mv_ws B b dA (sk.set a k', M) := by
  have hl := (List.getElem?_eq_some_iff.mp e).1
  apply List.ext_getElem?
  intro i
  subst hx
  by_cases hi : i = a
  · subst hi
    have hl2 : i < (mv_ws B b dA (sk, M)).length := by simp [mv_ws]; exact hl
    rw [List.getElem?_set_self hl2]
    simp only [mv_ws, List.getElem?_mapIdx, List.getElem?_set_self hl, Option.map_some]
  · rw [List.getElem?_set_ne (Ne.symm hi)]
    simp only [mv_ws, List.getElem?_mapIdx, List.getElem?_set_ne (Ne.symm hi)]
theorem mv_ce_new {B b : Nat} {dA : Nat → ClassId} {M : mv_M} {n a : Nat} (h : a < n) (k : mv_K) : mv_ce B b dA (mv_new M n) a k = mv_ce B b dA M a k := by
  have hM : (mv_new M n) a = M a := by funext j; simp [mv_new]; omega
  rcases k with ⟨t, m⟩ | ⟨t, fs⟩ | ⟨ci, fs⟩
  · simp [mv_ce, hM]
  · simp [mv_ce]
  · simp only [mv_ce]
    congr 3
    funext k x
    rcases x with _ | _ | _ | r <;> simp [mv_fld, hM]
/-- cells come behind -/
theorem mv_ws_app {B b : Nat} {dA : Nat → ClassId} {sk ks : List mv_K} {M : mv_M} : mv_ws B b dA (sk ++ ks, mv_new M sk.length) = mv_ws B b dA (sk, M) ++ ks.mapIdx (fun j k => (B + (sk.length + j), mv_ce B b dA (mv_new M sk.length) (sk.length + j) k)) := by
  simp only [mv_ws, List.mapIdx_append]
  congr 1
  · apply List.ext_getElem?
    intro i
    simp only [List.getElem?_mapIdx]
    cases hi : sk[i]? with
    | none => rfl
    | some k =>
      have hl := (List.getElem?_eq_some_iff.mp hi).1
      simp [mv_ce_new hl]
  · apply List.ext_getElem?
    intro i
    simp [List.getElem?_mapIdx, Nat.add_comm]
/-- the sizes of cells -/
def mv_sz : mv_K → Nat
  | .inl (_, n) => n
  | .inr (.inl (_, fs)) => fs.length
  | .inr (.inr (_, fs)) => fs.length
def mv_sl (sk : List mv_K) : Nat := (sk.map mv_sz).sum
theorem mv_sl_app (a b : List mv_K) : mv_sl (a ++ b) = mv_sl a + mv_sl b := by simp [mv_sl]
theorem mv_sl_set : ∀ (sk : List mv_K) (a : Nat) (k k' : mv_K), sk[a]? = some k → mv_sz k' = mv_sz k → mv_sl (sk.set a k') = mv_sl sk
  | [], a, k, k', h, _ => by simp at h
  | c :: sk, 0, k, k', h, e => by
    simp only [List.getElem?_cons_zero, Option.some.injEq] at h
    subst h
    simp [mv_sl, e]
  | c :: sk, a + 1, k, k', h, e => by
    simp only [List.getElem?_cons_succ] at h
    have := mv_sl_set sk a k k' h e
    simp only [mv_sl] at this
    simp only [mv_sl, List.set_cons_succ, List.map_cons, List.sum_cons, this]
/-- what the world is like, beside the heap's cells -/
def mv_Kx (D : va_G) (dA : Nat → ClassId) (b Ls : Nat) (xs : Nat → Int32) (U : State) : Prop :=
  va_K D mv_cl (mv_tys dA) U ∧ va_X b Ls xs U U.heap ∧ va_AO "MonkeyVotes$Day" U ∧ (∃ kA : Class, U.vm.classes[dA 4]? = some kA ∧ kA.kind = .array (dA 0) (.array .int)) ∧
  ∀ q ∈ mv_ml, q.2.2.2.1 = 1 → ∀ y, mv_mt q.2.2.1 = some y → va_Nw (.methodLinkNest (mv_ow q.1) q.2.1 y.1.1 "MonkeyVotes") U
theorem mv_Kx.moved {D : va_G} {dA : Nat → ClassId} {b Ls : Nat} {xs : Nat → Int32} {s U : State} (hW : s.WarmedH U.vm) (hb : U.heap[b]? = s.heap[b]?) (h : mv_Kx D dA b Ls xs s) : mv_Kx D dA b Ls xs U := by
  obtain ⟨h1, h2, h3, ⟨kA, h4, h5⟩, h6⟩ := h
  obtain ⟨k', hk', he⟩ := hW.alike.2.2 _ _ h4
  exact ⟨va_K.moved hW.alike h1, va_X.moved hW.alike (h2.kept hb), va_AO.moved hW.alike h3, ⟨k', hk', by rw [he]; exact h5⟩, fun q hq hk y hy => va_Nw.warmM hW (h6 q hq hk y hy)⟩
/-- the heap and the abstract heap -/
def mv_R (D : va_G) (dA : Nat → ClassId) (B b : Nat) (s : State) (h : mv_H) (H : Heap) (locs : List Loc) : Prop :=
  va_P D mv_cl (mv_ws B b dA h) H ∧ h.1.length ≤ 9000 ∧ va_S (mv_A B) s.heap H locs ∧ B ≤ s.heap.size ∧ b < B
/-- the locals -/
def mv_Lr (B b : Nat) (ls : Array Slot) (nL : Nat) (L : mv_L) : Prop :=
  ls.size = nL ∧ lv_wf ls ∧ L.length = nL ∧ ∀ (i : Nat) (v : mv_V), L[i]? = some (some v) → mv_c1 v = true ∧ ls[i]? = some (.val (mv_cv B b v))
theorem mv_cat {B b : Nat} {v : mv_V} (h : mv_c1 v = true) : (mv_cv B b v).category = 1 := by
  rcases v with x | x | x
  · rfl
  · cases h
  · cases x <;> rfl
theorem mv_cat2 {B b : Nat} (v : mv_V) : (mv_cv B b v).category ≤ 2 := by
  rcases v with x | x | x
  · exact Nat.le_succ 1
  · exact Nat.le_refl 2
  · cases x <;> exact Nat.le_succ 1
theorem mv_catS {B b : Nat} : ∀ (S : List mv_V), ((S.map (mv_cv B b)).map fun v => v.category).sum ≤ 2 * S.length
  | [] => by simp
  | v :: S => by
    have h1 := mv_catS (B := B) (b := b) S
    have h2 := mv_cat2 (B := B) (b := b) v
    simp only [List.map_cons, List.sum_cons, List.length_cons]
    omega
/-- the list of all held locals -/
def mv_pairs (B b : Nat) (L : mv_L) : List (Nat × Value) := (L.zipIdx.filterMap (fun q => q.1.map (fun v => (q.2, mv_cv B b v))))
theorem mv_pairs_mem {B b : Nat} {L : mv_L} {q : Nat × Value} : q ∈ mv_pairs B b L ↔ ∃ v, L[q.1]? = some (some v) ∧ q.2 = mv_cv B b v := by
  simp only [mv_pairs, List.mem_filterMap, Option.map_eq_some_iff]
  constructor
  · rintro ⟨⟨o, i⟩, hm, v, rfl, rfl⟩
    exact ⟨v, List.mem_zipIdx_iff_getElem?.mp hm, rfl⟩
  · rintro ⟨v, h1, h2⟩
    exact ⟨(some v, q.1), List.mem_zipIdx_iff_getElem?.mpr h1, v, rfl, by rw [← h2]⟩
theorem mv_Lr.has {B b : Nat} {ls : Array Slot} {nL : Nat} {L : mv_L} (h : mv_Lr B b ls nL L) : lv_has ls nL (mv_pairs B b L) := by
  obtain ⟨h1, h2, h3, h4⟩ := h
  refine ⟨h1, h2, fun q hq => ?_⟩
  obtain ⟨v, hv, e⟩ := mv_pairs_mem.mp hq
  rw [e]
  exact (h4 _ _ hv).2
/-- a value stored -/
theorem mv_Lr.store {B b : Nat} {ls ls' : Array Slot} {nL i : Nat} {L : mv_L} {v : mv_V} (h : mv_Lr B b ls nL L) (hi : i < L.length) (hv : mv_c1 v = true)
    (h' : lv_has ls' nL ((i, mv_cv B b v) :: (mv_pairs B b L).filter (fun q => !(q.1 == i) && !(q.1 + 1 == i && q.2.category == 2)))) : mv_Lr B b ls' nL (L.set i (some v)) := by
  obtain ⟨h1, h2, h3, h4⟩ := h
  obtain ⟨g1, g2, g3⟩ := h'
  refine ⟨g1, g2, by rw [List.length_set]; exact h3, fun j w hj => ?_⟩
  by_cases e : j = i
  · subst e
    rw [List.getElem?_set_self hi] at hj
    cases hj
    exact ⟨hv, g3 (j, mv_cv B b v) List.mem_cons_self⟩
  · rw [List.getElem?_set_ne (Ne.symm e)] at hj
    refine ⟨(h4 j w hj).1, g3 (j, mv_cv B b w) (List.mem_cons_of_mem _ (List.mem_filter.mpr ⟨mv_pairs_mem.mpr ⟨w, hj, rfl⟩, ?_⟩))⟩
    have hc := mv_cat (B := B) (b := b) (h4 j w hj).1
    simp [e, hc]
