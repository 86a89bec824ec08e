/-! ROWS OF INTS IN AN ARRAY, made by one instruction: the model's own loop, walked -/
section MVX
variable {E : CtlPost} {e : Env} {d : Bool} {acts : List Action} {s : State}
/-- the outer array when i rows are in it; a row -/
def mg_o (c : ClassId) (N h0 i : Nat) : Cell := arrV c N (fun j => if j < i then .ref (h0 + 1 + j) else .null)
def mg_r (c : ClassId) (K : Nat) : Cell := arrV c K (fun _ => .int 0)
/-- the state when i rows are made -/
def mg_f (s : State) (c cm : ClassId) (N K : Nat) : Nat → State
  | 0 => s.pushCell (mg_o c N s.heap.size 0)
  | i + 1 => ((mg_f s c cm N K i).pushCell (mg_r cm K)).setCell s.heap.size (mg_o c N s.heap.size (i + 1))
theorem mg_o_set (c : ClassId) (N h0 i : Nat) : (mg_o c N h0 i).setSlot i (.ref (h0 + 1 + i)) = mg_o c N h0 (i + 1) := by
  unfold mg_o
  rw [arrV_store]
  congr 1
  funext j
  unfold updV
  by_cases q : j = i
  · subst q
    rw [if_pos rfl, if_pos (Nat.lt_succ_self j)]
  · rw [if_neg q]
    show (if j < i then Value.ref (h0 + 1 + j) else Value.null) = _
    by_cases z : j < i
    · rw [if_pos z, if_pos (by omega)]
    · rw [if_neg z, if_neg (by omega)]
theorem mg_facts (s : State) (c cm : ClassId) (N K : Nat) : ∀ i, (mg_f s c cm N K i).heap.size = s.heap.size + 1 + i ∧ (mg_f s c cm N K i).heap[s.heap.size]? = some (mg_o c N s.heap.size i) ∧ (mg_f s c cm N K i).vm = s.vm ∧ (mg_f s c cm N K i).slotsUsed = s.slotsUsed + N + i * K ∧
    (∀ a, a < s.heap.size → (mg_f s c cm N K i).heap[a]? = s.heap[a]?) ∧ ∀ j, j < i → (mg_f s c cm N K i).heap[s.heap.size + 1 + j]? = some (mg_r cm K)
  | 0 => ⟨by simp [mg_f], by simp [mg_f], rfl, by simp [mg_f, mg_o, arrV_size], fun a ha => State.heap_pushCell_of_lt _ _ ha, fun j hj => absurd hj (Nat.not_lt_zero j)⟩
  | i + 1 => by
    obtain ⟨f1, f2, f3, f4, f5, f6⟩ := mg_facts s c cm N K i
    have h0 : s.heap.size < (mg_f s c cm N K i).heap.size := by omega
    have h1 : ((mg_f s c cm N K i).pushCell (mg_r cm K)).heap[s.heap.size]? = some (mg_o c N s.heap.size i) := (State.heap_pushCell_of_lt _ _ h0).trans f2
    refine ⟨?_, State.heap_setCell_self h1, by simp [mg_f, f3], ?_, fun a ha => ?_, fun j hj => ?_⟩
    · simp [mg_f, State.setCell, f1]
      omega
    · simp [mg_f, f4, mg_r, arrV_size, Nat.succ_mul]
      omega
    · show (((mg_f s c cm N K i).pushCell (mg_r cm K)).setCell s.heap.size _).heap[a]? = _
      rw [State.heap_setCell_other (show s.heap.size ≠ a by omega), State.heap_pushCell_of_lt _ _ (show a < (mg_f s c cm N K i).heap.size by omega)]
      exact f5 a ha
    · show (((mg_f s c cm N K i).pushCell (mg_r cm K)).setCell s.heap.size _).heap[s.heap.size + 1 + j]? = _
      rw [State.heap_setCell_other (show s.heap.size ≠ s.heap.size + 1 + j by omega)]
      rcases Nat.lt_or_ge j i with q | q
      · rw [State.heap_pushCell_of_lt _ _ (show s.heap.size + 1 + j < (mg_f s c cm N K i).heap.size by omega)]
        exact f6 j q
      · have ej : s.heap.size + 1 + j = (mg_f s c cm N K i).heap.size := by omega
        rw [ej]
        exact State.heap_pushCell_size _ _
theorem mg_top (s : State) (g : JFrame) (c cm : ClassId) (N K : Nat) : ∀ i, mg_f (s.setTop g) c cm N K i = (mg_f s c cm N K i).setTop g
  | 0 => rfl
  | i + 1 => by
    simp only [mg_f, mg_top s g c cm N K i, State.heap_setTop, State.pushCell_setTop, State.setCell_setTop]
/-- an array of one value, the value a default -/
theorem mg_newArray {c cm : ClassId} {k : Class} {ty : FieldType} {len : Nat} {v : Value} (hk : s.vm.classes[c]? = some k) (hkind : k.kind = .array cm ty) (h1 : ¬ len > e.platform.arrayLengthLimit) (h2 : ¬ len * componentBytes ty > e.platform.maxHeapBytes) (hf : fits ty v = true) (hv : v.isDefault = true)
    (h3 : s.heap.size < e.platform.maxCells) (h4 : s.slotsUsed + len ≤ e.platform.maxSlots) {Q : Addr → Pre} (hq : Q s.heap.size d acts (s.pushCell (arrV c len (fun _ => v)))) : wp (Jvm.newArray c len v) Q E e d acts s := by
  have ha : allocActs (Array.replicate len v) s.heap.size acts = acts := by
    unfold allocActs
    rw [if_pos (by rw [Array.all_replicate]; split <;> simp [hv])]
  have hs : ∀ i w, (Array.replicate len v)[i]? = some w → s.fitsSlot c .none i w = true := by
    intro i w hw
    rw [Array.getElem?_replicate] at hw
    split at hw
    · cases hw
      simp [State.fitsSlot, State.slotType?, hk, hkind, hf]
    · cases hw
  simp only [Jvm.newArray, Jvm.arrayFits, wp_bind', W.ask, W.ite, h1, if_false, wp_pure', W.theClass, hk, hkind, h2, W.alloc, W.stop, Option.some.injEq, exists_eq_left', Array.size_replicate, ha]
  rw [if_neg (by omega)]
  refine ⟨h3, h4, hs, ?_⟩
  rw [arrV_new]
  exact hq
theorem mg_make {c cm cc : ClassId} {k km : Class} {n m : Int32} (hk : s.vm.classes[c]? = some k) (hkind : k.kind = .array cm (.array .int)) (hkm : s.vm.classes[cm]? = some km) (hkindm : km.kind = .array cc .int) (hn : ¬ n < 0) (hm : ¬ m < 0)
    (l1 : ¬ n.toNatClampNeg > e.platform.arrayLengthLimit) (l2 : ¬ n.toNatClampNeg * componentBytes (.array .int) > e.platform.maxHeapBytes) (l3 : ¬ m.toNatClampNeg > e.platform.arrayLengthLimit) (l4 : ¬ m.toNatClampNeg * componentBytes .int > e.platform.maxHeapBytes)
    (hc : s.heap.size + 1 + n.toNatClampNeg ≤ e.platform.maxCells) (hs : s.slotsUsed + n.toNatClampNeg + n.toNatClampNeg * m.toNatClampNeg ≤ e.platform.maxSlots)
    {Q : Addr → Pre} (hq : ∀ d' acts', Q s.heap.size d' acts' (mg_f s c cm n.toNatClampNeg m.toNatClampNeg n.toNatClampNeg)) : wp (Op.multianewarray.make c [n, m]) Q E e d acts s := by
  have hfind : ([m].find? (· < 0)) = none := by simp [hm]
  rw [Op.multianewarray.make]
  simp only [wp_bind', W.ite, hn, if_false, wp_pure', W.theClass, hk, hkind, Option.some.injEq, exists_eq_left']
  refine mg_newArray hk hkind l1 l2 rfl rfl (by omega) (by have := Nat.zero_le (n.toNatClampNeg * m.toNatClampNeg); omega) ?_
  simp only [hfind]
  rw [ite_self, wp_bind', Std.Legacy.Range.forIn_eq_forIn_range', show ([:n.toNatClampNeg] : Std.Legacy.Range).size = n.toNatClampNeg by simp [Std.Legacy.Range.size]]
  show wp (forIn (List.range' 0 n.toNatClampNeg 1) PUnit.unit _) _ E e d acts _
  refine wp_forIn_inv (fun rest s' => ∃ i, i ≤ n.toNatClampNeg ∧ rest = List.range' i (n.toNatClampNeg - i) ∧ s' = mg_f s c cm n.toNatClampNeg m.toNatClampNeg i) _ _ ⟨0, Nat.zero_le _, rfl, by
    show s.pushCell _ = s.pushCell _
    rfl⟩ ?_ ?_
  · rintro x rest s' d' acts' Q' ⟨i, hi, hl, rfl⟩ hnext
    have hlt : i < n.toNatClampNeg := by
      rcases Nat.lt_or_ge i n.toNatClampNeg with q | q
      · exact q
      · rw [show n.toNatClampNeg - i = 0 by omega] at hl
        simp at hl
    obtain ⟨rfl, hrest⟩ : x = i ∧ rest = List.range' (i + 1) (n.toNatClampNeg - (i + 1)) := by
      rw [show n.toNatClampNeg - i = (n.toNatClampNeg - (i + 1)) + 1 by omega, List.range'_succ] at hl
      exact ⟨(List.cons.inj hl).1, (List.cons.inj hl).2⟩
    obtain ⟨f1, f2, f3, f4, -, -⟩ := mg_facts s c cm n.toNatClampNeg m.toNatClampNeg x
    have hmul : x * m.toNatClampNeg + m.toNatClampNeg ≤ n.toNatClampNeg * m.toNatClampNeg := by
      have := Nat.mul_le_mul_right m.toNatClampNeg (show x + 1 ≤ n.toNatClampNeg from hlt)
      rw [Nat.succ_mul] at this
      exact this
    rw [Op.multianewarray.make]
    simp only [wp_bind', W.ite, hm, if_false, wp_pure', W.theClass, f3, hkm, hkindm, Option.some.injEq, exists_eq_left']
    refine mg_newArray (by rw [f3]; exact hkm) hkindm l3 l4 rfl rfl (by rw [f1]; omega) (by rw [f4]; omega) ?_
    have h0 : s.heap.size < (mg_f s c cm n.toNatClampNeg m.toNatClampNeg x).heap.size := by rw [f1]; omega
    simp only [wp_bind', W.writeLoc, wp_pure']
    refine ⟨mg_o c n.toNatClampNeg s.heap.size x, (State.heap_pushCell_of_lt _ _ h0).trans f2, (fun z => by cases z), by show _ < (arrV _ _ _).slots.size; rw [arrV_size]; exact hlt, ?_, hnext _ _ _ ⟨x + 1, hlt, hrest, ?_⟩⟩
    · show State.fitsSlot _ c .none x _ = true
      simp [State.fitsSlot, State.slotType?, f3, hk, hkind, fits]
    · rw [f1, mg_o_set]
      rfl
  · rintro s' d' acts' ⟨i, hi, hl, rfl⟩
    have hiN : i = n.toNatClampNeg := by
      rcases Nat.lt_or_ge i n.toNatClampNeg with q | q
      · rw [show n.toNatClampNeg - i = (n.toNatClampNeg - (i + 1)) + 1 by omega, List.range'_succ] at hl
        cases hl
      · omega
    subst hiN
    simp only [wp_pure']
    exact hq _ _
end MVX
section MVY
variable {p : Program} {l : Launch} {e : Env} {R : Room} {s : State} {m : MethodId} {args : Array Value} {below : List Frame} {meth : Method} {c : Code} {Q : State → Prop} {D : va_G} {dA : Nat → ClassId} {B b nL n0 s0 : Nat}
variable {cc : ByteArray} {pc : Nat} {L : mv_L} {S : List mv_V} {h : mv_H}
theorem mg_stand {T : State} {locs : List Loc} {cells slots : Nat} (X : Stand p l e R s m args below meth c T locs cells slots) (cA cm : ClassId) (N K : Nat) :
    ∀ i, ∃ locs', (∀ q ∈ locs', q ∈ locs ∨ q.base = T.heap.size) ∧ Stand p l e R s m args below meth c (mg_f T cA cm N K i) locs' (cells + 1 + i) (slots + N + i * K)
  | 0 => by
    have g := X.pushed (mg_o cA N T.heap.size 0)
    rw [show (mg_o cA N T.heap.size 0).slots.size = N from arrV_size _ _ _] at g
    exact ⟨locs, fun q hq => Or.inl hq, by simpa [mg_f] using g⟩
  | i + 1 => by
    obtain ⟨locs', hl, Xi⟩ := mg_stand X cA cm N K i
    obtain ⟨f1, f2, -, -, -, -⟩ := mg_facts T cA cm N K i
    have h0 : T.heap.size < (mg_f T cA cm N K i).heap.size := by omega
    have hcell : ((mg_f T cA cm N K i).pushCell (mg_r cm K)).heap[T.heap.size]? = some (mg_o cA N T.heap.size i) := (State.heap_pushCell_of_lt _ _ h0).trans f2
    have g := (Xi.pushed (mg_r cm K)).stored hcell i (.ref (T.heap.size + 1 + i))
    rw [show (mg_r cm K).slots.size = K from arrV_size _ _ _, mg_o_set] at g
    have e3 : slots + N + (i + 1) * K = slots + N + i * K + K := by rw [Nat.succ_mul]; omega
    refine ⟨locs' ++ [⟨T.heap.size, i⟩], fun q hq => ?_, by rw [e3]; exact g⟩
    rcases List.mem_append.mp hq with z | z
    · exact hl q z
    · rw [List.mem_singleton.mp z]
      exact Or.inr rfl
theorem mv_snd_grid {own idx : Nat} {Ls : Nat} {xs : Nat → Int32} (hx : p.tables.exec = Jvm.exec) (hb : c.code = cc) (hown : s.vm.findClass (mv_ow own) = some m.cls) (hts : ∀ w ∈ mv_TB, w.before args s = true) (hKx : mv_Kx D dA b Ls xs s) (hn : s.heap.size = B + n0)
    (hok : mv_ok3 mv_gl own idx = true) (hd : decode cc pc = .ok (.multianewarray idx 2, 4)) {f' : mv_F} (hst : mv_grid (pc + 4) L S h = some (.inl f')) (hRc : f'.2.2.2.1.length ≤ R.cells + n0) (hRs : mv_sl f'.2.2.2.1 ≤ R.slots + s0)
    (kk : mv_G p l e R s m args below meth c Q D dA B b nL n0 s0 f') : mv_G p l e R s m args below meth c Q D dA B b nL n0 s0 (pc, L, S, h) := by
  obtain ⟨k, n, S', rfl, c1, c2, c3, c4, c5, rfl⟩ := mv_grid_inv hst
  obtain ⟨w, hw, rfl, rfl⟩ := mv_ok3_spec hok
  have hlink := hts _ (mv_inTB (mv_tb_mem (List.all_eq_true.mp mv_gl_ok w hw)) rfl)
  have i1 : mv_in k := by constructor <;> omega
  have i2 : mv_in n := by constructor <;> omega
  obtain ⟨kA, hkA, hkindA⟩ := hKx.2.2.2.1
  obtain ⟨-, k0, hk0, cc0, hkind0⟩ := (hKx.1.2 0 _ rfl).1 0 (fun _ => .int 0)
  have hk0 : s.vm.classes[dA 0]? = some k0 := hk0
  have hnameA : s.vm.findClass ("[" ++ (FieldType.array .int).toString) = some (dA 4) := (hKx.1.2 4 _ rfl).2
  intro H locs cells slots ls h1 h2 h3 h4
  refine mv_wsz (fun hz => ?_)
  have hsz : H.size = B + h.1.length := mv_size h1 hn h3 hz
  have e2 : mv_sl (h.1 ++ ((.inr (.inl (4, (List.range n.toNat).map (fun j => some (h.1.length + 1 + j)))) : mv_K) :: List.replicate n.toNat (.inl (0, k.toNat)))) = mv_sl h.1 + n.toNat + n.toNat * k.toNat := by
    rw [mv_sl_app]
    simp [mv_sl, mv_sz]
    omega
  have e3 : (h.1 ++ ((.inr (.inl (4, (List.range n.toNat).map (fun j => some (h.1.length + 1 + j)))) : mv_K) :: List.replicate n.toNat (.inl (0, k.toNat)))).length = h.1.length + 1 + n.toNat := by
    simp
    omega
  have hcells : cells + (1 + n.toNat) ≤ R.cells := by simp only at hRc h3; rw [e3] at hRc; omega
  have hslots : slots + (n.toNat + n.toNat * k.toNat) ≤ R.slots := by simp only at hRs h4; rw [e2] at hRs; omega
  intro T hT X
  have hpl : e.platform.magicAccessors = ({} : Platform).magicAccessors := by rw [X.admits.platform]
  obtain ⟨c0, hfc0, hcl⟩ := Cond.classLink_spec hown hlink e.platform hpl
  have ec0 : c0 = dA 4 := Option.some.inj (hfc0.symm.trans hnameA)
  subst ec0
  obtain ⟨hg₁, hwarm₁, hready₁⟩ := State.classEntry (e := e) X.warmed hcl
  generalize T.vm.noted m.cls w.2.1 (.cls (dA 4)) = vm₁ at hg₁ hwarm₁ hready₁
  obtain ⟨kA₁, hkA₁, heA⟩ := hwarm₁.alike.2.2 _ _ hkA
  obtain ⟨k0₁, hk0₁, he0⟩ := hwarm₁.alike.2.2 _ _ hk0
  have X₁ := X.noted hwarm₁
  obtain ⟨hr1, hr2⟩ := X.roomAbove hcells hslots
  obtain ⟨locs', hl', XF⟩ := mg_stand X₁ (dA 4) (dA 0) n.toNat k.toNat n.toNat
  obtain ⟨f1, f2, -, -, f5, f6⟩ := mg_facts (T.setVm vm₁) (dA 4) (dA 0) n.toNat k.toNat n.toNat
  have hTh : (T.setVm vm₁).heap = H := hT
  rw [hTh] at f1 f2 f5 f6 hl'
  have hR1 : mv_R D dA B b s (h.1 ++ (.inr (.inl (4, (List.range n.toNat).map (fun j => some (h.1.length + 1 + j)))) :: List.replicate n.toNat (.inl (0, k.toNat))), mv_new h.2 h.1.length) (mg_f (T.setVm vm₁) (dA 4) (dA 0) n.toNat k.toNat n.toNat).heap locs' := by
    have h1' : mv_R D dA B b s h H locs' := ⟨h1.1, h1.2.1, ⟨h1.2.2.1.1, h1.2.2.1.2.1, fun q hq => by
      rcases hl' q hq with z | z
      · exact h1.2.2.1.2.2 q z
      · show B ≤ q.base
        rw [z]
        show B ≤ H.size
        omega⟩, h1.2.2.2⟩
    refine mv_grew h1' hsz (by simp; omega) f5 (by omega) (fun j q hj => ?_)
    rcases j with _ | j
    · cases hj
      show (mg_f (T.setVm vm₁) (dA 4) (dA 0) n.toNat k.toNat n.toNat).heap[B + (h.1.length + 0)]? = some (vp_cell _ _)
      rw [Nat.add_zero, ← hsz, f2, vp_cell_q]
      simp only [List.length_map, List.length_range]
      unfold mg_o
      congr 2
      funext j
      by_cases z : j < n.toNat
      · rw [if_pos z]
        have e4 : ((List.range n.toNat).map (fun j => some (h.1.length + 1 + j))).getD j none = some (h.1.length + 1 + j) := by
          rw [List.getD_eq_getElem?_getD, List.getElem?_map, List.getElem?_range z]
          rfl
        rw [e4]
        show _ = va_rf (some (mv_ad B b (h.1.length + 1 + j)))
        have e6 : B + h.1.length + 1 + j = B + (h.1.length + 1 + j) := by omega
        rw [mv_ad_in (by omega), hsz, e6]
        rfl
      · rw [if_neg z]
        have e4 : ((List.range n.toNat).map (fun j => some (h.1.length + 1 + j))).getD j none = none := by
          rw [List.getD_eq_getElem?_getD, List.getElem?_map, List.getElem?_eq_none (by rw [List.length_range]; omega)]
          rfl
        rw [e4]
        rfl
    · rw [List.getElem?_cons_succ, List.getElem?_replicate] at hj
      split at hj
      · rename_i hjn
        cases hj
        show (mg_f (T.setVm vm₁) (dA 4) (dA 0) n.toNat k.toNat n.toNat).heap[B + (h.1.length + (j + 1))]? = some (vp_cell _ _)
        rw [show B + (h.1.length + (j + 1)) = H.size + 1 + j by omega, f6 j hjn, vp_cell_i]
        unfold mg_r
        congr 2
        funext i
        have e5 : mv_new h.2 h.1.length (h.1.length + (j + 1)) i = 0 := by
          unfold mv_new
          rw [if_pos (by omega)]
        rw [e5, mv_zero]
      · cases hj
  obtain ⟨t, a1, b1⟩ := kk _ locs' (cells + 1 + n.toNat) (slots + n.toNat + n.toNat * k.toNat) ls hR1 h2 (by show _ = _; rw [e3]; simp only at h3; omega) (by show _ = mv_sl _; rw [e2]; simp only at h4; omega) (mg_f (T.setVm vm₁) (dA 4) (dA 0) n.toNat k.toNat n.toNat) rfl XF
  refine ⟨t, ?_, b1⟩
  simp only [List.map_cons, mv_cv, mv_ad_len c5] at a1
  rw [← hsz, ← hT] at a1
  have hl1 : ¬ (Int32.ofInt n).toNatClampNeg > e.platform.arrayLengthLimit := by rw [Launch.admits_arrayLengthLimit X.admits, mv_clamp i2]; omega
  have hh1 : ¬ (Int32.ofInt n).toNatClampNeg * componentBytes (.array .int) > e.platform.maxHeapBytes := by
    rw [Launch.admits_maxHeapBytes X.admits, mv_clamp i2]
    show ¬ n.toNat * 4 > 536870912
    omega
  have hl2 : ¬ (Int32.ofInt k).toNatClampNeg > e.platform.arrayLengthLimit := by rw [Launch.admits_arrayLengthLimit X.admits, mv_clamp i1]; omega
  have hh2 : ¬ (Int32.ofInt k).toNatClampNeg * componentBytes .int > e.platform.maxHeapBytes := by
    rw [Launch.admits_maxHeapBytes X.admits, mv_clamp i1]
    show ¬ k.toNat * 4 > 536870912
    omega
  generalize hg : F0 m pc ls (List.map (mv_cv B b) (mI k :: mI n :: S')) = g
  have gm : g.method = m := by rw [← hg]
  have gp : g.pc = pc := by rw [← hg]
  have gs : g.stack = .int (Int32.ofInt k) :: .int (Int32.ofInt n) :: S'.map (mv_cv B b) := by rw [← hg]; rfl
  have a2 : Steps p.tables e below ((mg_f (T.setVm vm₁) (dA 4) (dA 0) n.toNat k.toNat n.toNat).setTop { g with pc := g.pc + 4, stack := .ref T.heap.size :: S'.map (mv_cv B b) }) t := by rw [← hg]; exact a1
  have hd' : decode c.code g.pc = .ok (.multianewarray w.2.1 2, 4) := by rw [hb, gp]; exact hd
  clear hg a1
  subst gm
  jvm_step X.here [hx, hd']
  simp only [Op.multianewarray.sem, wp_bind', W.resolveClassAt_links (State.method?_setTop g X.here.top) hg₁]
  rw [W.popN, if_neg (by decide)]
  refine ⟨g, State.topJava?_setTop' (s := T.setVm vm₁) g X.here.top, [.int (Int32.ofInt n), .int (Int32.ofInt k)], S'.map (mv_cv B b), rfl, gs, ?_⟩
  simp only [List.mapM_cons, List.mapM_nil, wp_bind', wp_pure']
  refine mg_make (k := kA₁) (km := k0₁) (cm := dA 0) (cc := cc0) hkA₁ (by rw [heA]; exact hkindA) hk0₁ (by rw [he0]; exact hkind0) (mv_nneg i2 c2) (mv_nneg i1 c1) hl1 hh1 hl2 hh2 (by show T.heap.size + 1 + _ ≤ _; rw [mv_clamp i2]; omega) (by show T.slotsUsed + _ + _ ≤ _; rw [mv_clamp i2, mv_clamp i1]; omega) (fun d' acts' => ?_)
  have eS : ((T.setTop g).setVm vm₁).setTop { g with stack := S'.map (mv_cv B b) } = (T.setVm vm₁).setTop { g with stack := S'.map (mv_cv B b) } := by
    show ((T.setVm vm₁).setTop g).setTop _ = _
    rw [State.setTop_setTop]
  rw [eS, mg_top, mv_clamp i1, mv_clamp i2]
  simp only [wp_bind', W.mark, W.pushRef, State.topJava?_setTop' _ XF.here.top, Option.some.injEq, exists_eq_left', State.setTop_setTop, State.heap_setTop]
  intro acts
  simp [jvm, XF.here.top]
  exact a2
end MVY
