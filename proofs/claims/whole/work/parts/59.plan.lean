/-! THE PLAN, pure: rows of tunes as numbers to the base 12 -/
def frst {α : Type} (f : Nat → Option α) : Nat → Nat → Option α
  | 0, _ => none
  | n + 1, j => match f j with
    | some r => some r
    | none => frst f n (j + 1)
theorem frst_s {α : Type} {f : Nat → Option α} {n j : Nat} {r : α} (h : f j = some r) : frst f (n + 1) j = some r := by
  simp only [frst, h]
theorem frst_n {α : Type} {f : Nat → Option α} {n j : Nat} (h : f j = none) : frst f (n + 1) j = frst f n (j + 1) := by
  simp only [frst, h]
theorem frst_none {α : Type} {f : Nat → Option α} : ∀ (n j : Nat), (∀ i, j ≤ i → i < j + n → f i = none) → frst f n j = none
  | 0, _, _ => rfl
  | n + 1, j, h => by
    rw [frst_n (h j (by omega) (by omega)), frst_none n (j + 1) (fun i h1 h2 => h i (by omega) (by omega))]
theorem frst_skip {α : Type} {f : Nat → Option α} : ∀ (m n j : Nat), (∀ i, j ≤ i → i < j + m → f i = none) → frst f (m + n) j = frst f n (j + m)
  | 0, n, j, _ => by rw [Nat.zero_add, Nat.add_zero]
  | m + 1, n, j, h => by
    rw [show m + 1 + n = m + n + 1 by omega, frst_n (h j (by omega) (by omega)), frst_skip m n (j + 1) (fun i h1 h2 => h i (by omega) (by omega)), show j + 1 + m = j + (m + 1) by omega]
theorem frst_cong {α : Type} {f g : Nat → Option α} : ∀ (n j : Nat), (∀ i, j ≤ i → i < j + n → f i = g i) → frst f n j = frst g n j
  | 0, _, _ => rfl
  | n + 1, j, h => by
    simp only [frst]
    rw [h j (by omega) (by omega), frst_cong n (j + 1) (fun i h1 h2 => h i (by omega) (by omega))]
theorem frst_map {α β : Type} {f : Nat → Option α} {h : α → β} : ∀ (n j : Nat), frst (fun i => (f i).map h) n j = (frst f n j).map h
  | 0, _ => rfl
  | n + 1, j => by
    cases e : f j with
    | some r => rw [frst_s (f := f) e, frst_s (f := fun i => (f i).map h) (r := h r) (by simp [e])]; rfl
    | none => rw [frst_n (f := f) e, frst_n (f := fun i => (f i).map h) (by simp [e]), frst_map n (j + 1)]
theorem frst_shift {α : Type} {f : Nat → Option α} {a : Nat} : ∀ (n j : Nat), frst f n (j + a) = frst (fun i => f (i + a)) n j
  | 0, _ => rfl
  | n + 1, j => by
    simp only [frst]
    rw [show j + a + 1 = j + 1 + a by omega, frst_shift n (j + 1)]
theorem frst_add {α : Type} {f : Nat → Option α} : ∀ (a b j : Nat), frst f (a + b) j = match frst f a j with
    | some r => some r
    | none => frst f b (j + a)
  | 0, b, j => by rw [Nat.zero_add, Nat.add_zero]; rfl
  | a + 1, b, j => by
    rw [show a + 1 + b = a + b + 1 by omega]
    cases e : f j with
    | some r => rw [frst_s e, frst_s e]
    | none => rw [frst_n e, frst_n e, frst_add a b (j + 1), show j + 1 + a = j + (a + 1) by omega]
theorem frst_mul {α : Type} {f : Nat → Option α} {B : Nat} : ∀ (A j : Nat), frst f (A * B) (j * B) = frst (fun q => frst f B (q * B)) A j
  | 0, j => by rw [Nat.zero_mul]; rfl
  | A + 1, j => by
    rw [Nat.succ_mul, Nat.add_comm, frst_add]
    simp only [frst]
    rw [show j * B + B = (j + 1) * B by rw [Nat.succ_mul], frst_mul A (j + 1)]
section PL
variable (nm : Nat) (tu no : Int) (home coat : Nat → Int) (like : Nat → Nat → Int)
/-- the number n as a row of k tunes: each can be played, and behind it it carries -/
def chk : Nat → Nat → (Nat → Int) → Bool
  | 0, _, g => decide (0 < marg coat g nm)
  | k + 1, n, g => decide (((n / 12 ^ k / 4 : Nat) : Int) < no ∧ ((n / 12 ^ k % 4 : Nat) : Int) < tu) && chk k (n % 12 ^ k) (play nm tu home like g (n / 12 ^ k / 4) ((n / 12 ^ k % 4 : Nat) : Int))
def srch (k : Nat) (g : Nat → Int) : Option Nat := frst (fun n => if chk nm tu no home coat like k n g = true then some n else none) (12 ^ k) 0
/-- one tune more ahead -/
def sq (k : Nat) (g : Nat → Int) (q : Nat) : Option Nat := if ((q / 4 : Nat) : Int) < no ∧ ((q % 4 : Nat) : Int) < tu then (srch nm tu no home coat like k (play nm tu home like g (q / 4) ((q % 4 : Nat) : Int))).map (fun r => q * 12 ^ k + r) else none
theorem srch_s (k : Nat) (g : Nat → Int) : srch nm tu no home coat like (k + 1) g = frst (sq nm tu no home coat like k g) 12 0 := by
  unfold srch
  have pB : 0 < 12 ^ k := Nat.pow_pos (by decide)
  have e := frst_mul (f := fun n => if chk nm tu no home coat like (k + 1) n g = true then some n else none) (B := 12 ^ k) 12 0
  rw [Nat.zero_mul] at e
  rw [Nat.pow_succ, Nat.mul_comm, e]
  refine frst_cong 12 0 (fun q _ _ => ?_)
  have e2 := frst_shift (f := fun n => if chk nm tu no home coat like (k + 1) n g = true then some n else none) (a := q * 12 ^ k) (12 ^ k) 0
  rw [Nat.zero_add] at e2
  rw [e2]
  unfold sq
  by_cases w : ((q / 4 : Nat) : Int) < no ∧ ((q % 4 : Nat) : Int) < tu
  · rw [if_pos w]
    unfold srch
    rw [← frst_map]
    refine frst_cong _ 0 (fun r _ hr => ?_)
    have d1 : (r + q * 12 ^ k) / 12 ^ k = q := by
      rw [Nat.add_mul_div_right _ _ pB, Nat.div_eq_of_lt (by omega), Nat.zero_add]
    have d2 : (r + q * 12 ^ k) % 12 ^ k = r := by
      rw [Nat.add_mul_mod_self_right, Nat.mod_eq_of_lt (by omega)]
    have d3 : chk nm tu no home coat like (k + 1) (r + q * 12 ^ k) g = chk nm tu no home coat like k r (play nm tu home like g (q / 4) ((q % 4 : Nat) : Int)) := by
      simp only [chk]
      rw [d1, d2, decide_eq_true w, Bool.true_and]
    rw [d3, Nat.add_comm r]
    by_cases u : chk nm tu no home coat like k r (play nm tu home like g (q / 4) ((q % 4 : Nat) : Int)) = true
    · rw [if_pos u, if_pos u]; rfl
    · rw [if_neg u, if_neg u]; rfl
  · rw [if_neg w]
    refine frst_none _ 0 (fun r _ hr => ?_)
    have d1 : (r + q * 12 ^ k) / 12 ^ k = q := by
      rw [Nat.add_mul_div_right _ _ pB, Nat.div_eq_of_lt (by omega), Nat.zero_add]
    have d3 : chk nm tu no home coat like (k + 1) (r + q * 12 ^ k) g = false := by
      simp only [chk]
      rw [d1, decide_eq_false w, Bool.false_and]
    rw [d3]
    rfl
theorem srch_0 (g : Nat → Int) : srch nm tu no home coat like 0 g = if 0 < marg coat g nm then some 0 else none := by
  show frst (fun n => if chk nm tu no home coat like 0 n g = true then some n else none) 1 0 = _
  by_cases w : 0 < marg coat g nm
  · rw [if_pos w, frst_s (r := 0)]
    rw [if_pos (show chk nm tu no home coat like 0 0 g = true from decide_eq_true w)]
  · rw [if_neg w, frst_n]
    · rfl
    rw [if_neg (show ¬ chk nm tu no home coat like 0 0 g = true from fun z => w (of_decide_eq_true z))]
def plan1 (g : Nat → Int) : Option (Nat × Nat) := frst (fun many => (srch nm tu no home coat like many g).map (fun n => (many, n))) 4 0
end PL
theorem chk_dR {nm : Nat} {st tu no : Int} {home coat home' coat' : Nat → Int} {like like' : Nat → Nat → Int} (hn : nm ≤ 6) (htu : 1 ≤ tu ∧ tu ≤ 4) (n3 : no ≤ 3) (eh : ∀ m, m < nm → home' m = home m) (ec : ∀ m, m < nm → coat' m = coat m) (el : ∀ m t : Nat, m < nm → (t : Int) < tu → like' m t = like m t) : ∀ (k n : Nat) (g h : Nat → Int), dR st no g h → chk nm tu no home' coat' like' k n h = chk nm tu no home coat like k n g
  | 0, n, g, h, p => by
    simp only [chk]
    rw [show marg coat' h nm = marg coat g nm from marg_cong nm (fun m hm => vote_cong (ec m hm) (p.2.2.1 0 (by omega)) (p.2.2.1 (3 + m) (by omega)) (p.2.2.1 (9 + m) (by omega)))]
  | k + 1, n, g, h, p => by
    simp only [chk]
    by_cases w : ((n / 12 ^ k / 4 : Nat) : Int) < no ∧ ((n / 12 ^ k % 4 : Nat) : Int) < tu
    · have q := (play_dR (t := ((n / 12 ^ k % 4 : Nat) : Int)) hn htu n3 w.1 eh el p).2
      rw [chk_dR hn htu n3 eh ec el k (n % 12 ^ k) _ _ q]
    · rw [decide_eq_false w, Bool.false_and, Bool.false_and]
theorem srch_dR {nm : Nat} {st tu no : Int} {home coat home' coat' : Nat → Int} {like like' : Nat → Nat → Int} (hn : nm ≤ 6) (htu : 1 ≤ tu ∧ tu ≤ 4) (n3 : no ≤ 3) (eh : ∀ m, m < nm → home' m = home m) (ec : ∀ m, m < nm → coat' m = coat m) (el : ∀ m t : Nat, m < nm → (t : Int) < tu → like' m t = like m t) {k : Nat} {g h : Nat → Int} (r : dR st no g h) : srch nm tu no home' coat' like' k h = srch nm tu no home coat like k g := by
  unfold srch
  exact frst_cong _ 0 (fun n _ _ => by rw [chk_dR hn htu n3 eh ec el k n g h r])
def enc (q : Nat) : Int := 10 * ((q / 4 : Nat) : Int) + ((q % 4 : Nat) : Int)
