/-! THE BRIBES, pure: c m e what a monkey m costs to vote e higher than by itself (1000: it can't), v m how it votes by itself -/
def nb (x f : Int) : Int := if x + f < 1000 then x + f else 1000
def bst3 (v : Int) (a : Nat → Int) : Nat :=
  if v + 2 ≤ 1 ∧ a 2 < a (if v + 1 ≤ 1 ∧ a 1 < a 0 then 1 else 0) then 2 else if v + 1 ≤ 1 ∧ a 1 < a 0 then 1 else 0
theorem bst3_spec {v : Int} {a : Nat → Int} (hv : -1 ≤ v ∧ v ≤ 1) : bst3 v a ≤ 2 ∧ v + bst3 v a ≤ 1 ∧ (∀ e : Nat, e ≤ 2 → v + e ≤ 1 → a (bst3 v a) ≤ a e) ∧ ∀ e : Nat, e < bst3 v a → a (bst3 v a) < a e := by
  unfold bst3
  by_cases w : v + 1 ≤ 1 ∧ a 1 < a 0
  · rw [if_pos w]
    by_cases u : v + 2 ≤ 1 ∧ a 2 < a 1
    · rw [if_pos u]
      refine ⟨by omega, by omega, fun e he hv => ?_, fun e he => ?_⟩
      · rcases (show e = 0 ∨ e = 1 ∨ e = 2 by omega) with rfl | rfl | rfl <;> omega
      · rcases (show e = 0 ∨ e = 1 by omega) with rfl | rfl <;> omega
    · rw [if_neg u]
      refine ⟨by omega, by omega, fun e he hv => ?_, fun e he => ?_⟩
      · rcases (show e = 0 ∨ e = 1 ∨ e = 2 by omega) with rfl | rfl | rfl <;> omega
      · have : e = 0 := by omega
        subst this
        omega
  · rw [if_neg w]
    by_cases u : v + 2 ≤ 1 ∧ a 2 < a 0
    · rw [if_pos u]
      refine ⟨by omega, by omega, fun e he hv => ?_, fun e he => ?_⟩
      · rcases (show e = 0 ∨ e = 1 ∨ e = 2 by omega) with rfl | rfl | rfl <;> omega
      · rcases (show e = 0 ∨ e = 1 by omega) with rfl | rfl <;> omega
    · rw [if_neg u]
      refine ⟨by omega, by omega, fun e he hv => ?_, fun e he => absurd he (by omega)⟩
      rcases (show e = 0 ∨ e = 1 ∨ e = 2 by omega) with rfl | rfl | rfl <;> omega
section BP
variable (c : Nat → Nat → Int) (v : Nat → Int)
def fw : Nat → Nat → Int → Int
  | 0, _, s => if 0 < s then 0 else 1000
  | k + 1, m, s => nb (c m (bst3 (v m) (fun e => nb (c m e) (fw k (m + 1) (s + v m + e))))) (fw k (m + 1) (s + v m + (bst3 (v m) (fun e => nb (c m e) (fw k (m + 1) (s + v m + e))) : Nat)))
def bs (k m : Nat) (s : Int) : Nat := bst3 (v m) (fun e => nb (c m e) (fw c v k (m + 1) (s + v m + e)))
theorem fw_s (k m : Nat) (s : Int) : fw c v (k + 1) m s = nb (c m (bs c v k m s)) (fw c v k (m + 1) (s + v m + bs c v k m s)) := rfl
def nc : Nat → Nat → Int → Nat
  | 0, _, _ => 0
  | k + 1, m, s => bs c v k m s * 3 ^ k + nc k (m + 1) (s + v m + bs c v k m s)
def fn : Nat → Nat → Int → Nat → Int
  | 0, _, s, _ => if 0 < s then 0 else 1000
  | k + 1, m, s, n => c m (n / 3 ^ k) + fn k (m + 1) (s + v m + ((n / 3 ^ k : Nat) : Int)) (n % 3 ^ k)
end BP
/-- what the costs are like -/
def cok (c : Nat → Nat → Int) (v : Nat → Int) : Prop := (∀ m, -1 ≤ v m ∧ v m ≤ 1) ∧ (∀ m e, e ≤ 2 → (0 ≤ c m e ∧ c m e ≤ 9) ∨ c m e = 1000) ∧ ∀ m (e : Nat), e ≤ 2 → 1 < v m + e → c m e = 1000
section BQ
variable {c : Nat → Nat → Int} {v : Nat → Int} (h : cok c v)
theorem fw_in : ∀ (k m : Nat) (s : Int), fw c v k m s ≤ 1000
  | 0, m, s => by
    simp only [fw]
    split <;> omega
  | k + 1, m, s => by
    rw [fw_s]
    unfold nb
    split <;> omega
theorem bs_spec (h : cok c v) (k m : Nat) (s : Int) : bs c v k m s ≤ 2 ∧ v m + bs c v k m s ≤ 1 ∧ (∀ e : Nat, e ≤ 2 → v m + e ≤ 1 → fw c v (k + 1) m s ≤ nb (c m e) (fw c v k (m + 1) (s + v m + e))) ∧ ∀ e : Nat, e < bs c v k m s → fw c v (k + 1) m s < nb (c m e) (fw c v k (m + 1) (s + v m + e)) :=
  bst3_spec (a := fun e => nb (c m e) (fw c v k (m + 1) (s + v m + e))) (h.1 m)
theorem fw_ge (h : cok c v) : ∀ (k m : Nat) (s : Int), 0 ≤ fw c v k m s
  | 0, m, s => by
    simp only [fw]
    split <;> omega
  | k + 1, m, s => by
    have h1 := fw_ge h k (m + 1) (s + v m + bs c v k m s)
    have h2 := h.2.1 m (bs c v k m s) (bs_spec h k m s).1
    rw [fw_s]
    unfold nb
    split <;> omega
theorem nc_lt (h : cok c v) : ∀ (k m : Nat) (s : Int), nc c v k m s < 3 ^ k
  | 0, m, s => by simp [nc]
  | k + 1, m, s => by
    have h1 := nc_lt h k (m + 1) (s + v m + bs c v k m s)
    have h2 := (bs_spec h k m s).1
    have h3 : bs c v k m s * 3 ^ k ≤ 2 * 3 ^ k := Nat.mul_le_mul_right _ h2
    simp only [nc]
    rw [Nat.pow_succ]
    omega
theorem nb_le {x f y : Int} (h : f ≤ y) : nb x f ≤ x + y ∨ nb x f = 1000 := by
  unfold nb
  split <;> omega
theorem fn_ge (h : cok c v) : ∀ (k m : Nat) (s : Int) (n : Nat), n < 3 ^ k → fw c v k m s ≤ fn c v k m s n
  | 0, m, s, n, _ => by
    simp only [fw, fn]
    exact Int.le_refl _
  | k + 1, m, s, n, hn => by
    have pB : 0 < 3 ^ k := Nat.pow_pos (by decide)
    have d1 : n / 3 ^ k < 3 := by
      rw [Nat.div_lt_iff_lt_mul pB, Nat.mul_comm, ← Nat.pow_succ]
      exact hn
    have h1 := fn_ge h k (m + 1) (s + v m + ((n / 3 ^ k : Nat) : Int)) (n % 3 ^ k) (Nat.mod_lt _ pB)
    have h2 := h.2.1 m (n / 3 ^ k) (by omega)
    have h3 := fw_in (c := c) (v := v) (k + 1) m s
    have h4 := fw_ge h k (m + 1) (s + v m + ((n / 3 ^ k : Nat) : Int))
    simp only [fn]
    by_cases w : v m + ((n / 3 ^ k : Nat) : Int) ≤ 1
    · have h5 := (bs_spec h k m s).2.2.1 (n / 3 ^ k) (by omega) w
      unfold nb at h5
      split at h5 <;> omega
    · have h5 := h.2.2 m (n / 3 ^ k) (by omega) (by omega)
      omega
theorem fn_nc (h : cok c v) : ∀ (k m : Nat) (s : Int), fw c v k m s < 1000 → fn c v k m s (nc c v k m s) = fw c v k m s ∧ ∀ n, n < nc c v k m s → fw c v k m s < fn c v k m s n
  | 0, m, s, _ => ⟨rfl, fun n hn => absurd hn (by simp [nc])⟩
  | k + 1, m, s, hf => by
    have pB : 0 < 3 ^ k := Nat.pow_pos (by decide)
    obtain ⟨b1, b2, b3, b4⟩ := bs_spec h k m s
    have l1 := nc_lt h k (m + 1) (s + v m + bs c v k m s)
    have c1 := h.2.1 m (bs c v k m s) b1
    have g1 := fw_ge h k (m + 1) (s + v m + bs c v k m s)
    have ef := fw_s c v k m s
    have ef2 : fw c v (k + 1) m s = c m (bs c v k m s) + fw c v k (m + 1) (s + v m + bs c v k m s) := by
      unfold nb at ef
      split at ef <;> omega
    obtain ⟨i1, i2⟩ := fn_nc h k (m + 1) (s + v m + bs c v k m s) (by omega)
    have q1 : nc c v (k + 1) m s / 3 ^ k = bs c v k m s := by
      simp only [nc]
      rw [Nat.add_comm, Nat.add_mul_div_right _ _ pB, Nat.div_eq_of_lt l1, Nat.zero_add]
    have q2 : nc c v (k + 1) m s % 3 ^ k = nc c v k (m + 1) (s + v m + bs c v k m s) := by
      simp only [nc]
      rw [Nat.add_comm, Nat.add_mul_mod_self_right, Nat.mod_eq_of_lt l1]
    refine ⟨?_, fun n hn => ?_⟩
    · simp only [fn]
      rw [q1, q2, i1, ef2]
    · have d0 := Nat.div_add_mod n (3 ^ k)
      have d2 := Nat.mod_lt n pB
      have le : n / 3 ^ k ≤ bs c v k m s := by
        rw [← q1]
        exact Nat.div_le_div_right (Nat.le_of_lt hn)
      simp only [fn]
      by_cases w : n / 3 ^ k = bs c v k m s
      · rw [w]
        have : n % 3 ^ k < nc c v k (m + 1) (s + v m + bs c v k m s) := by
          simp only [nc] at hn
          rw [w, Nat.mul_comm] at d0
          omega
        have := i2 _ this
        omega
      · have b5 := b4 (n / 3 ^ k) (by omega)
        have h1 := fn_ge h k (m + 1) (s + v m + ((n / 3 ^ k : Nat) : Int)) (n % 3 ^ k) d2
        have h2 := h.2.1 m (n / 3 ^ k) (by omega)
        unfold nb at b5
        split at b5 <;> omega
/-- prefix sums by the digits, the first monkey's the highest -/
def dgt (nm n i : Nat) : Nat := n / 3 ^ (nm - 1 - i) % 3
theorem dgt_lt (nm n i : Nat) : dgt nm n i ≤ 2 := by
  unfold dgt
  have := Nat.mod_lt (n / 3 ^ (nm - 1 - i)) (show 3 > 0 by decide)
  omega
def sumc (c : Nat → Nat → Int) (nm n : Nat) : Nat → Int
  | 0 => 0
  | j + 1 => sumc c nm n j + c j (dgt nm n j)
def mgc (v : Nat → Int) (nm n : Nat) : Nat → Int
  | 0 => 0
  | j + 1 => mgc v nm n j + v j + dgt nm n j
theorem dg3 (n k : Nat) : n % 3 ^ (k + 1) / 3 ^ k = n / 3 ^ k % 3 ∧ n % 3 ^ (k + 1) % 3 ^ k = n % 3 ^ k := by
  rw [Nat.pow_succ]
  exact ⟨Nat.mod_mul_right_div_self .., Nat.mod_mul_right_mod ..⟩
theorem fn_sum {nm n : Nat} : ∀ (k m : Nat), m + k = nm → sumc c nm n m + fn c v k m (mgc v nm n m) (n % 3 ^ k) = sumc c nm n nm + if 0 < mgc v nm n nm then 0 else 1000
  | 0, m, e => by
    have : m = nm := by omega
    subst this
    rfl
  | k + 1, m, e => by
    have ih := fn_sum (nm := nm) (n := n) k (m + 1) (by omega)
    have ed : dgt nm n m = n / 3 ^ k % 3 := by
      unfold dgt
      rw [show nm - 1 - m = k by omega]
    simp only [sumc, mgc] at ih
    simp only [fn]
    rw [(dg3 n k).1, (dg3 n k).2, ← ed, ← ih]
    omega
theorem fn_all {nm n : Nat} (hn : n < 3 ^ nm) : fn c v nm 0 0 n = sumc c nm n nm + if 0 < mgc v nm n nm then 0 else 1000 := by
  have := fn_sum (c := c) (v := v) (nm := nm) (n := n) nm 0 (by omega)
  simp only [sumc, mgc] at this
  rw [Nat.mod_eq_of_lt hn] at this
  omega
theorem sumc_or (h : cok c v) {nm n : Nat} : ∀ j : Nat, (0 ≤ sumc c nm n j ∧ sumc c nm n j ≤ 9 * j ∧ ∀ i, i < j → c i (dgt nm n i) ≤ 9) ∨ 1000 ≤ sumc c nm n j
  | 0 => Or.inl ⟨by simp [sumc], by simp [sumc], fun i hi => absurd hi (by omega)⟩
  | j + 1 => by
    have ih := sumc_or h (nm := nm) (n := n) j
    have h2 := h.2.1 j (dgt nm n j) (dgt_lt ..)
    simp only [sumc]
    rcases ih with ⟨i1, i2, i3⟩ | ih
    · rcases h2 with h2 | h2
      · refine Or.inl ⟨by omega, by omega, fun i hi => ?_⟩
        by_cases w : i = j
        · rw [w]; omega
        · exact i3 i (by omega)
      · exact Or.inr (by omega)
    · exact Or.inr (by omega)
theorem fn_or (h : cok c v) {nm n : Nat} (n6 : nm ≤ 6) (hn : n < 3 ^ nm) : fn c v nm 0 0 n ≤ 54 ∨ 1000 ≤ fn c v nm 0 0 n := by
  rw [fn_all hn]
  have := sumc_or h (nm := nm) (n := n) nm
  split <;> omega
/-- the class's choice, monkey by monkey, is the number's digits -/
theorem nc_dig (h : cok c v) {nm : Nat} : ∀ (k m : Nat), m + k = nm → nc c v nm 0 0 % 3 ^ k = nc c v k m (mgc v nm (nc c v nm 0 0) m) ∧ ∀ k', k = k' + 1 → dgt nm (nc c v nm 0 0) m = bs c v k' m (mgc v nm (nc c v nm 0 0) m) := by
  have key : ∀ (m k : Nat), m + k = nm → nc c v nm 0 0 % 3 ^ k = nc c v k m (mgc v nm (nc c v nm 0 0) m) ∧ ∀ k', k = k' + 1 → dgt nm (nc c v nm 0 0) m = bs c v k' m (mgc v nm (nc c v nm 0 0) m) := by
    have dig : ∀ (m k' : Nat), m + (k' + 1) = nm → nc c v nm 0 0 % 3 ^ (k' + 1) = nc c v (k' + 1) m (mgc v nm (nc c v nm 0 0) m) → dgt nm (nc c v nm 0 0) m = bs c v k' m (mgc v nm (nc c v nm 0 0) m) := by
      intro m k' e q
      have pB : 0 < 3 ^ k' := Nat.pow_pos (by decide)
      have l1 := nc_lt h k' (m + 1) (mgc v nm (nc c v nm 0 0) m + v m + bs c v k' m (mgc v nm (nc c v nm 0 0) m))
      unfold dgt
      rw [show nm - 1 - m = k' by omega, ← (dg3 _ k').1, q]
      simp only [nc]
      rw [Nat.add_comm, Nat.add_mul_div_right _ _ pB, Nat.div_eq_of_lt l1, Nat.zero_add]
    intro m
    induction m with
    | zero =>
      intro k e
      have ek : k = nm := by omega
      have q : nc c v nm 0 0 % 3 ^ k = nc c v k 0 (mgc v nm (nc c v nm 0 0) 0) := by
        rw [ek, Nat.mod_eq_of_lt (nc_lt h nm 0 0)]
        rfl
      refine ⟨q, fun k' ek' => ?_⟩
      subst ek'
      exact dig 0 k' e q
    | succ m im =>
      intro k e
      obtain ⟨i1, i2⟩ := im (k + 1) (by omega)
      have i3 := i2 k rfl
      have pB : 0 < 3 ^ k := Nat.pow_pos (by decide)
      have l1 := nc_lt h k (m + 1) (mgc v nm (nc c v nm 0 0) m + v m + bs c v k m (mgc v nm (nc c v nm 0 0) m))
      have q : nc c v nm 0 0 % 3 ^ k = nc c v k (m + 1) (mgc v nm (nc c v nm 0 0) (m + 1)) := by
        have em : mgc v nm (nc c v nm 0 0) (m + 1) = mgc v nm (nc c v nm 0 0) m + v m + bs c v k m (mgc v nm (nc c v nm 0 0) m) := by
          simp only [mgc]
          rw [i3]
        rw [em, ← (dg3 _ k).2, i1]
        simp only [nc]
        rw [Nat.add_comm, Nat.add_mul_mod_self_right, Nat.mod_eq_of_lt l1]
      refine ⟨q, fun k' ek' => ?_⟩
      subst ek'
      exact dig (m + 1) k' e q
  exact fun k m e => key m k e
/-- who is least and first is one alone -/
theorem least_one {f : Nat → Int} {N a b : Nat} (ha : a < N) (hb : b < N) (a1 : ∀ n, n < a → f a < f n) (a2 : ∀ n, n < N → f a ≤ f n) (b1 : ∀ n, n < b → f b < f n) (b2 : ∀ n, n < N → f b ≤ f n) : a = b := by
  rcases Nat.lt_trichotomy a b with w | w | w
  · have := b1 a w
    have := a2 b hb
    omega
  · exact w
  · have := a1 b w
    have := b2 a ha
    omega
end BQ
