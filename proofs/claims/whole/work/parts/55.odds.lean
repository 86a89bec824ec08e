/-! THE ODDS, pure: the ways as a sum over who is asleep, by one monkey after another; Euclid -/
def shf1 (v : Nat → Int) : Nat → Int := fun i => v (i + 1)
def wy (x : Int) : Nat → (Nat → Int) → Int → Int
  | 0, _, s => if 0 < s then 1 else 0
  | k + 1, v, s => x * wy x k (shf1 v) s + (10 - x) * wy x k (shf1 v) (s + v 0)
def cw (x : Int) : Nat → (Nat → Int) → Int → Int
  | 0, _, s => if 0 < s then 1 else 0
  | k + 1, v, s => if v 0 = 0 then cw x k (shf1 v) s else x * cw x k (shf1 v) s + (10 - x) * cw x k (shf1 v) (s + v 0)
def zc (v : Nat → Int) : Nat → Nat
  | 0 => 0
  | m + 1 => zc v m + if v m = 0 then 1 else 0
def lw (v : Nat → Int) : Nat → Int
  | 0 => 1
  | m + 1 => if v m = 0 then lw v m else lw v m * 10
theorem zc_sh (v : Nat → Int) : ∀ k, zc v (k + 1) = zc (shf1 v) k + if v 0 = 0 then 1 else 0
  | 0 => by simp only [zc]
  | k + 1 => by
    have h := zc_sh v k
    have e1 : zc v (k + 1 + 1) = zc v (k + 1) + if v (k + 1) = 0 then 1 else 0 := rfl
    have e2 : zc (shf1 v) (k + 1) = zc (shf1 v) k + if v (k + 1) = 0 then 1 else 0 := rfl
    rw [e1, e2, h]
    omega
theorem wy_cw (x : Int) : ∀ (k : Nat) (v : Nat → Int) (s : Int), wy x k v s = 10 ^ zc v k * cw x k v s
  | 0, v, s => by simp [wy, cw, zc]
  | k + 1, v, s => by
    have h1 := wy_cw x k (shf1 v) s
    have h2 := wy_cw x k (shf1 v) (s + v 0)
    rw [zc_sh]
    simp only [wy, cw]
    rw [h1, h2]
    by_cases w : v 0 = 0
    · rw [if_pos w, if_pos w, w, Int.add_zero, ← Int.add_mul, show x + (10 - x) = 10 by omega, Int.pow_succ, Int.mul_comm (10 ^ zc (shf1 v) k) 10, Int.mul_assoc]
    · rw [if_neg w, if_neg w, Nat.add_zero, Int.mul_add, Int.mul_left_comm x, Int.mul_left_comm (10 - x)]
theorem lw_eq (v : Nat → Int) : ∀ m : Nat, (10 : Int) ^ m = 10 ^ zc v m * lw v m
  | 0 => by simp [zc, lw]
  | m + 1 => by
    have h := lw_eq v m
    simp only [zc, lw]
    by_cases w : v m = 0
    · rw [if_pos w, if_pos w, Int.pow_succ, h, Int.pow_succ, Int.mul_assoc, Int.mul_assoc, Int.mul_comm 10 (lw v m)]
    · rw [if_neg w, if_neg w, Int.pow_succ, h, Int.mul_assoc]
      rfl
theorem mix10 {x a b P : Int} (hx : 0 ≤ x ∧ x ≤ 10) (ha : 0 ≤ a ∧ a ≤ P) (hb : 0 ≤ b ∧ b ≤ P) : 0 ≤ x * a + (10 - x) * b ∧ x * a + (10 - x) * b ≤ P * 10 := by
  rcases (show x = 0 ∨ x = 1 ∨ x = 2 ∨ x = 3 ∨ x = 4 ∨ x = 5 ∨ x = 6 ∨ x = 7 ∨ x = 8 ∨ x = 9 ∨ x = 10 by omega) with rfl | rfl | rfl | rfl | rfl | rfl | rfl | rfl | rfl | rfl | rfl <;> omega
theorem cw_in {x : Int} (hx : 0 ≤ x ∧ x ≤ 10) : ∀ (k : Nat) (v : Nat → Int) (s : Int), 0 ≤ cw x k v s ∧ cw x k v s ≤ 10 ^ k
  | 0, v, s => by
    simp only [cw]
    split <;> decide
  | k + 1, v, s => by
    have h1 := cw_in hx k (shf1 v) s
    have h2 := cw_in hx k (shf1 v) (s + v 0)
    simp only [cw]
    rw [Int.pow_succ]
    split
    · omega
    · exact mix10 hx h1 h2
theorem wy_in {x : Int} (hx : 0 ≤ x ∧ x ≤ 10) : ∀ (k : Nat) (v : Nat → Int) (s : Int), 0 ≤ wy x k v s ∧ wy x k v s ≤ 10 ^ k
  | 0, v, s => by
    simp only [wy]
    split <;> decide
  | k + 1, v, s => by
    simp only [wy]
    rw [Int.pow_succ]
    exact mix10 hx (wy_in hx k (shf1 v) s) (wy_in hx k (shf1 v) (s + v 0))
theorem lw_in (v : Nat → Int) : ∀ m : Nat, 1 ≤ lw v m ∧ lw v m ≤ 10 ^ m
  | 0 => by simp [lw]
  | m + 1 => by
    have h := lw_in v m
    simp only [lw]
    rw [Int.pow_succ]
    split <;> omega
/-! the sum over who is asleep -/
def itP (x : Int) (a : Nat) : Nat → Int
  | 0 => 1
  | m + 1 => itP x a m * if a / 2 ^ m % 2 = 1 then x else 10 - x
def smP (v : Nat → Int) (a : Nat) : Nat → Int
  | 0 => 0
  | m + 1 => smP v a m + if a / 2 ^ m % 2 = 1 then 0 else v m
def trm (x : Int) (v : Nat → Int) (k : Nat) (s : Int) (a : Nat) : Int := if 0 < s + smP v a k then itP x a k else 0
def sumT (f : Nat → Int) : Nat → Int
  | 0 => 0
  | n + 1 => sumT f n + f n
theorem sum2 (f : Nat → Int) : ∀ n : Nat, sumT f (2 * n) = sumT (fun a => f (2 * a) + f (2 * a + 1)) n
  | 0 => rfl
  | n + 1 => by
    have h := sum2 f n
    rw [show 2 * (n + 1) = 2 * n + 1 + 1 by omega]
    simp only [sumT]
    rw [h]
    omega
theorem sum_lin (p q : Int) (f g : Nat → Int) : ∀ n : Nat, sumT (fun a => p * f a + q * g a) n = p * sumT f n + q * sumT g n
  | 0 => by simp [sumT]
  | n + 1 => by
    have h := sum_lin p q f g n
    simp only [sumT]
    rw [h, Int.mul_add, Int.mul_add]
    omega
theorem bit_sh {a b m : Nat} (hb : b < 2) : (2 * a + b) / 2 ^ (m + 1) % 2 = a / 2 ^ m % 2 := by
  rw [Nat.pow_succ, Nat.mul_comm (2 ^ m) 2, ← Nat.div_div_eq_div_mul, show (2 * a + b) / 2 = a by omega]
theorem itP_sh {x : Int} {a b : Nat} (hb : b < 2) : ∀ m : Nat, itP x (2 * a + b) (m + 1) = (if b = 1 then x else 10 - x) * itP x a m
  | 0 => by
    simp only [itP]
    rw [Nat.pow_zero, Nat.div_one, show (2 * a + b) % 2 = b by omega, Int.one_mul, Int.mul_one]
  | m + 1 => by
    have h := itP_sh (x := x) (a := a) hb m
    have e1 : itP x (2 * a + b) (m + 1 + 1) = itP x (2 * a + b) (m + 1) * if (2 * a + b) / 2 ^ (m + 1) % 2 = 1 then x else 10 - x := rfl
    have e2 : itP x a (m + 1) = itP x a m * if a / 2 ^ m % 2 = 1 then x else 10 - x := rfl
    rw [e1, e2, h, bit_sh hb, Int.mul_assoc]
theorem smP_sh {v : Nat → Int} {a b : Nat} (hb : b < 2) : ∀ m : Nat, smP v (2 * a + b) (m + 1) = (if b = 1 then 0 else v 0) + smP (shf1 v) a m
  | 0 => by
    simp only [smP]
    rw [Nat.pow_zero, Nat.div_one, show (2 * a + b) % 2 = b by omega, Int.zero_add, Int.add_zero]
  | m + 1 => by
    have h := smP_sh (v := v) (a := a) hb m
    have e1 : smP v (2 * a + b) (m + 1 + 1) = smP v (2 * a + b) (m + 1) + if (2 * a + b) / 2 ^ (m + 1) % 2 = 1 then 0 else v (m + 1) := rfl
    have e2 : smP (shf1 v) a (m + 1) = smP (shf1 v) a m + if a / 2 ^ m % 2 = 1 then 0 else v (m + 1) := rfl
    rw [e1, e2, h, bit_sh hb, Int.add_assoc]
theorem sum_wy (x : Int) : ∀ (k : Nat) (v : Nat → Int) (s : Int), sumT (trm x v k s) (2 ^ k) = wy x k v s
  | 0, v, s => by
    show 0 + (if 0 < s + 0 then 1 else 0) = if 0 < s then 1 else 0
    by_cases w : 0 < s
    · rw [if_pos w, if_pos (by omega)]
      rfl
    · rw [if_neg w, if_neg (by omega)]
      rfl
  | k + 1, v, s => by
    have e : (fun a => trm x v (k + 1) s (2 * a) + trm x v (k + 1) s (2 * a + 1)) = fun a => (10 - x) * trm x (shf1 v) k (s + v 0) a + x * trm x (shf1 v) k s a := by
      funext a
      have i0 : itP x (2 * a) (k + 1) = (10 - x) * itP x a k := itP_sh (x := x) (a := a) (b := 0) (by decide) k
      have i1 : itP x (2 * a + 1) (k + 1) = x * itP x a k := itP_sh (x := x) (a := a) (b := 1) (by decide) k
      have s0 : smP v (2 * a) (k + 1) = v 0 + smP (shf1 v) a k := smP_sh (v := v) (a := a) (b := 0) (by decide) k
      have s1 : smP v (2 * a + 1) (k + 1) = 0 + smP (shf1 v) a k := smP_sh (v := v) (a := a) (b := 1) (by decide) k
      unfold trm
      rw [i0, i1, s0, s1, Int.zero_add, ← Int.add_assoc]
      congr 1
      · by_cases w : 0 < s + v 0 + smP (shf1 v) a k
        · rw [if_pos w, if_pos w]
        · rw [if_neg w, if_neg w, Int.mul_zero]
      · by_cases w : 0 < s + smP (shf1 v) a k
        · rw [if_pos w, if_pos w]
        · rw [if_neg w, if_neg w, Int.mul_zero]
    rw [Nat.pow_succ, Nat.mul_comm (2 ^ k) 2, sum2, e, sum_lin, sum_wy x k, sum_wy x k]
    simp only [wy]
    omega
/-! Euclid -/
def eu : Nat → Nat → Nat → Nat
  | 0, a, _ => a
  | n + 1, a, b => if b = 0 then a else eu n b (a % b)
theorem eu_gcd : ∀ (n a b : Nat), b < 2 ^ n → eu (2 * n) a b = Nat.gcd a b
  | 0, a, b, h => by
    have : b = 0 := by rw [Nat.pow_zero] at h; omega
    subst this
    exact (Nat.gcd_zero_right a).symm
  | n + 1, a, b, h => by
    rw [show 2 * (n + 1) = 2 * n + 1 + 1 by omega]
    simp only [eu]
    by_cases w : b = 0
    · rw [if_pos w, w, Nat.gcd_zero_right]
    · rw [if_neg w]
      by_cases u : a % b = 0
      · rw [if_pos u, Nat.gcd_comm, Nat.gcd_rec, u, Nat.gcd_zero_left]
      · rw [if_neg u]
        have r1 := Nat.mod_lt a (show b > 0 by omega)
        have r2 := Nat.mod_lt b (show a % b > 0 by omega)
        have r3 := Nat.div_add_mod b (a % b)
        have r4 : 1 ≤ b / (a % b) := (Nat.le_div_iff_mul_le (by omega)).2 (by omega)
        have r5 : a % b * 1 ≤ a % b * (b / (a % b)) := Nat.mul_le_mul_left _ r4
        rw [Nat.pow_succ] at h
        rw [eu_gcd n (a % b) (b % (a % b)) (by omega)]
        rw [Nat.gcd_comm a b, Nat.gcd_rec b a, Nat.gcd_comm (a % b) b, Nat.gcd_comm (a % b) (b % (a % b)), ← Nat.gcd_rec (a % b) b, Nat.gcd_comm]
theorem eu_le : ∀ (n a b : Nat), eu n a b ≤ a ∨ eu n a b ≤ b
  | 0, a, b => Or.inl (Nat.le_refl _)
  | n + 1, a, b => by
    simp only [eu]
    by_cases w : b = 0
    · rw [if_pos w]
      exact Or.inl (Nat.le_refl _)
    · rw [if_neg w]
      have r1 := Nat.mod_lt a (show b > 0 by omega)
      have := eu_le n b (a % b)
      omega
