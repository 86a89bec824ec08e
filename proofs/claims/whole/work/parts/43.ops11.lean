/-! THE CALLS: round -/
section YL
variable {sc : Nat × (Nat → Int)} {d c : Nat} {M : mv_M}
/-- both go the round: the class on its first step's day, the reference on its row -/
theorem goes_dR {st no : Int} {g h : Nat → Int} {j : Nat} (hst : 1 ≤ st ∧ st ≤ 5) (n3 : no ≤ 3) (ho : (j : Int) < no) (r : dR st no g h) : h (15 + j) = g (15 + j) ∧ dR st no (setp g (15 + j) ((g (15 + j) + 1) % st)) (setp h (15 + j) ((g (15 + j) + 1) % st)) := by
  have q := r.2.2.2 j ho
  have y1 := Int.emod_nonneg (g (15 + j) + 1) (show st ≠ 0 by omega)
  have y2 := Int.emod_lt_of_pos (g (15 + j) + 1) (show 0 < st by omega)
  exact ⟨q.1.symm, dR_setp r (by omega) n3⟩
/-- the days of the round, pure -/
def rnd (nm : Nat) (st tu : Int) (home coat : Nat → Int) (like : Nat → Nat → Int) (j : Nat) (t : Int) : Nat → Int → (Nat → Int) → Int
  | 0, _, _ => -9
  | k + 1, i, g => if 0 < marg coat (play nm tu home like g j t) nm then i else rnd nm st tu home coat like j t k (i + 1) (setp (play nm tu home like g j t) (15 + j) ((play nm tu home like g j t (15 + j) + 1) % st))
theorem rnd_in {nm : Nat} {st tu : Int} {home coat : Nat → Int} {like : Nat → Nat → Int} {j : Nat} {t : Int} : ∀ (k : Nat) (i : Int) (g : Nat → Int), 0 ≤ i → -9 ≤ rnd nm st tu home coat like j t k i g ∧ rnd nm st tu home coat like j t k i g ≤ i + k
  | 0, i, g, h => by
    simp only [rnd]
    omega
  | k + 1, i, g, h => by
    have := rnd_in (nm := nm) (st := st) (tu := tu) (home := home) (coat := coat) (like := like) (j := j) (t := t) k (i + 1) (setp (play nm tu home like g j t) (15 + j) ((play nm tu home like g j t (15 + j) + 1) % st)) (by omega)
    simp only [rnd]
    split <;> omega
/-- alike days go alike rounds -/
theorem rnd_dR {nm : Nat} {st tu no : Int} {home coat home' coat' : Nat → Int} {like like' : Nat → Nat → Int} {j : Nat} {t : Int} (hn : nm ≤ 6) (hst : 1 ≤ st ∧ st ≤ 5) (htu : 1 ≤ tu ∧ tu ≤ 4) (n3 : no ≤ 3) (ho : (j : Int) < no) (eh : ∀ m, m < nm → home' m = home m) (ec : ∀ m, m < nm → coat' m = coat m) (el : ∀ m t : Nat, m < nm → (t : Int) < tu → like' m t = like m t) : ∀ (k : Nat) (i : Int) (g h : Nat → Int), dR st no g h → rnd nm st tu home' coat' like' j t k i h = rnd nm st tu home coat like j t k i g
  | 0, i, g, h, r => rfl
  | k + 1, i, g, h, r => by
    have p := (play_dR (t := t) hn htu n3 ho eh el r).2
    have q := goes_dR hst n3 ho p
    have e : marg coat' (play nm tu home' like' h j t) nm = marg coat (play nm tu home like g j t) nm := marg_cong nm (fun m hm => vote_cong (ec m hm) (p.2.2.1 0 (by omega)) (p.2.2.1 (3 + m) (by omega)) (p.2.2.1 (9 + m) (by omega)))
    simp only [rnd]
    rw [e, q.1, rnd_dR hn hst htu n3 ho eh ec el k (i + 1) _ _ q.2]
theorem goes_dok {st : Int} {g : Nat → Int} {j : Nat} (hst : 1 ≤ st ∧ st ≤ 5) (hj : j < 3) (h : dok g) : dok (setp g (15 + j) ((g (15 + j) + 1) % st)) := by
  have y1 := Int.emod_nonneg (g (15 + j) + 1) (show st ≠ 0 by omega)
  have y2 := Int.emod_lt_of_pos (g (15 + j) + 1) (show 0 < st by omega)
  exact dok_setp h (by omega)
end YL
