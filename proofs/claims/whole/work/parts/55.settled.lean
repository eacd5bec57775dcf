-- the ring settles: squares fall
theorem sq_nn (x : Int) : 0 ≤ x * x := by
  rcases Int.le_total 0 x with h | h
  · exact Int.mul_nonneg h h
  · exact Int.mul_nonneg_of_nonpos_of_nonpos h h
theorem sq_sub (x y : Int) : (x - y) * (x - y) = x * x + y * y - 2 * (x * y) := by
  rw [Int.sub_mul, Int.mul_sub, Int.mul_sub, Int.mul_comm y x]
  omega
theorem sq_add (l c r : Int) : (l + c + r) * (l + c + r) = l * l + c * c + r * r + 2 * (l * c) + 2 * (c * r) + 2 * (l * r) := by
  rw [Int.add_mul, Int.add_mul, Int.mul_add, Int.mul_add, Int.mul_add, Int.mul_add, Int.mul_add, Int.mul_add, Int.mul_comm c l, Int.mul_comm r l, Int.mul_comm r c]
  omega
theorem sq_3 {l c r b : Int} (h : 3 * b ≤ l + c + r) (hb : 0 ≤ b) : 9 * (b * b) + (l - c) * (l - c) + (c - r) * (c - r) ≤ 3 * (l * l + c * c + r * r) := by
  have h1 : (3 * b) * (3 * b) ≤ (l + c + r) * (l + c + r) := Int.mul_le_mul h h (by omega) (by omega)
  have h2 := sq_nn (l - r)
  have e0 : (3 * b) * (3 * b) = 9 * (b * b) := by rw [Int.mul_assoc, Int.mul_left_comm b 3 b, ← Int.mul_assoc]; rfl
  rw [sq_add, e0] at h1
  rw [sq_sub] at h2
  rw [sq_sub, sq_sub]
  omega
theorem sq_0 {x y : Int} (h : (x - y) * (x - y) = 0) : x = y := by
  rcases Int.mul_eq_zero.mp h with z | z <;> omega
theorem sq_dr {a0 a1 a2 a3 a4 a5 b0 b1 b2 b3 b4 b5 : Nat} (h0 : b0 = (a5 + a0 + a1) / 3) (h1 : b1 = (a0 + a1 + a2) / 3) (h2 : b2 = (a1 + a2 + a3) / 3) (h3 : b3 = (a2 + a3 + a4) / 3) (h4 : b4 = (a3 + a4 + a5) / 3) (h5 : b5 = (a4 + a5 + a0) / 3) (hn : ¬ (b0 = a0 ∧ b1 = a1 ∧ b2 = a2 ∧ b3 = a3 ∧ b4 = a4 ∧ b5 = a5)) : b0 * b0 + b1 * b1 + b2 * b2 + b3 * b3 + b4 * b4 + b5 * b5 < a0 * a0 + a1 * a1 + a2 * a2 + a3 * a3 + a4 * a4 + a5 * a5 := by
  have k0 := sq_3 (l := (a5 : Int)) (c := a0) (r := a1) (b := b0) (by omega) (by omega)
  have k1 := sq_3 (l := (a0 : Int)) (c := a1) (r := a2) (b := b1) (by omega) (by omega)
  have k2 := sq_3 (l := (a1 : Int)) (c := a2) (r := a3) (b := b2) (by omega) (by omega)
  have k3 := sq_3 (l := (a2 : Int)) (c := a3) (r := a4) (b := b3) (by omega) (by omega)
  have k4 := sq_3 (l := (a3 : Int)) (c := a4) (r := a5) (b := b4) (by omega) (by omega)
  have k5 := sq_3 (l := (a4 : Int)) (c := a5) (r := a0) (b := b5) (by omega) (by omega)
  have n0 := sq_nn ((a5 : Int) - a0)
  have n1 := sq_nn ((a0 : Int) - a1)
  have n2 := sq_nn ((a1 : Int) - a2)
  have n3 := sq_nn ((a2 : Int) - a3)
  have n4 := sq_nn ((a3 : Int) - a4)
  have n5 := sq_nn ((a4 : Int) - a5)
  refine Nat.lt_of_not_le (fun q => ?_)
  have q2 : (a0 : Int) * a0 + a1 * a1 + a2 * a2 + a3 * a3 + a4 * a4 + a5 * a5 ≤ b0 * b0 + b1 * b1 + b2 * b2 + b3 * b3 + b4 * b4 + b5 * b5 := by exact_mod_cast q
  clear q h0 h1 h2 h3 h4 h5
  generalize (a0 : Int) * a0 = A0 at *
  generalize (a1 : Int) * a1 = A1 at *
  generalize (a2 : Int) * a2 = A2 at *
  generalize (a3 : Int) * a3 = A3 at *
  generalize (a4 : Int) * a4 = A4 at *
  generalize (a5 : Int) * a5 = A5 at *
  sorry
