-- the ring settles: squares fall
theorem sq_nn (x : Int) : 0 ≤ x * x := by
  rcases Int.le_total 0 x with h | h
  · exact Int.mul_nonneg h h
  · exact Int.mul_nonneg_of_nonpos_of_nonpos h h
theorem sq_sub (x y : Int) : (x - y) * (x - y) = x * x + y * y - 2 * (x * y) := by
  rw [Int.sub_mul, Int.mul_sub, Int.mul_sub, Int.mul_comm y x]
  omega
theorem sq_add (l c r : Int) : (l + c + r) * (l + c + r) = l * l + c * c + r * r + 2 * (l * c) + 2 * (c * r) + 2 * (l * r) := by
  rw [Int.add_mul, Int.add_mul, Int.mul_add, Int.mul_add, Int.mul_add, Int.mul_add, Int.mul_add, Int.mul_add, Int.mul_comm c l, Int.mul_comm r l, Int.mul_comm r c]
  omega
theorem sq_3 {l c r b : Int} (h : 3 * b ≤ l + c + r) (hb : 0 ≤ b) : 9 * (b * b) + (l - c) * (l - c) + (c - r) * (c - r) ≤ 3 * (l * l + c * c + r * r) := by
  have h1 : (3 * b) * (3 * b) ≤ (l + c + r) * (l + c + r) := Int.mul_le_mul h h (by omega) (by omega)
  have h2 := sq_nn (l - r)
  have e0 : (3 * b) * (3 * b) = 9 * (b * b) := by rw [Int.mul_assoc, Int.mul_left_comm b 3 b, ← Int.mul_assoc]; rfl
  rw [sq_add, e0] at h1
  rw [sq_sub] at h2
  rw [sq_sub, sq_sub]
  omega
theorem sq_0 {x y : Int} (h : (x - y) * (x - y) = 0) : x = y := by
  rcases Int.mul_eq_zero.mp h with z | z <;> omega
theorem sq_l1 {A0 A1 A2 A3 A4 A5 B0 B1 B2 B3 B4 B5 D0 D1 D2 D3 D4 D5 : Int} (K : 9 * B0 + D0 + D1 + (9 * B1 + D1 + D2) + (9 * B2 + D2 + D3) + (9 * B3 + D3 + D4) + (9 * B4 + D4 + D5) + (9 * B5 + D5 + D0) ≤ 3 * (A5 + A0 + A1) + 3 * (A0 + A1 + A2) + 3 * (A1 + A2 + A3) + 3 * (A2 + A3 + A4) + 3 * (A3 + A4 + A5) + 3 * (A4 + A5 + A0)) (q : A0 + A1 + A2 + A3 + A4 + A5 ≤ B0 + B1 + B2 + B3 + B4 + B5) : D0 + D1 + D2 + D3 + D4 + D5 ≤ 0 := by omega
theorem sq_l2 {D0 D1 D2 D3 D4 D5 : Int} (h : D0 + D1 + D2 + D3 + D4 + D5 ≤ 0) (n0 : 0 ≤ D0) (n1 : 0 ≤ D1) (n2 : 0 ≤ D2) (n3 : 0 ≤ D3) (n4 : 0 ≤ D4) (n5 : 0 ≤ D5) : D0 = 0 ∧ D1 = 0 ∧ D2 = 0 ∧ D3 = 0 ∧ D4 = 0 ∧ D5 = 0 := by
  refine ⟨?_, ?_, ?_, ?_, ?_, ?_⟩ <;> omega
theorem sq_m {x a b c : Nat} (h : x = (a + b + c) / 3) : 3 * (x : Int) ≤ (a : Int) + b + c := by omega
theorem sq_dr {a0 a1 a2 a3 a4 a5 b0 b1 b2 b3 b4 b5 : Nat} (h0 : b0 = (a5 + a0 + a1) / 3) (h1 : b1 = (a0 + a1 + a2) / 3) (h2 : b2 = (a1 + a2 + a3) / 3) (h3 : b3 = (a2 + a3 + a4) / 3) (h4 : b4 = (a3 + a4 + a5) / 3) (h5 : b5 = (a4 + a5 + a0) / 3) (hn : ¬ (b0 = a0 ∧ b1 = a1 ∧ b2 = a2 ∧ b3 = a3 ∧ b4 = a4 ∧ b5 = a5)) : b0 * b0 + b1 * b1 + b2 * b2 + b3 * b3 + b4 * b4 + b5 * b5 < a0 * a0 + a1 * a1 + a2 * a2 + a3 * a3 + a4 * a4 + a5 * a5 := by
  refine Nat.lt_of_not_le (fun q => ?_)
  have q2 : (a0 : Int) * a0 + a1 * a1 + a2 * a2 + a3 * a3 + a4 * a4 + a5 * a5 ≤ b0 * b0 + b1 * b1 + b2 * b2 + b3 * b3 + b4 * b4 + b5 * b5 := by exact_mod_cast q
  have K := sq_l1 (Int.add_le_add (Int.add_le_add (Int.add_le_add (Int.add_le_add (Int.add_le_add (sq_3 (sq_m h0) (Int.natCast_nonneg b0)) (sq_3 (sq_m h1) (Int.natCast_nonneg b1))) (sq_3 (sq_m h2) (Int.natCast_nonneg b2))) (sq_3 (sq_m h3) (Int.natCast_nonneg b3))) (sq_3 (sq_m h4) (Int.natCast_nonneg b4))) (sq_3 (sq_m h5) (Int.natCast_nonneg b5))) q2
  obtain ⟨z0, z1, z2, z3, z4, z5⟩ := sq_l2 K (sq_nn _) (sq_nn _) (sq_nn _) (sq_nn _) (sq_nn _) (sq_nn _)
  have y0 := sq_0 z0
  have y1 := sq_0 z1
  have y2 := sq_0 z2
  have y3 := sq_0 z3
  have y4 := sq_0 z4
  clear K z0 z1 z2 z3 z4 z5 q q2
  have e1 : a1 = a0 := by omega
  have e2 : a2 = a0 := by omega
  have e3 : a3 = a0 := by omega
  have e4 : a4 = a0 := by omega
  have e5 : a5 = a0 := by omega
  clear y0 y1 y2 y3 y4
  subst e1 e2 e3 e4 e5
  exact hn ⟨by omega, by omega, by omega, by omega, by omega, by omega⟩
def vN (ring : Nat → Int32) (k : Nat) : Nat := (ring k).toNatClampNeg
def sqN (v : Nat → Nat) : Nat := v 0 * v 0 + v 1 * v 1 + v 2 * v 2 + v 3 * v 3 + v 4 * v 4 + v 5 * v 5
def rgOK (ring : Nat → Int32) : Prop := ∀ k, k < 6 → ring k = nI (vN ring k) ∧ vN ring k ≤ 200
theorem rg_v {ring : Nat → Int32} (h : rgOK ring) {k : Nat} (hk : k < 6) : rgF ring k = nI ((vN ring ((k + 5) % 6) + vN ring k + vN ring ((k + 1) % 6)) / 3) := by
  have h1 := h ((k + 5) % 6) (Nat.mod_lt _ (by decide))
  have h2 := h k hk
  have h3 := h ((k + 1) % 6) (Nat.mod_lt _ (by decide))
  exact nx_div (nx_add (nx_add h1.1 h2.1) h3.1) rfl (by omega) (by decide) (by decide)
theorem rg_w {ring : Nat → Int32} (h : rgOK ring) {k : Nat} (hk : k < 6) : vN (rgF ring) k = (vN ring ((k + 5) % 6) + vN ring k + vN ring ((k + 1) % 6)) / 3 := by
  have h1 := h ((k + 5) % 6) (Nat.mod_lt _ (by decide))
  have h2 := h k hk
  have h3 := h ((k + 1) % 6) (Nat.mod_lt _ (by decide))
  show (rgF ring k).toNatClampNeg = _
  rw [rg_v h hk]
  exact nI_clamp (by omega)
theorem rg_ok {ring : Nat → Int32} (h : rgOK ring) : rgOK (rgF ring) := fun k hk => by
  have h1 := h ((k + 5) % 6) (Nat.mod_lt _ (by decide))
  have h2 := h k hk
  have h3 := h ((k + 1) % 6) (Nat.mod_lt _ (by decide))
  rw [rg_w h hk]
  exact ⟨rg_v h hk, by omega⟩
theorem rg_dec {ring : Nat → Int32} (h : rgOK ring) (hc : anyB (rgC ring) 6 = true) : sqN (vN (rgF ring)) < sqN (vN ring) := by
  unfold sqN
  refine sq_dr (rg_w h (by decide)) (rg_w h (by decide)) (rg_w h (by decide)) (rg_w h (by decide)) (rg_w h (by decide)) (rg_w h (by decide)) (fun z => ?_)
  obtain ⟨i, hi, hr⟩ := anyB_iff.mp hc
  have e : vN (rgF ring) i = vN ring i := by
    rcases (by omega : i = 0 ∨ i = 1 ∨ i = 2 ∨ i = 3 ∨ i = 4 ∨ i = 5) with y | y | y | y | y | y <;> subst y
    · exact z.1
    · exact z.2.1
    · exact z.2.2.1
    · exact z.2.2.2.1
    · exact z.2.2.2.2.1
    · exact z.2.2.2.2.2
  have e2 : rgF ring i = ring i := by rw [(rg_ok h i hi).1, e, ← (h i hi).1]
  unfold rgC at hr
  rw [decide_eq_true e2] at hr
  exact absurd hr (by decide)
theorem rg_sh (ring : Nat → Int32) : ∀ n, rgI ring (n + 1) = rgI (rgF ring) n
  | 0 => rfl
  | n + 1 => by
    show rgF (rgI ring (n + 1)) = rgF (rgI (rgF ring) n)
    rw [rg_sh ring n]
theorem rg_ex : ∀ (m : Nat) (ring : Nat → Int32), rgOK ring → sqN (vN ring) < m → ∃ M, M < m ∧ ¬ anyB (rgC (rgI ring M)) 6 = true ∧ ∀ j, j < M → anyB (rgC (rgI ring j)) 6 = true
  | 0, _, _, h => absurd h (Nat.not_lt_zero _)
  | m + 1, ring, h, hm => by
    by_cases hc : anyB (rgC ring) 6 = true
    · have hd := rg_dec h hc
      obtain ⟨M, h1, h2, h3⟩ := rg_ex m (rgF ring) (rg_ok h) (by omega)
      refine ⟨M + 1, by omega, by rw [rg_sh]; exact h2, fun j hj => ?_⟩
      cases j with
      | zero => exact hc
      | succ j => rw [rg_sh]; exact h3 j (by omega)
    · exact ⟨0, by omega, hc, fun j hj => absurd hj (Nat.not_lt_zero _)⟩
theorem sq_200 {v : Nat → Nat} (h : ∀ k, k < 6 → v k ≤ 200) : sqN v < 240001 := by
  have h0 := Nat.mul_le_mul (h 0 (by decide)) (h 0 (by decide))
  have h1 := Nat.mul_le_mul (h 1 (by decide)) (h 1 (by decide))
  have h2 := Nat.mul_le_mul (h 2 (by decide)) (h 2 (by decide))
  have h3 := Nat.mul_le_mul (h 3 (by decide)) (h 3 (by decide))
  have h4 := Nat.mul_le_mul (h 4 (by decide)) (h 4 (by decide))
  have h5 := Nat.mul_le_mul (h 5 (by decide)) (h 5 (by decide))
  unfold sqN
  omega
theorem rg_cg {f g : Nat → Int32} (h : ∀ k, k < 6 → f k = g k) : ∀ n k, k < 6 → rgI f n k = rgI g n k
  | 0, k, hk => h k hk
  | n + 1, k, hk => by
    show rgF (rgI f n) k = rgF (rgI g n) k
    unfold rgF
    rw [rg_cg h n _ (Nat.mod_lt _ (by decide)), rg_cg h n k hk, rg_cg h n _ (Nat.mod_lt _ (by decide))]
theorem any_cg {f g : Nat → Bool} {n : Nat} (h : ∀ i, i < n → f i = g i) : anyB f n = true ↔ anyB g n = true := by
  rw [anyB_iff, anyB_iff]
  exact ⟨fun ⟨i, hi, e⟩ => ⟨i, hi, (h i hi).symm.trans e⟩, fun ⟨i, hi, e⟩ => ⟨i, hi, (h i hi).trans e⟩⟩
theorem rg_any {f g : Nat → Int32} (h : ∀ k, k < 6 → f k = g k) (n : Nat) : anyB (rgC (rgI f n)) 6 = true ↔ anyB (rgC (rgI g n)) 6 = true := by
  refine any_cg (fun i hi => ?_)
  have e1 : rgF (rgI f n) i = rgF (rgI g n) i := rg_cg h (n + 1) i hi
  unfold rgC
  rw [e1, rg_cg h n i hi]
theorem r_settle {r : Rl} {book week sight : Nat → Int32} {sk : Nat} (h : RR r book week sight sk) (n : Nat) {k : Nat} (hk : k < 6) : rgI (msC r) n k = rgI (msM book) n k := rg_cg (fun o ho => ms_eq h.1 ho) n k hk
theorem r_settled {r : Rl} {book week sight : Nat → Int32} {sk : Nat} (h : RR r book week sight sk) : ∃ M, M < 1000000 ∧ (¬ anyB (rgC (rgI (msC r) M)) 6 = true) ∧ (∀ j, j < M → anyB (rgC (rgI (msC r) j)) 6 = true) ∧ (¬ anyB (rgC (rgI (msM book) M)) 6 = true) ∧ (∀ j, j < M → anyB (rgC (rgI (msM book) j)) 6 = true) := by
  have hok : rgOK (msC r) := fun k hk => ⟨(ms_ok h.2.2 hk).1, (ms_ok h.2.2 hk).2.2⟩
  have he : ∀ k, k < 6 → msC r k = msM book k := fun o ho => ms_eq h.1 ho
  obtain ⟨M, h1, h2, h3⟩ := rg_ex 240001 (msC r) hok (sq_200 (fun k hk => (hok k hk).2))
  exact ⟨M, by omega, h2, h3, fun z => h2 ((rg_any he M).mpr z), fun j hj => (rg_any he j).mp (h3 j hj)⟩
-- the shaking hand's premise
theorem sh_p {o b : Int32} (ho : 0 ≤ o ∧ o ≤ 10) : (0 ≤ b ∧ b ≤ 10 - o) ↔ (0 ≤ b ∧ b ≤ 10) ∧ o + b ≤ 10 := by
  obtain ⟨j, -, h2, rfl⟩ := nx_in (a := 0) (b := 10) rfl rfl (by decide) (by decide) ho
  have e : (10 : Int32) - nI j = nI (10 - j) := nx_sub (x := 10) (a := 10) rfl rfl h2
  rw [e]
  constructor
  · intro h
    obtain ⟨i, -, h3, rfl⟩ := nx_in (a := 0) (b := 10 - j) rfl rfl (by decide) (by omega) h
    refine ⟨⟨h.1, (nx_le (x := nI i) (y := 10) (a := i) (b := 10) rfl rfl (by omega) (by decide)).mpr (by omega)⟩, ?_⟩
    exact (nx_le (x := nI j + nI i) (y := 10) (a := j + i) (b := 10) (nI_add j i) rfl (by omega) (by decide)).mpr (by omega)
  · intro h
    obtain ⟨i, -, h3, rfl⟩ := nx_in (a := 0) (b := 10) rfl rfl (by decide) (by decide) h.1
    have h4 := (nx_le (x := nI j + nI i) (y := 10) (a := j + i) (b := 10) (nI_add j i) rfl (by omega) (by decide)).mp h.2
    exact ⟨h.1.1, (nx_le (x := nI i) (y := nI (10 - j)) rfl rfl (by omega) (by omega)).mpr (by omega)⟩
