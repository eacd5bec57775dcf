-- numbers: Int32 terms that are naturals
theorem nx_add {x y : Int32} {a b : Nat} (hx : x = nI a) (hy : y = nI b) : x + y = nI (a + b) := by rw [hx, hy]; exact nI_add a b
theorem nx_sub {x y : Int32} {a b : Nat} (hx : x = nI a) (hy : y = nI b) (h : b ≤ a) : x - y = nI (a - b) := by rw [hx, hy]; exact pk_sub h
theorem nx_mul {x y : Int32} {a b : Nat} (hx : x = nI a) (hy : y = nI b) : x * y = nI (a * b) := by rw [hx, hy]; exact pk_mul a b
theorem nx_div {x y : Int32} {a b : Nat} (hx : x = nI a) (hy : y = nI b) (ha : a < 2147483648) (h0 : 0 < b) (hb : b < 2147483648) : x / y = nI (a / b) := by rw [hx, hy]; exact pk_div ha h0 hb
theorem nx_rem {x y : Int32} {a b : Nat} (hx : x = nI a) (hy : y = nI b) (ha : a < 2147483648) (h0 : 0 < b) (hb : b < 2147483648) : x - x / y * y = nI (a % b) := by rw [hx, hy]; exact pk_rem ha h0 hb
theorem nx_le {x y : Int32} {a b : Nat} (hx : x = nI a) (hy : y = nI b) (ha : a < 2147483648) (hb : b < 2147483648) : x ≤ y ↔ a ≤ b := by rw [hx, hy]; exact nI_leI ha hb
theorem nx_lt {x y : Int32} {a b : Nat} (hx : x = nI a) (hy : y = nI b) (ha : a < 2147483648) (hb : b < 2147483648) : x < y ↔ a < b := by rw [hx, hy]; exact nI_ltI ha hb
theorem nx_eq {x y : Int32} {a b : Nat} (hx : x = nI a) (hy : y = nI b) (ha : a < 2147483648) (hb : b < 2147483648) : x = y ↔ a = b := by rw [hx, hy]; exact nI_eq ha hb
theorem nx_inc (a : Nat) : nI a + Int32.ofInt 1 = nI (a + 1) := nI_1 a
theorem nx_dec (a : Nat) : nI (a + 1) + Int32.ofInt (-1) = nI a := pk_m1 a
theorem nx_in {v lo hi : Int32} {a b : Nat} (hlo : lo = nI a) (hhi : hi = nI b) (ha : a < 2147483648) (hb : b < 2147483648) (h : lo ≤ v ∧ v ≤ hi) : ∃ j : Nat, a ≤ j ∧ j ≤ b ∧ v = nI j := by
  have h1 := h.1
  have h2 := h.2
  rw [Int32.le_iff_toInt_le, hlo, nI_toInt ha] at h1
  rw [Int32.le_iff_toInt_le, hhi, nI_toInt hb] at h2
  refine ⟨v.toInt.toNat, by omega, by omega, ?_⟩
  apply Int32.toInt_inj.mp
  rw [nI_toInt (by omega)]
  omega
theorem tab_out {x : Int32} (n : Nat) (h : ∀ j : Nat, j ≤ n → ¬ x = nI j) : x.toInt < 0 ∨ (n : Int) < x.toInt := by
  rcases Int.lt_or_le x.toInt 0 with q | q
  · exact Or.inl q
  · rcases Int.lt_or_le (n : Int) x.toInt with r | r
    · exact Or.inr r
    · have hx := Int32.toInt_lt x
      exact absurd (Int32.toInt_inj.mp (by rw [nI_toInt (by omega)]; omega)) (h x.toInt.toNat (by omega))
theorem zI_n {P : Prop} [Decidable P] : narrow .boolean (.int (zI P)) = .int (zI P) := by unfold zI; split <;> rfl
theorem zI_v {P : Prop} [Decidable P] : vp_nar .boolean (zI P) = zI P := by unfold zI; split <;> rfl
theorem zI_t {P : Prop} [Decidable P] (h : P) : zI P = 1 := if_pos h
theorem zI_f {P : Prop} [Decidable P] (h : ¬ P) : zI P = 0 := if_neg h
theorem zI_c {P Q : Prop} [Decidable P] [Decidable Q] (h : P ↔ Q) : zI P = zI Q := by unfold zI; simp [h]
-- loops
def itr {σ : Type} (f : Nat → σ → σ) : Nat → σ → σ
  | 0, s => s
  | n + 1, s => f n (itr f n s)
theorem itr_s {σ : Type} (f : Nat → σ → σ) (n : Nat) (s : σ) : itr f (n + 1) s = f n (itr f n s) := rfl
theorem itr_0 {σ : Type} (f : Nat → σ → σ) (s : σ) : itr f 0 s = s := rfl
def itE {σ ρ : Type} (f : Nat → σ → ρ ⊕ σ) : Nat → Nat → σ → ρ ⊕ σ
  | 0, _, s => .inr s
  | n + 1, i, s => match f i s with
    | .inl r => .inl r
    | .inr s2 => itE f n (i + 1) s2
theorem itE_0 {σ ρ : Type} (f : Nat → σ → ρ ⊕ σ) (i : Nat) (s : σ) : itE f 0 i s = .inr s := rfl
theorem itE_l {σ ρ : Type} {f : Nat → σ → ρ ⊕ σ} {n i : Nat} {s : σ} {r : ρ} (h : f i s = .inl r) : itE f (n + 1) i s = .inl r := by
  show (match f i s with | .inl r => Sum.inl r | .inr s2 => itE f n (i + 1) s2) = _
  rw [h]
theorem itE_r {σ ρ : Type} {f : Nat → σ → ρ ⊕ σ} {n i : Nat} {s s2 : σ} (h : f i s = .inr s2) : itE f (n + 1) i s = itE f n (i + 1) s2 := by
  show (match f i s with | .inl r => Sum.inl r | .inr s2 => itE f n (i + 1) s2) = _
  rw [h]
