-- sums
def sumN (f : Nat → Nat) : Nat → Nat
  | 0 => 0
  | n + 1 => sumN f n + f n
def b2 (b : Bool) : Nat := if b = true then 1 else 0
theorem sum_cg {f g : Nat → Nat} : ∀ {n : Nat}, (∀ i, i < n → f i = g i) → sumN f n = sumN g n
  | 0, _ => rfl
  | n + 1, h => by
    show sumN f n + f n = sumN g n + g n
    rw [sum_cg (fun i hi => h i (by omega)), h n (by omega)]
theorem sum_z {f : Nat → Nat} : ∀ {n : Nat}, (∀ i, i < n → f i = 0) → sumN f n = 0
  | 0, _ => rfl
  | n + 1, h => by
    show sumN f n + f n = 0
    rw [sum_z (fun i hi => h i (by omega)), h n (by omega)]
theorem sum_le {f g : Nat → Nat} : ∀ {n : Nat}, (∀ i, i < n → f i ≤ g i) → sumN f n ≤ sumN g n
  | 0, _ => Nat.le_refl 0
  | n + 1, h => Nat.add_le_add (sum_le (fun i hi => h i (by omega))) (h n (by omega))
theorem sum_c (c : Nat) : ∀ n, sumN (fun _ => c) n = n * c
  | 0 => (Nat.zero_mul c).symm
  | n + 1 => by
    show sumN (fun _ => c) n + c = (n + 1) * c
    rw [sum_c c n, Nat.succ_mul]
theorem sum_add {f g : Nat → Nat} : ∀ {n : Nat}, sumN (fun i => f i + g i) n = sumN f n + sumN g n
  | 0 => rfl
  | n + 1 => by
    show sumN (fun i => f i + g i) n + (f n + g n) = sumN f n + f n + (sumN g n + g n)
    rw [sum_add]
    omega
theorem sum_ap {f : Nat → Nat} {m : Nat} : ∀ n, sumN f (m + n) = sumN f m + sumN (fun i => f (m + i)) n
  | 0 => rfl
  | n + 1 => by
    show sumN f (m + n) + f (m + n) = sumN f m + (sumN (fun i => f (m + i)) n + f (m + n))
    rw [sum_ap n]
    omega
theorem sum_bl {f : Nat → Nat} {c : Nat} : ∀ m, sumN f (c * m) = sumN (fun a => sumN (fun q => f (c * a + q)) c) m
  | 0 => rfl
  | m + 1 => by
    show sumN f (c * (m + 1)) = sumN (fun a => sumN (fun q => f (c * a + q)) c) m + sumN (fun q => f (c * m + q)) c
    rw [Nat.mul_succ, sum_ap, sum_bl m]
theorem sum_sw {g : Nat → Nat → Nat} {m : Nat} : ∀ n, sumN (fun a => sumN (fun q => g a q) m) n = sumN (fun q => sumN (fun a => g a q) n) m
  | 0 => (sum_z (fun _ _ => rfl)).symm
  | n + 1 => by
    show sumN (fun a => sumN (fun q => g a q) m) n + sumN (fun q => g n q) m = sumN (fun q => sumN (fun a => g a q) n + g n q) m
    rw [sum_add, sum_sw n]
/-- how many of 1 to n are from L to H -/
theorem sum_iv (L H : Int) : ∀ n : Nat, ((sumN (fun a => b2 (decide (L ≤ (a : Int) + 1 ∧ (a : Int) + 1 ≤ H))) n : Nat) : Int) = (if H < n then H else n) - (if L < 1 then 1 else L) + 1 ∨ (sumN (fun a => b2 (decide (L ≤ (a : Int) + 1 ∧ (a : Int) + 1 ≤ H))) n = 0 ∧ (if H < n then H else (n : Int)) - (if L < 1 then 1 else L) + 1 ≤ 0)
  | 0 => by
    right
    refine ⟨rfl, ?_⟩
    split <;> split <;> omega
  | n + 1 => by
    have ih := sum_iv L H n
    have e : sumN (fun a => b2 (decide (L ≤ (a : Int) + 1 ∧ (a : Int) + 1 ≤ H))) (n + 1) = sumN (fun a => b2 (decide (L ≤ (a : Int) + 1 ∧ (a : Int) + 1 ≤ H))) n + b2 (decide (L ≤ (n : Int) + 1 ∧ (n : Int) + 1 ≤ H)) := rfl
    rw [e]
    generalize sumN (fun a => b2 (decide (L ≤ (a : Int) + 1 ∧ (a : Int) + 1 ≤ H))) n = S at ih ⊢
    by_cases c : L ≤ (n : Int) + 1 ∧ (n : Int) + 1 ≤ H
    · rw [decide_eq_true c, show b2 true = 1 from rfl]
      split at ih <;> split at ih <;> split <;> omega
    · rw [decide_eq_false c, show b2 false = 0 from rfl]
      split at ih <;> split at ih <;> split <;> omega
theorem sum_ivT (L H : Int) (n : Nat) : sumN (fun a => b2 (decide (L ≤ (a : Int) + 1 ∧ (a : Int) + 1 ≤ H))) n = ((if H < n then H else n) - (if L < 1 then 1 else L) + 1).toNat := by
  rcases sum_iv L H n with h | h
  · rw [← h]; rfl
  · rw [h.1, Int.toNat_of_nonpos h.2]
theorem sum_19 {f : Nat → Nat} (h : ∀ i, 19 ≤ i → i < 100 → f i = 0) : sumN f 100 = sumN f 19 := by
  have e : sumN f (19 + 81) = sumN f 19 + sumN (fun i => f (19 + i)) 81 := sum_ap 81
  have z : sumN (fun i => f (19 + i)) 81 = 0 := sum_z (fun i hi => h (19 + i) (by omega) (by omega))
  rw [z, Nat.add_zero] at e
  exact e
/-- laws that fit, and are so, by slopes -/
theorem law_sum {sd si sight : Nat → Int32} {sk : Nat} (h : sgOK sd si sight sk) (g : Nat → Nat) : sumN (fun t => if isL sight sk (100 + t) = true then g (100 + t) else 0) (100 * 200) = sumN (fun q => sumN (fun a => if (loF sd si sk q ≤ nI (a + 1) ∧ nI (a + 1) ≤ moF sd si sk q) then g (100 * (a + 1) + q) else 0) 200) 19 := by
  refine (sum_bl 200).trans (Eq.trans (sum_cg (fun a ha => ?_)) (sum_sw (g := fun a q => if (loF sd si sk q ≤ nI (a + 1) ∧ nI (a + 1) ≤ moF sd si sk q) then g (100 * (a + 1) + q) else 0) 200))
  refine (sum_19 (fun i h1 h2 => ?_)).trans (sum_cg (fun q hq => ?_))
  · rw [isL_no (by omega)]
    exact if_neg (by decide)
  · have e : 100 + (100 * a + q) = 100 * (a + 1) + q := by omega
    have hi := isL_iff (a := a + 1) (p := q) h ⟨by omega, by omega⟩ hq
    rw [e]
    by_cases c : isL sight sk (100 * (a + 1) + q) = true
    · rw [if_pos c, if_pos (hi.mp c)]
    · rw [if_neg c, if_neg (fun y => c (hi.mpr y))]
theorem in_Z {x : Int32} {a : Nat} (ha : a ≤ 200) : (x ≤ nI (a + 1) ↔ x.toInt ≤ (a : Int) + 1) ∧ (nI (a + 1) ≤ x ↔ (a : Int) + 1 ≤ x.toInt) := by
  rw [Int32.le_iff_toInt_le, Int32.le_iff_toInt_le, nI_toInt (by omega)]
  exact ⟨Iff.rfl, Iff.rfl⟩
/-- of one slope -/
def wdN (le mo : Nat → Int32) (q : Nat) : Nat := ((mo q).toInt - (le q).toInt + 1).toNat
theorem wd_eq {le mo : Nat → Int32} (h : lmOK le mo) {q : Nat} (hq : q < 19) : sumN (fun a => if (le q ≤ nI (a + 1) ∧ nI (a + 1) ≤ mo q) then 1 else 0) 200 = wdN le mo q := by
  have hb := h q hq
  have e : sumN (fun a => if (le q ≤ nI (a + 1) ∧ nI (a + 1) ≤ mo q) then 1 else 0) 200 = sumN (fun a => b2 (decide ((le q).toInt ≤ (a : Int) + 1 ∧ (a : Int) + 1 ≤ (mo q).toInt))) 200 := sum_cg (fun a ha => by
    have h1 := (in_Z (x := le q) (a := a) (by omega)).1
    have h2 := (in_Z (x := mo q) (a := a) (by omega)).2
    unfold b2
    by_cases c : le q ≤ nI (a + 1) ∧ nI (a + 1) ≤ mo q
    · rw [if_pos c, if_pos (decide_eq_true ⟨h1.mp c.1, h2.mp c.2⟩)]
    · rw [if_neg c, if_neg (by rw [decide_eq_true_eq]; exact fun y => c ⟨h1.mpr y.1, h2.mpr y.2⟩)])
  rw [e, sum_ivT]
  unfold wdN
  have h1 : (if (mo q).toInt < ((200 : Nat) : Int) then (mo q).toInt else ((200 : Nat) : Int)) = (mo q).toInt := by split <;> omega
  have h2 : (if (le q).toInt < 1 then 1 else (le q).toInt) = (le q).toInt := by split <;> omega
  rw [h1, h2]
theorem wd_le {le mo : Nat → Int32} (h : lmOK le mo) {q : Nat} (hq : q < 19) : wdN le mo q ≤ 200 := by
  have hb := h q hq
  unfold wdN
  omega
theorem hm_s {le mo : Nat → Int32} (h : lmOK le mo) : ∀ n, n ≤ 19 → itr (hmS le mo) n 0 = nI (sumN (wdN le mo) n)
  | 0, _ => rfl
  | n + 1, hn => by
    rw [itr_s, hm_s h n (by omega)]
    have hb := h n (by omega)
    show nI (sumN (wdN le mo) n) + (if 0 < mo n - le n + 1 then mo n - le n + 1 else 0) = nI (sumN (wdN le mo) n + wdN le mo n)
    have e : mo n - le n + 1 = oZ ((mo n).toInt - (le n).toInt + 1) := by
      rw [← oZ_add, ← oZ_sub, ← oZ_x, ← oZ_x]
      rfl
    have hz : -1500 ≤ (mo n).toInt - (le n).toInt + 1 ∧ (mo n).toInt - (le n).toInt + 1 ≤ 200 := ⟨by omega, by omega⟩
    have e2 : (if 0 < mo n - le n + 1 then mo n - le n + 1 else 0) = nI (wdN le mo n) := by
      rw [e]
      unfold wdN
      generalize (mo n).toInt - (le n).toInt + 1 = z at hz ⊢
      by_cases c : 0 < z
      · rw [if_pos (by rw [oZ_0, oZ_lt (by decide) ⟨by omega, by omega⟩]; exact c), oZ_n, Int.toNat_of_nonneg (by omega)]
      · rw [if_neg (by rw [oZ_0, oZ_lt (by decide) ⟨by omega, by omega⟩]; exact c), Int.toNat_of_nonpos (by omega)]
        rfl
    rw [e2, nI_add]
theorem hm_e {le mo : Nat → Int32} (h : lmOK le mo) : hmF le mo = nI (sumN (wdN le mo) 19) := hm_s h 19 (Nat.le_refl _)
theorem wd_sum {le mo : Nat → Int32} (h : lmOK le mo) : sumN (wdN le mo) 19 ≤ 3800 := by
  have h1 : sumN (wdN le mo) 19 ≤ sumN (fun _ => 200) 19 := sum_le (fun q hq => wd_le h hq)
  rw [sum_c] at h1
  exact h1
/-- how many laws fit -/
def cnL (sight : Nat → Int32) (sk n : Nat) : Nat := sumN (fun t => if isL sight sk (100 + t) = true then 1 else 0) n
theorem cnL_e {sd si sight : Nat → Int32} {sk : Nat} (h : sgOK sd si sight sk) : cnL sight sk 20000 = sumN (wdN (loF sd si sk) (moF sd si sk)) 19 := by
  have e := law_sum h (fun _ => 1)
  have e2 : sumN (fun q => sumN (fun a => if (loF sd si sk q ≤ nI (a + 1) ∧ nI (a + 1) ≤ moF sd si sk q) then 1 else 0) 200) 19 = sumN (wdN (loF sd si sk) (moF sd si sk)) 19 := sum_cg (fun q hq => wd_eq (lm_of h) hq)
  exact e.trans e2
theorem cnL_le (sight : Nat → Int32) (sk : Nat) : ∀ n, cnL sight sk n ≤ n
  | 0 => Nat.le_refl 0
  | n + 1 => by
    have ih := cnL_le sight sk n
    show cnL sight sk n + (if isL sight sk (100 + n) = true then 1 else 0) ≤ n + 1
    split <;> omega
theorem fi_neg {sight : Nat → Int32} {sk : Nat} {i : Int32} (hi : ¬ 0 ≤ i) : ∀ n, n < 1000000 → itE (fiS sight sk i) n 0 0 = .inr (cnL sight sk n)
  | 0, _ => rfl
  | n + 1, hn => by
    have ih := fi_neg (sight := sight) (sk := sk) hi n (by omega)
    rw [(itE_sn n 0 0).2 _ ih, Nat.zero_add]
    have hl := cnL_le sight sk n
    show fiS sight sk i n (cnL sight sk n) = .inr (cnL sight sk n + (if isL sight sk (100 + n) = true then 1 else 0))
    unfold fiS
    by_cases c : isL sight sk (100 + n) = true
    · rw [if_pos c, if_pos c, if_neg (fun z => hi (by rw [← z]; exact nn_0 (by omega)))]
    · rw [if_neg c, if_neg c]; rfl
theorem r_fits {sd si sight : Nat → Int32} {sk : Nat} (h : sgOK sd si sight sk) (i : Int32) : (if i = -1 then hmF (loF sd si sk) (moF sd si sk) else if 0 ≤ i then laF (loF sd si sk) (moF sd si sk) i.toNatClampNeg else -6) = fiM sight sk i := by
  by_cases h0 : 0 ≤ i
  · have e : i = nI i.toNatClampNeg := by
      have h1 := Int32.le_iff_toInt_le.mp h0
      have h2 := Int32.toInt_lt i
      apply Int32.toInt_inj.mp
      have h3 : i.toNatClampNeg = i.toInt.toNat := rfl
      rw [h3, nI_toInt (by have : (0 : Int32).toInt = 0 := rfl; omega)]
      have : (0 : Int32).toInt = 0 := rfl
      omega
    have hlt : i.toNatClampNeg < 2147483648 := by
      have h2 := Int32.toInt_lt i
      have h3 : i.toNatClampNeg = i.toInt.toNat := rfl
      omega
    rw [if_neg (fun z => by rw [z] at h0; exact absurd h0 (by decide)), if_pos h0, r_law h hlt, ← e]
  · rw [if_neg (c := 0 ≤ i) h0]
    unfold fiM
    rw [fi_neg h0 20000 (by decide)]
    show _ = if i = -1 then nI (cnL sight sk 20000) else -6
    rw [cnL_e h, hm_e (lm_of h)]
