-- texts on the pad
def WF (pad : Nat → Int32) (sg p : Nat) : Prop := p ≤ sg ∧ itE (ftS pad) (sg - p) p 0 = .inr 0
theorem rn_s {pad : Nat → Int32} {n k q : Nat} (h : itE (ftS pad) n k q = .inr 0) : (n = 0 ∧ q = 0) ∨ (0 < n ∧ stN q (pad k) ≠ 5 ∧ itE (ftS pad) (n - 1) (k + 1) (stN q (pad k)) = .inr 0) := by
  cases n with
  | zero => exact Or.inl ⟨rfl, Sum.inr.inj h⟩
  | succ m =>
    refine Or.inr ⟨Nat.succ_pos m, ?_⟩
    by_cases h5 : stN q (pad k) = 5
    · rw [itE_l (r := nI k) (if_pos h5)] at h
      cases h
    · rw [itE_r (if_neg h5)] at h
      exact ⟨h5, h⟩
theorem rn_1 {pad : Nat → Int32} {n k q : Nat} (hq : q ≠ 0) (h : itE (ftS pad) n k q = .inr 0) : 0 < n ∧ stN q (pad k) ≠ 5 ∧ itE (ftS pad) (n - 1) (k + 1) (stN q (pad k)) = .inr 0 := by
  rcases rn_s h with ⟨_, h2⟩ | h
  · exact absurd h2 hq
  · exact h
theorem WF_of {pad : Nat → Int32} {sg p n : Nat} (h : itE (ftS pad) n p 0 = .inr 0) (hn : n + p = sg) : WF pad sg p := ⟨by omega, by rw [show sg - p = n by omega]; exact h⟩
theorem rn_2 {pad : Nat → Int32} {sg n k : Nat} (hn : n + k = sg) (h : itE (ftS pad) n k 2 = .inr 0) : k < sg ∧ (49 ≤ pad k ∧ pad k ≤ 57) ∧ WF pad sg (k + 1) := by
  obtain ⟨h1, h2, h3⟩ := rn_1 (by decide) h
  by_cases hd : 49 ≤ pad k ∧ pad k ≤ 57
  · have e : stN 2 (pad k) = 0 := by simp [stN, hd]
    rw [e] at h3
    exact ⟨by omega, hd, WF_of h3 (by omega)⟩
  · exact absurd (by simp only [stN]; simp [hd]) h2
theorem WF_tok {pad : Nat → Int32} {sg p : Nat} (h : WF pad sg p) (hlt : p < sg) : (pad p = 46 ∧ WF pad sg (p + 1)) ∨ ((pad p = 60 ∨ pad p = 62) ∧ p + 1 < sg ∧ (49 ≤ pad (p + 1) ∧ pad (p + 1) ≤ 57) ∧ WF pad sg (p + 2)) ∨ ((65 ≤ pad p ∧ pad p ≤ 70) ∧ p + 1 < sg ∧ (((pad (p + 1) = 61 ∨ pad (p + 1) = 120) ∧ WF pad sg (p + 2)) ∨ ((pad (p + 1) = 43 ∨ pad (p + 1) = 45) ∧ p + 2 < sg ∧ (49 ≤ pad (p + 2) ∧ pad (p + 2) ≤ 57) ∧ WF pad sg (p + 3)) ∨ (pad (p + 1) = 47 ∧ p + 3 < sg ∧ (48 ≤ pad (p + 2) ∧ pad (p + 2) ≤ 55) ∧ (49 ≤ pad (p + 3) ∧ pad (p + 3) ≤ 57) ∧ WF pad sg (p + 4)) ∨ ((pad (p + 1) = 40 ∨ pad (p + 1) = 41) ∧ p + 3 < sg ∧ (48 ≤ pad (p + 2) ∧ pad (p + 2) ≤ 51) ∧ (49 ≤ pad (p + 3) ∧ pad (p + 3) ≤ 57) ∧ WF pad sg (p + 4)))) := by
  rcases rn_s h.2 with ⟨h1, _⟩ | ⟨h1, h2, h3⟩
  · omega
  by_cases hA : 65 ≤ pad p ∧ pad p ≤ 70
  · have e : stN 0 (pad p) = 1 := by simp [stN, hA]
    rw [e] at h3
    refine Or.inr (Or.inr ⟨hA, ?_⟩)
    obtain ⟨g1, g2, g3⟩ := rn_1 (by decide) h3
    refine ⟨by omega, ?_⟩
    by_cases hb : pad (p + 1) = 43 ∨ pad (p + 1) = 45
    · have e : stN 1 (pad (p + 1)) = 2 := by simp [stN, hb]
      rw [e] at g3
      obtain ⟨k1, k2, k3⟩ := rn_2 (sg := sg) (by omega) g3
      exact Or.inr (Or.inl ⟨hb, k1, k2, k3⟩)
    by_cases hc : pad (p + 1) = 47
    · have e : stN 1 (pad (p + 1)) = 3 := by simp [stN, hc]
      rw [e] at g3
      obtain ⟨k1, k2, k3⟩ := rn_1 (by decide) g3
      by_cases hd : 48 ≤ pad (p + 2) ∧ pad (p + 2) ≤ 55
      · have e : stN 3 (pad (p + 1 + 1)) = 2 := by simp [stN, hd]
        rw [e] at k3
        obtain ⟨q1, q2, q3⟩ := rn_2 (sg := sg) (by omega) k3
        exact Or.inr (Or.inr (Or.inl ⟨hc, q1, hd, q2, q3⟩))
      · exact absurd (by simp only [stN]; simp [hd]) k2
    by_cases hd : pad (p + 1) = 40 ∨ pad (p + 1) = 41
    · have e : stN 1 (pad (p + 1)) = 4 := by simp [stN, hb, hc, hd]
      rw [e] at g3
      obtain ⟨k1, k2, k3⟩ := rn_1 (by decide) g3
      by_cases he : 48 ≤ pad (p + 2) ∧ pad (p + 2) ≤ 51
      · have e : stN 4 (pad (p + 1 + 1)) = 2 := by simp [stN, he]
        rw [e] at k3
        obtain ⟨q1, q2, q3⟩ := rn_2 (sg := sg) (by omega) k3
        exact Or.inr (Or.inr (Or.inr ⟨hd, q1, he, q2, q3⟩))
      · exact absurd (by simp only [stN]; simp [he]) k2
    by_cases he : pad (p + 1) = 61 ∨ pad (p + 1) = 120
    · have e : stN 1 (pad (p + 1)) = 0 := by simp [stN, hb, hc, hd, he]
      rw [e] at g3
      exact Or.inl ⟨he, WF_of g3 (by omega)⟩
    · exact absurd (by simp [stN, hb, hc, hd, he]) g2
  by_cases hb : pad p = 60 ∨ pad p = 62
  · have e : stN 0 (pad p) = 2 := by simp [stN, hA, hb]
    rw [e] at h3
    obtain ⟨q1, q2, q3⟩ := rn_2 (sg := sg) (by omega) h3
    exact Or.inr (Or.inl ⟨hb, q1, q2, q3⟩)
  by_cases hc : pad p = 46
  · have e : stN 0 (pad p) = 0 := by simp [stN, hA, hb, hc]
    rw [e] at h3
    exact Or.inl ⟨hc, WF_of h3 (by omega)⟩
  · exact absurd (by simp [stN, hA, hb, hc]) h2
def plc (pad : Nat → Int32) (p : Nat) : Nat := (pad (p + 2) - 48).toNatClampNeg
def okA (pad : Nat → Int32) (p : Nat) : Prop := p + 1 < 60 ∧ ((pad (p + 1) = 61 ∨ pad (p + 1) = 120) ∨ ((pad (p + 1) = 43 ∨ pad (p + 1) = 45) ∧ p + 2 < 60) ∨ (pad (p + 1) = 47 ∧ p + 3 < 60 ∧ pad (p + 2) - 48 = nI (plc pad p) ∧ plc pad p < 8) ∨ ((pad (p + 1) = 40 ∨ pad (p + 1) = 41) ∧ p + 3 < 60 ∧ pad (p + 2) - 48 = nI (plc pad p) ∧ plc pad p < 4))
theorem dig_nI {x lo hi : Int32} {a b : Nat} (hlo : lo = nI a) (hhi : hi = nI b) (ha : a < 1000) (hb : b < 1000) (h : lo ≤ x ∧ x ≤ hi) : x - lo = nI (x - lo).toNatClampNeg ∧ (x - lo).toNatClampNeg ≤ b - a := by
  obtain ⟨j, h1, h2, rfl⟩ := nx_in hlo hhi (by omega) (by omega) h
  have e : nI j - lo = nI (j - a) := nx_sub rfl hlo h1
  rw [e, nI_clamp (by omega)]
  exact ⟨rfl, by omega⟩
theorem okA_b {pad : Nat → Int32} {p : Nat} (h : okA pad p) (hb : pad (p + 1) = 43 ∨ pad (p + 1) = 45) : p + 2 < 60 := by
  rcases h.2 with h | h | h | h
  · rcases hb with hb | hb <;> rw [hb] at h <;> simp at h
  · exact h.2
  · exact Nat.lt_of_succ_lt h.2.1
  · exact Nat.lt_of_succ_lt h.2.1
theorem okA_c {pad : Nat → Int32} {p : Nat} (h : okA pad p) (hb : pad (p + 1) = 47) : p + 3 < 60 ∧ pad (p + 2) - 48 = nI (plc pad p) ∧ plc pad p < 8 := by
  rcases h.2 with h | h | h | h
  · rw [hb] at h; simp at h
  · rw [hb] at h; simp at h
  · exact h.2
  · rw [hb] at h; simp at h
theorem okA_d {pad : Nat → Int32} {p : Nat} (h : okA pad p) (h1 : ¬ pad (p + 1) = 61) (h2 : ¬ pad (p + 1) = 120) (h3 : ¬ pad (p + 1) = 43) (h4 : ¬ pad (p + 1) = 45) (h5 : ¬ pad (p + 1) = 47) : p + 3 < 60 ∧ pad (p + 2) - 48 = nI (plc pad p) ∧ plc pad p < 4 := by
  rcases h.2 with h | h | h | h
  · rcases h with h | h <;> contradiction
  · rcases h.1 with h | h <;> contradiction
  · exact absurd h.1 h5
  · exact h.2
theorem WF_A {pad : Nat → Int32} {sg p : Nat} (h : WF pad sg p) (hlt : p < sg) (hs : sg ≤ 60) (h1 : ¬ pad p = 46) (h2 : ¬ pad p = 60) (h3 : ¬ pad p = 62) : okA pad p ∧ (65 ≤ pad p ∧ pad p ≤ 70) := by
  rcases WF_tok h hlt with ⟨h4, _⟩ | ⟨h4, _⟩ | ⟨hA, q1, q⟩
  · exact absurd h4 h1
  · rcases h4 with h4 | h4 <;> contradiction
  · refine ⟨⟨by omega, ?_⟩, hA⟩
    rcases q with ⟨q, _⟩ | ⟨q, q2, _⟩ | ⟨q, q2, q3, _⟩ | ⟨q, q2, q3, _⟩
    · exact Or.inl q
    · exact Or.inr (Or.inl ⟨q, by omega⟩)
    · have e := dig_nI (a := 48) (b := 55) rfl rfl (by decide) (by decide) q3
      exact Or.inr (Or.inr (Or.inl ⟨q, by omega, e.1, Nat.lt_succ_of_le e.2⟩))
    · have e := dig_nI (a := 48) (b := 51) rfl rfl (by decide) (by decide) q3
      exact Or.inr (Or.inr (Or.inr ⟨q, by omega, e.1, Nat.lt_succ_of_le e.2⟩))
theorem WF_B {pad : Nat → Int32} {sg p : Nat} (h : WF pad sg p) (hlt : p < sg) (hb : pad p = 60 ∨ pad p = 62) : p + 1 < sg := by
  rcases WF_tok h hlt with ⟨h4, _⟩ | ⟨_, h4, _⟩ | ⟨hA, _⟩
  · rcases hb with hb | hb <;> rw [hb] at h4 <;> simp at h4
  · exact h4
  · rcases hb with hb | hb <;> rw [hb] at hA <;> exact absurd hA.1 (by decide)
