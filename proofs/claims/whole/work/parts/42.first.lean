theorem argmin {g : Nat → Nat} {p : Nat → Prop} [DecidablePred p] : ∀ n, (∃ t, t < n ∧ p t) → ∃ t, t < n ∧ p t ∧ ∀ u, u < n → p u → g t ≤ g u
  | 0, h => by obtain ⟨t, h1, _⟩ := h; omega
  | n + 1, h => by
    by_cases z : ∃ t, t < n ∧ p t
    · obtain ⟨t, h1, h2, h3⟩ := argmin (g := g) n z
      by_cases y : p n ∧ g n < g t
      · refine ⟨n, by omega, y.1, fun u hu pu => ?_⟩
        by_cases x : u = n
        · rw [x]; exact Nat.le_refl _
        · have := h3 u (by omega) pu; have := y.2; omega
      · refine ⟨t, by omega, h2, fun u hu pu => ?_⟩
        by_cases x : u = n
        · rw [x] at pu ⊢
          exact Nat.le_of_not_lt fun q => y ⟨pu, q⟩
        · exact h3 u (by omega) pu
    · obtain ⟨t, h1, h2⟩ := h
      have : t = n := by
        by_cases x : t = n
        · exact x
        · exact absurd ⟨t, by omega, h2⟩ z
      subst this
      refine ⟨t, by omega, h2, fun u hu pu => ?_⟩
      by_cases x : u = t
      · rw [x]; exact Nat.le_refl _
      · exact absurd ⟨u, by omega, pu⟩ z
theorem lo_int {x w s : Nat} (hx : x ≤ 200) (hw : w ≤ 200) (hs : s ≤ 200) : (nI x - nI w + nI s).toInt = (x : Int) - w + s := by
  rw [show nI x - nI w + nI s = Int32.ofInt ((x : Int) - w + s) by
    apply Int32.toInt_inj.mp
    rw [Int32.toInt_add, Int32.toInt_sub, nI_toInt (by omega), nI_toInt (by omega), nI_toInt (by omega), Int32.toInt_ofInt]
    simp [Int.bmod_def] <;> omega]
  rw [Int32.toInt_ofInt_of_le (by omega) (by omega)]
theorem rng_lo {x w s y : Nat} {u v : Int32} (hu : u = nI x) (hv : v = nI y) (hy : y ≤ 200) (hx : x ≤ 200) (hw : w ≤ 200) (hs : s ≤ w) : (u - nI w + nI s ≤ v ∧ v ≤ u - nI w + nI s + nI w) ↔ (x + s ≤ y + w ∧ y ≤ x + s) := by
  subst hu
  have e : nI x - nI w + nI s + nI w = nI (x + s) := by
    apply Int32.toInt_inj.mp
    rw [Int32.toInt_add, lo_int hx hw (by omega), nI_toInt (by omega), nI_toInt (by omega)]
    rw [show (x : Int) - w + s + w = ((x + s : Nat) : Int) by omega]
    exact Int.bmod_eq_of_le (by omega) (by omega)
  rw [e, hv, Int32.le_iff_toInt_le, lo_int hx hw (by omega), nI_toInt (by omega), nI_leI (by omega) (by omega)]
  omega
theorem dd_iff {W : Nat → Int32} {m r w dy : Nat} (hW : ∀ j, inOK (W j)) (hm : m ≤ 60) (hw : w < 200) (hd : dy ≤ m) : anyB (bgP W dy m r w) (m + 1 - dy) = true ↔ anyB (ddP W m r w dy) (w + 1) = true := by
  have hx := hW dy
  constructor
  · intro h
    obtain ⟨t, ht, h1⟩ := anyB_iff.mp h
    obtain ⟨h2, h3⟩ := Bool.and_eq_true_iff.mp h1
    have h2' : W (dy + t) ≤ W dy ∧ W dy ≤ W (dy + t) + nI w := of_decide_eq_true h2
    have h3' : r ≤ ctI W (W (dy + t)) (W (dy + t) + nI w) dy (m + 1 - dy) := of_decide_eq_true h3
    have hy := hW (dy + t)
    rw [hy.1, rng_i hx.1 hx.2.2 hy.2.2 (by omega)] at h2'
    refine anyB_iff.mpr ⟨(W (dy + t)).toNatClampNeg + w - (W dy).toNatClampNeg, by omega, decide_eq_true ?_⟩
    refine Nat.le_trans h3' ?_
    rw [ct_cn, ct_cn]
    refine cn_mono _ (fun u _ hu => decide_eq_true ?_)
    have hu' : W (dy + t) ≤ W (dy + u) ∧ W (dy + u) ≤ W (dy + t) + nI w := of_decide_eq_true hu
    have hz := hW (dy + u)
    rw [hy.1, rng_i hz.1 hz.2.2 hy.2.2 (by omega)] at hu'
    rw [rng_lo hx.1 hz.1 hz.2.2 hx.2.2 (by omega) (by omega)]
    omega
  · intro h
    obtain ⟨s, hs, h1⟩ := anyB_iff.mp h
    have h1' : r ≤ ctI W (W dy - nI w + nI s) (W dy - nI w + nI s + nI w) dy (m + 1 - dy) := of_decide_eq_true h1
    rw [ct_cn] at h1'
    obtain ⟨t, ht, pt, mt⟩ := argmin (g := fun t => (W (dy + t)).toNatClampNeg) (p := fun t => (W dy).toNatClampNeg + s ≤ (W (dy + t)).toNatClampNeg + w ∧ (W (dy + t)).toNatClampNeg ≤ (W dy).toNatClampNeg + s) (m + 1 - dy) ⟨0, by omega, by
      show (W dy).toNatClampNeg + s ≤ (W (dy + 0)).toNatClampNeg + w ∧ (W (dy + 0)).toNatClampNeg ≤ (W dy).toNatClampNeg + s
      rw [Nat.add_zero]; omega⟩
    have hy := hW (dy + t)
    have m0 := mt 0 (by omega) (by
      show (W dy).toNatClampNeg + s ≤ (W (dy + 0)).toNatClampNeg + w ∧ (W (dy + 0)).toNatClampNeg ≤ (W dy).toNatClampNeg + s
      rw [Nat.add_zero]; omega)
    have m0' : (W (dy + t)).toNatClampNeg ≤ (W dy).toNatClampNeg := by
      have := m0
      rwa [Nat.add_zero] at this
    refine anyB_iff.mpr ⟨t, ht, Bool.and_eq_true_iff.mpr ⟨decide_eq_true ?_, decide_eq_true ?_⟩⟩
    · rw [hy.1, rng_i hx.1 hx.2.2 hy.2.2 (by omega)]
      omega
    · refine Nat.le_trans h1' ?_
      rw [ct_cn]
      refine cn_mono _ (fun u hu pu => decide_eq_true ?_)
      have pu' : W dy - nI w + nI s ≤ W (dy + u) ∧ W (dy + u) ≤ W dy - nI w + nI s + nI w := of_decide_eq_true pu
      have hz := hW (dy + u)
      rw [rng_lo hx.1 hz.1 hz.2.2 hx.2.2 (by omega) (by omega)] at pu'
      rw [hy.1, rng_i hz.1 hz.2.2 hy.2.2 (by omega)]
      have := mt u hu pu'
      omega
theorem itE_cg {σ ρ : Type} {f g : Nat → σ → ρ ⊕ σ} : ∀ (n i : Nat) (s : σ), (∀ j t, i ≤ j → j < i + n → f j t = g j t) → itE f n i s = itE g n i s
  | 0, i, s, _ => by rw [itE_0, itE_0]
  | n + 1, i, s, h => by
    have e := h i s (Nat.le_refl _) (by omega)
    cases q : f i s with
    | inl r => rw [itE_l q, itE_l (e.symm.trans q)]
    | inr s2 =>
      rw [itE_r q, itE_r (e.symm.trans q)]
      exact itE_cg n (i + 1) s2 (fun j t h1 h2 => h j t (by omega) (by omega))
theorem fd_dd {W : Nat → Int32} {m r w : Nat} (hW : ∀ j, inOK (W j)) (hm : m ≤ 60) (hw : w < 200) : fdM W m r w = ddM W m r w := by
  have e : itE (fdS W m r w) (m + 1) 0 () = itE (ddS W m r w) (m + 1) 0 () := itE_cg _ _ _ (fun j t h1 h2 => by
    have q := dd_iff (r := r) hW hm hw (show j ≤ m by omega)
    unfold fdS ddS
    by_cases z : anyB (bgP W j m r w) (m + 1 - j) = true
    · rw [if_pos z, if_pos (q.mp z)]
    · rw [if_neg z, if_neg (fun y => z (q.mpr y))])
  unfold fdM ddM
  rw [e]
  cases itE (ddS W m r w) (m + 1) 0 () <;> rfl
