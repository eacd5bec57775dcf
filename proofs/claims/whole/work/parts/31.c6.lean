theorem sd_st {a b i : Nat} (hb : 0 < b) (ho : i = 0 ∨ b < a) (hp : a * b * 2 ^ (i - 1) ≤ 10000000000000000000000000000) : b * (a % b) * 2 ^ (i + 1 - 1) ≤ 10000000000000000000000000000 := by
  rw [Nat.add_sub_cancel]
  rcases ho with rfl | ho
  · rw [Nat.pow_zero, Nat.mul_one]
    rw [show (0 : Nat) - 1 = 0 from rfl, Nat.pow_zero, Nat.mul_one, Nat.mul_comm a b] at hp
    exact Nat.le_trans (Nat.mul_le_mul_left b (Nat.mod_le a b)) hp
  · cases i with
    | zero =>
      rw [Nat.pow_zero, Nat.mul_one]
      rw [show (0 : Nat) - 1 = 0 from rfl, Nat.pow_zero, Nat.mul_one, Nat.mul_comm a b] at hp
      exact Nat.le_trans (Nat.mul_le_mul_left b (Nat.mod_le a b)) hp
    | succ j =>
      rw [Nat.add_sub_cancel] at hp
      have h1 : a % b < b := Nat.mod_lt _ hb
      have h2 : 2 * (a % b) ≤ a := by
        have h3 := Nat.div_add_mod a b
        have h4 : 1 ≤ a / b := (Nat.le_div_iff_mul_le hb).mpr (by omega)
        have h5 : b * 1 ≤ b * (a / b) := Nat.mul_le_mul_left b h4
        omega
      refine Nat.le_trans ?_ hp
      rw [Nat.pow_succ, show b * (a % b) * (2 ^ j * 2) = (2 * (a % b)) * (b * 2 ^ j) by rw [Nat.mul_comm (2 ^ j) 2, Nat.mul_comm b (a % b), Nat.mul_assoc, Nat.mul_left_comm b 2, ← Nat.mul_assoc, Nat.mul_comm (a % b) 2], Nat.mul_assoc a b]
      exact Nat.mul_le_mul_right _ h2
theorem sd_100 {a b i : Nat} (hi : 100 ≤ i) (ho : i = 0 ∨ b < a) (hp : a * b * 2 ^ (i - 1) ≤ 10000000000000000000000000000) : b = 0 := by
  refine Nat.eq_zero_of_not_pos fun hb => ?_
  have ha : b < a := by omega
  have h1 : 1 ≤ a * b := Nat.mul_pos (by omega) hb
  have h2 : (2 : Nat) ^ 99 ≤ 2 ^ (i - 1) := Nat.pow_le_pow_right (by decide) (by omega)
  have h3 : 1 * 2 ^ 99 ≤ a * b * 2 ^ (i - 1) := Nat.mul_le_mul h1 h2
  have h4 := Nat.le_trans h3 hp
  exact absurd h4 (by decide)
theorem l_max {a : Nat} (h0 : 0 < a) (h : a < 4611686018427387904) : (if lN a < 1 then (1 : Int64) else lN a) = lN a := by
  rw [if_neg]
  rw [show (1 : Int64) = lN 1 from rfl]
  intro z
  have := (pk_lLT (by omega) (by omega)).mp z
  omega
theorem wt_fst {len P Q : Nat} (hl : len % Q < 1000000) : itr (wtS len P Q) 1 (1000000, 0) = (len % Q, 0) := by
  rw [itr_s, itr_0, wtS, Nat.zero_mul, Nat.sub_zero, if_pos hl]
theorem wt_2 {len P Q : Nat} (hQ : 0 < Q) : ∀ k, 1 ≤ k → len % Q < 1000000 → (itr (wtS len P Q) k (1000000, 0)).1 = (len - (itr (wtS len P Q) k (1000000, 0)).2 * P) % Q ∧ (itr (wtS len P Q) k (1000000, 0)).2 < k
  | 0, h, _ => by omega
  | 1, _, hl => by rw [wt_fst hl]; exact ⟨by rw [Nat.zero_mul, Nat.sub_zero], Nat.zero_lt_one⟩
  | k + 2, _, hl => by
    have ih := wt_2 (len := len) (P := P) hQ (k + 1) (by omega) hl
    rw [itr_s]
    generalize itr (wtS len P Q) (k + 1) (1000000, 0) = x at ih ⊢
    unfold wtS
    split
    · exact ⟨rfl, by simp⟩
    · exact ⟨ih.1, by omega⟩
theorem wt_mul {k P len : Nat} (h1 : (k - 1) * P ≤ len) (h2 : ¬ k * P ≤ len) (hk : 1 ≤ k) (hP : 0 < P) : k = len / P + 1 := by
  have h3 : k - 1 ≤ len / P := (Nat.le_div_iff_mul_le hP).mpr h1
  have h4 : ¬ k ≤ len / P := fun z => h2 ((Nat.le_div_iff_mul_le hP).mp z)
  omega
theorem wt_1800 {k P len : Nat} (hl : len ≤ 1800) (h : 1800 < k) (hP : 0 < P) : ¬ k * P ≤ len := by
  intro z
  have : k * 1 ≤ k * P := Nat.mul_le_mul_left k hP
  omega
theorem nz_nI {q : Nat} (h0 : 0 < q) (h : q < 2147483648) : ¬ nI q = 0 := fun z => by
  have := (nI_eq (a := q) (b := 0) h (by omega)).mp z
  omega
theorem l_n2 {x : Int32} (h : x = nI x.toNatClampNeg ∧ x.toNatClampNeg ≤ 1800) : x.toInt64 = lN x.toNatClampNeg := by
  have e : x.toInt64 = (nI x.toNatClampNeg).toInt64 := congrArg Int32.toInt64 h.1
  rw [e]
  exact nI_l (by have := h.2; omega)
theorem c_X9_sharedDivisor (E : EE) (l : Launch) (u : Nat) (v : Nat) (hu : u ≤ 100000000000000) (hv : v ≤ 100000000000000) (hv0 : 0 < v) : CT E l yX9_sharedDivisor cX9_sharedDivisor 11 (some .long) { frames := 1, cells := 0, slots := 0, locals := 23 } [.long (lN u), .long (lN v)] ([]) (some (.long (lN (Nat.gcd u v)))) ([]) := by
  refine CT.intro (by decide +kernel) (Nat.le_of_ble_eq_true rfl) (fun K X Y => ?_)
  refine jv_lload_n 0 X dX9_sharedDivisor_0 0 rfl ?_
  refine jv_lstore (lv2 := [(4, .long (lN u)), (0, .long (lN u)), (2, .long (lN v))]) 1 X dX9_sharedDivisor_1 (by decide) rfl ?_
  refine jv_lload_n 3 X dX9_sharedDivisor_3 2 rfl ?_
  refine jv_lstore (lv2 := [(6, .long (lN v)), (4, .long (lN u)), (0, .long (lN u)), (2, .long (lN v))]) 4 X dX9_sharedDivisor_4 (by decide) rfl ?_
  refine jv_iconst (v := 0) 6 X dX9_sharedDivisor_6 rfl ?_
  refine jv_istore (lv2 := [(8, .int 0), (6, .long (lN v)), (4, .long (lN u)), (0, .long (lN u)), (2, .long (lN v))]) 7 X dX9_sharedDivisor_7 (by decide) rfl ?_
  have lp9 : ∀ (n9 : Nat) (i a b : Nat), (i ≤ 100) → (Nat.gcd a b = Nat.gcd u v) → (a ≤ 100000000000000) → (b ≤ 100000000000000) → (i = 0 ∨ b < a) → (a * b * 2 ^ (i - 1) ≤ 10000000000000000000000000000) → 100 - i < n9 → JV E K 0 0 ([]) [(0, .long (lN u)), (2, .long (lN v)), (4, .long (lN a)), (6, .long (lN b)), (8, .int (nI i))] 9 [] := by
    intro n9
    induction n9 with
    | zero => intro i a b hi hab ha hb ho hp hm; exact absurd hm (Nat.not_lt_zero _)
    | succ n9 ih9 =>
      intro i a b hi hab ha hb ho hp hm
      refine jv_iload 9 X dX9_sharedDivisor_9 4 rfl ?_
      refine jv_bipush (v := 100) 11 X dX9_sharedDivisor_11 (by decide) ?_
      refine jn_icmp_ge 13 X dX9_sharedDivisor_13 44 (by decide) (fun c_1 => ?_) (fun c_1 => ?_)
      · have n_1 : 100 ≤ i := (nx_le (a := 100) (b := i) rfl rfl (by omega) (by omega)).mp c_1
        have hb0 : b = 0 := sd_100 (by omega) ho hp
        subst hb0
        rw [Nat.gcd_zero_right] at hab
        have ha0 : 0 < a := by rw [hab]; exact Nat.gcd_pos_of_pos_right _ hv0
        refine jv_lconst (v := 1) 44 X dX9_sharedDivisor_44 rfl ?_
        refine jv_lload 45 X dX9_sharedDivisor_45 2 rfl ?_
        refine jv_mmaxl 47 X wm_X9_301 dX9_sharedDivisor_47 (Nat.le_of_ble_eq_true rfl) (Nat.le_of_ble_eq_true rfl) ⟨Nat.zero_le _, Nat.zero_le _⟩ ?_
        exact jv_lret 50 X Y rfl dX9_sharedDivisor_50 () (congrArg (fun z => some (Value.long z)) (by rw [l_max ha0 (by omega), hab])) rfl
      · have n_1 : ¬ 100 ≤ i := fun zq => c_1 ((nx_le (a := 100) (b := i) rfl rfl (by omega) (by omega)).mpr zq)
        refine jv_lload 16 X dX9_sharedDivisor_16 3 rfl ?_
        refine jv_lconst (v := 0) 18 X dX9_sharedDivisor_18 rfl ?_
        refine jv_lcmp 19 X dX9_sharedDivisor_19 ?_
        refine jn_if_eq 20 X dX9_sharedDivisor_20 44 (by decide) (fun c_2 => ?_) (fun c_2 => ?_)
        · have hb0 : b = 0 := (lN_0 (by omega)).mp ((lg_cmp_eq _ _).mp c_2)
          subst hb0
          rw [Nat.gcd_zero_right] at hab
          have ha0 : 0 < a := by rw [hab]; exact Nat.gcd_pos_of_pos_right _ hv0
          refine jv_lconst (v := 1) 44 X dX9_sharedDivisor_44 rfl ?_
          refine jv_lload 45 X dX9_sharedDivisor_45 2 rfl ?_
          refine jv_mmaxl 47 X wm_X9_301 dX9_sharedDivisor_47 (Nat.le_of_ble_eq_true rfl) (Nat.le_of_ble_eq_true rfl) ⟨Nat.zero_le _, Nat.zero_le _⟩ ?_
          exact jv_lret 50 X Y rfl dX9_sharedDivisor_50 () (congrArg (fun z => some (Value.long z)) (by rw [l_max ha0 (by omega), hab])) rfl
        · have hne : ¬ lN b = 0 := fun z => c_2 ((lg_cmp_eq _ _).mpr z)
          have hb0 : 0 < b := Nat.pos_of_ne_zero fun z => hne (by rw [z]; rfl)
          refine jv_lload 23 X dX9_sharedDivisor_23 2 rfl ?_
          refine jv_lload 25 X dX9_sharedDivisor_25 3 rfl ?_
          refine jv_lrem 27 X dX9_sharedDivisor_27 hne ?_
          refine jv_norml (x2 := lN (a % b)) (pk_lRem (by omega) hb0 (by omega)) ?_
          have hlt : a % b < b := Nat.mod_lt _ hb0
          refine jv_lstore (lv2 := [(9, .long (lN (a % b))), (0, .long (lN u)), (2, .long (lN v)), (4, .long (lN a)), (6, .long (lN b)), (8, .int (nI i))]) 28 X dX9_sharedDivisor_28 (by decide) rfl ?_
          refine jv_lload 30 X dX9_sharedDivisor_30 4 rfl ?_
          refine jv_lstore (lv2 := [(4, .long (lN b)), (9, .long (lN (a % b))), (0, .long (lN u)), (2, .long (lN v)), (6, .long (lN b)), (8, .int (nI i))]) 32 X dX9_sharedDivisor_32 (by decide) rfl ?_
          refine jv_lload 34 X dX9_sharedDivisor_34 1 rfl ?_
          refine jv_lstore (lv2 := [(6, .long (lN (a % b))), (4, .long (lN b)), (9, .long (lN (a % b))), (0, .long (lN u)), (2, .long (lN v)), (8, .int (nI i))]) 36 X dX9_sharedDivisor_36 (by decide) rfl ?_
          refine jv_iinc (v := (nI (i + 1))) (lv2 := [(8, .int (nI (i + 1))), (6, .long (lN (a % b))), (4, .long (lN b)), (9, .long (lN (a % b))), (0, .long (lN u)), (2, .long (lN v))]) 38 X dX9_sharedDivisor_38 5 rfl (nx_inc _) (by decide) rfl ?_
          refine jv_goto 41 X dX9_sharedDivisor_41 9 (by decide) ?_
          exact jv_lv [4, 5, 2, 1, 0] rfl (ih9 (i + 1) b (a % b) (by omega) (by rw [gcd_st]; exact hab) hb (by omega) (Or.inr hlt) (sd_st hb0 ho hp) (by omega))
  exact jv_lv [3, 4, 2, 1, 0] rfl (lp9 _ 0 u v (by omega) rfl hu hv (Or.inl rfl) (by rw [show (0 : Nat) - 1 = 0 from rfl, Nat.pow_zero, Nat.mul_one]; exact Nat.mul_le_mul hu hv) (Nat.lt_succ_self _))
theorem c_X9_lowest (E : EE) (l : Launch) (u : Nat) (v : Nat) (part : Int32) (hu : u ≤ 100000000000000) (hv : v ≤ 100000000000000) (hv0 : 0 < v) : CT E l yX9_lowest cX9_lowest 7 (some .long) { frames := 2, cells := 0, slots := 0, locals := 53 } [.long (lN u), .long (lN v), .int part] ([]) (some (.long (lowM u v part))) ([]) := by
  refine CT.intro (by decide +kernel) (Nat.le_of_ble_eq_true rfl) (fun K X Y => ?_)
  refine jv_lload_n 0 X dX9_lowest_0 0 rfl ?_
  refine jv_lload_n 1 X dX9_lowest_1 1 rfl ?_
  refine jv_fun 2 X (c_X9_sharedDivisor E _ u v hu hv hv0) ws_X9_297 ⟨Nat.le_of_ble_eq_true rfl, Nat.le_of_ble_eq_true rfl⟩ ⟨rfl, rfl⟩ ⟨Nat.zero_le _, Nat.zero_le _⟩ dX9_lowest_2 rfl [] rfl (Nat.le_of_ble_eq_true rfl) ?_
  have hg0 : 0 < Nat.gcd u v := Nat.gcd_pos_of_pos_right _ hv0
  have hg1 : Nat.gcd u v ≤ v := Nat.gcd_le_right _ hv0
  have hne : ¬ lN (Nat.gcd u v) = 0 := fun z => absurd ((lN_0 (by omega)).mp z) (by omega)
  refine jv_lstore (lv2 := [(5, .long (lN (Nat.gcd u v))), (0, .long (lN u)), (2, .long (lN v)), (4, .int part)]) 5 X dX9_lowest_5 (by decide) rfl ?_
  refine jv_iload 7 X dX9_lowest_7 3 rfl ?_
  refine jn_if_ne 9 X dX9_lowest_9 19 (by decide) (fun c_1 => ?_) (fun c_1 => ?_)
  · refine jv_lload_n 19 X dX9_lowest_19 2 rfl ?_
    refine jv_lload 20 X dX9_lowest_20 0 rfl ?_
    refine jv_ldiv 22 X dX9_lowest_22 hne ?_
    exact jv_lret 23 X Y rfl dX9_lowest_23 () (congrArg (fun z => some (Value.long z)) (by rw [pk_lDiv (by omega) hg0 (by omega)]; exact (if_neg c_1).symm)) rfl
  · refine jv_lload_n 12 X dX9_lowest_12 1 rfl ?_
    refine jv_lload 13 X dX9_lowest_13 0 rfl ?_
    refine jv_ldiv 15 X dX9_lowest_15 hne ?_
    refine jv_goto 16 X dX9_lowest_16 23 (by decide) ?_
    exact jv_lret 23 X Y rfl dX9_lowest_23 () (congrArg (fun z => some (Value.long z)) (by rw [pk_lDiv (by omega) hg0 (by omega)]; exact (if_pos c_1).symm)) rfl
theorem c_X9_restBy (E : EE) (l : Launch) (n : Nat) (q : Nat) (hn : n < 2147483648) (hq0 : 0 < q) (hq : q < 2147483648) : CT E l yX9_restBy cX9_restBy 2 (some .int) { frames := 0, cells := 0, slots := 0, locals := 0 } [.int (nI n), .int (nI q)] ([]) (some (.int (nI (n % q)))) ([]) := by
  refine CT.intro (by decide +kernel) (Nat.le_of_ble_eq_true rfl) (fun K X Y => ?_)
  refine jv_iload_n 0 X dX9_restBy_0 1 rfl ?_
  refine jv_iconst (v := 1) 1 X dX9_restBy_1 rfl ?_
  refine jn_icmp_ge 2 X dX9_restBy_2 9 (by decide) (fun c_1 => ?_) (fun c_1 => absurd ((nx_le (a := 1) (b := q) rfl rfl (by omega) (by omega)).mpr (by omega)) c_1)
  have n_1 : 1 ≤ q := (nx_le (a := 1) (b := q) rfl rfl (by omega) (by omega)).mp c_1
  refine jv_iload_n 9 X dX9_restBy_9 0 rfl ?_
  refine jv_iload_n 10 X dX9_restBy_10 1 rfl ?_
  refine jv_irem 11 X dX9_restBy_11 (nz_nI hq0 hq) ?_
  refine jv_norm (x2 := nI (n % q)) (nx_rem (a := n) (b := q) rfl rfl (by omega) (by omega) (by omega)) ?_
  exact jv_iret 12 X Y rfl dX9_restBy_12 () rfl rfl
theorem c_X9_fewestForLeastRest (E : EE) (l : Launch) (n : Nat) (P : Nat) (Q : Nat) (hn : n ≤ 1800) (hP : 0 < P) (hP2 : P ≤ 4000) (hQ : 0 < Q) (hQ2 : Q ≤ 4000) : CT E l yX9_fewestForLeastRest cX9_fewestForLeastRest 7 (some .int) { frames := 1, cells := 0, slots := 0, locals := 21 } [.int (nI n), .int (nI P), .int (nI Q)] ([]) (some (.int (nI (wtM n P Q).2))) ([]) := by
  refine CT.intro (by decide +kernel) (Nat.le_of_ble_eq_true rfl) (fun K X Y => ?_)
  refine jv_iconst (v := 0) 0 X dX9_fewestForLeastRest_0 rfl ?_
  refine jv_istore_n (lv2 := [(3, .int 0), (0, .int (nI n)), (1, .int (nI P)), (2, .int (nI Q))]) 1 X dX9_fewestForLeastRest_1 (by decide) rfl ?_
  refine jv_iload_n 2 X dX9_fewestForLeastRest_2 1 rfl ?_
  refine jv_iload_n 3 X dX9_fewestForLeastRest_3 3 rfl ?_
  refine jv_fun 4 X (c_X9_restBy E _ n Q (by omega) hQ (by omega)) ws_X9_205 ⟨Nat.le_of_ble_eq_true rfl, Nat.le_of_ble_eq_true rfl⟩ ⟨rfl, rfl⟩ ⟨Nat.zero_le _, Nat.zero_le _⟩ dX9_fewestForLeastRest_4 rfl [] rfl (Nat.le_of_ble_eq_true rfl) ?_
  have hmq := Nat.mod_lt n hQ
  refine jv_istore (lv2 := [(4, .int (nI (n % Q))), (3, .int 0), (0, .int (nI n)), (1, .int (nI P)), (2, .int (nI Q))]) 7 X dX9_fewestForLeastRest_7 (by decide) rfl ?_
  refine jv_iconst (v := 1) 9 X dX9_fewestForLeastRest_9 rfl ?_
  refine jv_istore (lv2 := [(5, .int 1), (4, .int (nI (n % Q))), (3, .int 0), (0, .int (nI n)), (1, .int (nI P)), (2, .int (nI Q))]) 10 X dX9_fewestForLeastRest_10 (by decide) rfl ?_
  have lp12 : ∀ (n12 : Nat) (k f e : Nat), (1 ≤ k) → (k ≤ 1801) → ((k - 1) * P ≤ n) → (e ≤ 4000) → (itr (wtS n P Q) k (1000000, 0) = (e, f)) → 1801 - k < n12 → JV E K 0 0 ([]) [(0, .int (nI n)), (1, .int (nI P)), (2, .int (nI Q)), (3, .int (nI f)), (4, .int (nI e)), (5, .int (nI k))] 12 [] := by
    intro n12
    induction n12 with
    | zero => intro k f e hk1 hk hkp he hI hm; exact absurd hm (Nat.not_lt_zero _)
    | succ n12 ih12 =>
      intro k f e hk1 hk hkp he hI hm
      refine jv_iload 12 X dX9_fewestForLeastRest_12 5 rfl ?_
      refine jv_sipush (v := 1800) 14 X dX9_fewestForLeastRest_14 (by decide) ?_
      refine jn_icmp_gt 17 X dX9_fewestForLeastRest_17 60 (by decide) (fun c_1 => ?_) (fun c_1 => ?_)
      · have n_1 : ¬ k ≤ 1800 := fun zq => c_1 ((nx_le (a := k) (b := 1800) rfl rfl (by omega) (by omega)).mpr zq)
        have hx := wt_1800 (k := k) (P := P) hn (by omega) hP
        refine jv_iload_n 60 X dX9_fewestForLeastRest_60 3 rfl ?_
        exact jv_iret 61 X Y rfl dX9_fewestForLeastRest_61 () (congrArg (fun z => some (Value.int z)) (congrArg nI (by rw [wtM, ← wt_mul hkp hx hk1 hP, hI]))) rfl
      · have n_1 : k ≤ 1800 := (nx_le (a := k) (b := 1800) rfl rfl (by omega) (by omega)).mp c_1
        have hkP : k * P ≤ 1800 * 4000 := Nat.mul_le_mul (by omega) hP2
        refine jv_iload 20 X dX9_fewestForLeastRest_20 5 rfl ?_
        refine jv_iload_n 22 X dX9_fewestForLeastRest_22 1 rfl ?_
        refine jv_imul 23 X dX9_fewestForLeastRest_23 ?_
        refine jv_norm (x2 := nI (k * P)) (nx_mul (a := k) (b := P) rfl rfl) ?_
        refine jv_iload_n 24 X dX9_fewestForLeastRest_24 0 rfl ?_
        refine jn_icmp_gt 25 X dX9_fewestForLeastRest_25 60 (by decide) (fun c_2 => ?_) (fun c_2 => ?_)
        · have n_2 : ¬ (k * P) ≤ n := fun zq => c_2 ((nx_le (a := (k * P)) (b := n) rfl rfl (by omega) (by omega)).mpr zq)
          have hx : ¬ k * P ≤ n := n_2
          refine jv_iload_n 60 X dX9_fewestForLeastRest_60 3 rfl ?_
          exact jv_iret 61 X Y rfl dX9_fewestForLeastRest_61 () (congrArg (fun z => some (Value.int z)) (congrArg nI (by rw [wtM, ← wt_mul hkp hx hk1 hP, hI]))) rfl
        · have n_2 : (k * P) ≤ n := (nx_le (a := (k * P)) (b := n) rfl rfl (by omega) (by omega)).mp c_2
          have hkp2 : k * P ≤ n := n_2
          refine jv_iload_n 28 X dX9_fewestForLeastRest_28 0 rfl ?_
          refine jv_iload 29 X dX9_fewestForLeastRest_29 5 rfl ?_
          refine jv_iload_n 31 X dX9_fewestForLeastRest_31 1 rfl ?_
          refine jv_imul 32 X dX9_fewestForLeastRest_32 ?_
          refine jv_norm (x2 := nI (k * P)) (nx_mul (a := k) (b := P) rfl rfl) ?_
          refine jv_isub 33 X dX9_fewestForLeastRest_33 ?_
          refine jv_norm (x2 := nI (n - (k * P))) (nx_sub2 (a := n) (b := (k * P)) rfl rfl (by omega)) ?_
          refine jv_iload_n 34 X dX9_fewestForLeastRest_34 2 rfl ?_
          refine jv_fun 35 X (c_X9_restBy E _ (n - (k * P)) Q (by omega) hQ (by omega)) ws_X9_205 ⟨Nat.le_of_ble_eq_true rfl, Nat.le_of_ble_eq_true rfl⟩ ⟨rfl, rfl⟩ ⟨Nat.zero_le _, Nat.zero_le _⟩ dX9_fewestForLeastRest_35 rfl [] rfl (Nat.le_of_ble_eq_true rfl) ?_
          have hmk := Nat.mod_lt (n - k * P) hQ
          refine jv_istore (lv2 := [(6, .int (nI ((n - (k * P)) % Q))), (0, .int (nI n)), (1, .int (nI P)), (2, .int (nI Q)), (3, .int (nI f)), (4, .int (nI e)), (5, .int (nI k))]) 38 X dX9_fewestForLeastRest_38 (by decide) rfl ?_
          refine jv_iload 40 X dX9_fewestForLeastRest_40 0 rfl ?_
          refine jv_iload 42 X dX9_fewestForLeastRest_42 5 rfl ?_
          refine jn_icmp_ge 44 X dX9_fewestForLeastRest_44 54 (by decide) (fun c_3 => ?_) (fun c_3 => ?_)
          · have n_3 : e ≤ ((n - (k * P)) % Q) := (nx_le (a := e) (b := ((n - (k * P)) % Q)) rfl rfl (by omega) (by omega)).mp c_3
            refine jv_iinc (v := (nI (k + 1))) (lv2 := [(5, .int (nI (k + 1))), (6, .int (nI ((n - (k * P)) % Q))), (0, .int (nI n)), (1, .int (nI P)), (2, .int (nI Q)), (3, .int (nI f)), (4, .int (nI e))]) 54 X dX9_fewestForLeastRest_54 6 rfl (nx_inc _) (by decide) rfl ?_
            refine jv_goto 57 X dX9_fewestForLeastRest_57 12 (by decide) ?_
            exact jv_lv [2, 3, 4, 5, 6, 0] rfl (ih12 (k + 1) f e (by omega) (by omega) (by rw [Nat.add_sub_cancel]; exact hkp2) (by omega) (by rw [itr_s, hI, wtS, if_neg (show ¬ (n - k * P) % Q < e by omega)]) (by omega))
          · have n_3 : ¬ e ≤ ((n - (k * P)) % Q) := fun zq => c_3 ((nx_le (a := e) (b := ((n - (k * P)) % Q)) rfl rfl (by omega) (by omega)).mpr zq)
            refine jv_iload 47 X dX9_fewestForLeastRest_47 0 rfl ?_
            refine jv_istore (lv2 := [(4, .int (nI ((n - (k * P)) % Q))), (6, .int (nI ((n - (k * P)) % Q))), (0, .int (nI n)), (1, .int (nI P)), (2, .int (nI Q)), (3, .int (nI f)), (5, .int (nI k))]) 49 X dX9_fewestForLeastRest_49 (by decide) rfl ?_
            refine jv_iload 51 X dX9_fewestForLeastRest_51 6 rfl ?_
            refine jv_istore_n (lv2 := [(3, .int (nI k)), (4, .int (nI ((n - (k * P)) % Q))), (6, .int (nI ((n - (k * P)) % Q))), (0, .int (nI n)), (1, .int (nI P)), (2, .int (nI Q)), (5, .int (nI k))]) 53 X dX9_fewestForLeastRest_53 (by decide) rfl ?_
            refine jv_iinc (v := (nI (k + 1))) (lv2 := [(5, .int (nI (k + 1))), (3, .int (nI k)), (4, .int (nI ((n - (k * P)) % Q))), (6, .int (nI ((n - (k * P)) % Q))), (0, .int (nI n)), (1, .int (nI P)), (2, .int (nI Q))]) 54 X dX9_fewestForLeastRest_54 6 rfl (nx_inc _) (by decide) rfl ?_
            refine jv_goto 57 X dX9_fewestForLeastRest_57 12 (by decide) ?_
            exact jv_lv [4, 5, 6, 1, 2, 0] rfl (ih12 (k + 1) k ((n - k * P) % Q) (by omega) (by omega) (by rw [Nat.add_sub_cancel]; exact hkp2) (by have := Nat.mod_lt (n - k * P) hQ; omega) (by rw [itr_s, hI, wtS, if_pos (show (n - k * P) % Q < e by omega)]) (by omega))
  exact jv_lv [3, 4, 5, 2, 1, 0] rfl (lp12 _ 1 0 (n % Q) (by omega) (by omega) (by simp) (by omega) (wt_fst (by omega)) (Nat.lt_succ_self _))
theorem c_X9_inches (E : EE) (l : Launch) (g : Nat → Nat → Nat) (r : Rl) (k : Int32) (j : Int32) (part : Int32) (hst : ∀ s, s < 8 → r.2.2.2.2.2.2.2.1 s = nI (r.2.2.2.2.2.2.2.1 s).toNatClampNeg ∧ (r.2.2.2.2.2.2.2.1 s).toNatClampNeg ≤ 1800) (hms : ∀ o, o < 6 → inOK (msC r o)) : CT E l yX9_inches cX9_inches 4 (some .long) { frames := 3, cells := 0, slots := 0, locals := 79 } [.ref (g 0 0), .int k, .int j, .int part] (wB [bLR g, tRl E (g 1) r]) (some (.long (if ¬ ((0 ≤ k ∧ k ≤ 7) ∧ (0 ≤ j ∧ j ≤ 5)) then -1000000000000000001 else if ¬ (0 ≤ part ∧ part ≤ 1) then -1000000000000000002 else lowM (r.2.2.2.2.2.2.2.1 k.toNatClampNeg).toNatClampNeg (msC r j.toNatClampNeg).toNatClampNeg part))) (wB [bLR g, tRl E (g 1) r]) := by
  refine CT.intro (by decide +kernel) (Nat.le_of_ble_eq_true rfl) (fun K X Y => ?_)
  refine jv_iload_n 0 X dX9_inches_0 1 rfl ?_
  refine jv_fun 1 X (c_X9_isStick E _ k) ws_X9_101 ⟨Nat.le_of_ble_eq_true rfl, Nat.le_of_ble_eq_true rfl⟩ ⟨rfl, rfl⟩ ⟨Nat.zero_le _, Nat.zero_le _⟩ dX9_inches_1 rfl [] rfl (Nat.le_of_ble_eq_true rfl) ?_
  refine jv_z_eq 4 X dX9_inches_4 14 (by decide) (fun c_1 => ?_) (fun c_1 => ?_)
  · refine jv_ldc2 (v := (-1000000000000000001)) 14 X tm_kl_X9_173 dX9_inches_14 ?_
    exact jv_lret 17 X Y rfl dX9_inches_17 () (by simp [lt_nle, -Int32.not_le, c_1]) rfl
  · obtain ⟨jk, h1jk, h2jk, rfl⟩ := nx_in (a := 0) (b := 7) rfl rfl (by decide) (by decide) c_1
    have hcjk : (nI jk).toNatClampNeg = jk := nI_clamp (by omega)
    refine jv_iload_n 7 X dX9_inches_7 2 rfl ?_
    refine jv_fun 8 X (c_X9_isOne E _ j) ws_X9_87 ⟨Nat.le_of_ble_eq_true rfl, Nat.le_of_ble_eq_true rfl⟩ ⟨rfl, rfl⟩ ⟨Nat.zero_le _, Nat.zero_le _⟩ dX9_inches_8 rfl [] rfl (Nat.le_of_ble_eq_true rfl) ?_
    refine jv_z_ne 11 X dX9_inches_11 18 (by decide) (fun c_2 => ?_) (fun c_2 => ?_)
    · obtain ⟨jj, h1jj, h2jj, rfl⟩ := nx_in (a := 0) (b := 5) rfl rfl (by decide) (by decide) c_2
      have hcjj : (nI jj).toNatClampNeg = jj := nI_clamp (by omega)
      refine jv_iload_n 18 X dX9_inches_18 3 rfl ?_
      refine jv_iconst (v := 0) 19 X dX9_inches_19 rfl ?_
      refine jv_iconst (v := 1) 20 X dX9_inches_20 rfl ?_
      refine jv_fun 21 X (c_X9_within E _ part 0 1) ws_X9_75 ⟨Nat.le_of_ble_eq_true rfl, Nat.le_of_ble_eq_true rfl⟩ ⟨rfl, rfl⟩ ⟨Nat.zero_le _, Nat.zero_le _⟩ dX9_inches_21 rfl [] rfl (Nat.le_of_ble_eq_true rfl) ?_
      refine jv_z_ne 24 X dX9_inches_24 31 (by decide) (fun c_3 => ?_) (fun c_3 => ?_)
      · refine jv_aload_n 31 X dX9_inches_31 0 rfl ?_
        refine jv_get (v := .ref (g 1 0)) 32 X gf_X9_10 dX9_inches_32 0 rfl rfl ?_
        refine jv_get (v := .ref (g 1 5)) 35 X gf_X9_104 dX9_inches_35 1 rfl rfl ?_
        refine jv_iload_n 38 X dX9_inches_38 1 rfl ?_
        refine jv_iald (f := r.2.2.2.2.2.2.2.1) 39 X dX9_inches_39 6 rfl (by decide) jk rfl (by omega) ?_
        refine jv_i2l 40 X dX9_inches_40 ?_
        refine jv_norml (x2 := lN (r.2.2.2.2.2.2.2.1 jk).toNatClampNeg) (l_n2 (hst jk (by omega))) ?_
        refine jv_aload_n 41 X dX9_inches_41 0 rfl ?_
        refine jv_get (v := .ref (g 1 0)) 42 X gf_X9_10 dX9_inches_42 0 rfl rfl ?_
        refine jv_iload_n 45 X dX9_inches_45 2 rfl ?_
        refine jv_callB1 (wl2 := [bLR g, tRl E (g 1) r]) 46 X (c_X5_measure E _ (g 1) r jj (by omega)) wv_X9_177 ⟨Nat.le_of_ble_eq_true rfl, Nat.le_of_ble_eq_true rfl⟩ ⟨rfl, rfl⟩ ⟨Nat.zero_le _, Nat.zero_le _⟩ dX9_inches_46 rfl [.long (lN (r.2.2.2.2.2.2.2.1 jk).toNatClampNeg)] rfl (Nat.le_of_ble_eq_true rfl) 1 rfl [(g 1 0), (g 1 1), (g 1 2), (g 1 3), (g 1 4), (g 1 5), (g 1 6), (g 1 7), (g 1 8), (g 1 9), (g 1 10)] rfl rfl rfl rfl rfl ?_
        refine jv_i2l 49 X dX9_inches_49 ?_
        refine jv_norml (x2 := lN (msC r jj).toNatClampNeg) (l_in (hms _ (by omega))) ?_
        refine jv_iload_n 50 X dX9_inches_50 3 rfl ?_
        refine jv_fun 51 X (c_X9_lowest E _ ((r.2.2.2.2.2.2.2.1 jk).toNatClampNeg) ((msC r jj).toNatClampNeg) part (Nat.le_trans (hst jk (by omega)).2 (by omega)) (Nat.le_trans (hms jj (by omega)).2.2 (by omega)) (hms jj (by omega)).2.1) ws_X9_180 ⟨Nat.le_of_ble_eq_true rfl, Nat.le_of_ble_eq_true rfl⟩ ⟨rfl, rfl⟩ ⟨Nat.zero_le _, Nat.zero_le _⟩ dX9_inches_51 rfl [] rfl (Nat.le_of_ble_eq_true rfl) ?_
        exact jv_lret 54 X Y rfl dX9_inches_54 () (by simp [lt_nle, -Int32.not_le, c_1, hcjk, c_2, hcjj, c_3]) rfl
      · refine jv_ldc2 (v := (-1000000000000000002)) 27 X tm_kl_X9_175 dX9_inches_27 ?_
        exact jv_lret 30 X Y rfl dX9_inches_30 () (by simp [lt_nle, -Int32.not_le, c_1, hcjk, c_2, hcjj, c_3]) rfl
    · refine jv_ldc2 (v := (-1000000000000000001)) 14 X tm_kl_X9_173 dX9_inches_14 ?_
      exact jv_lret 17 X Y rfl dX9_inches_17 () (by simp [lt_nle, -Int32.not_le, c_1, hcjk, c_2]) rfl
theorem c_X9_waste (E : EE) (l : Launch) (g : Nat → Nat → Nat) (r : Rl) (k : Int32) (p : Int32) (q : Int32) (what : Int32) (hst : ∀ s, s < 8 → r.2.2.2.2.2.2.2.1 s = nI (r.2.2.2.2.2.2.2.1 s).toNatClampNeg ∧ (r.2.2.2.2.2.2.2.1 s).toNatClampNeg ≤ 1800) (hin : inOK r.1) : CT E l yX9_waste cX9_waste 9 (some .int) { frames := 2, cells := 0, slots := 0, locals := 47 } [.ref (g 0 0), .int k, .int p, .int q, .int what] (wB [bLR g, tRl E (g 1) r]) (some (.int (if ¬ (0 ≤ k ∧ k ≤ 7) then -1 else if (1 ≤ p ∧ p ≤ 20) ∧ (1 ≤ q ∧ q ≤ 20) ∧ (0 ≤ what ∧ what ≤ 1) then (if what = 1 then nI (wtM (r.2.2.2.2.2.2.2.1 k.toNatClampNeg).toNatClampNeg (p.toNatClampNeg * r.1.toNatClampNeg) (q.toNatClampNeg * r.1.toNatClampNeg)).2 else nI (wtM (r.2.2.2.2.2.2.2.1 k.toNatClampNeg).toNatClampNeg (p.toNatClampNeg * r.1.toNatClampNeg) (q.toNatClampNeg * r.1.toNatClampNeg)).1) else -2))) (wB [bLR g, tRl E (g 1) r]) := by
  refine CT.intro (by decide +kernel) (Nat.le_of_ble_eq_true rfl) (fun K X Y => ?_)
  refine jv_iload_n 0 X dX9_waste_0 1 rfl ?_
  refine jv_fun 1 X (c_X9_isStick E _ k) ws_X9_101 ⟨Nat.le_of_ble_eq_true rfl, Nat.le_of_ble_eq_true rfl⟩ ⟨rfl, rfl⟩ ⟨Nat.zero_le _, Nat.zero_le _⟩ dX9_waste_1 rfl [] rfl (Nat.le_of_ble_eq_true rfl) ?_
  refine jv_z_ne 4 X dX9_waste_4 9 (by decide) (fun c_1 => ?_) (fun c_1 => ?_)
  · obtain ⟨jk, h1jk, h2jk, rfl⟩ := nx_in (a := 0) (b := 7) rfl rfl (by decide) (by decide) c_1
    have hcjk : (nI jk).toNatClampNeg = jk := nI_clamp (by omega)
    refine jv_iload_n 9 X dX9_waste_9 2 rfl ?_
    refine jv_iconst (v := 1) 10 X dX9_waste_10 rfl ?_
    refine jv_bipush (v := 20) 11 X dX9_waste_11 (by decide) ?_
    refine jv_fun 13 X (c_X9_within E _ p 1 20) ws_X9_75 ⟨Nat.le_of_ble_eq_true rfl, Nat.le_of_ble_eq_true rfl⟩ ⟨rfl, rfl⟩ ⟨Nat.zero_le _, Nat.zero_le _⟩ dX9_waste_13 rfl [] rfl (Nat.le_of_ble_eq_true rfl) ?_
    refine jv_z_eq 16 X dX9_waste_16 39 (by decide) (fun c_2 => ?_) (fun c_2 => ?_)
    · refine jv_bipush (v := (-2)) 39 X dX9_waste_39 (by decide) ?_
      exact jv_iret 41 X Y rfl dX9_waste_41 () (by simp [lt_nle, -Int32.not_le, c_1, hcjk, c_2]) rfl
    · obtain ⟨jp, h1jp, h2jp, rfl⟩ := nx_in (a := 1) (b := 20) rfl rfl (by decide) (by decide) c_2
      have hcjp : (nI jp).toNatClampNeg = jp := nI_clamp (by omega)
      refine jv_iload_n 19 X dX9_waste_19 3 rfl ?_
      refine jv_iconst (v := 1) 20 X dX9_waste_20 rfl ?_
      refine jv_bipush (v := 20) 21 X dX9_waste_21 (by decide) ?_
      refine jv_fun 23 X (c_X9_within E _ q 1 20) ws_X9_75 ⟨Nat.le_of_ble_eq_true rfl, Nat.le_of_ble_eq_true rfl⟩ ⟨rfl, rfl⟩ ⟨Nat.zero_le _, Nat.zero_le _⟩ dX9_waste_23 rfl [] rfl (Nat.le_of_ble_eq_true rfl) ?_
      refine jv_z_eq 26 X dX9_waste_26 39 (by decide) (fun c_3 => ?_) (fun c_3 => ?_)
      · refine jv_bipush (v := (-2)) 39 X dX9_waste_39 (by decide) ?_
        exact jv_iret 41 X Y rfl dX9_waste_41 () (by simp [lt_nle, -Int32.not_le, c_1, hcjk, c_2, hcjp, c_3]) rfl
      · obtain ⟨jq, h1jq, h2jq, rfl⟩ := nx_in (a := 1) (b := 20) rfl rfl (by decide) (by decide) c_3
        have hcjq : (nI jq).toNatClampNeg = jq := nI_clamp (by omega)
        refine jv_iload 29 X dX9_waste_29 4 rfl ?_
        refine jv_iconst (v := 0) 31 X dX9_waste_31 rfl ?_
        refine jv_iconst (v := 1) 32 X dX9_waste_32 rfl ?_
        refine jv_fun 33 X (c_X9_within E _ what 0 1) ws_X9_75 ⟨Nat.le_of_ble_eq_true rfl, Nat.le_of_ble_eq_true rfl⟩ ⟨rfl, rfl⟩ ⟨Nat.zero_le _, Nat.zero_le _⟩ dX9_waste_33 rfl [] rfl (Nat.le_of_ble_eq_true rfl) ?_
        refine jv_z_ne 36 X dX9_waste_36 42 (by decide) (fun c_4 => ?_) (fun c_4 => ?_)
        · refine jv_aload_n 42 X dX9_waste_42 0 rfl ?_
          refine jv_get (v := .ref (g 1 0)) 43 X gf_X9_10 dX9_waste_43 0 rfl rfl ?_
          refine jv_get (v := .ref (g 1 5)) 46 X gf_X9_104 dX9_waste_46 1 rfl rfl ?_
          refine jv_iload_n 49 X dX9_waste_49 1 rfl ?_
          refine jv_iald (f := r.2.2.2.2.2.2.2.1) 50 X dX9_waste_50 6 rfl (by decide) jk rfl (by omega) ?_
          refine jv_norm (x2 := nI (r.2.2.2.2.2.2.2.1 jk).toNatClampNeg) (hst jk (by omega)).1 ?_
          have hs1 := (hst jk (by omega)).2
          obtain ⟨hi1, hi2, hi3⟩ := id hin
          refine jv_istore (lv2 := [(5, .int (nI ((r.2.2.2.2.2.2.2.1 jk).toNatClampNeg))), (0, .ref (g 0 0)), (1, .int (nI jk)), (2, .int (nI jp)), (3, .int (nI jq)), (4, .int what)]) 51 X dX9_waste_51 (by decide) rfl ?_
          refine jv_iload_n 53 X dX9_waste_53 3 rfl ?_
          refine jv_aload_n 54 X dX9_waste_54 1 rfl ?_
          refine jv_get (v := .ref (g 1 0)) 55 X gf_X9_10 dX9_waste_55 0 rfl rfl ?_
          refine jv_get (v := .int r.1) 58 X gf_X9_79 dX9_waste_58 1 rfl rfl ?_
          refine jv_norm (x2 := nI r.1.toNatClampNeg) hi1 ?_
          have hmp : 1 * 1 ≤ jp * r.1.toNatClampNeg ∧ jp * r.1.toNatClampNeg ≤ 20 * 200 := ⟨Nat.mul_le_mul (by omega) hi2, Nat.mul_le_mul (by omega) hi3⟩
          refine jv_imul 61 X dX9_waste_61 ?_
          refine jv_norm (x2 := nI (jp * r.1.toNatClampNeg)) (nx_mul (a := jp) (b := r.1.toNatClampNeg) rfl rfl) ?_
          refine jv_istore (lv2 := [(6, .int (nI (jp * r.1.toNatClampNeg))), (5, .int (nI ((r.2.2.2.2.2.2.2.1 jk).toNatClampNeg))), (0, .ref (g 0 0)), (1, .int (nI jk)), (2, .int (nI jp)), (3, .int (nI jq)), (4, .int what)]) 62 X dX9_waste_62 (by decide) rfl ?_
          refine jv_iload_n 64 X dX9_waste_64 5 rfl ?_
          refine jv_aload_n 65 X dX9_waste_65 2 rfl ?_
          refine jv_get (v := .ref (g 1 0)) 66 X gf_X9_10 dX9_waste_66 0 rfl rfl ?_
          refine jv_get (v := .int r.1) 69 X gf_X9_79 dX9_waste_69 1 rfl rfl ?_
          refine jv_norm (x2 := nI r.1.toNatClampNeg) hi1 ?_
          have hmq : 1 * 1 ≤ jq * r.1.toNatClampNeg ∧ jq * r.1.toNatClampNeg ≤ 20 * 200 := ⟨Nat.mul_le_mul (by omega) hi2, Nat.mul_le_mul (by omega) hi3⟩
          refine jv_imul 72 X dX9_waste_72 ?_
          refine jv_norm (x2 := nI (jq * r.1.toNatClampNeg)) (nx_mul (a := jq) (b := r.1.toNatClampNeg) rfl rfl) ?_
          refine jv_istore (lv2 := [(7, .int (nI (jq * r.1.toNatClampNeg))), (6, .int (nI (jp * r.1.toNatClampNeg))), (5, .int (nI ((r.2.2.2.2.2.2.2.1 jk).toNatClampNeg))), (0, .ref (g 0 0)), (1, .int (nI jk)), (2, .int (nI jp)), (3, .int (nI jq)), (4, .int what)]) 73 X dX9_waste_73 (by decide) rfl ?_
          refine jv_iload 75 X dX9_waste_75 2 rfl ?_
          refine jv_iload 77 X dX9_waste_77 1 rfl ?_
          refine jv_iload 79 X dX9_waste_79 0 rfl ?_
          refine jv_fun 81 X (c_X9_fewestForLeastRest E _ ((r.2.2.2.2.2.2.2.1 jk).toNatClampNeg) (jp * r.1.toNatClampNeg) (jq * r.1.toNatClampNeg) hs1 (by omega) (by omega) (by omega) (by omega)) ws_X9_201 ⟨Nat.le_of_ble_eq_true rfl, Nat.le_of_ble_eq_true rfl⟩ ⟨rfl, rfl⟩ ⟨Nat.zero_le _, Nat.zero_le _⟩ dX9_waste_81 rfl [] rfl (Nat.le_of_ble_eq_true rfl) ?_
          obtain ⟨hw1, hw2⟩ := wt_2 (len := (r.2.2.2.2.2.2.2.1 jk).toNatClampNeg) (P := jp * r.1.toNatClampNeg) (Q := jq * r.1.toNatClampNeg) (by omega) ((r.2.2.2.2.2.2.2.1 jk).toNatClampNeg / (jp * r.1.toNatClampNeg) + 1) (Nat.succ_le_succ (Nat.zero_le _)) (by have := Nat.mod_lt (r.2.2.2.2.2.2.2.1 jk).toNatClampNeg (show 0 < jq * r.1.toNatClampNeg by omega); omega)
          have hw3 : (wtM (r.2.2.2.2.2.2.2.1 jk).toNatClampNeg (jp * r.1.toNatClampNeg) (jq * r.1.toNatClampNeg)).2 * (jp * r.1.toNatClampNeg) ≤ (r.2.2.2.2.2.2.2.1 jk).toNatClampNeg := Nat.le_trans (Nat.mul_le_mul_right _ (show (wtM (r.2.2.2.2.2.2.2.1 jk).toNatClampNeg (jp * r.1.toNatClampNeg) (jq * r.1.toNatClampNeg)).2 ≤ (r.2.2.2.2.2.2.2.1 jk).toNatClampNeg / (jp * r.1.toNatClampNeg) from Nat.lt_succ_iff.mp hw2)) (Nat.div_mul_le_self _ _)
          refine jv_istore (lv2 := [(8, .int (nI ((wtM ((r.2.2.2.2.2.2.2.1 jk).toNatClampNeg) (jp * r.1.toNatClampNeg) (jq * r.1.toNatClampNeg)).2))), (7, .int (nI (jq * r.1.toNatClampNeg))), (6, .int (nI (jp * r.1.toNatClampNeg))), (5, .int (nI ((r.2.2.2.2.2.2.2.1 jk).toNatClampNeg))), (0, .ref (g 0 0)), (1, .int (nI jk)), (2, .int (nI jp)), (3, .int (nI jq)), (4, .int what)]) 84 X dX9_waste_84 (by decide) rfl ?_
          refine jv_iload 86 X dX9_waste_86 8 rfl ?_
          refine jv_iconst (v := 1) 88 X dX9_waste_88 rfl ?_
          refine jn_icmp_ne 89 X dX9_waste_89 97 (by decide) (fun c_5 => ?_) (fun c_5 => ?_)
          · refine jv_iload 97 X dX9_waste_97 3 rfl ?_
            refine jv_iload 99 X dX9_waste_99 0 rfl ?_
            refine jv_iload 101 X dX9_waste_101 2 rfl ?_
            refine jv_imul 103 X dX9_waste_103 ?_
            refine jv_norm (x2 := nI (((wtM ((r.2.2.2.2.2.2.2.1 jk).toNatClampNeg) (jp * r.1.toNatClampNeg) (jq * r.1.toNatClampNeg)).2) * (jp * r.1.toNatClampNeg))) (nx_mul (a := (wtM ((r.2.2.2.2.2.2.2.1 jk).toNatClampNeg) (jp * r.1.toNatClampNeg) (jq * r.1.toNatClampNeg)).2) (b := (jp * r.1.toNatClampNeg)) rfl rfl) ?_
            refine jv_isub 104 X dX9_waste_104 ?_
            refine jv_norm (x2 := nI (((r.2.2.2.2.2.2.2.1 jk).toNatClampNeg) - (((wtM ((r.2.2.2.2.2.2.2.1 jk).toNatClampNeg) (jp * r.1.toNatClampNeg) (jq * r.1.toNatClampNeg)).2) * (jp * r.1.toNatClampNeg)))) (nx_sub2 (a := (r.2.2.2.2.2.2.2.1 jk).toNatClampNeg) (b := (((wtM ((r.2.2.2.2.2.2.2.1 jk).toNatClampNeg) (jp * r.1.toNatClampNeg) (jq * r.1.toNatClampNeg)).2) * (jp * r.1.toNatClampNeg))) rfl rfl (by omega)) ?_
            refine jv_iload 105 X dX9_waste_105 1 rfl ?_
            refine jv_fun 107 X (c_X9_restBy E _ (((r.2.2.2.2.2.2.2.1 jk).toNatClampNeg) - (((wtM ((r.2.2.2.2.2.2.2.1 jk).toNatClampNeg) (jp * r.1.toNatClampNeg) (jq * r.1.toNatClampNeg)).2) * (jp * r.1.toNatClampNeg))) (jq * r.1.toNatClampNeg) (by omega) (by omega) (by omega)) ws_X9_205 ⟨Nat.le_of_ble_eq_true rfl, Nat.le_of_ble_eq_true rfl⟩ ⟨rfl, rfl⟩ ⟨Nat.zero_le _, Nat.zero_le _⟩ dX9_waste_107 rfl [] rfl (Nat.le_of_ble_eq_true rfl) ?_
            exact jv_iret 110 X Y rfl dX9_waste_110 () (by simp [c_1, hcjk, c_2, hcjp, c_3, hcjq, c_4, c_5]; exact congrArg nI hw1.symm) rfl
          · refine jv_iload 92 X dX9_waste_92 0 rfl ?_
            refine jv_goto 94 X dX9_waste_94 110 (by decide) ?_
            exact jv_iret 110 X Y rfl dX9_waste_110 () (by simp [c_1, hcjk, c_2, hcjp, c_3, hcjq, c_4, c_5]) rfl
        · refine jv_bipush (v := (-2)) 39 X dX9_waste_39 (by decide) ?_
          exact jv_iret 41 X Y rfl dX9_waste_41 () (by simp [lt_nle, -Int32.not_le, c_1, hcjk, c_2, hcjp, c_3, hcjq, c_4]) rfl
  · refine jv_iconst (v := (-1)) 7 X dX9_waste_7 rfl ?_
    exact jv_iret 8 X Y rfl dX9_waste_8 () (by simp [lt_nle, -Int32.not_le, c_1]) rfl
