theorem sw_0 {a b : Nat} : ∀ n, swI a b n 0 = 0
  | 0 => rfl
  | n + 1 => (if_neg (by omega) : swN a b (swI a b n) 0 = swI a b n 0).trans (sw_0 n)
theorem sw_26 {a b : Nat} : ∀ n, swI a b n 26 = 0
  | 0 => rfl
  | n + 1 => (if_neg (by omega) : swN a b (swI a b n) 26 = swI a b n 26).trans (sw_26 n)
theorem wa_up {w : Nat → Nat} (h : w 26 = 0) {i : Nat} (hi : i < 25) : (if 0 ≤ nI (i + 1) ∧ nI (i + 1) ≤ 24 then lN (w ((nI (i + 1)).toNatClampNeg + 1)) else 0) = lN (w (i + 2)) := by
  by_cases z : i = 24
  · subst z
    rw [if_neg (by decide), h]
    rfl
  · rw [if_pos ⟨nI_pos' (by omega), (nx_le (a := i + 1) (b := 24) rfl rfl (by omega) (by omega)).mpr (by omega)⟩, nI_clamp (by omega)]
theorem wa_dn {w : Nat → Nat} (h : w 0 = 0) {i : Nat} (hi : i < 25) : (if 0 ≤ nI i - 1 ∧ nI i - 1 ≤ 24 then lN (w ((nI i - 1).toNatClampNeg + 1)) else 0) = lN (w i) := by
  cases i with
  | zero => rw [if_neg (by decide), h]; rfl
  | succ j =>
    rw [show nI (j + 1) - 1 = nI j from (nx_sub (y := 1) (a := j + 1) (b := 1) rfl rfl (by omega)).trans (by rw [Nat.add_sub_cancel]), if_pos ⟨nI_pos' (by omega), (nx_le (a := j) (b := 24) rfl rfl (by omega) (by omega)).mpr (by omega)⟩, nI_clamp (by omega)]
theorem ab_off {t : Nat} (ht : t < 25) : (if 0 ≤ nI t - 12 then nI t - 12 else 0 - (nI t - 12)) = nI (offN (t + 1)) := by
  have h : ∀ t : Fin 25, (if 0 ≤ nI t.1 - 12 then nI t.1 - 12 else 0 - (nI t.1 - 12)) = nI (offN (t.1 + 1)) := by decide
  exact h ⟨t, ht⟩
theorem of_le {t : Nat} (ht : t < 25) : offN (t + 1) ≤ 13 := by
  unfold offN
  split <;> omega
theorem sw_st {a b i : Nat} {w : Nat → Nat} (ha : a < 2147483648) (hb : b < 2147483648) (hi : i < 25) : (lN (w (i + 1)) * (nI (10 - a - b)).toInt64 + lN (w (i + 2)) * (nI a).toInt64) + lN (w i) * (nI b).toInt64 = lN (swN a b w (i + 1)) := by
  rw [nI_l (by omega), nI_l ha, nI_l hb, lN_mul, lN_mul, lN_mul, lN_add, lN_add, swN, if_pos ⟨by omega, by omega⟩]
  refine congrArg lN ?_
  show _ = a * w (i + 2) + b * w i + (10 - a - b) * w (i + 1)
  rw [Nat.mul_comm a, Nat.mul_comm b, Nat.mul_comm (10 - a - b)]
  omega
theorem su_26 {w : Nat → Nat} {k : Nat} (h : w 26 = 0) : suN w k = itr (suS w k) 26 0 := by
  show suS w k 26 (itr (suS w k) 26 0) = _
  generalize itr (suS w k) 26 0 = x
  unfold suS
  split
  · rw [h, Nat.add_zero]
  · rfl
theorem su_1 {w : Nat → Nat} {k : Nat} (h : w 0 = 0) : itr (suS w k) 1 0 = 0 := by
  show suS w k 0 0 = 0
  unfold suS
  split
  · rw [h]
  · rfl
theorem c_X1_waysAt (E : EE) (l : Launch) (a : Nat → Nat) (ways : Nat → Int64) (nxt : Nat → Int64) (p : Int32) : CT E l yX1_waysAt cX1_waysAt 2 (some .long) { frames := 1, cells := 0, slots := 0, locals := 22 } [.ref (a 0), .int p] (bHd E a ways nxt) (some (.long (if 0 ≤ p ∧ p ≤ 24 then ways p.toNatClampNeg else 0))) (bHd E a ways nxt) := by
  refine CT.intro (by decide +kernel) (Nat.le_of_ble_eq_true rfl) (fun K X Y => ?_)
  refine jv_iload_n 0 X dX1_waysAt_0 1 rfl ?_
  refine jv_iconst (v := 0) 1 X dX1_waysAt_1 rfl ?_
  refine jv_bipush (v := 24) 2 X dX1_waysAt_2 (by decide) ?_
  refine jv_funN 4 X (c_X9_within E _ p 0 24) wn_X1_34 ⟨Nat.le_of_ble_eq_true rfl, Nat.le_of_ble_eq_true rfl⟩ ⟨rfl, rfl⟩ ⟨Nat.zero_le _, Nat.zero_le _⟩ dX1_waysAt_4 rfl [] rfl (Nat.le_of_ble_eq_true rfl) ?_
  refine jv_z_eq 7 X dX1_waysAt_7 19 (by decide) (fun c_1 => ?_) (fun c_1 => ?_)
  · refine jv_lconst (v := 0) 19 X dX1_waysAt_19 rfl ?_
    exact jv_lret 20 X Y rfl dX1_waysAt_20 () (by simp [lt_nle, -Int32.not_le, c_1]) rfl
  · obtain ⟨jp, h1jp, h2jp, rfl⟩ := nx_in (a := 0) (b := 24) rfl rfl (by decide) (by decide) c_1
    have hcjp : (nI jp).toNatClampNeg = jp := nI_clamp (by omega)
    refine jv_aload_n 10 X dX1_waysAt_10 0 rfl ?_
    refine jv_get (v := .ref (a 1)) 11 X gf_X1_11 dX1_waysAt_11 0 rfl rfl ?_
    refine jv_iload_n 14 X dX1_waysAt_14 1 rfl ?_
    refine jv_lald (f := ways) 15 X dX1_waysAt_15 1 rfl (by decide) jp rfl (by omega) ?_
    refine jv_goto 16 X dX1_waysAt_16 20 (by decide) ?_
    exact jv_lret 20 X Y rfl dX1_waysAt_20 () (by simp [lt_nle, -Int32.not_le, c_1, hcjp]) rfl
theorem c_X1_spread (E : EE) (l : Launch) (a : Nat → Nat) (ways : Nat → Int64) (nxt : Nat → Int64) (n : Nat) (o : Nat) (b : Nat) (hn : n ≤ 12) (ho : o ≤ 10) (hb : o + b ≤ 10) : CT E l yX1_spread cX1_spread 6 none { frames := 2, cells := 0, slots := 0, locals := 43 } [.ref (a 0), .int (nI n), .int (nI o), .int (nI b)] (bHd E a ways nxt) (none) (bHd E a (fun i => lN (swI o b n (i + 1))) (if n = 0 then nxt else (fun i => lN (swI o b n (i + 1))))) := by
  refine CT.intro (by decide +kernel) (Nat.le_of_ble_eq_true rfl) (fun K X Y => ?_)
  refine jv_aload_n 0 X dX1_spread_0 0 rfl ?_
  refine jv_get (v := .ref (a 1)) 1 X gf_X1_11 dX1_spread_1 0 rfl rfl ?_
  refine jv_lconst (v := 0) 4 X dX1_spread_4 rfl ?_
  refine jv_callS (ws2 := bHd E a (fun _ => 0) nxt) 5 X (c_J7_fill_d0a16 E _ (a 1) 25 ways 0 (by omega)) ws_X1_18 ⟨Nat.le_of_ble_eq_true rfl, Nat.le_of_ble_eq_true rfl⟩ ⟨rfl, rfl⟩ ⟨Nat.zero_le _, Nat.zero_le _⟩ dX1_spread_5 rfl [] rfl (Nat.le_of_ble_eq_true rfl) [1] rfl rfl rfl rfl ?_
  refine jv_aload_n 8 X dX1_spread_8 0 rfl ?_
  refine jv_get (v := .ref (a 1)) 9 X gf_X1_11 dX1_spread_9 0 rfl rfl ?_
  refine jv_bipush (v := 12) 12 X dX1_spread_12 (by decide) ?_
  refine jv_lconst (v := 1) 14 X dX1_spread_14 rfl ?_
  refine jv_last (ws2 := bHd E a (vp_updL (fun _ => 0) 12 1) nxt) (f := (fun _ => 0)) 15 X dX1_spread_15 1 rfl (by decide) 12 rfl (by omega) rfl ?_
  refine jv_extl (ws2 := bHd E a (fun i => lN (swI o b 0 (i + 1))) nxt) 1 (fun i => lN (swI o b 0 (i + 1))) rfl (fun j hj => by by_cases z : j = 12; rw [z, pk_uLs]; rfl; rw [pk_uLn z]; show (0 : Int64) = lN (sw0 (j + 1)); rw [sw0, if_neg (by omega)]; rfl) rfl ?_
  refine jv_iconst (v := 0) 16 X dX1_spread_16 rfl ?_
  refine jv_istore (lv2 := [(4, .int 0), (0, .ref (a 0)), (1, .int (nI n)), (2, .int (nI o)), (3, .int (nI b))]) 17 X dX1_spread_17 (by decide) rfl ?_
  have lp19 : ∀ (n19 : Nat) (dy : Nat) (nx : Nat → Int64), (dy ≤ n) → (nx = if dy = 0 then nxt else (fun i => lN (swI o b dy (i + 1)))) → n - dy < n19 → JV E K 0 0 (bHd E a (fun i => lN (swI o b dy (i + 1))) nx) [(0, .ref (a 0)), (1, .int (nI n)), (2, .int (nI o)), (3, .int (nI b)), (4, .int (nI dy))] 19 [] := by
    intro n19
    induction n19 with
    | zero => intro dy nx hdy hnx hm; exact absurd hm (Nat.not_lt_zero _)
    | succ n19 ih19 =>
      intro dy nx hdy hnx hm
      refine jv_iload 19 X dX1_spread_19 4 rfl ?_
      refine jv_iload_n 21 X dX1_spread_21 1 rfl ?_
      refine jn_icmp_ge 22 X dX1_spread_22 108 (by decide) (fun c_1 => ?_) (fun c_1 => ?_)
      · have n_1 : n ≤ dy := (nx_le (a := n) (b := dy) rfl rfl (by omega) (by omega)).mp c_1
        obtain rfl : dy = n := by omega
        subst hnx
        exact jv_vret 108 X Y rfl dX1_spread_108 () rfl rfl
      · have n_1 : ¬ n ≤ dy := fun zq => c_1 ((nx_le (a := n) (b := dy) rfl rfl (by omega) (by omega)).mpr zq)
        refine jv_iconst (v := 0) 25 X dX1_spread_25 rfl ?_
        refine jv_istore (lv2 := [(5, .int 0), (0, .ref (a 0)), (1, .int (nI n)), (2, .int (nI o)), (3, .int (nI b)), (4, .int (nI dy))]) 26 X dX1_spread_26 (by decide) rfl ?_
        have lp28 : ∀ (n28 : Nat) (i : Nat) (n2 : Nat → Int64), (i ≤ 25) → (∀ j, j < i → n2 j = lN (swI o b (dy + 1) (j + 1))) → 25 - i < n28 → JV E K 0 0 (bHd E a (fun i => lN (swI o b dy (i + 1))) n2) [(0, .ref (a 0)), (1, .int (nI n)), (2, .int (nI o)), (3, .int (nI b)), (4, .int (nI dy)), (5, .int (nI i))] 28 [] := by
          intro n28
          induction n28 with
          | zero => intro i n2 hi hN hm; exact absurd hm (Nat.not_lt_zero _)
          | succ n28 ih28 =>
            intro i n2 hi hN hm
            refine jv_iload 28 X dX1_spread_28 5 rfl ?_
            refine jv_bipush (v := 25) 30 X dX1_spread_30 (by decide) ?_
            refine jn_icmp_ge 32 X dX1_spread_32 87 (by decide) (fun c_2 => ?_) (fun c_2 => ?_)
            · have n_2 : 25 ≤ i := (nx_le (a := 25) (b := i) rfl rfl (by omega) (by omega)).mp c_2
              refine jv_extl (ws2 := bHd E a (fun i => lN (swI o b dy (i + 1))) (fun i => lN (swI o b (dy + 1) (i + 1)))) 2 (fun i => lN (swI o b (dy + 1) (i + 1))) rfl (fun j hj => hN j (by omega)) rfl ?_
              refine jv_aload_n 87 X dX1_spread_87 0 rfl ?_
              refine jv_get (v := .ref (a 2)) 88 X gf_X1_15 dX1_spread_88 0 rfl rfl ?_
              refine jv_iconst (v := 0) 91 X dX1_spread_91 rfl ?_
              refine jv_aload_n 92 X dX1_spread_92 0 rfl ?_
              refine jv_get (v := .ref (a 1)) 93 X gf_X1_11 dX1_spread_93 0 rfl rfl ?_
              refine jv_iconst (v := 0) 96 X dX1_spread_96 rfl ?_
              refine jv_bipush (v := 25) 97 X dX1_spread_97 (by decide) ?_
              refine jv_copyl (ws2 := bHd E a (fun i => lN (swI o b (dy + 1) (i + 1))) (fun i => lN (swI o b (dy + 1) (i + 1)))) 99 X wa_X1_28 dX1_spread_99 2 1 rfl rfl rfl (by decide) (Nat.le_of_ble_eq_true rfl) (Nat.le_of_ble_eq_true rfl) rfl ?_
              refine jv_iinc (v := (nI (dy + 1))) (lv2 := [(4, .int (nI (dy + 1))), (0, .ref (a 0)), (1, .int (nI n)), (2, .int (nI o)), (3, .int (nI b)), (5, .int (nI i))]) 102 X dX1_spread_102 4 rfl (nx_inc _) (by decide) rfl ?_
              refine jv_goto 105 X dX1_spread_105 19 (by decide) ?_
              exact jv_lv [1, 2, 3, 4, 0] rfl (ih19 (dy + 1) (fun i => lN (swI o b (dy + 1) (i + 1))) (by omega) (by rw [if_neg (by omega)]) (by omega))
            · have n_2 : ¬ 25 ≤ i := fun zq => c_2 ((nx_le (a := 25) (b := i) rfl rfl (by omega) (by omega)).mpr zq)
              refine jv_aload_n 35 X dX1_spread_35 0 rfl ?_
              refine jv_get (v := .ref (a 2)) 36 X gf_X1_15 dX1_spread_36 0 rfl rfl ?_
              refine jv_iload 39 X dX1_spread_39 5 rfl ?_
              refine jv_aload_n 41 X dX1_spread_41 0 rfl ?_
              refine jv_get (v := .ref (a 1)) 42 X gf_X1_11 dX1_spread_42 0 rfl rfl ?_
              refine jv_iload 45 X dX1_spread_45 5 rfl ?_
              refine jv_lald (f := (fun i => lN (swI o b dy (i + 1)))) 47 X dX1_spread_47 1 rfl (by decide) i rfl (by omega) ?_
              refine jv_bipush (v := 10) 48 X dX1_spread_48 (by decide) ?_
              refine jv_iload_n 50 X dX1_spread_50 2 rfl ?_
              refine jv_isub 51 X dX1_spread_51 ?_
              refine jv_norm (x2 := nI (10 - o)) (nx_sub2 (a := 10) (b := o) rfl rfl (by omega)) ?_
              refine jv_iload_n 52 X dX1_spread_52 3 rfl ?_
              refine jv_isub 53 X dX1_spread_53 ?_
              refine jv_norm (x2 := nI ((10 - o) - b)) (nx_sub2 (a := (10 - o)) (b := b) rfl rfl (by omega)) ?_
              refine jv_i2l 54 X dX1_spread_54 ?_
              refine jv_lmul 55 X dX1_spread_55 ?_
              refine jv_aload_n 56 X dX1_spread_56 0 rfl ?_
              refine jv_iload 57 X dX1_spread_57 5 rfl ?_
              refine jv_iconst (v := 1) 59 X dX1_spread_59 rfl ?_
              refine jv_iadd 60 X dX1_spread_60 ?_
              refine jv_norm (x2 := nI (i + 1)) (nx_add2 (a := i) (b := 1) rfl rfl (by omega)) ?_
              refine jv_callW (w1 := bHd E a (fun i => lN (swI o b dy (i + 1))) n2) 61 X (c_X1_waysAt E _ a (fun i => lN (swI o b dy (i + 1))) n2 (nI (i + 1))) wv_X1_24 ⟨Nat.le_of_ble_eq_true rfl, Nat.le_of_ble_eq_true rfl⟩ ⟨rfl, rfl⟩ ⟨Nat.zero_le _, Nat.zero_le _⟩ dX1_spread_61 rfl [.long (((fun i => lN (swI o b dy (i + 1))) i) * (nI ((10 - o) - b)).toInt64), .int (nI i), .ref (a 2)] rfl (Nat.le_of_ble_eq_true rfl) 0 rfl rfl ?_
              refine jv_norml (x2 := (lN (swI o b dy (i + 2)))) (wa_up (sw_26 dy) (by omega)) ?_
              refine jv_iload_n 64 X dX1_spread_64 2 rfl ?_
              refine jv_i2l 65 X dX1_spread_65 ?_
              refine jv_lmul 66 X dX1_spread_66 ?_
              refine jv_ladd 67 X dX1_spread_67 ?_
              refine jv_aload_n 68 X dX1_spread_68 0 rfl ?_
              refine jv_iload 69 X dX1_spread_69 5 rfl ?_
              refine jv_iconst (v := 1) 71 X dX1_spread_71 rfl ?_
              refine jv_isub 72 X dX1_spread_72 ?_
              refine jv_callW (w1 := bHd E a (fun i => lN (swI o b dy (i + 1))) n2) 73 X (c_X1_waysAt E _ a (fun i => lN (swI o b dy (i + 1))) n2 ((nI i) - 1)) wv_X1_24 ⟨Nat.le_of_ble_eq_true rfl, Nat.le_of_ble_eq_true rfl⟩ ⟨rfl, rfl⟩ ⟨Nat.zero_le _, Nat.zero_le _⟩ dX1_spread_73 rfl [.long ((((fun i => lN (swI o b dy (i + 1))) i) * (nI ((10 - o) - b)).toInt64) + ((lN (swI o b dy (i + 2))) * (nI o).toInt64)), .int (nI i), .ref (a 2)] rfl (Nat.le_of_ble_eq_true rfl) 0 rfl rfl ?_
              refine jv_norml (x2 := (lN (swI o b dy i))) (wa_dn (sw_0 dy) (by omega)) ?_
              refine jv_iload_n 76 X dX1_spread_76 3 rfl ?_
              refine jv_i2l 77 X dX1_spread_77 ?_
              refine jv_lmul 78 X dX1_spread_78 ?_
              refine jv_ladd 79 X dX1_spread_79 ?_
              refine jv_last (ws2 := bHd E a (fun i => lN (swI o b dy (i + 1))) (vp_updL n2 i (((((fun i => lN (swI o b dy (i + 1))) i) * (nI ((10 - o) - b)).toInt64) + ((lN (swI o b dy (i + 2))) * (nI o).toInt64)) + ((lN (swI o b dy i)) * (nI b).toInt64)))) (f := n2) 80 X dX1_spread_80 2 rfl (by decide) i rfl (by omega) rfl ?_
              refine jv_iinc (v := (nI (i + 1))) (lv2 := [(5, .int (nI (i + 1))), (0, .ref (a 0)), (1, .int (nI n)), (2, .int (nI o)), (3, .int (nI b)), (4, .int (nI dy))]) 81 X dX1_spread_81 5 rfl (nx_inc _) (by decide) rfl ?_
              refine jv_goto 84 X dX1_spread_84 28 (by decide) ?_
              exact jv_lv [1, 2, 3, 4, 5, 0] rfl (ih28 (i + 1) (vp_updL n2 i (((((fun i => lN (swI o b dy (i + 1))) i) * (nI ((10 - o) - b)).toInt64) + ((lN (swI o b dy (i + 2))) * (nI o).toInt64)) + ((lN (swI o b dy i)) * (nI b).toInt64))) (by omega) (fun j hj => by rcases Nat.lt_succ_iff_lt_or_eq.mp hj with h | h; rw [pk_uLn (by omega)]; exact hN j h; rw [h, pk_uLs]; exact sw_st (by omega) (by omega) (by omega)) (by omega))
        exact jv_lv [1, 2, 3, 4, 5, 0] rfl (lp28 _ 0 nx (by omega) (fun j hj => absurd hj (Nat.not_lt_zero j)) (Nat.lt_succ_self _))
  exact jv_lv [1, 2, 3, 4, 0] rfl (lp19 _ 0 nxt (by omega) rfl (Nat.lt_succ_self _))
theorem c_X1_waysOff (E : EE) (l : Launch) (a : Nat → Nat) (ways : Nat → Int64) (nxt : Nat → Int64) (k : Nat) (w : Nat → Nat) (hk : k ≤ 12) (h0 : w 0 = 0) (h26 : w 26 = 0) (hW : ∀ i, i < 25 → ways i = lN (w (i + 1))) : CT E l yX1_waysOff cX1_waysOff 5 (some .long) { frames := 1, cells := 0, slots := 0, locals := 21 } [.ref (a 0), .int (nI k)] (bHd E a ways nxt) (some (.long (lN (suN w k)))) (bHd E a ways nxt) := by
  refine CT.intro (by decide +kernel) (Nat.le_of_ble_eq_true rfl) (fun K X Y => ?_)
  refine jv_lconst (v := 0) 0 X dX1_waysOff_0 rfl ?_
  refine jv_lstore_n (lv2 := [(2, .long 0), (0, .ref (a 0)), (1, .int (nI k))]) 1 X dX1_waysOff_1 (by decide) rfl ?_
  refine jv_iconst (v := 0) 2 X dX1_waysOff_2 rfl ?_
  refine jv_istore (lv2 := [(4, .int 0), (2, .long 0), (0, .ref (a 0)), (1, .int (nI k))]) 3 X dX1_waysOff_3 (by decide) rfl ?_
  have lp5 : ∀ (n5 : Nat) (t sm : Nat), (t ≤ 25) → (sm = itr (suS w k) (t + 1) 0) → 25 - t < n5 → JV E K 0 0 (bHd E a ways nxt) [(0, .ref (a 0)), (1, .int (nI k)), (2, .long (lN sm)), (4, .int (nI t))] 5 [] := by
    intro n5
    induction n5 with
    | zero => intro t sm ht hS hm; exact absurd hm (Nat.not_lt_zero _)
    | succ n5 ih5 =>
      intro t sm ht hS hm
      refine jv_iload 5 X dX1_waysOff_5 3 rfl ?_
      refine jv_bipush (v := 25) 7 X dX1_waysOff_7 (by decide) ?_
      refine jn_icmp_ge 9 X dX1_waysOff_9 40 (by decide) (fun c_1 => ?_) (fun c_1 => ?_)
      · have n_1 : 25 ≤ t := (nx_le (a := 25) (b := t) rfl rfl (by omega) (by omega)).mp c_1
        refine jv_lload_n 40 X dX1_waysOff_40 2 rfl ?_
        exact jv_lret 41 X Y rfl dX1_waysOff_41 () (congrArg (fun z => some (Value.long z)) (congrArg lN (by rw [su_26 h26, hS, show t = 25 by omega]))) rfl
      · have n_1 : ¬ 25 ≤ t := fun zq => c_1 ((nx_le (a := 25) (b := t) rfl rfl (by omega) (by omega)).mpr zq)
        refine jv_iload 12 X dX1_waysOff_12 3 rfl ?_
        refine jv_bipush (v := 12) 14 X dX1_waysOff_14 (by decide) ?_
        refine jv_isub 16 X dX1_waysOff_16 ?_
        refine jv_mabs 17 X wm_X1_38 dX1_waysOff_17 (Nat.le_of_ble_eq_true rfl) (Nat.le_of_ble_eq_true rfl) ⟨Nat.zero_le _, Nat.zero_le _⟩ ?_
        refine jv_norm (x2 := nI (offN (t + 1))) (ab_off (by omega)) ?_
        have hof := of_le (t := t) (by omega)
        refine jv_iload_n 20 X dX1_waysOff_20 1 rfl ?_
        refine jn_icmp_lt 21 X dX1_waysOff_21 34 (by decide) (fun c_2 => ?_) (fun c_2 => ?_)
        · have n_2 : ¬ k ≤ (offN (t + 1)) := fun zq => c_2 ((nx_le (a := k) (b := (offN (t + 1))) rfl rfl (by omega) (by omega)).mpr zq)
          refine jv_iinc (v := (nI (t + 1))) (lv2 := [(4, .int (nI (t + 1))), (0, .ref (a 0)), (1, .int (nI k)), (2, .long (lN sm))]) 34 X dX1_waysOff_34 3 rfl (nx_inc _) (by decide) rfl ?_
          refine jv_goto 37 X dX1_waysOff_37 5 (by decide) ?_
          exact jv_lv [1, 2, 3, 0] rfl (ih5 (t + 1) sm (by omega) (by rw [itr_s, ← hS, suS, if_neg n_2]) (by omega))
        · have n_2 : k ≤ (offN (t + 1)) := (nx_le (a := k) (b := (offN (t + 1))) rfl rfl (by omega) (by omega)).mp c_2
          refine jv_lload_n 24 X dX1_waysOff_24 2 rfl ?_
          refine jv_aload_n 25 X dX1_waysOff_25 0 rfl ?_
          refine jv_get (v := .ref (a 1)) 26 X gf_X1_11 dX1_waysOff_26 0 rfl rfl ?_
          refine jv_iload 29 X dX1_waysOff_29 3 rfl ?_
          refine jv_lald (f := ways) 31 X dX1_waysOff_31 1 rfl (by decide) t rfl (by omega) ?_
          refine jv_ladd 32 X dX1_waysOff_32 ?_
          refine jv_norml (x2 := lN (sm + w (t + 1))) (by rw [hW t (by omega)]; exact lN_add _ _) ?_
          refine jv_lstore_n (lv2 := [(2, .long (lN (sm + w (t + 1)))), (0, .ref (a 0)), (1, .int (nI k)), (4, .int (nI t))]) 33 X dX1_waysOff_33 (by decide) rfl ?_
          refine jv_iinc (v := (nI (t + 1))) (lv2 := [(4, .int (nI (t + 1))), (2, .long (lN (sm + w (t + 1)))), (0, .ref (a 0)), (1, .int (nI k))]) 34 X dX1_waysOff_34 3 rfl (nx_inc _) (by decide) rfl ?_
          refine jv_goto 37 X dX1_waysOff_37 5 (by decide) ?_
          exact jv_lv [2, 3, 1, 0] rfl (ih5 (t + 1) (sm + w (t + 1)) (by omega) (by rw [itr_s, ← hS, suS, if_pos n_2]) (by omega))
  exact jv_lv [2, 3, 1, 0] rfl (lp5 _ 0 0 (by omega) ((su_1 h0).symm) (Nat.lt_succ_self _))
theorem c_X1_allWays (E : EE) (l : Launch) (a : Nat → Nat) (ways : Nat → Int64) (nxt : Nat → Int64) (n : Nat) (hn : n ≤ 12) : CT E l yX1_allWays cX1_allWays 5 (some .long) { frames := 0, cells := 0, slots := 0, locals := 0 } [.ref (a 0), .int (nI n)] (bHd E a ways nxt) (some (.long (lN (10 ^ n)))) (bHd E a ways nxt) := by
  refine CT.intro (by decide +kernel) (Nat.le_of_ble_eq_true rfl) (fun K X Y => ?_)
  refine jv_lconst (v := 1) 0 X dX1_allWays_0 rfl ?_
  refine jv_lstore_n (lv2 := [(2, .long 1), (0, .ref (a 0)), (1, .int (nI n))]) 1 X dX1_allWays_1 (by decide) rfl ?_
  refine jv_iconst (v := 0) 2 X dX1_allWays_2 rfl ?_
  refine jv_istore (lv2 := [(4, .int 0), (2, .long 1), (0, .ref (a 0)), (1, .int (nI n))]) 3 X dX1_allWays_3 (by decide) rfl ?_
  have lp5 : ∀ (n5 : Nat) (dy : Nat), (dy ≤ n) → n - dy < n5 → JV E K 0 0 (bHd E a ways nxt) [(0, .ref (a 0)), (1, .int (nI n)), (2, .long (lN (10 ^ dy))), (4, .int (nI dy))] 5 [] := by
    intro n5
    induction n5 with
    | zero => intro dy hdy hm; exact absurd hm (Nat.not_lt_zero _)
    | succ n5 ih5 =>
      intro dy hdy hm
      refine jv_iload 5 X dX1_allWays_5 3 rfl ?_
      refine jv_iload_n 7 X dX1_allWays_7 1 rfl ?_
      refine jn_icmp_ge 8 X dX1_allWays_8 23 (by decide) (fun c_1 => ?_) (fun c_1 => ?_)
      · have n_1 : n ≤ dy := (nx_le (a := n) (b := dy) rfl rfl (by omega) (by omega)).mp c_1
        refine jv_lload_n 23 X dX1_allWays_23 2 rfl ?_
        exact jv_lret 24 X Y rfl dX1_allWays_24 () (by rw [show dy = n by omega]) rfl
      · have n_1 : ¬ n ≤ dy := fun zq => c_1 ((nx_le (a := n) (b := dy) rfl rfl (by omega) (by omega)).mpr zq)
        refine jv_lload_n 11 X dX1_allWays_11 2 rfl ?_
        refine jv_ldc2 (v := 10) 12 X tm_kl_X1_44 dX1_allWays_12 ?_
        refine jv_lmul 15 X dX1_allWays_15 ?_
        refine jv_norml (x2 := (lN (10 ^ (dy + 1)))) (by rw [Nat.pow_succ]; exact lN_mul _ 10) ?_
        refine jv_lstore_n (lv2 := [(2, .long (lN (10 ^ (dy + 1)))), (0, .ref (a 0)), (1, .int (nI n)), (4, .int (nI dy))]) 16 X dX1_allWays_16 (by decide) rfl ?_
        refine jv_iinc (v := (nI (dy + 1))) (lv2 := [(4, .int (nI (dy + 1))), (2, .long (lN (10 ^ (dy + 1)))), (0, .ref (a 0)), (1, .int (nI n))]) 17 X dX1_allWays_17 3 rfl (nx_inc _) (by decide) rfl ?_
        refine jv_goto 20 X dX1_allWays_20 5 (by decide) ?_
        exact jv_lv [2, 3, 1, 0] rfl (ih5 (dy + 1) (by omega) (by omega))
  exact jv_lv [2, 3, 1, 0] rfl (lp5 _ 0 (by omega) (Nat.lt_succ_self _))
theorem c_X9_shake (E : EE) (l : Launch) (g : Nat → Nat → Nat) (hd : Hd) (n : Int32) (o : Int32) (b : Int32) (k : Int32) (part : Int32) : CG E l yX9_shake cX9_shake 6 (some .long) { frames := 3, cells := 0, slots := 0, locals := 79 } [.ref (g 0 0), .int n, .int o, .int b, .int k, .int part] (wB [bLR g, tHd E (g 13) hd]) noB (fun _ : Hd => some (.long (if (0 ≤ n ∧ n ≤ 12) ∧ (0 ≤ o ∧ o ≤ 10) ∧ (0 ≤ b ∧ b ≤ 10 - o) ∧ (0 ≤ k ∧ k ≤ 12) ∧ (0 ≤ part ∧ part ≤ 1) then lowM (suN (swI o.toNatClampNeg b.toNatClampNeg n.toNatClampNeg) k.toNatClampNeg) (10 ^ n.toNatClampNeg) part else -1000000000000000002))) (fun u : Hd => wB [bLR g, tHd E (g 13) u]) := by
  obtain ⟨ways, nxt⟩ := hd
  refine CG.intro (by decide) (Nat.le_of_ble_eq_true rfl) (fun K X Y _ _ _ => ?_)
  refine jv_iload_n 0 X dX9_shake_0 1 rfl ?_
  refine jv_iconst (v := 0) 1 X dX9_shake_1 rfl ?_
  refine jv_bipush (v := 12) 2 X dX9_shake_2 (by decide) ?_
  refine jv_fun 4 X (c_X9_within E _ n 0 12) ws_X9_75 ⟨Nat.le_of_ble_eq_true rfl, Nat.le_of_ble_eq_true rfl⟩ ⟨rfl, rfl⟩ ⟨Nat.zero_le _, Nat.zero_le _⟩ dX9_shake_4 rfl [] rfl (Nat.le_of_ble_eq_true rfl) ?_
  refine jv_z_eq 7 X dX9_shake_7 53 (by decide) (fun c_1 => ?_) (fun c_1 => ?_)
  · refine jv_ldc2 (v := (-1000000000000000002)) 53 X tm_kl_X9_175 dX9_shake_53 ?_
    exact jv_lret 56 X Y rfl dX9_shake_56 (ways, nxt) (by simp [lt_nle, -Int32.not_le, c_1]) rfl
  · obtain ⟨jn, h1jn, h2jn, rfl⟩ := nx_in (a := 0) (b := 12) rfl rfl (by decide) (by decide) c_1
    have hcjn : (nI jn).toNatClampNeg = jn := nI_clamp (by omega)
    refine jv_iload_n 10 X dX9_shake_10 2 rfl ?_
    refine jv_iconst (v := 0) 11 X dX9_shake_11 rfl ?_
    refine jv_bipush (v := 10) 12 X dX9_shake_12 (by decide) ?_
    refine jv_fun 14 X (c_X9_within E _ o 0 10) ws_X9_75 ⟨Nat.le_of_ble_eq_true rfl, Nat.le_of_ble_eq_true rfl⟩ ⟨rfl, rfl⟩ ⟨Nat.zero_le _, Nat.zero_le _⟩ dX9_shake_14 rfl [] rfl (Nat.le_of_ble_eq_true rfl) ?_
    refine jv_z_eq 17 X dX9_shake_17 53 (by decide) (fun c_2 => ?_) (fun c_2 => ?_)
    · refine jv_ldc2 (v := (-1000000000000000002)) 53 X tm_kl_X9_175 dX9_shake_53 ?_
      exact jv_lret 56 X Y rfl dX9_shake_56 (ways, nxt) (by simp [lt_nle, -Int32.not_le, c_1, hcjn, c_2]) rfl
    · obtain ⟨jo, h1jo, h2jo, rfl⟩ := nx_in (a := 0) (b := 10) rfl rfl (by decide) (by decide) c_2
      have hcjo : (nI jo).toNatClampNeg = jo := nI_clamp (by omega)
      refine jv_iload_n 20 X dX9_shake_20 3 rfl ?_
      refine jv_iconst (v := 0) 21 X dX9_shake_21 rfl ?_
      refine jv_bipush (v := 10) 22 X dX9_shake_22 (by decide) ?_
      refine jv_iload_n 24 X dX9_shake_24 2 rfl ?_
      refine jv_isub 25 X dX9_shake_25 ?_
      refine jv_fun 26 X (c_X9_within E _ b 0 (10 - (nI jo))) ws_X9_75 ⟨Nat.le_of_ble_eq_true rfl, Nat.le_of_ble_eq_true rfl⟩ ⟨rfl, rfl⟩ ⟨Nat.zero_le _, Nat.zero_le _⟩ dX9_shake_26 rfl [] rfl (Nat.le_of_ble_eq_true rfl) ?_
      refine jv_z_eq 29 X dX9_shake_29 53 (by decide) (fun c_3 => ?_) (fun c_3 => ?_)
      · refine jv_ldc2 (v := (-1000000000000000002)) 53 X tm_kl_X9_175 dX9_shake_53 ?_
        exact jv_lret 56 X Y rfl dX9_shake_56 (ways, nxt) (by simp [lt_nle, -Int32.not_le, c_1, hcjn, c_2, hcjo, c_3]) rfl
      · obtain ⟨jb, h1jb, h2jb, rfl⟩ := nx_in (a := 0) (b := 10 - jo) rfl (nx_sub (a := 10) (b := jo) rfl rfl (by omega)) (by omega) (by omega) c_3
        have hcjb : (nI jb).toNatClampNeg = jb := nI_clamp (by omega)
        refine jv_iload 32 X dX9_shake_32 4 rfl ?_
        refine jv_iconst (v := 0) 34 X dX9_shake_34 rfl ?_
        refine jv_bipush (v := 12) 35 X dX9_shake_35 (by decide) ?_
        refine jv_fun 37 X (c_X9_within E _ k 0 12) ws_X9_75 ⟨Nat.le_of_ble_eq_true rfl, Nat.le_of_ble_eq_true rfl⟩ ⟨rfl, rfl⟩ ⟨Nat.zero_le _, Nat.zero_le _⟩ dX9_shake_37 rfl [] rfl (Nat.le_of_ble_eq_true rfl) ?_
        refine jv_z_eq 40 X dX9_shake_40 53 (by decide) (fun c_4 => ?_) (fun c_4 => ?_)
        · refine jv_ldc2 (v := (-1000000000000000002)) 53 X tm_kl_X9_175 dX9_shake_53 ?_
          exact jv_lret 56 X Y rfl dX9_shake_56 (ways, nxt) (by simp [lt_nle, -Int32.not_le, c_1, hcjn, c_2, hcjo, c_3, hcjb, c_4]) rfl
        · obtain ⟨jk, h1jk, h2jk, rfl⟩ := nx_in (a := 0) (b := 12) rfl rfl (by decide) (by decide) c_4
          have hcjk : (nI jk).toNatClampNeg = jk := nI_clamp (by omega)
          refine jv_iload 43 X dX9_shake_43 5 rfl ?_
          refine jv_iconst (v := 0) 45 X dX9_shake_45 rfl ?_
          refine jv_iconst (v := 1) 46 X dX9_shake_46 rfl ?_
          refine jv_fun 47 X (c_X9_within E _ part 0 1) ws_X9_75 ⟨Nat.le_of_ble_eq_true rfl, Nat.le_of_ble_eq_true rfl⟩ ⟨rfl, rfl⟩ ⟨Nat.zero_le _, Nat.zero_le _⟩ dX9_shake_47 rfl [] rfl (Nat.le_of_ble_eq_true rfl) ?_
          refine jv_z_ne 50 X dX9_shake_50 57 (by decide) (fun c_5 => ?_) (fun c_5 => ?_)
          · refine jv_aload_n 57 X dX9_shake_57 0 rfl ?_
            refine jv_get (v := .ref (g 13 0)) 58 X gf_X9_71 dX9_shake_58 0 rfl rfl ?_
            refine jv_iload_n 61 X dX9_shake_61 1 rfl ?_
            refine jv_iload_n 62 X dX9_shake_62 2 rfl ?_
            refine jv_iload_n 63 X dX9_shake_63 3 rfl ?_
            refine jv_callB1 (wl2 := [bLR g, bHd E (g 13) (fun i => lN (swI jo jb jn (i + 1))) (if jn = 0 then nxt else (fun i => lN (swI jo jb jn (i + 1))))]) 64 X (c_X1_spread E _ (g 13) ways nxt jn jo jb (by omega) (by omega) (by omega)) wv_X9_258 ⟨Nat.le_of_ble_eq_true rfl, Nat.le_of_ble_eq_true rfl⟩ ⟨rfl, rfl⟩ ⟨Nat.zero_le _, Nat.zero_le _⟩ dX9_shake_64 rfl [] rfl (Nat.le_of_ble_eq_true rfl) 1 rfl [(g 13 0), (g 13 1), (g 13 2)] rfl rfl rfl rfl rfl ?_
            refine jv_aload_n 67 X dX9_shake_67 0 rfl ?_
            refine jv_get (v := .ref (g 13 0)) 68 X gf_X9_71 dX9_shake_68 0 rfl rfl ?_
            refine jv_iload 71 X dX9_shake_71 4 rfl ?_
            refine jv_callB1 (wl2 := [bLR g, bHd E (g 13) (fun i => lN (swI jo jb jn (i + 1))) (if jn = 0 then nxt else (fun i => lN (swI jo jb jn (i + 1))))]) 73 X (c_X1_waysOff E _ (g 13) (fun i => lN (swI jo jb jn (i + 1))) (if jn = 0 then nxt else (fun i => lN (swI jo jb jn (i + 1)))) jk (swI jo jb jn) (by omega) (sw_0 _) (sw_26 _) (fun i hi => rfl)) wv_X9_262 ⟨Nat.le_of_ble_eq_true rfl, Nat.le_of_ble_eq_true rfl⟩ ⟨rfl, rfl⟩ ⟨Nat.zero_le _, Nat.zero_le _⟩ dX9_shake_73 rfl [] rfl (Nat.le_of_ble_eq_true rfl) 1 rfl [(g 13 0), (g 13 1), (g 13 2)] rfl rfl rfl rfl rfl ?_
            refine jv_aload_n 76 X dX9_shake_76 0 rfl ?_
            refine jv_get (v := .ref (g 13 0)) 77 X gf_X9_71 dX9_shake_77 0 rfl rfl ?_
            refine jv_iload_n 80 X dX9_shake_80 1 rfl ?_
            refine jv_callB1 (wl2 := [bLR g, bHd E (g 13) (fun i => lN (swI jo jb jn (i + 1))) (if jn = 0 then nxt else (fun i => lN (swI jo jb jn (i + 1))))]) 81 X (c_X1_allWays E _ (g 13) (fun i => lN (swI jo jb jn (i + 1))) (if jn = 0 then nxt else (fun i => lN (swI jo jb jn (i + 1)))) jn (by omega)) wv_X9_266 ⟨Nat.le_of_ble_eq_true rfl, Nat.le_of_ble_eq_true rfl⟩ ⟨rfl, rfl⟩ ⟨Nat.zero_le _, Nat.zero_le _⟩ dX9_shake_81 rfl [.long (lN (suN (swI jo jb jn) jk))] rfl (Nat.le_of_ble_eq_true rfl) 1 rfl [(g 13 0), (g 13 1), (g 13 2)] rfl rfl rfl rfl rfl ?_
            have hsb : suN (swI jo jb jn) jk ≤ 27 * 10 ^ jn := suN_le (fun i => swI_le (by omega) jn i) 27
            have hpw := p10 (n := jn) (by omega)
            have hpp : 0 < 10 ^ jn := Nat.pow_pos (by decide)
            refine jv_iload 84 X dX9_shake_84 5 rfl ?_
            refine jv_fun 86 X (c_X9_lowest E _ (suN (swI jo jb jn) jk) (10 ^ jn) part (by omega) (by omega) hpp) ws_X9_180 ⟨Nat.le_of_ble_eq_true rfl, Nat.le_of_ble_eq_true rfl⟩ ⟨rfl, rfl⟩ ⟨Nat.zero_le _, Nat.zero_le _⟩ dX9_shake_86 rfl [] rfl (Nat.le_of_ble_eq_true rfl) ?_
            exact jv_lret 89 X Y rfl dX9_shake_89 ((fun i => lN (swI jo jb jn (i + 1))), (if jn = 0 then nxt else (fun i => lN (swI jo jb jn (i + 1))))) (by simp [lt_nle, -Int32.not_le, c_1, hcjn, c_2, hcjo, c_3, hcjb, c_4, hcjk, c_5]) rfl
          · refine jv_ldc2 (v := (-1000000000000000002)) 53 X tm_kl_X9_175 dX9_shake_53 ?_
            exact jv_lret 56 X Y rfl dX9_shake_56 (ways, nxt) (by simp [lt_nle, -Int32.not_le, c_1, hcjn, c_2, hcjo, c_3, hcjb, c_4, hcjk, c_5]) rfl
