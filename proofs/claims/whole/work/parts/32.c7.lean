def lkF (W o : Nat → Int32) (m : Nat) : Nat → Int32 := fun j => if j ≤ m then W j else o j
theorem lk_le {W o : Nat → Int32} {m j : Nat} (h : j ≤ m) : lkF W o m j = W j := if_pos h
theorem lk_gt {W o : Nat → Int32} {m j : Nat} (h : ¬ j ≤ m) : lkF W o m j = o j := if_neg h
theorem wl_12 {week : Nat → Int32} {inch : Int32} {d : Nat} (h : inOK inch) (i : Nat) : (wlF week inch d i).toNatClampNeg ≤ 100000000000000 := Nat.le_trans (wlF_in h i).2.2 (by omega)
theorem c_X0_look (E : EE) (l : Launch) (a : Nat → Nat) (inches : Nat → Int32) (sorted : Nat → Int32) (buyDay : Int32) (sellDay : Int32) (b : Nat → Nat) (r : Rl) (m : Nat) (hm : m ≤ 99) (hD : dyC r) : CT E l yX0_look cX0_look 4 none { frames := 3, cells := 0, slots := 0, locals := 63 } [.ref (a 0), .ref (b 0), .int (nI m)] (wB [bAh E a inches sorted buyDay sellDay, tRl E b r]) (none) (wB [bAh E a (lkF (wlF r.2.2.2.1 r.1 r.2.1.toNatClampNeg) inches m) sorted buyDay sellDay, tRl E b r]) := by
  refine CT.intro (by decide +kernel) (Nat.le_of_ble_eq_true rfl) (fun K X Y => ?_)
  refine jv_aload_n 0 X dX0_look_0 0 rfl ?_
  refine jv_get (v := .ref (a 1)) 1 X gf_X0_9 dX0_look_1 0 rfl rfl ?_
  refine jv_iconst (v := 0) 4 X dX0_look_4 rfl ?_
  refine jv_aload_n 5 X dX0_look_5 1 rfl ?_
  refine jv_get (v := .int r.1) 6 X gf_X0_18 dX0_look_6 3 rfl rfl ?_
  refine jv_iast (ws2 := wB [bAh E a (upd inches 0 r.1) sorted buyDay sellDay, tRl E b r]) (f := inches) 9 X dX0_look_9 1 rfl (by decide) 0 rfl (by omega) rfl ?_
  refine jv_iconst (v := 1) 10 X dX0_look_10 rfl ?_
  refine jv_istore_n (lv2 := [(3, .int 1), (0, .ref (a 0)), (1, .ref (b 0)), (2, .int (nI m))]) 11 X dX0_look_11 (by decide) rfl ?_
  have lp12 : ∀ (n12 : Nat) (i : Nat) (wl : Nat → Int32), (1 ≤ i) → (i ≤ m + 1) → (∀ j, j < i → wl j = (wlF r.2.2.2.1 r.1 r.2.1.toNatClampNeg) j) → (∀ j, m < j → wl j = inches j) → m + 1 - i < n12 → JV E K 0 0 (wB [bAh E a wl sorted buyDay sellDay, tRl E b r]) [(0, .ref (a 0)), (1, .ref (b 0)), (2, .int (nI m)), (3, .int (nI i))] 12 [] := by
    intro n12
    induction n12 with
    | zero => intro i wl h1 h2 hI hO hm; exact absurd hm (Nat.not_lt_zero _)
    | succ n12 ih12 =>
      intro i wl h1 h2 hI hO hm
      refine jv_iload_n 12 X dX0_look_12 3 rfl ?_
      refine jv_iload_n 13 X dX0_look_13 2 rfl ?_
      refine jn_icmp_gt 14 X dX0_look_14 49 (by decide) (fun c_1 => ?_) (fun c_1 => ?_)
      · have n_1 : ¬ i ≤ m := fun zq => c_1 ((nx_le (a := i) (b := m) rfl rfl (by omega) (by omega)).mpr zq)
        refine jv_ext (ws2 := wB [bAh E a (lkF (wlF r.2.2.2.1 r.1 r.2.1.toNatClampNeg) inches m) sorted buyDay sellDay, tRl E b r]) 1 (lkF (wlF r.2.2.2.1 r.1 r.2.1.toNatClampNeg) inches m) rfl (fun j hj => by by_cases h : j ≤ m; rw [lk_le h]; exact hI j (by omega); rw [lk_gt h]; exact hO j (by omega)) rfl ?_
        exact jv_vret 49 X Y rfl dX0_look_49 () rfl rfl
      · have n_1 : i ≤ m := (nx_le (a := i) (b := m) rfl rfl (by omega) (by omega)).mp c_1
        refine jv_aload_n 17 X dX0_look_17 0 rfl ?_
        refine jv_get (v := .ref (a 1)) 18 X gf_X0_9 dX0_look_18 0 rfl rfl ?_
        refine jv_iload_n 21 X dX0_look_21 3 rfl ?_
        refine jv_aload_n 22 X dX0_look_22 1 rfl ?_
        refine jv_aload_n 23 X dX0_look_23 0 rfl ?_
        refine jv_get (v := .ref (a 1)) 24 X gf_X0_9 dX0_look_24 0 rfl rfl ?_
        refine jv_iload_n 27 X dX0_look_27 3 rfl ?_
        refine jv_iconst (v := 1) 28 X dX0_look_28 rfl ?_
        refine jv_isub 29 X dX0_look_29 ?_
        refine jv_norm (x2 := nI (i - 1)) (nx_sub2 (a := i) (b := 1) rfl rfl (by omega)) ?_
        refine jv_iald (f := wl) 30 X dX0_look_30 1 rfl (by decide) (i - 1) rfl (by omega) ?_
        refine jv_aload_n 31 X dX0_look_31 1 rfl ?_
        refine jv_get (v := .int r.2.1) 32 X gf_X0_24 dX0_look_32 3 rfl rfl ?_
        refine jv_norm (x2 := nI r.2.1.toNatClampNeg) hD.1 ?_
        have hd9 := hD.2
        refine jv_iload_n 35 X dX0_look_35 3 rfl ?_
        refine jv_iadd 36 X dX0_look_36 ?_
        refine jv_norm (x2 := nI (r.2.1.toNatClampNeg + i)) (nx_add2 (a := r.2.1.toNatClampNeg) (b := i) rfl rfl (by omega)) ?_
        refine jv_iconst (v := 1) 37 X dX0_look_37 rfl ?_
        refine jv_isub 38 X dX0_look_38 ?_
        refine jv_norm (x2 := nI ((r.2.1.toNatClampNeg + i) - 1)) (nx_sub2 (a := (r.2.1.toNatClampNeg + i)) (b := 1) rfl rfl (by omega)) ?_
        refine jv_callB1 (wl2 := [bAh E a wl sorted buyDay sellDay, tRl E b r]) 39 X (c_X5_nextInch E _ b r (wl (i - 1)) ((r.2.1.toNatClampNeg + i) - 1) (by omega)) wv_X0_27 ⟨Nat.le_of_ble_eq_true rfl, Nat.le_of_ble_eq_true rfl⟩ ⟨rfl, rfl⟩ ⟨Nat.zero_le _, Nat.zero_le _⟩ dX0_look_39 rfl [.int (nI i), .ref (a 1)] rfl (Nat.le_of_ble_eq_true rfl) 1 rfl [(b 0), (b 1), (b 2), (b 3), (b 4), (b 5), (b 6), (b 7), (b 8), (b 9), (b 10)] rfl rfl rfl rfl rfl ?_
        refine jv_iast (ws2 := wB [bAh E a (upd wl i (clampI ((wl (i - 1)) + r.2.2.2.1 (((r.2.1.toNatClampNeg + i) - 1) % 7)))) sorted buyDay sellDay, tRl E b r]) (f := wl) 42 X dX0_look_42 1 rfl (by decide) i rfl (by omega) rfl ?_
        refine jv_iinc (v := (nI (i + 1))) (lv2 := [(3, .int (nI (i + 1))), (0, .ref (a 0)), (1, .ref (b 0)), (2, .int (nI m))]) 43 X dX0_look_43 3 rfl (nx_inc _) (by decide) rfl ?_
        refine jv_goto 46 X dX0_look_46 12 (by decide) ?_
        exact jv_lv [1, 2, 3, 0] rfl (ih12 (i + 1) (upd wl i (clampI ((wl (i - 1)) + r.2.2.2.1 (((r.2.1.toNatClampNeg + i) - 1) % 7)))) (by omega) (by omega) (fun j hj => by rcases Nat.lt_succ_iff_lt_or_eq.mp hj with h | h; rw [pk_un (by omega)]; exact hI j h; rw [h, pk_us, wlF_s h1, hI (i - 1) (by omega)]) (fun j hj => by rw [pk_un (by omega)]; exact hO j hj) (by omega))
  exact jv_lv [1, 2, 3, 0] rfl (lp12 _ 1 (upd inches 0 r.1) (by omega) (by omega) (fun j hj => by rw [show j = 0 by omega]; exact pk_us) (fun j hj => pk_un (by omega)) (Nat.lt_succ_self _))
theorem c_X0_trade (E : EE) (l : Launch) (a : Nat → Nat) (inches : Nat → Int32) (sorted : Nat → Int32) (buyDay : Int32) (sellDay : Int32) (m : Nat) (W : Nat → Int32) (hm1 : 1 ≤ m) (hm : m ≤ 60) (hW : ∀ j, j ≤ m → inches j = W j) : CT E l yX0_trade cX0_trade 4 none { frames := 0, cells := 0, slots := 0, locals := 0 } [.ref (a 0), .int (nI m)] (bAh E a inches sorted buyDay sellDay) (none) (bAh E a inches sorted (nI (bsM W m / 100)) (nI (bsM W m % 100))) := by
  refine CT.intro (by decide +kernel) (Nat.le_of_ble_eq_true rfl) (fun K X Y => ?_)
  refine jv_aload_n 0 X dX0_trade_0 0 rfl ?_
  refine jv_iconst (v := 0) 1 X dX0_trade_1 rfl ?_
  refine jv_puti (ws2 := bAh E a inches sorted 0 sellDay) 2 X gf_X0_31 tyX0_ok nmX0 rfl rfl dX0_trade_2 0 rfl (Nat.le_of_ble_eq_true rfl) rfl ?_
  refine jv_aload_n 5 X dX0_trade_5 0 rfl ?_
  refine jv_iconst (v := 1) 6 X dX0_trade_6 rfl ?_
  refine jv_puti (ws2 := bAh E a inches sorted 0 1) 7 X gf_X0_34 tyX0_ok nmX0 rfl rfl dX0_trade_7 0 rfl (Nat.le_of_ble_eq_true rfl) rfl ?_
  refine jv_iconst (v := 0) 10 X dX0_trade_10 rfl ?_
  refine jv_istore_n (lv2 := [(2, .int 0), (0, .ref (a 0)), (1, .int (nI m))]) 11 X dX0_trade_11 (by decide) rfl ?_
  have lp12 : ∀ (n12 : Nat) (i b s : Nat), (i ≤ m) → (b ≤ m) → (s ≤ m) → (100 * b + s = itr (fun i fd => bsI W m i fd) i 1) → m - i < n12 → JV E K 0 0 (bAh E a inches sorted (nI b) (nI s)) [(0, .ref (a 0)), (1, .int (nI m)), (2, .int (nI i))] 12 [] := by
    intro n12
    induction n12 with
    | zero => intro i b s hi hb hs hI hm; exact absurd hm (Nat.not_lt_zero _)
    | succ n12 ih12 =>
      intro i b s hi hb hs hI hm
      refine jv_iload_n 12 X dX0_trade_12 2 rfl ?_
      refine jv_iload_n 13 X dX0_trade_13 1 rfl ?_
      refine jn_icmp_ge 14 X dX0_trade_14 83 (by decide) (fun c_1 => ?_) (fun c_1 => ?_)
      · have n_1 : m ≤ i := (nx_le (a := m) (b := i) rfl rfl (by omega) (by omega)).mp c_1
        have hq : bsM W m = 100 * b + s := by rw [hI, show i = m by omega]; rfl
        exact jv_vret 83 X Y rfl dX0_trade_83 () rfl (by rw [hq, show (100 * b + s) % 100 = s by omega, show (100 * b + s) / 100 = b by omega])
      · have n_1 : ¬ m ≤ i := fun zq => c_1 ((nx_le (a := m) (b := i) rfl rfl (by omega) (by omega)).mpr zq)
        refine jv_iload_n 17 X dX0_trade_17 2 rfl ?_
        refine jv_iconst (v := 1) 18 X dX0_trade_18 rfl ?_
        refine jv_iadd 19 X dX0_trade_19 ?_
        refine jv_norm (x2 := nI (i + 1)) (nx_add2 (a := i) (b := 1) rfl rfl (by omega)) ?_
        refine jv_istore_n (lv2 := [(3, .int (nI (i + 1))), (0, .ref (a 0)), (1, .int (nI m)), (2, .int (nI i))]) 20 X dX0_trade_20 (by decide) rfl ?_
        have lp21 : ∀ (n21 : Nat) (t b2 s2 : Nat), (t ≤ m - i) → (b2 ≤ m) → (s2 ≤ m) → (100 * b2 + s2 = itr (fun t fd => bsS W i (i + 1 + t) fd) t (100 * b + s)) → m - i - t < n21 → JV E K 0 0 (bAh E a inches sorted (nI b2) (nI s2)) [(0, .ref (a 0)), (1, .int (nI m)), (2, .int (nI i)), (3, .int (nI (i + 1 + t)))] 21 [] := by
          intro n21
          induction n21 with
          | zero => intro t b2 s2 ht hb2 hs2 hI2 hm; exact absurd hm (Nat.not_lt_zero _)
          | succ n21 ih21 =>
            intro t b2 s2 ht hb2 hs2 hI2 hm
            refine jv_iload_n 21 X dX0_trade_21 3 rfl ?_
            refine jv_iload_n 22 X dX0_trade_22 1 rfl ?_
            refine jn_icmp_gt 23 X dX0_trade_23 77 (by decide) (fun c_2 => ?_) (fun c_2 => ?_)
            · have n_2 : ¬ (i + 1 + t) ≤ m := fun zq => c_2 ((nx_le (a := (i + 1 + t)) (b := m) rfl rfl (by omega) (by omega)).mpr zq)
              refine jv_iinc (v := (nI (i + 1))) (lv2 := [(2, .int (nI (i + 1))), (0, .ref (a 0)), (1, .int (nI m)), (3, .int (nI (i + 1 + t)))]) 77 X dX0_trade_77 2 rfl (nx_inc _) (by decide) rfl ?_
              refine jv_goto 80 X dX0_trade_80 12 (by decide) ?_
              exact jv_lv [1, 2, 0] rfl (ih12 (i + 1) b2 s2 (by omega) hb2 hs2 (by rw [itr_s, ← hI, bsI, hI2, show m - i = t by omega]) (by omega))
            · have n_2 : (i + 1 + t) ≤ m := (nx_le (a := (i + 1 + t)) (b := m) rfl rfl (by omega) (by omega)).mp c_2
              refine jv_aload_n 26 X dX0_trade_26 0 rfl ?_
              refine jv_get (v := .ref (a 1)) 27 X gf_X0_9 dX0_trade_27 0 rfl rfl ?_
              refine jv_iload_n 30 X dX0_trade_30 2 rfl ?_
              refine jv_iald (f := inches) 31 X dX0_trade_31 1 rfl (by decide) i rfl (by omega) ?_
              refine jv_norm (x2 := (W i)) (hW _ (by omega)) ?_
              refine jv_aload_n 32 X dX0_trade_32 0 rfl ?_
              refine jv_get (v := .ref (a 1)) 33 X gf_X0_9 dX0_trade_33 0 rfl rfl ?_
              refine jv_aload_n 36 X dX0_trade_36 0 rfl ?_
              refine jv_get (v := .int (nI s2)) 37 X gf_X0_34 dX0_trade_37 0 rfl rfl ?_
              refine jv_iald (f := inches) 40 X dX0_trade_40 1 rfl (by decide) s2 rfl (by omega) ?_
              refine jv_norm (x2 := (W s2)) (hW _ (by omega)) ?_
              refine jv_imul 41 X dX0_trade_41 ?_
              refine jv_aload_n 42 X dX0_trade_42 0 rfl ?_
              refine jv_get (v := .ref (a 1)) 43 X gf_X0_9 dX0_trade_43 0 rfl rfl ?_
              refine jv_aload_n 46 X dX0_trade_46 0 rfl ?_
              refine jv_get (v := .int (nI b2)) 47 X gf_X0_31 dX0_trade_47 0 rfl rfl ?_
              refine jv_iald (f := inches) 50 X dX0_trade_50 1 rfl (by decide) b2 rfl (by omega) ?_
              refine jv_norm (x2 := (W b2)) (hW _ (by omega)) ?_
              refine jv_aload_n 51 X dX0_trade_51 0 rfl ?_
              refine jv_get (v := .ref (a 1)) 52 X gf_X0_9 dX0_trade_52 0 rfl rfl ?_
              refine jv_iload_n 55 X dX0_trade_55 3 rfl ?_
              refine jv_iald (f := inches) 56 X dX0_trade_56 1 rfl (by decide) (i + 1 + t) rfl (by omega) ?_
              refine jv_norm (x2 := (W (i + 1 + t))) (hW _ (by omega)) ?_
              refine jv_imul 57 X dX0_trade_57 ?_
              refine jn_icmp_le 58 X dX0_trade_58 71 (by decide) (fun c_3 => ?_) (fun c_3 => ?_)
              · refine jv_iinc (v := (nI ((i + 1 + t) + 1))) (lv2 := [(3, .int (nI ((i + 1 + t) + 1))), (0, .ref (a 0)), (1, .int (nI m)), (2, .int (nI i))]) 71 X dX0_trade_71 3 rfl (nx_inc _) (by decide) rfl ?_
                refine jv_goto 74 X dX0_trade_74 21 (by decide) ?_
                exact jv_lv [1, 2, 3, 0] rfl (ih21 (t + 1) b2 s2 (by omega) hb2 hs2 (by rw [itr_s, ← hI2, bsS, show (100 * b2 + s2) % 100 = s2 by omega, show (100 * b2 + s2) / 100 = b2 by omega, if_pos c_3]) (by omega))
              · refine jv_aload_n 61 X dX0_trade_61 0 rfl ?_
                refine jv_iload_n 62 X dX0_trade_62 2 rfl ?_
                refine jv_puti (ws2 := bAh E a inches sorted (nI i) (nI s2)) 63 X gf_X0_31 tyX0_ok nmX0 rfl rfl dX0_trade_63 0 rfl (Nat.le_of_ble_eq_true rfl) rfl ?_
                refine jv_aload_n 66 X dX0_trade_66 0 rfl ?_
                refine jv_iload_n 67 X dX0_trade_67 3 rfl ?_
                refine jv_puti (ws2 := bAh E a inches sorted (nI i) (nI (i + 1 + t))) 68 X gf_X0_34 tyX0_ok nmX0 rfl rfl dX0_trade_68 0 rfl (Nat.le_of_ble_eq_true rfl) rfl ?_
                refine jv_iinc (v := (nI ((i + 1 + t) + 1))) (lv2 := [(3, .int (nI ((i + 1 + t) + 1))), (0, .ref (a 0)), (1, .int (nI m)), (2, .int (nI i))]) 71 X dX0_trade_71 3 rfl (nx_inc _) (by decide) rfl ?_
                refine jv_goto 74 X dX0_trade_74 21 (by decide) ?_
                exact jv_lv [1, 2, 3, 0] rfl (ih21 (t + 1) i (i + 1 + t) (by omega) (by omega) (by omega) (by rw [itr_s, ← hI2, bsS, show (100 * b2 + s2) % 100 = s2 by omega, show (100 * b2 + s2) / 100 = b2 by omega, if_neg c_3]) (by omega))
        exact jv_lv [1, 2, 3, 0] rfl (lp21 _ 0 b s (by omega) hb hs rfl (Nat.lt_succ_self _))
  exact jv_lv [1, 2, 0] rfl (lp12 _ 0 0 1 (by omega) (by omega) (by omega) rfl (Nat.lt_succ_self _))
theorem c_X9_will (E : EE) (l : Launch) (g : Nat → Nat → Nat) (r : Rl) (ah : Ah) (m : Int32) (hD : dyC r) : CG E l yX9_will cX9_will 2 (some .int) { frames := 4, cells := 0, slots := 0, locals := 86 } [.ref (g 0 0), .int m] (wB [bLR g, tRl E (g 1) r, tAh E (g 9) ah]) noB (fun _ : Ah => some (.int (if 0 ≤ m ∧ m ≤ 99 then (wlF r.2.2.2.1 r.1 r.2.1.toNatClampNeg) m.toNatClampNeg else -2))) (fun u : Ah => wB [bLR g, tRl E (g 1) r, tAh E (g 9) u]) := by
  obtain ⟨inches, sorted, buyDay, sellDay⟩ := ah
  refine CG.intro (by decide) (Nat.le_of_ble_eq_true rfl) (fun K X Y _ _ _ => ?_)
  refine jv_iload_n 0 X dX9_will_0 1 rfl ?_
  refine jv_iconst (v := 0) 1 X dX9_will_1 rfl ?_
  refine jv_bipush (v := 99) 2 X dX9_will_2 (by decide) ?_
  refine jv_fun 4 X (c_X9_within E _ m 0 99) ws_X9_75 ⟨Nat.le_of_ble_eq_true rfl, Nat.le_of_ble_eq_true rfl⟩ ⟨rfl, rfl⟩ ⟨Nat.zero_le _, Nat.zero_le _⟩ dX9_will_4 rfl [] rfl (Nat.le_of_ble_eq_true rfl) ?_
  refine jv_z_ne 7 X dX9_will_7 13 (by decide) (fun c_1 => ?_) (fun c_1 => ?_)
  · obtain ⟨jm, h1jm, h2jm, rfl⟩ := nx_in (a := 0) (b := 99) rfl rfl (by decide) (by decide) c_1
    have hcjm : (nI jm).toNatClampNeg = jm := nI_clamp (by omega)
    refine jv_aload_n 13 X dX9_will_13 0 rfl ?_
    refine jv_get (v := .ref (g 9 0)) 14 X gf_X9_43 dX9_will_14 0 rfl rfl ?_
    refine jv_aload_n 17 X dX9_will_17 0 rfl ?_
    refine jv_get (v := .ref (g 1 0)) 18 X gf_X9_10 dX9_will_18 0 rfl rfl ?_
    refine jv_iload_n 21 X dX9_will_21 1 rfl ?_
    refine jv_callB (wl2 := [bLR g, tRl E (g 1) r, bAh E (g 9) (lkF (wlF r.2.2.2.1 r.1 r.2.1.toNatClampNeg) inches jm) sorted buyDay sellDay]) 22 X (c_X0_look E _ (g 9) inches sorted buyDay sellDay (g 1) r jm (by omega) hD) wv_X9_184 ⟨Nat.le_of_ble_eq_true rfl, Nat.le_of_ble_eq_true rfl⟩ ⟨rfl, rfl⟩ ⟨Nat.zero_le _, Nat.zero_le _⟩ dX9_will_22 rfl [] rfl (Nat.le_of_ble_eq_true rfl) [2, 1] rfl rfl [[(g 9 0), (g 9 1), (g 9 2)], [(g 1 0), (g 1 1), (g 1 2), (g 1 3), (g 1 4), (g 1 5), (g 1 6), (g 1 7), (g 1 8), (g 1 9), (g 1 10)]] rfl rfl 2 rfl rfl rfl rfl ?_
    refine jv_aload_n 25 X dX9_will_25 0 rfl ?_
    refine jv_get (v := .ref (g 9 0)) 26 X gf_X9_43 dX9_will_26 0 rfl rfl ?_
    refine jv_get (v := .ref (g 9 1)) 29 X gf_X9_188 dX9_will_29 12 rfl rfl ?_
    refine jv_iload_n 32 X dX9_will_32 1 rfl ?_
    refine jv_iald (f := (lkF (wlF r.2.2.2.1 r.1 r.2.1.toNatClampNeg) inches jm)) 33 X dX9_will_33 13 rfl (by decide) jm rfl (by omega) ?_
    refine jv_norm (x2 := ((wlF r.2.2.2.1 r.1 r.2.1.toNatClampNeg) jm)) (lk_le (by omega)) ?_
    exact jv_iret 34 X Y rfl dX9_will_34 ((lkF (wlF r.2.2.2.1 r.1 r.2.1.toNatClampNeg) inches jm), sorted, buyDay, sellDay) (by simp [lt_nle, -Int32.not_le, c_1, hcjm]) rfl
  · refine jv_bipush (v := (-2)) 10 X dX9_will_10 (by decide) ?_
    exact jv_iret 12 X Y rfl dX9_will_12 (inches, sorted, buyDay, sellDay) (by simp [lt_nle, -Int32.not_le, c_1]) rfl
theorem c_X9_sure (E : EE) (l : Launch) (g : Nat → Nat → Nat) (r : Rl) (ah : Ah) (m : Int32) (part : Int32) (hD : dyC r) (hin : inOK r.1) : CG E l yX9_sure cX9_sure 3 (some .long) { frames := 4, cells := 0, slots := 0, locals := 86 } [.ref (g 0 0), .int m, .int part] (wB [bLR g, tRl E (g 1) r, tAh E (g 9) ah]) noB (fun _ : Ah => some (.long (if (1 ≤ m ∧ m ≤ 60) ∧ (0 ≤ part ∧ part ≤ 1) then lowM ((wlF r.2.2.2.1 r.1 r.2.1.toNatClampNeg) ((bsM (wlF r.2.2.2.1 r.1 r.2.1.toNatClampNeg) m.toNatClampNeg) / 100)).toNatClampNeg ((wlF r.2.2.2.1 r.1 r.2.1.toNatClampNeg) ((bsM (wlF r.2.2.2.1 r.1 r.2.1.toNatClampNeg) m.toNatClampNeg) % 100)).toNatClampNeg part else -1000000000000000002))) (fun u : Ah => wB [bLR g, tRl E (g 1) r, tAh E (g 9) u]) := by
  obtain ⟨inches, sorted, buyDay, sellDay⟩ := ah
  refine CG.intro (by decide) (Nat.le_of_ble_eq_true rfl) (fun K X Y _ _ _ => ?_)
  refine jv_iload_n 0 X dX9_sure_0 1 rfl ?_
  refine jv_iconst (v := 1) 1 X dX9_sure_1 rfl ?_
  refine jv_bipush (v := 60) 2 X dX9_sure_2 (by decide) ?_
  refine jv_fun 4 X (c_X9_within E _ m 1 60) ws_X9_75 ⟨Nat.le_of_ble_eq_true rfl, Nat.le_of_ble_eq_true rfl⟩ ⟨rfl, rfl⟩ ⟨Nat.zero_le _, Nat.zero_le _⟩ dX9_sure_4 rfl [] rfl (Nat.le_of_ble_eq_true rfl) ?_
  refine jv_z_eq 7 X dX9_sure_7 19 (by decide) (fun c_1 => ?_) (fun c_1 => ?_)
  · refine jv_ldc2 (v := (-1000000000000000002)) 19 X tm_kl_X9_175 dX9_sure_19 ?_
    exact jv_lret 22 X Y rfl dX9_sure_22 (inches, sorted, buyDay, sellDay) (by simp [lt_nle, -Int32.not_le, c_1]) rfl
  · obtain ⟨jm, h1jm, h2jm, rfl⟩ := nx_in (a := 1) (b := 60) rfl rfl (by decide) (by decide) c_1
    have hcjm : (nI jm).toNatClampNeg = jm := nI_clamp (by omega)
    refine jv_iload_n 10 X dX9_sure_10 2 rfl ?_
    refine jv_iconst (v := 0) 11 X dX9_sure_11 rfl ?_
    refine jv_iconst (v := 1) 12 X dX9_sure_12 rfl ?_
    refine jv_fun 13 X (c_X9_within E _ part 0 1) ws_X9_75 ⟨Nat.le_of_ble_eq_true rfl, Nat.le_of_ble_eq_true rfl⟩ ⟨rfl, rfl⟩ ⟨Nat.zero_le _, Nat.zero_le _⟩ dX9_sure_13 rfl [] rfl (Nat.le_of_ble_eq_true rfl) ?_
    refine jv_z_ne 16 X dX9_sure_16 23 (by decide) (fun c_2 => ?_) (fun c_2 => ?_)
    · refine jv_aload_n 23 X dX9_sure_23 0 rfl ?_
      refine jv_get (v := .ref (g 9 0)) 24 X gf_X9_43 dX9_sure_24 0 rfl rfl ?_
      refine jv_aload_n 27 X dX9_sure_27 0 rfl ?_
      refine jv_get (v := .ref (g 1 0)) 28 X gf_X9_10 dX9_sure_28 0 rfl rfl ?_
      refine jv_iload_n 31 X dX9_sure_31 1 rfl ?_
      refine jv_callB (wl2 := [bLR g, tRl E (g 1) r, bAh E (g 9) (lkF (wlF r.2.2.2.1 r.1 r.2.1.toNatClampNeg) inches jm) sorted buyDay sellDay]) 32 X (c_X0_look E _ (g 9) inches sorted buyDay sellDay (g 1) r jm (by omega) hD) wv_X9_184 ⟨Nat.le_of_ble_eq_true rfl, Nat.le_of_ble_eq_true rfl⟩ ⟨rfl, rfl⟩ ⟨Nat.zero_le _, Nat.zero_le _⟩ dX9_sure_32 rfl [] rfl (Nat.le_of_ble_eq_true rfl) [2, 1] rfl rfl [[(g 9 0), (g 9 1), (g 9 2)], [(g 1 0), (g 1 1), (g 1 2), (g 1 3), (g 1 4), (g 1 5), (g 1 6), (g 1 7), (g 1 8), (g 1 9), (g 1 10)]] rfl rfl 2 rfl rfl rfl rfl ?_
      refine jv_aload_n 35 X dX9_sure_35 0 rfl ?_
      refine jv_get (v := .ref (g 9 0)) 36 X gf_X9_43 dX9_sure_36 0 rfl rfl ?_
      refine jv_iload_n 39 X dX9_sure_39 1 rfl ?_
      refine jv_callB1 (wl2 := [bLR g, tRl E (g 1) r, bAh E (g 9) (lkF (wlF r.2.2.2.1 r.1 r.2.1.toNatClampNeg) inches jm) sorted (nI (bsM (wlF r.2.2.2.1 r.1 r.2.1.toNatClampNeg) jm / 100)) (nI (bsM (wlF r.2.2.2.1 r.1 r.2.1.toNatClampNeg) jm % 100))]) 40 X (c_X0_trade E _ (g 9) (lkF (wlF r.2.2.2.1 r.1 r.2.1.toNatClampNeg) inches jm) sorted buyDay sellDay jm (wlF r.2.2.2.1 r.1 r.2.1.toNatClampNeg) (by omega) (by omega) (fun j hj => lk_le hj)) wv_X9_191 ⟨Nat.le_of_ble_eq_true rfl, Nat.le_of_ble_eq_true rfl⟩ ⟨rfl, rfl⟩ ⟨Nat.zero_le _, Nat.zero_le _⟩ dX9_sure_40 rfl [] rfl (Nat.le_of_ble_eq_true rfl) 2 rfl [(g 9 0), (g 9 1), (g 9 2)] rfl rfl rfl rfl rfl ?_
      obtain ⟨hb1, hb2, hb3⟩ := bs_lt (wlF r.2.2.2.1 r.1 r.2.1.toNatClampNeg) jm (by omega)
      refine jv_aload_n 43 X dX9_sure_43 0 rfl ?_
      refine jv_get (v := .ref (g 9 0)) 44 X gf_X9_43 dX9_sure_44 0 rfl rfl ?_
      refine jv_get (v := .ref (g 9 1)) 47 X gf_X9_188 dX9_sure_47 12 rfl rfl ?_
      refine jv_aload_n 50 X dX9_sure_50 0 rfl ?_
      refine jv_get (v := .ref (g 9 0)) 51 X gf_X9_43 dX9_sure_51 0 rfl rfl ?_
      refine jv_get (v := .int (nI (bsM (wlF r.2.2.2.1 r.1 r.2.1.toNatClampNeg) jm / 100))) 54 X gf_X9_195 dX9_sure_54 12 rfl rfl ?_
      refine jv_iald (f := (lkF (wlF r.2.2.2.1 r.1 r.2.1.toNatClampNeg) inches jm)) 57 X dX9_sure_57 13 rfl (by decide) (bsM (wlF r.2.2.2.1 r.1 r.2.1.toNatClampNeg) jm / 100) rfl (by omega) ?_
      refine jv_norm (x2 := ((wlF r.2.2.2.1 r.1 r.2.1.toNatClampNeg) (bsM (wlF r.2.2.2.1 r.1 r.2.1.toNatClampNeg) jm / 100))) (lk_le (by omega)) ?_
      refine jv_i2l 58 X dX9_sure_58 ?_
      refine jv_norml (x2 := lN ((wlF r.2.2.2.1 r.1 r.2.1.toNatClampNeg) (bsM (wlF r.2.2.2.1 r.1 r.2.1.toNatClampNeg) jm / 100)).toNatClampNeg) (wl_l hin _) ?_
      refine jv_aload_n 59 X dX9_sure_59 0 rfl ?_
      refine jv_get (v := .ref (g 9 0)) 60 X gf_X9_43 dX9_sure_60 0 rfl rfl ?_
      refine jv_get (v := .ref (g 9 1)) 63 X gf_X9_188 dX9_sure_63 12 rfl rfl ?_
      refine jv_aload_n 66 X dX9_sure_66 0 rfl ?_
      refine jv_get (v := .ref (g 9 0)) 67 X gf_X9_43 dX9_sure_67 0 rfl rfl ?_
      refine jv_get (v := .int (nI (bsM (wlF r.2.2.2.1 r.1 r.2.1.toNatClampNeg) jm % 100))) 70 X gf_X9_198 dX9_sure_70 12 rfl rfl ?_
      refine jv_iald (f := (lkF (wlF r.2.2.2.1 r.1 r.2.1.toNatClampNeg) inches jm)) 73 X dX9_sure_73 13 rfl (by decide) (bsM (wlF r.2.2.2.1 r.1 r.2.1.toNatClampNeg) jm % 100) rfl (by omega) ?_
      refine jv_norm (x2 := ((wlF r.2.2.2.1 r.1 r.2.1.toNatClampNeg) (bsM (wlF r.2.2.2.1 r.1 r.2.1.toNatClampNeg) jm % 100))) (lk_le (by omega)) ?_
      refine jv_i2l 74 X dX9_sure_74 ?_
      refine jv_norml (x2 := lN ((wlF r.2.2.2.1 r.1 r.2.1.toNatClampNeg) (bsM (wlF r.2.2.2.1 r.1 r.2.1.toNatClampNeg) jm % 100)).toNatClampNeg) (wl_l hin _) ?_
      refine jv_iload_n 75 X dX9_sure_75 2 rfl ?_
      refine jv_fun 76 X (c_X9_lowest E _ (((wlF r.2.2.2.1 r.1 r.2.1.toNatClampNeg) (bsM (wlF r.2.2.2.1 r.1 r.2.1.toNatClampNeg) jm / 100)).toNatClampNeg) (((wlF r.2.2.2.1 r.1 r.2.1.toNatClampNeg) (bsM (wlF r.2.2.2.1 r.1 r.2.1.toNatClampNeg) jm % 100)).toNatClampNeg) part (wl_12 hin _) (wl_12 hin _) (wl_pos hin _)) ws_X9_180 ⟨Nat.le_of_ble_eq_true rfl, Nat.le_of_ble_eq_true rfl⟩ ⟨rfl, rfl⟩ ⟨Nat.zero_le _, Nat.zero_le _⟩ dX9_sure_76 rfl [] rfl (Nat.le_of_ble_eq_true rfl) ?_
      exact jv_lret 79 X Y rfl dX9_sure_79 ((lkF (wlF r.2.2.2.1 r.1 r.2.1.toNatClampNeg) inches jm), sorted, (nI (bsM (wlF r.2.2.2.1 r.1 r.2.1.toNatClampNeg) jm / 100)), (nI (bsM (wlF r.2.2.2.1 r.1 r.2.1.toNatClampNeg) jm % 100))) (by simp [lt_nle, -Int32.not_le, c_1, hcjm, c_2]) rfl
    · refine jv_ldc2 (v := (-1000000000000000002)) 19 X tm_kl_X9_175 dX9_sure_19 ?_
      exact jv_lret 22 X Y rfl dX9_sure_22 (inches, sorted, buyDay, sellDay) (by simp [lt_nle, -Int32.not_le, c_1, hcjm, c_2]) rfl
theorem c_X9_when (E : EE) (l : Launch) (g : Nat → Nat → Nat) (r : Rl) (ah : Ah) (m : Int32) (hD : dyC r) : CG E l yX9_when cX9_when 2 (some .int) { frames := 4, cells := 0, slots := 0, locals := 86 } [.ref (g 0 0), .int m] (wB [bLR g, tRl E (g 1) r, tAh E (g 9) ah]) noB (fun _ : Ah => some (.int (if 1 ≤ m ∧ m ≤ 60 then nI (bsM (wlF r.2.2.2.1 r.1 r.2.1.toNatClampNeg) m.toNatClampNeg) else -2))) (fun u : Ah => wB [bLR g, tRl E (g 1) r, tAh E (g 9) u]) := by
  obtain ⟨inches, sorted, buyDay, sellDay⟩ := ah
  refine CG.intro (by decide) (Nat.le_of_ble_eq_true rfl) (fun K X Y _ _ _ => ?_)
  refine jv_iload_n 0 X dX9_when_0 1 rfl ?_
  refine jv_iconst (v := 1) 1 X dX9_when_1 rfl ?_
  refine jv_bipush (v := 60) 2 X dX9_when_2 (by decide) ?_
  refine jv_fun 4 X (c_X9_within E _ m 1 60) ws_X9_75 ⟨Nat.le_of_ble_eq_true rfl, Nat.le_of_ble_eq_true rfl⟩ ⟨rfl, rfl⟩ ⟨Nat.zero_le _, Nat.zero_le _⟩ dX9_when_4 rfl [] rfl (Nat.le_of_ble_eq_true rfl) ?_
  refine jv_z_ne 7 X dX9_when_7 13 (by decide) (fun c_1 => ?_) (fun c_1 => ?_)
  · obtain ⟨jm, h1jm, h2jm, rfl⟩ := nx_in (a := 1) (b := 60) rfl rfl (by decide) (by decide) c_1
    have hcjm : (nI jm).toNatClampNeg = jm := nI_clamp (by omega)
    refine jv_aload_n 13 X dX9_when_13 0 rfl ?_
    refine jv_get (v := .ref (g 9 0)) 14 X gf_X9_43 dX9_when_14 0 rfl rfl ?_
    refine jv_aload_n 17 X dX9_when_17 0 rfl ?_
    refine jv_get (v := .ref (g 1 0)) 18 X gf_X9_10 dX9_when_18 0 rfl rfl ?_
    refine jv_iload_n 21 X dX9_when_21 1 rfl ?_
    refine jv_callB (wl2 := [bLR g, tRl E (g 1) r, bAh E (g 9) (lkF (wlF r.2.2.2.1 r.1 r.2.1.toNatClampNeg) inches jm) sorted buyDay sellDay]) 22 X (c_X0_look E _ (g 9) inches sorted buyDay sellDay (g 1) r jm (by omega) hD) wv_X9_184 ⟨Nat.le_of_ble_eq_true rfl, Nat.le_of_ble_eq_true rfl⟩ ⟨rfl, rfl⟩ ⟨Nat.zero_le _, Nat.zero_le _⟩ dX9_when_22 rfl [] rfl (Nat.le_of_ble_eq_true rfl) [2, 1] rfl rfl [[(g 9 0), (g 9 1), (g 9 2)], [(g 1 0), (g 1 1), (g 1 2), (g 1 3), (g 1 4), (g 1 5), (g 1 6), (g 1 7), (g 1 8), (g 1 9), (g 1 10)]] rfl rfl 2 rfl rfl rfl rfl ?_
    refine jv_aload_n 25 X dX9_when_25 0 rfl ?_
    refine jv_get (v := .ref (g 9 0)) 26 X gf_X9_43 dX9_when_26 0 rfl rfl ?_
    refine jv_iload_n 29 X dX9_when_29 1 rfl ?_
    refine jv_callB1 (wl2 := [bLR g, tRl E (g 1) r, bAh E (g 9) (lkF (wlF r.2.2.2.1 r.1 r.2.1.toNatClampNeg) inches jm) sorted (nI (bsM (wlF r.2.2.2.1 r.1 r.2.1.toNatClampNeg) jm / 100)) (nI (bsM (wlF r.2.2.2.1 r.1 r.2.1.toNatClampNeg) jm % 100))]) 30 X (c_X0_trade E _ (g 9) (lkF (wlF r.2.2.2.1 r.1 r.2.1.toNatClampNeg) inches jm) sorted buyDay sellDay jm (wlF r.2.2.2.1 r.1 r.2.1.toNatClampNeg) (by omega) (by omega) (fun j hj => lk_le hj)) wv_X9_191 ⟨Nat.le_of_ble_eq_true rfl, Nat.le_of_ble_eq_true rfl⟩ ⟨rfl, rfl⟩ ⟨Nat.zero_le _, Nat.zero_le _⟩ dX9_when_30 rfl [] rfl (Nat.le_of_ble_eq_true rfl) 2 rfl [(g 9 0), (g 9 1), (g 9 2)] rfl rfl rfl rfl rfl ?_
    obtain ⟨hb1, hb2, hb3⟩ := bs_lt (wlF r.2.2.2.1 r.1 r.2.1.toNatClampNeg) jm (by omega)
    refine jv_bipush (v := 100) 33 X dX9_when_33 (by decide) ?_
    refine jv_aload_n 35 X dX9_when_35 0 rfl ?_
    refine jv_get (v := .ref (g 9 0)) 36 X gf_X9_43 dX9_when_36 0 rfl rfl ?_
    refine jv_get (v := .int (nI (bsM (wlF r.2.2.2.1 r.1 r.2.1.toNatClampNeg) jm / 100))) 39 X gf_X9_195 dX9_when_39 12 rfl rfl ?_
    refine jv_imul 42 X dX9_when_42 ?_
    refine jv_norm (x2 := nI (100 * (bsM (wlF r.2.2.2.1 r.1 r.2.1.toNatClampNeg) jm / 100))) (nx_mul (a := 100) (b := (bsM (wlF r.2.2.2.1 r.1 r.2.1.toNatClampNeg) jm / 100)) rfl rfl) ?_
    refine jv_aload_n 43 X dX9_when_43 0 rfl ?_
    refine jv_get (v := .ref (g 9 0)) 44 X gf_X9_43 dX9_when_44 0 rfl rfl ?_
    refine jv_get (v := .int (nI (bsM (wlF r.2.2.2.1 r.1 r.2.1.toNatClampNeg) jm % 100))) 47 X gf_X9_198 dX9_when_47 12 rfl rfl ?_
    refine jv_iadd 50 X dX9_when_50 ?_
    refine jv_norm (x2 := nI ((100 * (bsM (wlF r.2.2.2.1 r.1 r.2.1.toNatClampNeg) jm / 100)) + (bsM (wlF r.2.2.2.1 r.1 r.2.1.toNatClampNeg) jm % 100))) (nx_add2 (a := (100 * (bsM (wlF r.2.2.2.1 r.1 r.2.1.toNatClampNeg) jm / 100))) (b := (bsM (wlF r.2.2.2.1 r.1 r.2.1.toNatClampNeg) jm % 100)) rfl rfl (by omega)) ?_
    exact jv_iret 51 X Y rfl dX9_when_51 ((lkF (wlF r.2.2.2.1 r.1 r.2.1.toNatClampNeg) inches jm), sorted, (nI (bsM (wlF r.2.2.2.1 r.1 r.2.1.toNatClampNeg) jm / 100)), (nI (bsM (wlF r.2.2.2.1 r.1 r.2.1.toNatClampNeg) jm % 100))) (by rw [Nat.div_add_mod]; simp [c_1, hcjm]) rfl
  · refine jv_bipush (v := (-2)) 10 X dX9_when_10 (by decide) ?_
    exact jv_iret 12 X Y rfl dX9_when_12 (inches, sorted, buyDay, sellDay) (by simp [lt_nle, -Int32.not_le, c_1]) rfl
theorem c_X9_meet (E : EE) (l : Launch) (g : Nat → Nat → Nat) (r : Rl) (ah : Ah) (s : Int32) (o : Int32) (b : Int32) (q : Int32) (what : Int32) (hD : dyC r) : CG E l yX9_meet cX9_meet 8 (some .int) { frames := 4, cells := 0, slots := 0, locals := 86 } [.ref (g 0 0), .int s, .int o, .int b, .int q, .int what] (wB [bLR g, tRl E (g 1) r, tAh E (g 9) ah]) noB (fun _ : Ah => some (.int (if (1 ≤ s ∧ s ≤ 99999) ∧ (0 ≤ o ∧ o ≤ 20) ∧ (0 ≤ b ∧ b ≤ 20) ∧ (1 ≤ q ∧ q ≤ 200) ∧ (0 ≤ what ∧ what ≤ 1) then mtM (wlF r.2.2.2.1 r.1 r.2.1.toNatClampNeg) s o b q what else -2))) (fun u : Ah => wB [bLR g, tRl E (g 1) r, tAh E (g 9) u]) := by
  obtain ⟨inches, sorted, buyDay, sellDay⟩ := ah
  refine CG.intro (by decide) (Nat.le_of_ble_eq_true rfl) (fun K X Y _ _ _ => ?_)
  refine jv_iload_n 0 X dX9_meet_0 1 rfl ?_
  refine jv_iconst (v := 1) 1 X dX9_meet_1 rfl ?_
  refine jv_ldc (v := 99999) 2 X tm_k_X9_91 dX9_meet_2 ?_
  refine jv_fun 4 X (c_X9_within E _ s 1 99999) ws_X9_75 ⟨Nat.le_of_ble_eq_true rfl, Nat.le_of_ble_eq_true rfl⟩ ⟨rfl, rfl⟩ ⟨Nat.zero_le _, Nat.zero_le _⟩ dX9_meet_4 rfl [] rfl (Nat.le_of_ble_eq_true rfl) ?_
  refine jv_z_eq 7 X dX9_meet_7 52 (by decide) (fun c_1 => ?_) (fun c_1 => ?_)
  · refine jv_bipush (v := (-2)) 52 X dX9_meet_52 (by decide) ?_
    exact jv_iret 54 X Y rfl dX9_meet_54 (inches, sorted, buyDay, sellDay) (by simp [lt_nle, -Int32.not_le, c_1]) rfl
  · refine jv_iload_n 10 X dX9_meet_10 2 rfl ?_
    refine jv_iconst (v := 0) 11 X dX9_meet_11 rfl ?_
    refine jv_bipush (v := 20) 12 X dX9_meet_12 (by decide) ?_
    refine jv_fun 14 X (c_X9_within E _ o 0 20) ws_X9_75 ⟨Nat.le_of_ble_eq_true rfl, Nat.le_of_ble_eq_true rfl⟩ ⟨rfl, rfl⟩ ⟨Nat.zero_le _, Nat.zero_le _⟩ dX9_meet_14 rfl [] rfl (Nat.le_of_ble_eq_true rfl) ?_
    refine jv_z_eq 17 X dX9_meet_17 52 (by decide) (fun c_2 => ?_) (fun c_2 => ?_)
    · refine jv_bipush (v := (-2)) 52 X dX9_meet_52 (by decide) ?_
      exact jv_iret 54 X Y rfl dX9_meet_54 (inches, sorted, buyDay, sellDay) (by simp [lt_nle, -Int32.not_le, c_1, c_2]) rfl
    · refine jv_iload_n 20 X dX9_meet_20 3 rfl ?_
      refine jv_iconst (v := 0) 21 X dX9_meet_21 rfl ?_
      refine jv_bipush (v := 20) 22 X dX9_meet_22 (by decide) ?_
      refine jv_fun 24 X (c_X9_within E _ b 0 20) ws_X9_75 ⟨Nat.le_of_ble_eq_true rfl, Nat.le_of_ble_eq_true rfl⟩ ⟨rfl, rfl⟩ ⟨Nat.zero_le _, Nat.zero_le _⟩ dX9_meet_24 rfl [] rfl (Nat.le_of_ble_eq_true rfl) ?_
      refine jv_z_eq 27 X dX9_meet_27 52 (by decide) (fun c_3 => ?_) (fun c_3 => ?_)
      · refine jv_bipush (v := (-2)) 52 X dX9_meet_52 (by decide) ?_
        exact jv_iret 54 X Y rfl dX9_meet_54 (inches, sorted, buyDay, sellDay) (by simp [lt_nle, -Int32.not_le, c_1, c_2, c_3]) rfl
      · refine jv_iload 30 X dX9_meet_30 4 rfl ?_
        refine jv_iconst (v := 1) 32 X dX9_meet_32 rfl ?_
        refine jv_sipush (v := 200) 33 X dX9_meet_33 (by decide) ?_
        refine jv_fun 36 X (c_X9_within E _ q 1 200) ws_X9_75 ⟨Nat.le_of_ble_eq_true rfl, Nat.le_of_ble_eq_true rfl⟩ ⟨rfl, rfl⟩ ⟨Nat.zero_le _, Nat.zero_le _⟩ dX9_meet_36 rfl [] rfl (Nat.le_of_ble_eq_true rfl) ?_
        refine jv_z_eq 39 X dX9_meet_39 52 (by decide) (fun c_4 => ?_) (fun c_4 => ?_)
        · refine jv_bipush (v := (-2)) 52 X dX9_meet_52 (by decide) ?_
          exact jv_iret 54 X Y rfl dX9_meet_54 (inches, sorted, buyDay, sellDay) (by simp [lt_nle, -Int32.not_le, c_1, c_2, c_3, c_4]) rfl
        · refine jv_iload 42 X dX9_meet_42 5 rfl ?_
          refine jv_iconst (v := 0) 44 X dX9_meet_44 rfl ?_
          refine jv_iconst (v := 1) 45 X dX9_meet_45 rfl ?_
          refine jv_fun 46 X (c_X9_within E _ what 0 1) ws_X9_75 ⟨Nat.le_of_ble_eq_true rfl, Nat.le_of_ble_eq_true rfl⟩ ⟨rfl, rfl⟩ ⟨Nat.zero_le _, Nat.zero_le _⟩ dX9_meet_46 rfl [] rfl (Nat.le_of_ble_eq_true rfl) ?_
          refine jv_z_ne 49 X dX9_meet_49 55 (by decide) (fun c_5 => ?_) (fun c_5 => ?_)
          · refine jv_aload_n 55 X dX9_meet_55 0 rfl ?_
            refine jv_get (v := .ref (g 9 0)) 56 X gf_X9_43 dX9_meet_56 0 rfl rfl ?_
            refine jv_aload_n 59 X dX9_meet_59 0 rfl ?_
            refine jv_get (v := .ref (g 1 0)) 60 X gf_X9_10 dX9_meet_60 0 rfl rfl ?_
            refine jv_bipush (v := 99) 63 X dX9_meet_63 (by decide) ?_
            refine jv_callB (wl2 := [bLR g, tRl E (g 1) r, bAh E (g 9) (lkF (wlF r.2.2.2.1 r.1 r.2.1.toNatClampNeg) inches 99) sorted buyDay sellDay]) 65 X (c_X0_look E _ (g 9) inches sorted buyDay sellDay (g 1) r 99 (by omega) hD) wv_X9_184 ⟨Nat.le_of_ble_eq_true rfl, Nat.le_of_ble_eq_true rfl⟩ ⟨rfl, rfl⟩ ⟨Nat.zero_le _, Nat.zero_le _⟩ dX9_meet_65 rfl [] rfl (Nat.le_of_ble_eq_true rfl) [2, 1] rfl rfl [[(g 9 0), (g 9 1), (g 9 2)], [(g 1 0), (g 1 1), (g 1 2), (g 1 3), (g 1 4), (g 1 5), (g 1 6), (g 1 7), (g 1 8), (g 1 9), (g 1 10)]] rfl rfl 2 rfl rfl rfl rfl ?_
            refine jv_iconst (v := 0) 68 X dX9_meet_68 rfl ?_
            refine jv_istore (lv2 := [(6, .int 0), (0, .ref (g 0 0)), (1, .int s), (2, .int o), (3, .int b), (4, .int q), (5, .int what)]) 69 X dX9_meet_69 (by decide) rfl ?_
            refine jv_iconst (v := 0) 71 X dX9_meet_71 rfl ?_
            refine jv_istore (lv2 := [(7, .int 0), (6, .int 0), (0, .ref (g 0 0)), (1, .int s), (2, .int o), (3, .int b), (4, .int q), (5, .int what)]) 72 X dX9_meet_72 (by decide) rfl ?_
            have lp74 : ∀ (n74 : Nat) (dy : Nat) (sm : Int32), (dy ≤ 99) → (itE (mtS (wlF r.2.2.2.1 r.1 r.2.1.toNatClampNeg) s o b q what) 99 0 0 = itE (mtS (wlF r.2.2.2.1 r.1 r.2.1.toNatClampNeg) s o b q what) (99 - dy) dy sm) → 99 - dy < n74 → JV E K 0 0 (wB [bLR g, tRl E (g 1) r, bAh E (g 9) (lkF (wlF r.2.2.2.1 r.1 r.2.1.toNatClampNeg) inches 99) sorted buyDay sellDay]) [(0, .ref (g 0 0)), (1, .int s), (2, .int o), (3, .int b), (4, .int q), (5, .int what), (6, .int sm), (7, .int (nI dy))] 74 [] := by
              intro n74
              induction n74 with
              | zero => intro dy sm hdy hI hm; exact absurd hm (Nat.not_lt_zero _)
              | succ n74 ih74 =>
                intro dy sm hdy hI hm
                refine jv_iload 74 X dX9_meet_74 7 rfl ?_
                refine jv_bipush (v := 99) 76 X dX9_meet_76 (by decide) ?_
                refine jn_icmp_ge 78 X dX9_meet_78 132 (by decide) (fun c_6 => ?_) (fun c_6 => ?_)
                · have n_6 : 99 ≤ dy := (nx_le (a := 99) (b := dy) rfl rfl (by omega) (by omega)).mp c_6
                  refine jv_bipush (v := (-6)) 132 X dX9_meet_132 (by decide) ?_
                  have hq : (-6) = mtM (wlF r.2.2.2.1 r.1 r.2.1.toNatClampNeg) s o b q what := by unfold mtM; rw [hI, show 99 - dy = 0 by omega]; rfl
                  exact jv_iret 134 X Y rfl dX9_meet_134 ((lkF (wlF r.2.2.2.1 r.1 r.2.1.toNatClampNeg) inches 99), sorted, buyDay, sellDay) (by rw [hq]; simp [c_1, c_2, c_3, c_4, c_5]) rfl
                · have n_6 : ¬ 99 ≤ dy := fun zq => c_6 ((nx_le (a := 99) (b := dy) rfl rfl (by omega) (by omega)).mpr zq)
                  refine jv_iload 81 X dX9_meet_81 6 rfl ?_
                  refine jv_iload_n 83 X dX9_meet_83 2 rfl ?_
                  refine jv_aload_n 84 X dX9_meet_84 0 rfl ?_
                  refine jv_get (v := .ref (g 9 0)) 85 X gf_X9_43 dX9_meet_85 0 rfl rfl ?_
                  refine jv_get (v := .ref (g 9 1)) 88 X gf_X9_188 dX9_meet_88 12 rfl rfl ?_
                  refine jv_iload 91 X dX9_meet_91 7 rfl ?_
                  refine jv_iald (f := (lkF (wlF r.2.2.2.1 r.1 r.2.1.toNatClampNeg) inches 99)) 93 X dX9_meet_93 13 rfl (by decide) dy rfl (by omega) ?_
                  refine jv_norm (x2 := ((wlF r.2.2.2.1 r.1 r.2.1.toNatClampNeg) dy)) (lk_le (by omega)) ?_
                  refine jv_imul 94 X dX9_meet_94 ?_
                  refine jv_iload_n 95 X dX9_meet_95 3 rfl ?_
                  refine jv_iload 96 X dX9_meet_96 4 rfl ?_
                  refine jv_imul 98 X dX9_meet_98 ?_
                  refine jv_iadd 99 X dX9_meet_99 ?_
                  refine jv_iadd 100 X dX9_meet_100 ?_
                  refine jv_istore (lv2 := [(6, .int (sm + ((o * ((wlF r.2.2.2.1 r.1 r.2.1.toNatClampNeg) dy)) + (b * q)))), (0, .ref (g 0 0)), (1, .int s), (2, .int o), (3, .int b), (4, .int q), (5, .int what), (7, .int (nI dy))]) 101 X dX9_meet_101 (by decide) rfl ?_
                  refine jv_iload 103 X dX9_meet_103 0 rfl ?_
                  refine jv_iload_n 105 X dX9_meet_105 2 rfl ?_
                  refine jn_icmp_lt 106 X dX9_meet_106 126 (by decide) (fun c_7 => ?_) (fun c_7 => ?_)
                  · refine jv_iinc (v := (nI (dy + 1))) (lv2 := [(7, .int (nI (dy + 1))), (6, .int (sm + ((o * ((wlF r.2.2.2.1 r.1 r.2.1.toNatClampNeg) dy)) + (b * q)))), (0, .ref (g 0 0)), (1, .int s), (2, .int o), (3, .int b), (4, .int q), (5, .int what)]) 126 X dX9_meet_126 7 rfl (nx_inc _) (by decide) rfl ?_
                    refine jv_goto 129 X dX9_meet_129 74 (by decide) ?_
                    exact jv_lv [2, 3, 4, 5, 6, 7, 1, 0] rfl (ih74 (dy + 1) (sm + ((o * ((wlF r.2.2.2.1 r.1 r.2.1.toNatClampNeg) dy)) + (b * q))) (by omega) (by rw [hI, show 99 - dy = (99 - (dy + 1)) + 1 by omega]; exact itE_r (if_neg c_7)) (by omega))
                  · refine jv_iload 109 X dX9_meet_109 6 rfl ?_
                    refine jn_if_ne 111 X dX9_meet_111 121 (by decide) (fun c_8 => ?_) (fun c_8 => ?_)
                    · refine jv_iload 121 X dX9_meet_121 0 rfl ?_
                      refine jv_iload_n 123 X dX9_meet_123 2 rfl ?_
                      refine jv_isub 124 X dX9_meet_124 ?_
                      have hq : ((sm + ((o * ((wlF r.2.2.2.1 r.1 r.2.1.toNatClampNeg) dy)) + (b * q))) - s) = mtM (wlF r.2.2.2.1 r.1 r.2.1.toNatClampNeg) s o b q what := by unfold mtM; rw [hI, show 99 - dy = (99 - (dy + 1)) + 1 by omega, itE_l (if_pos c_7)]; exact (if_neg c_8).symm
                      exact jv_iret 125 X Y rfl dX9_meet_125 ((lkF (wlF r.2.2.2.1 r.1 r.2.1.toNatClampNeg) inches 99), sorted, buyDay, sellDay) (by rw [hq]; simp [c_1, c_2, c_3, c_4, c_5]) rfl
                    · refine jv_iload 114 X dX9_meet_114 7 rfl ?_
                      refine jv_iconst (v := 1) 116 X dX9_meet_116 rfl ?_
                      refine jv_iadd 117 X dX9_meet_117 ?_
                      refine jv_norm (x2 := nI (dy + 1)) (nx_add2 (a := dy) (b := 1) rfl rfl (by omega)) ?_
                      refine jv_goto 118 X dX9_meet_118 125 (by decide) ?_
                      have hq : (nI (dy + 1)) = mtM (wlF r.2.2.2.1 r.1 r.2.1.toNatClampNeg) s o b q what := by unfold mtM; rw [hI, show 99 - dy = (99 - (dy + 1)) + 1 by omega, itE_l (if_pos c_7)]; exact (if_pos c_8).symm
                      exact jv_iret 125 X Y rfl dX9_meet_125 ((lkF (wlF r.2.2.2.1 r.1 r.2.1.toNatClampNeg) inches 99), sorted, buyDay, sellDay) (by rw [hq]; simp [c_1, c_2, c_3, c_4, c_5]) rfl
            exact jv_lv [2, 3, 4, 5, 6, 7, 1, 0] rfl (lp74 _ 0 0 (by omega) rfl (Nat.lt_succ_self _))
          · refine jv_bipush (v := (-2)) 52 X dX9_meet_52 (by decide) ?_
            exact jv_iret 54 X Y rfl dX9_meet_54 (inches, sorted, buyDay, sellDay) (by simp [lt_nle, -Int32.not_le, c_1, c_2, c_3, c_4, c_5]) rfl
