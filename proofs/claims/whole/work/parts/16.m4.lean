def f_buy (now : Nat → Int32) (k : Nat) (n : Int32) : Int32 × (Nat → Int32) := if ¬ n ≤ now k then (1, now) else if ¬ now (6 + k) + n * now 38 ≤ 99999 then (2, now) else (0, upd (upd now k (now k - n)) (6 + k) (now (6 + k) + n * now 38))
theorem msM_k {now : Nat → Int32} {k : Nat} {x : Int32} (hk : k < 6) : msM (upd now k x) k = msM now k := by
  unfold msM
  rw [pk_un (by omega), pk_un (by omega)]
def f_sell (now : Nat → Int32) (k : Nat) (n : Int32) : Int32 × (Nat → Int32) := if ¬ n * msM now k ≤ now (6 + k) then (1, now) else if ¬ now k + n ≤ 9999 then (2, now) else (0, upd (upd now k (now k + n)) (6 + k) (now (6 + k) - n * msM now k))
def f_build (now : Nat → Int32) (k b e : Nat) (n : Int32) : Int32 × (Nat → Int32) := if now (34 + b) ≤ now (26 + b) + now (30 + b) then (3, now) else (0, upd now (e + b) (now (e + b) + n * msM now k))
def f_change (now : Nat → Int32) (more : Int32) : Int32 × (Nat → Int32) := if now 38 = (if 0 ≤ more then 200 else 1) then (4, now) else (0, upd now 38 (clampI (now 38 + more)))
def f_copy (now : Nat → Int32) (k : Nat) : Int32 × (Nat → Int32) := if now (12 + k) = now 38 then (5, now) else (0, upd now (12 + k) (now 38))
def f_lay (now : Nat → Int32) (k : Nat) : Int32 × (Nat → Int32) := if now (12 + k) = 0 then (5, now) else (0, upd now (12 + k) 0)
def f_endDay (now week : Nat → Int32) (d : Nat) : Int32 × (Nat → Int32) := if now 39 = 999 then (6, now) else (0, upd (upd now 38 (clampI (now 38 + week (d % 7)))) 39 (now 39 + 1))
def metS (now : Nat → Int32) : Int32 := ((((0 ||| (if now (34 + 0) ≤ now (26 + 0) + now (30 + 0) then ((1 : Int32) <<< ((0 : Int32) &&& 31)) else 0)) ||| (if now (34 + 1) ≤ now (26 + 1) + now (30 + 1) then ((1 : Int32) <<< ((1 : Int32) &&& 31)) else 0)) ||| (if now (34 + 2) ≤ now (26 + 2) + now (30 + 2) then ((1 : Int32) <<< ((2 : Int32) &&& 31)) else 0)) ||| (if now (34 + 3) ≤ now (26 + 3) + now (30 + 3) then ((1 : Int32) <<< ((3 : Int32) &&& 31)) else 0))
theorem c_X10_buy (E : EE) (l : Launch) (a : Nat → Nat) (book : Nat → Int32) (now : Nat → Int32) (week : Nat → Int32) (sights : Int32) (sight : Nat → Int32) (signs : Int32) (pad : Nat → Int32) (metAt : Int32) (metWho : Int32) (reason : Int32) (acts : Int32) (atp : Int32) (will : Nat → Int32) (fitting : Nat → Int32) (counts : Nat → Int32) (ring : Nat → Int32) (nxt : Nat → Int32) (wins : Nat → Int32) (ways : Nat → Int64) (nextWays : Nat → Int64) (image : Nat → Int32) (isKept : Nat → Int32) (k : Nat) (n : Int32) (hk : k < 6) : CT E l yX10_buy cX10_buy 3 (some .int) { frames := 0, cells := 0, slots := 0, locals := 0 } [.ref (a 0), .int (nI k), .int n] (bMd E a book now week sights sight signs pad metAt metWho reason acts atp will fitting counts ring nxt wins ways nextWays image isKept) (some (.int ((f_buy now k n).1))) (bMd E a book ((f_buy now k n).2) week sights sight signs pad metAt metWho reason acts atp will fitting counts ring nxt wins ways nextWays image isKept) := by
  have g1 : ¬ 38 = k := by omega
  refine CT.intro (by decide) (Nat.le_of_ble_eq_true rfl) (fun K X Y => ?_)
  refine jv_aload_n 0 X dX10_buy_0 0 rfl ?_
  refine jv_get (v := .ref (a 2)) 1 X gf_X10_13 dX10_buy_1 0 rfl rfl ?_
  refine jv_iload_n 4 X dX10_buy_4 1 rfl ?_
  refine jv_iald (f := now) 5 X dX10_buy_5 2 rfl (by decide) k rfl (by omega) ?_
  refine jv_iload_n 6 X dX10_buy_6 2 rfl ?_
  refine jn_icmp_ge 7 X dX10_buy_7 12 (by decide) (fun c_1 => ?_) (fun c_1 => ?_)
  · refine jv_aload_n 12 X dX10_buy_12 0 rfl ?_
    refine jv_get (v := .ref (a 2)) 13 X gf_X10_13 dX10_buy_13 0 rfl rfl ?_
    refine jv_bipush (v := 6) 16 X dX10_buy_16 (by decide) ?_
    refine jv_iload_n 18 X dX10_buy_18 1 rfl ?_
    refine jv_iadd 19 X dX10_buy_19 ?_
    refine jv_norm (x2 := nI (6 + k)) (nx_add2 (a := 6) (b := k) rfl rfl (by omega)) ?_
    refine jv_iald (f := now) 20 X dX10_buy_20 2 rfl (by decide) (6 + k) rfl (by omega) ?_
    refine jv_iload_n 21 X dX10_buy_21 2 rfl ?_
    refine jv_aload_n 22 X dX10_buy_22 0 rfl ?_
    refine jv_get (v := .ref (a 2)) 23 X gf_X10_13 dX10_buy_23 0 rfl rfl ?_
    refine jv_bipush (v := 38) 26 X dX10_buy_26 (by decide) ?_
    refine jv_iald (f := now) 28 X dX10_buy_28 2 rfl (by decide) 38 rfl (by omega) ?_
    refine jv_imul 29 X dX10_buy_29 ?_
    refine jv_iadd 30 X dX10_buy_30 ?_
    refine jv_ldc (v := 99999) 31 X tm_k_X10_65 dX10_buy_31 ?_
    refine jn_icmp_le 33 X dX10_buy_33 38 (by decide) (fun c_2 => ?_) (fun c_2 => ?_)
    · refine jv_aload_n 38 X dX10_buy_38 0 rfl ?_
      refine jv_get (v := .ref (a 2)) 39 X gf_X10_13 dX10_buy_39 0 rfl rfl ?_
      refine jv_iload_n 42 X dX10_buy_42 1 rfl ?_
      refine jv_dup2 43 X dX10_buy_43 rfl rfl ?_
      refine jv_iald (f := now) 44 X dX10_buy_44 2 rfl (by decide) k rfl (by omega) ?_
      refine jv_iload_n 45 X dX10_buy_45 2 rfl ?_
      refine jv_isub 46 X dX10_buy_46 ?_
      refine jv_iast (ws2 := bMd E a book (upd now k ((now k) - n)) week sights sight signs pad metAt metWho reason acts atp will fitting counts ring nxt wins ways nextWays image isKept) (f := now) 47 X dX10_buy_47 2 rfl (by decide) k rfl (by omega) rfl ?_
      refine jv_aload_n 48 X dX10_buy_48 0 rfl ?_
      refine jv_get (v := .ref (a 2)) 49 X gf_X10_13 dX10_buy_49 0 rfl rfl ?_
      refine jv_bipush (v := 6) 52 X dX10_buy_52 (by decide) ?_
      refine jv_iload_n 54 X dX10_buy_54 1 rfl ?_
      refine jv_iadd 55 X dX10_buy_55 ?_
      refine jv_norm (x2 := nI (6 + k)) (nx_add2 (a := 6) (b := k) rfl rfl (by omega)) ?_
      refine jv_dup2 56 X dX10_buy_56 rfl rfl ?_
      refine jv_iald (f := (upd now k ((now k) - n))) 57 X dX10_buy_57 2 rfl (by decide) (6 + k) rfl (by omega) ?_
      refine jv_iload_n 58 X dX10_buy_58 2 rfl ?_
      refine jv_aload_n 59 X dX10_buy_59 0 rfl ?_
      refine jv_get (v := .ref (a 2)) 60 X gf_X10_13 dX10_buy_60 0 rfl rfl ?_
      refine jv_bipush (v := 38) 63 X dX10_buy_63 (by decide) ?_
      refine jv_iald (f := (upd now k ((now k) - n))) 65 X dX10_buy_65 2 rfl (by decide) 38 rfl (by omega) ?_
      refine jv_imul 66 X dX10_buy_66 ?_
      refine jv_iadd 67 X dX10_buy_67 ?_
      refine jv_iast (ws2 := bMd E a book (upd (upd now k ((now k) - n)) (6 + k) (((upd now k ((now k) - n)) (6 + k)) + (n * ((upd now k ((now k) - n)) 38)))) week sights sight signs pad metAt metWho reason acts atp will fitting counts ring nxt wins ways nextWays image isKept) (f := (upd now k ((now k) - n))) 68 X dX10_buy_68 2 rfl (by decide) (6 + k) rfl (by omega) rfl ?_
      refine jv_iconst (v := 0) 69 X dX10_buy_69 rfl ?_
      have hq : f_buy now k n = (0, (upd (upd now k ((now k) - n)) (6 + k) (((upd now k ((now k) - n)) (6 + k)) + (n * ((upd now k ((now k) - n)) 38))))) := by simp [f_buy, pk_un, g1, lt_nle, -Int32.not_le, c_1, c_2]
      exact jv_iret 70 X Y rfl dX10_buy_70 () (by rw [hq]; try rfl) (by rw [hq]; try rfl)
    · refine jv_iconst (v := 2) 36 X dX10_buy_36 rfl ?_
      have hq : f_buy now k n = (2, now) := by simp [f_buy, pk_un, g1, lt_nle, -Int32.not_le, c_1, c_2]
      exact jv_iret 37 X Y rfl dX10_buy_37 () (by rw [hq]; try rfl) (by rw [hq]; try rfl)
  · refine jv_iconst (v := 1) 10 X dX10_buy_10 rfl ?_
    have hq : f_buy now k n = (1, now) := by simp [f_buy, pk_un, g1, lt_nle, -Int32.not_le, c_1]
    exact jv_iret 11 X Y rfl dX10_buy_11 () (by rw [hq]; try rfl) (by rw [hq]; try rfl)
theorem c_X10_sell (E : EE) (l : Launch) (a : Nat → Nat) (book : Nat → Int32) (now : Nat → Int32) (week : Nat → Int32) (sights : Int32) (sight : Nat → Int32) (signs : Int32) (pad : Nat → Int32) (metAt : Int32) (metWho : Int32) (reason : Int32) (acts : Int32) (atp : Int32) (will : Nat → Int32) (fitting : Nat → Int32) (counts : Nat → Int32) (ring : Nat → Int32) (nxt : Nat → Int32) (wins : Nat → Int32) (ways : Nat → Int64) (nextWays : Nat → Int64) (image : Nat → Int32) (isKept : Nat → Int32) (k : Nat) (n : Int32) (hk : k < 6) : CT E l yX10_sell cX10_sell 3 (some .int) { frames := 1, cells := 0, slots := 0, locals := 21 } [.ref (a 0), .int (nI k), .int n] (bMd E a book now week sights sight signs pad metAt metWho reason acts atp will fitting counts ring nxt wins ways nextWays image isKept) (some (.int ((f_sell now k n).1))) (bMd E a book ((f_sell now k n).2) week sights sight signs pad metAt metWho reason acts atp will fitting counts ring nxt wins ways nextWays image isKept) := by
  refine CT.intro (by decide) (Nat.le_of_ble_eq_true rfl) (fun K X Y => ?_)
  refine jv_aload_n 0 X dX10_sell_0 0 rfl ?_
  refine jv_get (v := .ref (a 2)) 1 X gf_X10_13 dX10_sell_1 0 rfl rfl ?_
  refine jv_bipush (v := 6) 4 X dX10_sell_4 (by decide) ?_
  refine jv_iload_n 6 X dX10_sell_6 1 rfl ?_
  refine jv_iadd 7 X dX10_sell_7 ?_
  refine jv_norm (x2 := nI (6 + k)) (nx_add2 (a := 6) (b := k) rfl rfl (by omega)) ?_
  refine jv_iald (f := now) 8 X dX10_sell_8 2 rfl (by decide) (6 + k) rfl (by omega) ?_
  refine jv_iload_n 9 X dX10_sell_9 2 rfl ?_
  refine jv_aload_n 10 X dX10_sell_10 0 rfl ?_
  refine jv_iload_n 11 X dX10_sell_11 1 rfl ?_
  refine jv_callW (w1 := bMd E a book now week sights sight signs pad metAt metWho reason acts atp will fitting counts ring nxt wins ways nextWays image isKept) 12 X (c_X10_measureOf E _ a book now week sights sight signs pad metAt metWho reason acts atp will fitting counts ring nxt wins ways nextWays image isKept k (by omega)) wv_X10_90 ⟨Nat.le_of_ble_eq_true rfl, Nat.le_of_ble_eq_true rfl⟩ ⟨rfl, rfl⟩ ⟨Nat.zero_le _, Nat.zero_le _⟩ dX10_sell_12 rfl [.int n, .int (now (6 + k))] rfl (Nat.le_of_ble_eq_true rfl) 0 rfl rfl ?_
  refine jv_imul 15 X dX10_sell_15 ?_
  refine jn_icmp_ge 16 X dX10_sell_16 21 (by decide) (fun c_1 => ?_) (fun c_1 => ?_)
  · refine jv_aload_n 21 X dX10_sell_21 0 rfl ?_
    refine jv_get (v := .ref (a 2)) 22 X gf_X10_13 dX10_sell_22 0 rfl rfl ?_
    refine jv_iload_n 25 X dX10_sell_25 1 rfl ?_
    refine jv_iald (f := now) 26 X dX10_sell_26 2 rfl (by decide) k rfl (by omega) ?_
    refine jv_iload_n 27 X dX10_sell_27 2 rfl ?_
    refine jv_iadd 28 X dX10_sell_28 ?_
    refine jv_sipush (v := 9999) 29 X dX10_sell_29 (by decide) ?_
    refine jn_icmp_le 32 X dX10_sell_32 37 (by decide) (fun c_2 => ?_) (fun c_2 => ?_)
    · refine jv_aload_n 37 X dX10_sell_37 0 rfl ?_
      refine jv_get (v := .ref (a 2)) 38 X gf_X10_13 dX10_sell_38 0 rfl rfl ?_
      refine jv_iload_n 41 X dX10_sell_41 1 rfl ?_
      refine jv_dup2 42 X dX10_sell_42 rfl rfl ?_
      refine jv_iald (f := now) 43 X dX10_sell_43 2 rfl (by decide) k rfl (by omega) ?_
      refine jv_iload_n 44 X dX10_sell_44 2 rfl ?_
      refine jv_iadd 45 X dX10_sell_45 ?_
      refine jv_iast (ws2 := bMd E a book (upd now k ((now k) + n)) week sights sight signs pad metAt metWho reason acts atp will fitting counts ring nxt wins ways nextWays image isKept) (f := now) 46 X dX10_sell_46 2 rfl (by decide) k rfl (by omega) rfl ?_
      refine jv_aload_n 47 X dX10_sell_47 0 rfl ?_
      refine jv_get (v := .ref (a 2)) 48 X gf_X10_13 dX10_sell_48 0 rfl rfl ?_
      refine jv_bipush (v := 6) 51 X dX10_sell_51 (by decide) ?_
      refine jv_iload_n 53 X dX10_sell_53 1 rfl ?_
      refine jv_iadd 54 X dX10_sell_54 ?_
      refine jv_norm (x2 := nI (6 + k)) (nx_add2 (a := 6) (b := k) rfl rfl (by omega)) ?_
      refine jv_dup2 55 X dX10_sell_55 rfl rfl ?_
      refine jv_iald (f := (upd now k ((now k) + n))) 56 X dX10_sell_56 2 rfl (by decide) (6 + k) rfl (by omega) ?_
      refine jv_iload_n 57 X dX10_sell_57 2 rfl ?_
      refine jv_aload_n 58 X dX10_sell_58 0 rfl ?_
      refine jv_iload_n 59 X dX10_sell_59 1 rfl ?_
      refine jv_callW (w1 := bMd E a book (upd now k ((now k) + n)) week sights sight signs pad metAt metWho reason acts atp will fitting counts ring nxt wins ways nextWays image isKept) 60 X (c_X10_measureOf E _ a book (upd now k ((now k) + n)) week sights sight signs pad metAt metWho reason acts atp will fitting counts ring nxt wins ways nextWays image isKept k (by omega)) wv_X10_90 ⟨Nat.le_of_ble_eq_true rfl, Nat.le_of_ble_eq_true rfl⟩ ⟨rfl, rfl⟩ ⟨Nat.zero_le _, Nat.zero_le _⟩ dX10_sell_60 rfl [.int n, .int ((upd now k ((now k) + n)) (6 + k)), .int (nI (6 + k)), .ref (a 2)] rfl (Nat.le_of_ble_eq_true rfl) 0 rfl rfl ?_
      refine jv_imul 63 X dX10_sell_63 ?_
      refine jv_isub 64 X dX10_sell_64 ?_
      refine jv_iast (ws2 := bMd E a book (upd (upd now k ((now k) + n)) (6 + k) (((upd now k ((now k) + n)) (6 + k)) - (n * (msM (upd now k ((now k) + n)) k)))) week sights sight signs pad metAt metWho reason acts atp will fitting counts ring nxt wins ways nextWays image isKept) (f := (upd now k ((now k) + n))) 65 X dX10_sell_65 2 rfl (by decide) (6 + k) rfl (by omega) rfl ?_
      refine jv_iconst (v := 0) 66 X dX10_sell_66 rfl ?_
      have hq : f_sell now k n = (0, (upd (upd now k ((now k) + n)) (6 + k) (((upd now k ((now k) + n)) (6 + k)) - (n * (msM (upd now k ((now k) + n)) k))))) := by simp [f_sell, pk_un, msM_k hk, lt_nle, -Int32.not_le, c_1, c_2]
      exact jv_iret 67 X Y rfl dX10_sell_67 () (by rw [hq]; try rfl) (by rw [hq]; try rfl)
    · refine jv_iconst (v := 2) 35 X dX10_sell_35 rfl ?_
      have hq : f_sell now k n = (2, now) := by simp [f_sell, pk_un, msM_k hk, lt_nle, -Int32.not_le, c_1, c_2]
      exact jv_iret 36 X Y rfl dX10_sell_36 () (by rw [hq]; try rfl) (by rw [hq]; try rfl)
  · refine jv_iconst (v := 1) 19 X dX10_sell_19 rfl ?_
    have hq : f_sell now k n = (1, now) := by simp [f_sell, pk_un, msM_k hk, lt_nle, -Int32.not_le, c_1]
    exact jv_iret 20 X Y rfl dX10_sell_20 () (by rw [hq]; try rfl) (by rw [hq]; try rfl)
theorem c_X10_build (E : EE) (l : Launch) (a : Nat → Nat) (book : Nat → Int32) (now : Nat → Int32) (week : Nat → Int32) (sights : Int32) (sight : Nat → Int32) (signs : Int32) (pad : Nat → Int32) (metAt : Int32) (metWho : Int32) (reason : Int32) (acts : Int32) (atp : Int32) (will : Nat → Int32) (fitting : Nat → Int32) (counts : Nat → Int32) (ring : Nat → Int32) (nxt : Nat → Int32) (wins : Nat → Int32) (ways : Nat → Int64) (nextWays : Nat → Int64) (image : Nat → Int32) (isKept : Nat → Int32) (k : Nat) (b : Nat) (e : Nat) (n : Int32) (hk : k < 6) (hb : b < 4) (he : e = 26 ∨ e = 30) : CT E l yX10_build cX10_build 5 (some .int) { frames := 1, cells := 0, slots := 0, locals := 21 } [.ref (a 0), .int (nI k), .int (nI b), .int (nI e), .int n] (bMd E a book now week sights sight signs pad metAt metWho reason acts atp will fitting counts ring nxt wins ways nextWays image isKept) (some (.int ((f_build now k b e n).1))) (bMd E a book ((f_build now k b e n).2) week sights sight signs pad metAt metWho reason acts atp will fitting counts ring nxt wins ways nextWays image isKept) := by
  refine CT.intro (by decide) (Nat.le_of_ble_eq_true rfl) (fun K X Y => ?_)
  refine jv_aload_n 0 X dX10_build_0 0 rfl ?_
  refine jv_iload_n 1 X dX10_build_1 2 rfl ?_
  refine jv_callW (w1 := bMd E a book now week sights sight signs pad metAt metWho reason acts atp will fitting counts ring nxt wins ways nextWays image isKept) 2 X (c_X10_hasMet E _ a book now week sights sight signs pad metAt metWho reason acts atp will fitting counts ring nxt wins ways nextWays image isKept b (by omega)) wv_X10_94 ⟨Nat.le_of_ble_eq_true rfl, Nat.le_of_ble_eq_true rfl⟩ ⟨rfl, rfl⟩ ⟨Nat.zero_le _, Nat.zero_le _⟩ dX10_build_2 rfl [] rfl (Nat.le_of_ble_eq_true rfl) 0 rfl rfl ?_
  refine jv_z_eq 5 X dX10_build_5 10 (by decide) (fun c_1 => ?_) (fun c_1 => ?_)
  · refine jv_aload_n 10 X dX10_build_10 0 rfl ?_
    refine jv_get (v := .ref (a 2)) 11 X gf_X10_13 dX10_build_11 0 rfl rfl ?_
    refine jv_iload_n 14 X dX10_build_14 3 rfl ?_
    refine jv_iload_n 15 X dX10_build_15 2 rfl ?_
    refine jv_iadd 16 X dX10_build_16 ?_
    refine jv_norm (x2 := nI (e + b)) (nx_add2 (a := e) (b := b) rfl rfl (by omega)) ?_
    refine jv_dup2 17 X dX10_build_17 rfl rfl ?_
    refine jv_iald (f := now) 18 X dX10_build_18 2 rfl (by decide) (e + b) rfl (by omega) ?_
    refine jv_iload 19 X dX10_build_19 4 rfl ?_
    refine jv_aload_n 21 X dX10_build_21 0 rfl ?_
    refine jv_iload_n 22 X dX10_build_22 1 rfl ?_
    refine jv_callW (w1 := bMd E a book now week sights sight signs pad metAt metWho reason acts atp will fitting counts ring nxt wins ways nextWays image isKept) 23 X (c_X10_measureOf E _ a book now week sights sight signs pad metAt metWho reason acts atp will fitting counts ring nxt wins ways nextWays image isKept k (by omega)) wv_X10_90 ⟨Nat.le_of_ble_eq_true rfl, Nat.le_of_ble_eq_true rfl⟩ ⟨rfl, rfl⟩ ⟨Nat.zero_le _, Nat.zero_le _⟩ dX10_build_23 rfl [.int n, .int (now (e + b)), .int (nI (e + b)), .ref (a 2)] rfl (Nat.le_of_ble_eq_true rfl) 0 rfl rfl ?_
    refine jv_imul 26 X dX10_build_26 ?_
    refine jv_iadd 27 X dX10_build_27 ?_
    refine jv_iast (ws2 := bMd E a book (upd now (e + b) ((now (e + b)) + (n * (msM now k)))) week sights sight signs pad metAt metWho reason acts atp will fitting counts ring nxt wins ways nextWays image isKept) (f := now) 28 X dX10_build_28 2 rfl (by decide) (e + b) rfl (by omega) rfl ?_
    refine jv_iconst (v := 0) 29 X dX10_build_29 rfl ?_
    have hq : f_build now k b e n = (0, (upd now (e + b) ((now (e + b)) + (n * (msM now k))))) := by simp [f_build, lt_nle, -Int32.not_le, c_1]
    exact jv_iret 30 X Y rfl dX10_build_30 () (by rw [hq]; try rfl) (by rw [hq]; try rfl)
  · refine jv_iconst (v := 3) 8 X dX10_build_8 rfl ?_
    have hq : f_build now k b e n = (3, now) := by simp [f_build, lt_nle, -Int32.not_le, c_1]
    exact jv_iret 9 X Y rfl dX10_build_9 () (by rw [hq]; try rfl) (by rw [hq]; try rfl)
theorem c_X10_change (E : EE) (l : Launch) (a : Nat → Nat) (book : Nat → Int32) (now : Nat → Int32) (week : Nat → Int32) (sights : Int32) (sight : Nat → Int32) (signs : Int32) (pad : Nat → Int32) (metAt : Int32) (metWho : Int32) (reason : Int32) (acts : Int32) (atp : Int32) (will : Nat → Int32) (fitting : Nat → Int32) (counts : Nat → Int32) (ring : Nat → Int32) (nxt : Nat → Int32) (wins : Nat → Int32) (ways : Nat → Int64) (nextWays : Nat → Int64) (image : Nat → Int32) (isKept : Nat → Int32) (more : Int32) : CT E l yX10_change cX10_change 2 (some .int) { frames := 1, cells := 0, slots := 0, locals := 20 } [.ref (a 0), .int more] (bMd E a book now week sights sight signs pad metAt metWho reason acts atp will fitting counts ring nxt wins ways nextWays image isKept) (some (.int ((f_change now more).1))) (bMd E a book ((f_change now more).2) week sights sight signs pad metAt metWho reason acts atp will fitting counts ring nxt wins ways nextWays image isKept) := by
  refine CT.intro (by decide) (Nat.le_of_ble_eq_true rfl) (fun K X Y => ?_)
  refine jv_aload_n 0 X dX10_change_0 0 rfl ?_
  refine jv_get (v := .ref (a 2)) 1 X gf_X10_13 dX10_change_1 0 rfl rfl ?_
  refine jv_bipush (v := 38) 4 X dX10_change_4 (by decide) ?_
  refine jv_iald (f := now) 6 X dX10_change_6 2 rfl (by decide) 38 rfl (by omega) ?_
  refine jv_iload_n 7 X dX10_change_7 1 rfl ?_
  refine jn_if_ge 8 X dX10_change_8 15 (by decide) (fun c_1 => ?_) (fun c_1 => ?_)
  · refine jv_sipush (v := 200) 15 X dX10_change_15 (by decide) ?_
    refine jn_icmp_ne 18 X dX10_change_18 23 (by decide) (fun c_2 => ?_) (fun c_2 => ?_)
    · refine jv_aload_n 23 X dX10_change_23 0 rfl ?_
      refine jv_get (v := .ref (a 2)) 24 X gf_X10_13 dX10_change_24 0 rfl rfl ?_
      refine jv_bipush (v := 38) 27 X dX10_change_27 (by decide) ?_
      refine jv_aload_n 29 X dX10_change_29 0 rfl ?_
      refine jv_get (v := .ref (a 2)) 30 X gf_X10_13 dX10_change_30 0 rfl rfl ?_
      refine jv_bipush (v := 38) 33 X dX10_change_33 (by decide) ?_
      refine jv_iald (f := now) 35 X dX10_change_35 2 rfl (by decide) 38 rfl (by omega) ?_
      refine jv_iload_n 36 X dX10_change_36 1 rfl ?_
      refine jv_iadd 37 X dX10_change_37 ?_
      refine jv_fun 38 X (c_X10_clamp E _ ((now 38) + more)) ws_X10_97 ⟨Nat.le_of_ble_eq_true rfl, Nat.le_of_ble_eq_true rfl⟩ ⟨rfl, rfl⟩ ⟨Nat.zero_le _, Nat.zero_le _⟩ dX10_change_38 rfl [.int 38, .ref (a 2)] rfl (Nat.le_of_ble_eq_true rfl) ?_
      refine jv_iast (ws2 := bMd E a book (upd now 38 (clampI ((now 38) + more))) week sights sight signs pad metAt metWho reason acts atp will fitting counts ring nxt wins ways nextWays image isKept) (f := now) 41 X dX10_change_41 2 rfl (by decide) 38 rfl (by omega) rfl ?_
      refine jv_iconst (v := 0) 42 X dX10_change_42 rfl ?_
      have hq : f_change now more = (0, (upd now 38 (clampI ((now 38) + more)))) := by simp [f_change, lt_nle, -Int32.not_le, c_1, c_2]
      exact jv_iret 43 X Y rfl dX10_change_43 () (by rw [hq]; try rfl) (by rw [hq]; try rfl)
    · refine jv_iconst (v := 4) 21 X dX10_change_21 rfl ?_
      have hq : f_change now more = (4, now) := by simp [f_change, lt_nle, -Int32.not_le, c_1, c_2]
      exact jv_iret 22 X Y rfl dX10_change_22 () (by rw [hq]; try rfl) (by rw [hq]; try rfl)
  · refine jv_iconst (v := 1) 11 X dX10_change_11 rfl ?_
    refine jv_goto 12 X dX10_change_12 18 (by decide) ?_
    refine jn_icmp_ne 18 X dX10_change_18 23 (by decide) (fun c_3 => ?_) (fun c_3 => ?_)
    · refine jv_aload_n 23 X dX10_change_23 0 rfl ?_
      refine jv_get (v := .ref (a 2)) 24 X gf_X10_13 dX10_change_24 0 rfl rfl ?_
      refine jv_bipush (v := 38) 27 X dX10_change_27 (by decide) ?_
      refine jv_aload_n 29 X dX10_change_29 0 rfl ?_
      refine jv_get (v := .ref (a 2)) 30 X gf_X10_13 dX10_change_30 0 rfl rfl ?_
      refine jv_bipush (v := 38) 33 X dX10_change_33 (by decide) ?_
      refine jv_iald (f := now) 35 X dX10_change_35 2 rfl (by decide) 38 rfl (by omega) ?_
      refine jv_iload_n 36 X dX10_change_36 1 rfl ?_
      refine jv_iadd 37 X dX10_change_37 ?_
      refine jv_fun 38 X (c_X10_clamp E _ ((now 38) + more)) ws_X10_97 ⟨Nat.le_of_ble_eq_true rfl, Nat.le_of_ble_eq_true rfl⟩ ⟨rfl, rfl⟩ ⟨Nat.zero_le _, Nat.zero_le _⟩ dX10_change_38 rfl [.int 38, .ref (a 2)] rfl (Nat.le_of_ble_eq_true rfl) ?_
      refine jv_iast (ws2 := bMd E a book (upd now 38 (clampI ((now 38) + more))) week sights sight signs pad metAt metWho reason acts atp will fitting counts ring nxt wins ways nextWays image isKept) (f := now) 41 X dX10_change_41 2 rfl (by decide) 38 rfl (by omega) rfl ?_
      refine jv_iconst (v := 0) 42 X dX10_change_42 rfl ?_
      have hq : f_change now more = (0, (upd now 38 (clampI ((now 38) + more)))) := by simp [f_change, lt_nle, -Int32.not_le, c_1, c_3]
      exact jv_iret 43 X Y rfl dX10_change_43 () (by rw [hq]; try rfl) (by rw [hq]; try rfl)
    · refine jv_iconst (v := 4) 21 X dX10_change_21 rfl ?_
      have hq : f_change now more = (4, now) := by simp [f_change, lt_nle, -Int32.not_le, c_1, c_3]
      exact jv_iret 22 X Y rfl dX10_change_22 () (by rw [hq]; try rfl) (by rw [hq]; try rfl)
theorem c_X10_copy (E : EE) (l : Launch) (a : Nat → Nat) (book : Nat → Int32) (now : Nat → Int32) (week : Nat → Int32) (sights : Int32) (sight : Nat → Int32) (signs : Int32) (pad : Nat → Int32) (metAt : Int32) (metWho : Int32) (reason : Int32) (acts : Int32) (atp : Int32) (will : Nat → Int32) (fitting : Nat → Int32) (counts : Nat → Int32) (ring : Nat → Int32) (nxt : Nat → Int32) (wins : Nat → Int32) (ways : Nat → Int64) (nextWays : Nat → Int64) (image : Nat → Int32) (isKept : Nat → Int32) (k : Nat) (hk : k < 6) : CT E l yX10_copy cX10_copy 2 (some .int) { frames := 0, cells := 0, slots := 0, locals := 0 } [.ref (a 0), .int (nI k)] (bMd E a book now week sights sight signs pad metAt metWho reason acts atp will fitting counts ring nxt wins ways nextWays image isKept) (some (.int ((f_copy now k).1))) (bMd E a book ((f_copy now k).2) week sights sight signs pad metAt metWho reason acts atp will fitting counts ring nxt wins ways nextWays image isKept) := by
  refine CT.intro (by decide) (Nat.le_of_ble_eq_true rfl) (fun K X Y => ?_)
  refine jv_aload_n 0 X dX10_copy_0 0 rfl ?_
  refine jv_get (v := .ref (a 2)) 1 X gf_X10_13 dX10_copy_1 0 rfl rfl ?_
  refine jv_bipush (v := 12) 4 X dX10_copy_4 (by decide) ?_
  refine jv_iload_n 6 X dX10_copy_6 1 rfl ?_
  refine jv_iadd 7 X dX10_copy_7 ?_
  refine jv_norm (x2 := nI (12 + k)) (nx_add2 (a := 12) (b := k) rfl rfl (by omega)) ?_
  refine jv_iald (f := now) 8 X dX10_copy_8 2 rfl (by decide) (12 + k) rfl (by omega) ?_
  refine jv_aload_n 9 X dX10_copy_9 0 rfl ?_
  refine jv_get (v := .ref (a 2)) 10 X gf_X10_13 dX10_copy_10 0 rfl rfl ?_
  refine jv_bipush (v := 38) 13 X dX10_copy_13 (by decide) ?_
  refine jv_iald (f := now) 15 X dX10_copy_15 2 rfl (by decide) 38 rfl (by omega) ?_
  refine jn_icmp_ne 16 X dX10_copy_16 21 (by decide) (fun c_1 => ?_) (fun c_1 => ?_)
  · refine jv_aload_n 21 X dX10_copy_21 0 rfl ?_
    refine jv_get (v := .ref (a 2)) 22 X gf_X10_13 dX10_copy_22 0 rfl rfl ?_
    refine jv_bipush (v := 12) 25 X dX10_copy_25 (by decide) ?_
    refine jv_iload_n 27 X dX10_copy_27 1 rfl ?_
    refine jv_iadd 28 X dX10_copy_28 ?_
    refine jv_norm (x2 := nI (12 + k)) (nx_add2 (a := 12) (b := k) rfl rfl (by omega)) ?_
    refine jv_aload_n 29 X dX10_copy_29 0 rfl ?_
    refine jv_get (v := .ref (a 2)) 30 X gf_X10_13 dX10_copy_30 0 rfl rfl ?_
    refine jv_bipush (v := 38) 33 X dX10_copy_33 (by decide) ?_
    refine jv_iald (f := now) 35 X dX10_copy_35 2 rfl (by decide) 38 rfl (by omega) ?_
    refine jv_iast (ws2 := bMd E a book (upd now (12 + k) (now 38)) week sights sight signs pad metAt metWho reason acts atp will fitting counts ring nxt wins ways nextWays image isKept) (f := now) 36 X dX10_copy_36 2 rfl (by decide) (12 + k) rfl (by omega) rfl ?_
    refine jv_iconst (v := 0) 37 X dX10_copy_37 rfl ?_
    have hq : f_copy now k = (0, (upd now (12 + k) (now 38))) := by simp [f_copy, lt_nle, -Int32.not_le, c_1]
    exact jv_iret 38 X Y rfl dX10_copy_38 () (by rw [hq]; try rfl) (by rw [hq]; try rfl)
  · refine jv_iconst (v := 5) 19 X dX10_copy_19 rfl ?_
    have hq : f_copy now k = (5, now) := by simp [f_copy, lt_nle, -Int32.not_le, c_1]
    exact jv_iret 20 X Y rfl dX10_copy_20 () (by rw [hq]; try rfl) (by rw [hq]; try rfl)
theorem c_X10_lay (E : EE) (l : Launch) (a : Nat → Nat) (book : Nat → Int32) (now : Nat → Int32) (week : Nat → Int32) (sights : Int32) (sight : Nat → Int32) (signs : Int32) (pad : Nat → Int32) (metAt : Int32) (metWho : Int32) (reason : Int32) (acts : Int32) (atp : Int32) (will : Nat → Int32) (fitting : Nat → Int32) (counts : Nat → Int32) (ring : Nat → Int32) (nxt : Nat → Int32) (wins : Nat → Int32) (ways : Nat → Int64) (nextWays : Nat → Int64) (image : Nat → Int32) (isKept : Nat → Int32) (k : Nat) (hk : k < 6) : CT E l yX10_lay cX10_lay 2 (some .int) { frames := 0, cells := 0, slots := 0, locals := 0 } [.ref (a 0), .int (nI k)] (bMd E a book now week sights sight signs pad metAt metWho reason acts atp will fitting counts ring nxt wins ways nextWays image isKept) (some (.int ((f_lay now k).1))) (bMd E a book ((f_lay now k).2) week sights sight signs pad metAt metWho reason acts atp will fitting counts ring nxt wins ways nextWays image isKept) := by
  refine CT.intro (by decide) (Nat.le_of_ble_eq_true rfl) (fun K X Y => ?_)
  refine jv_aload_n 0 X dX10_lay_0 0 rfl ?_
  refine jv_get (v := .ref (a 2)) 1 X gf_X10_13 dX10_lay_1 0 rfl rfl ?_
  refine jv_bipush (v := 12) 4 X dX10_lay_4 (by decide) ?_
  refine jv_iload_n 6 X dX10_lay_6 1 rfl ?_
  refine jv_iadd 7 X dX10_lay_7 ?_
  refine jv_norm (x2 := nI (12 + k)) (nx_add2 (a := 12) (b := k) rfl rfl (by omega)) ?_
  refine jv_iald (f := now) 8 X dX10_lay_8 2 rfl (by decide) (12 + k) rfl (by omega) ?_
  refine jn_if_ne 9 X dX10_lay_9 14 (by decide) (fun c_1 => ?_) (fun c_1 => ?_)
  · refine jv_aload_n 14 X dX10_lay_14 0 rfl ?_
    refine jv_get (v := .ref (a 2)) 15 X gf_X10_13 dX10_lay_15 0 rfl rfl ?_
    refine jv_bipush (v := 12) 18 X dX10_lay_18 (by decide) ?_
    refine jv_iload_n 20 X dX10_lay_20 1 rfl ?_
    refine jv_iadd 21 X dX10_lay_21 ?_
    refine jv_norm (x2 := nI (12 + k)) (nx_add2 (a := 12) (b := k) rfl rfl (by omega)) ?_
    refine jv_iconst (v := 0) 22 X dX10_lay_22 rfl ?_
    refine jv_iast (ws2 := bMd E a book (upd now (12 + k) 0) week sights sight signs pad metAt metWho reason acts atp will fitting counts ring nxt wins ways nextWays image isKept) (f := now) 23 X dX10_lay_23 2 rfl (by decide) (12 + k) rfl (by omega) rfl ?_
    refine jv_iconst (v := 0) 24 X dX10_lay_24 rfl ?_
    have hq : f_lay now k = (0, (upd now (12 + k) 0)) := by simp [f_lay, lt_nle, -Int32.not_le, c_1]
    exact jv_iret 25 X Y rfl dX10_lay_25 () (by rw [hq]; try rfl) (by rw [hq]; try rfl)
  · refine jv_iconst (v := 5) 12 X dX10_lay_12 rfl ?_
    have hq : f_lay now k = (5, now) := by simp [f_lay, lt_nle, -Int32.not_le, c_1]
    exact jv_iret 13 X Y rfl dX10_lay_13 () (by rw [hq]; try rfl) (by rw [hq]; try rfl)
theorem c_X10_endDay (E : EE) (l : Launch) (a : Nat → Nat) (book : Nat → Int32) (now : Nat → Int32) (week : Nat → Int32) (sights : Int32) (sight : Nat → Int32) (signs : Int32) (pad : Nat → Int32) (metAt : Int32) (metWho : Int32) (reason : Int32) (acts : Int32) (atp : Int32) (will : Nat → Int32) (fitting : Nat → Int32) (counts : Nat → Int32) (ring : Nat → Int32) (nxt : Nat → Int32) (wins : Nat → Int32) (ways : Nat → Int64) (nextWays : Nat → Int64) (image : Nat → Int32) (isKept : Nat → Int32) (d : Nat) (hd : now 39 = nI d) (hd2 : d ≤ 999) : CT E l yX10_endDay cX10_endDay 1 (some .int) { frames := 1, cells := 0, slots := 0, locals := 20 } [.ref (a 0)] (bMd E a book now week sights sight signs pad metAt metWho reason acts atp will fitting counts ring nxt wins ways nextWays image isKept) (some (.int ((f_endDay now week d).1))) (bMd E a book ((f_endDay now week d).2) week sights sight signs pad metAt metWho reason acts atp will fitting counts ring nxt wins ways nextWays image isKept) := by
  refine CT.intro (by decide) (Nat.le_of_ble_eq_true rfl) (fun K X Y => ?_)
  refine jv_aload_n 0 X dX10_endDay_0 0 rfl ?_
  refine jv_get (v := .ref (a 2)) 1 X gf_X10_13 dX10_endDay_1 0 rfl rfl ?_
  refine jv_bipush (v := 39) 4 X dX10_endDay_4 (by decide) ?_
  refine jv_iald (f := now) 6 X dX10_endDay_6 2 rfl (by decide) 39 rfl (by omega) ?_
  refine jv_sipush (v := 999) 7 X dX10_endDay_7 (by decide) ?_
  refine jn_icmp_ne 10 X dX10_endDay_10 16 (by decide) (fun c_1 => ?_) (fun c_1 => ?_)
  · refine jv_aload_n 16 X dX10_endDay_16 0 rfl ?_
    refine jv_get (v := .ref (a 2)) 17 X gf_X10_13 dX10_endDay_17 0 rfl rfl ?_
    refine jv_bipush (v := 38) 20 X dX10_endDay_20 (by decide) ?_
    refine jv_aload_n 22 X dX10_endDay_22 0 rfl ?_
    refine jv_get (v := .ref (a 2)) 23 X gf_X10_13 dX10_endDay_23 0 rfl rfl ?_
    refine jv_bipush (v := 38) 26 X dX10_endDay_26 (by decide) ?_
    refine jv_iald (f := now) 28 X dX10_endDay_28 2 rfl (by decide) 38 rfl (by omega) ?_
    refine jv_aload_n 29 X dX10_endDay_29 0 rfl ?_
    refine jv_get (v := .ref (a 3)) 30 X gf_X10_16 dX10_endDay_30 0 rfl rfl ?_
    refine jv_aload_n 33 X dX10_endDay_33 0 rfl ?_
    refine jv_get (v := .ref (a 2)) 34 X gf_X10_13 dX10_endDay_34 0 rfl rfl ?_
    refine jv_bipush (v := 39) 37 X dX10_endDay_37 (by decide) ?_
    refine jv_iald (f := now) 39 X dX10_endDay_39 2 rfl (by decide) 39 rfl (by omega) ?_
    refine jv_bipush (v := 7) 40 X dX10_endDay_40 (by decide) ?_
    refine jv_irem 42 X dX10_endDay_42 (by decide) ?_
    refine jv_norm (x2 := nI (d % 7)) (nx_rem (a := d) (b := 7) hd rfl (by omega) (by omega) (by omega)) ?_
    refine jv_iald (f := week) 43 X dX10_endDay_43 3 rfl (by decide) (d % 7) rfl (by omega) ?_
    refine jv_iadd 44 X dX10_endDay_44 ?_
    refine jv_fun 45 X (c_X10_clamp E _ ((now 38) + (week (d % 7)))) ws_X10_97 ⟨Nat.le_of_ble_eq_true rfl, Nat.le_of_ble_eq_true rfl⟩ ⟨rfl, rfl⟩ ⟨Nat.zero_le _, Nat.zero_le _⟩ dX10_endDay_45 rfl [.int 38, .ref (a 2)] rfl (Nat.le_of_ble_eq_true rfl) ?_
    refine jv_iast (ws2 := bMd E a book (upd now 38 (clampI ((now 38) + (week (d % 7))))) week sights sight signs pad metAt metWho reason acts atp will fitting counts ring nxt wins ways nextWays image isKept) (f := now) 48 X dX10_endDay_48 2 rfl (by decide) 38 rfl (by omega) rfl ?_
    refine jv_aload_n 49 X dX10_endDay_49 0 rfl ?_
    refine jv_get (v := .ref (a 2)) 50 X gf_X10_13 dX10_endDay_50 0 rfl rfl ?_
    refine jv_bipush (v := 39) 53 X dX10_endDay_53 (by decide) ?_
    refine jv_dup2 55 X dX10_endDay_55 rfl rfl ?_
    refine jv_iald (f := (upd now 38 (clampI ((now 38) + (week (d % 7)))))) 56 X dX10_endDay_56 2 rfl (by decide) 39 rfl (by omega) ?_
    refine jv_iconst (v := 1) 57 X dX10_endDay_57 rfl ?_
    refine jv_iadd 58 X dX10_endDay_58 ?_
    refine jv_iast (ws2 := bMd E a book (upd (upd now 38 (clampI ((now 38) + (week (d % 7))))) 39 (((upd now 38 (clampI ((now 38) + (week (d % 7))))) 39) + 1)) week sights sight signs pad metAt metWho reason acts atp will fitting counts ring nxt wins ways nextWays image isKept) (f := (upd now 38 (clampI ((now 38) + (week (d % 7)))))) 59 X dX10_endDay_59 2 rfl (by decide) 39 rfl (by omega) rfl ?_
    refine jv_iconst (v := 0) 60 X dX10_endDay_60 rfl ?_
    have hq : f_endDay now week d = (0, (upd (upd now 38 (clampI ((now 38) + (week (d % 7))))) 39 (((upd now 38 (clampI ((now 38) + (week (d % 7))))) 39) + 1))) := by simp [f_endDay, pk_un, lt_nle, -Int32.not_le, c_1]
    exact jv_iret 61 X Y rfl dX10_endDay_61 () (by rw [hq]; try rfl) (by rw [hq]; try rfl)
  · refine jv_bipush (v := 6) 13 X dX10_endDay_13 (by decide) ?_
    have hq : f_endDay now week d = (6, now) := by simp [f_endDay, pk_un, lt_nle, -Int32.not_le, c_1]
    exact jv_iret 15 X Y rfl dX10_endDay_15 () (by rw [hq]; try rfl) (by rw [hq]; try rfl)
theorem c_X10_met (E : EE) (l : Launch) (a : Nat → Nat) (book : Nat → Int32) (now : Nat → Int32) (week : Nat → Int32) (sights : Int32) (sight : Nat → Int32) (signs : Int32) (pad : Nat → Int32) (metAt : Int32) (metWho : Int32) (reason : Int32) (acts : Int32) (atp : Int32) (will : Nat → Int32) (fitting : Nat → Int32) (counts : Nat → Int32) (ring : Nat → Int32) (nxt : Nat → Int32) (wins : Nat → Int32) (ways : Nat → Int64) (nextWays : Nat → Int64) (image : Nat → Int32) (isKept : Nat → Int32) : CT E l yX10_met cX10_met 3 (some .int) { frames := 1, cells := 0, slots := 0, locals := 21 } [.ref (a 0)] (bMd E a book now week sights sight signs pad metAt metWho reason acts atp will fitting counts ring nxt wins ways nextWays image isKept) (some (.int (metS now))) (bMd E a book now week sights sight signs pad metAt metWho reason acts atp will fitting counts ring nxt wins ways nextWays image isKept) := by
  refine CT.intro (by decide) (Nat.le_of_ble_eq_true rfl) (fun K X Y => ?_)
  refine jv_iconst (v := 0) 0 X dX10_met_0 rfl ?_
  refine jv_istore_n (lv2 := [(1, .int 0), (0, .ref (a 0))]) 1 X dX10_met_1 (by decide) rfl ?_
  refine jv_iconst (v := 0) 2 X dX10_met_2 rfl ?_
  refine jv_istore_n (lv2 := [(2, .int 0), (1, .int 0), (0, .ref (a 0))]) 3 X dX10_met_3 (by decide) rfl ?_
  refine jv_iload_n 4 X dX10_met_4 0 rfl ?_
  refine jv_iconst (v := 4) 5 X dX10_met_5 rfl ?_
  refine jn_icmp_ge 6 X dX10_met_6 33 (by decide) (fun c_1 => absurd c_1 (by decide)) (fun _ => ?_)
  refine jv_iload_n 9 X dX10_met_9 1 rfl ?_
  refine jv_aload_n 10 X dX10_met_10 2 rfl ?_
  refine jv_iload_n 11 X dX10_met_11 0 rfl ?_
  refine jv_callW (w1 := bMd E a book now week sights sight signs pad metAt metWho reason acts atp will fitting counts ring nxt wins ways nextWays image isKept) 12 X (c_X10_hasMet E _ a book now week sights sight signs pad metAt metWho reason acts atp will fitting counts ring nxt wins ways nextWays image isKept 0 (by omega)) wv_X10_94 ⟨Nat.le_of_ble_eq_true rfl, Nat.le_of_ble_eq_true rfl⟩ ⟨rfl, rfl⟩ ⟨Nat.zero_le _, Nat.zero_le _⟩ dX10_met_12 rfl [.int 0] rfl (Nat.le_of_ble_eq_true rfl) 0 rfl rfl ?_
  refine jv_z_eq 15 X dX10_met_15 24 (by decide) (fun c_2 => ?_) (fun c_2 => ?_)
  · refine jv_iconst (v := 0) 24 X dX10_met_24 rfl ?_
    refine jv_ior 25 X dX10_met_25 ?_
    refine jv_istore_n (lv2 := [(1, .int (0 ||| 0)), (2, .int 0), (0, .ref (a 0))]) 26 X dX10_met_26 (by decide) rfl ?_
    refine jv_iinc (v := 1) (lv2 := [(2, .int 1), (1, .int (0 ||| 0)), (0, .ref (a 0))]) 27 X dX10_met_27 1 rfl (by decide) (by decide) rfl ?_
    refine jv_goto 30 X dX10_met_30 4 (by decide) ?_
    refine jv_iload_n 4 X dX10_met_4 0 rfl ?_
    refine jv_iconst (v := 4) 5 X dX10_met_5 rfl ?_
    refine jn_icmp_ge 6 X dX10_met_6 33 (by decide) (fun c_3 => absurd c_3 (by decide)) (fun _ => ?_)
    refine jv_iload_n 9 X dX10_met_9 1 rfl ?_
    refine jv_aload_n 10 X dX10_met_10 2 rfl ?_
    refine jv_iload_n 11 X dX10_met_11 0 rfl ?_
    refine jv_callW (w1 := bMd E a book now week sights sight signs pad metAt metWho reason acts atp will fitting counts ring nxt wins ways nextWays image isKept) 12 X (c_X10_hasMet E _ a book now week sights sight signs pad metAt metWho reason acts atp will fitting counts ring nxt wins ways nextWays image isKept 1 (by omega)) wv_X10_94 ⟨Nat.le_of_ble_eq_true rfl, Nat.le_of_ble_eq_true rfl⟩ ⟨rfl, rfl⟩ ⟨Nat.zero_le _, Nat.zero_le _⟩ dX10_met_12 rfl [.int (0 ||| 0)] rfl (Nat.le_of_ble_eq_true rfl) 0 rfl rfl ?_
    refine jv_z_eq 15 X dX10_met_15 24 (by decide) (fun c_4 => ?_) (fun c_4 => ?_)
    · refine jv_iconst (v := 0) 24 X dX10_met_24 rfl ?_
      refine jv_ior 25 X dX10_met_25 ?_
      refine jv_istore_n (lv2 := [(1, .int ((0 ||| 0) ||| 0)), (2, .int 1), (0, .ref (a 0))]) 26 X dX10_met_26 (by decide) rfl ?_
      refine jv_iinc (v := 2) (lv2 := [(2, .int 2), (1, .int ((0 ||| 0) ||| 0)), (0, .ref (a 0))]) 27 X dX10_met_27 1 rfl (by decide) (by decide) rfl ?_
      refine jv_goto 30 X dX10_met_30 4 (by decide) ?_
      refine jv_iload_n 4 X dX10_met_4 0 rfl ?_
      refine jv_iconst (v := 4) 5 X dX10_met_5 rfl ?_
      refine jn_icmp_ge 6 X dX10_met_6 33 (by decide) (fun c_5 => absurd c_5 (by decide)) (fun _ => ?_)
      refine jv_iload_n 9 X dX10_met_9 1 rfl ?_
      refine jv_aload_n 10 X dX10_met_10 2 rfl ?_
      refine jv_iload_n 11 X dX10_met_11 0 rfl ?_
      refine jv_callW (w1 := bMd E a book now week sights sight signs pad metAt metWho reason acts atp will fitting counts ring nxt wins ways nextWays image isKept) 12 X (c_X10_hasMet E _ a book now week sights sight signs pad metAt metWho reason acts atp will fitting counts ring nxt wins ways nextWays image isKept 2 (by omega)) wv_X10_94 ⟨Nat.le_of_ble_eq_true rfl, Nat.le_of_ble_eq_true rfl⟩ ⟨rfl, rfl⟩ ⟨Nat.zero_le _, Nat.zero_le _⟩ dX10_met_12 rfl [.int ((0 ||| 0) ||| 0)] rfl (Nat.le_of_ble_eq_true rfl) 0 rfl rfl ?_
      refine jv_z_eq 15 X dX10_met_15 24 (by decide) (fun c_6 => ?_) (fun c_6 => ?_)
      · refine jv_iconst (v := 0) 24 X dX10_met_24 rfl ?_
        refine jv_ior 25 X dX10_met_25 ?_
        refine jv_istore_n (lv2 := [(1, .int (((0 ||| 0) ||| 0) ||| 0)), (2, .int 2), (0, .ref (a 0))]) 26 X dX10_met_26 (by decide) rfl ?_
        refine jv_iinc (v := 3) (lv2 := [(2, .int 3), (1, .int (((0 ||| 0) ||| 0) ||| 0)), (0, .ref (a 0))]) 27 X dX10_met_27 1 rfl (by decide) (by decide) rfl ?_
        refine jv_goto 30 X dX10_met_30 4 (by decide) ?_
        refine jv_iload_n 4 X dX10_met_4 0 rfl ?_
        refine jv_iconst (v := 4) 5 X dX10_met_5 rfl ?_
        refine jn_icmp_ge 6 X dX10_met_6 33 (by decide) (fun c_7 => absurd c_7 (by decide)) (fun _ => ?_)
        refine jv_iload_n 9 X dX10_met_9 1 rfl ?_
        refine jv_aload_n 10 X dX10_met_10 2 rfl ?_
        refine jv_iload_n 11 X dX10_met_11 0 rfl ?_
        refine jv_callW (w1 := bMd E a book now week sights sight signs pad metAt metWho reason acts atp will fitting counts ring nxt wins ways nextWays image isKept) 12 X (c_X10_hasMet E _ a book now week sights sight signs pad metAt metWho reason acts atp will fitting counts ring nxt wins ways nextWays image isKept 3 (by omega)) wv_X10_94 ⟨Nat.le_of_ble_eq_true rfl, Nat.le_of_ble_eq_true rfl⟩ ⟨rfl, rfl⟩ ⟨Nat.zero_le _, Nat.zero_le _⟩ dX10_met_12 rfl [.int (((0 ||| 0) ||| 0) ||| 0)] rfl (Nat.le_of_ble_eq_true rfl) 0 rfl rfl ?_
        refine jv_z_eq 15 X dX10_met_15 24 (by decide) (fun c_8 => ?_) (fun c_8 => ?_)
        · refine jv_iconst (v := 0) 24 X dX10_met_24 rfl ?_
          refine jv_ior 25 X dX10_met_25 ?_
          refine jv_istore_n (lv2 := [(1, .int ((((0 ||| 0) ||| 0) ||| 0) ||| 0)), (2, .int 3), (0, .ref (a 0))]) 26 X dX10_met_26 (by decide) rfl ?_
          refine jv_iinc (v := 4) (lv2 := [(2, .int 4), (1, .int ((((0 ||| 0) ||| 0) ||| 0) ||| 0)), (0, .ref (a 0))]) 27 X dX10_met_27 1 rfl (by decide) (by decide) rfl ?_
          refine jv_goto 30 X dX10_met_30 4 (by decide) ?_
          refine jv_iload_n 4 X dX10_met_4 0 rfl ?_
          refine jv_iconst (v := 4) 5 X dX10_met_5 rfl ?_
          refine jn_icmp_ge 6 X dX10_met_6 33 (by decide) (fun _ => ?_) (fun c_9 => absurd c_9 (by decide))
          refine jv_iload_n 33 X dX10_met_33 1 rfl ?_
          exact jv_iret 34 X Y rfl dX10_met_34 () (congrArg (fun z => some (Value.int z)) (by simp only [metS, c_2, c_4, c_6, c_8, if_true, if_false])) rfl
        · refine jv_iconst (v := 1) 18 X dX10_met_18 rfl ?_
          refine jv_iload_n 19 X dX10_met_19 0 rfl ?_
          refine jv_ishl 20 X dX10_met_20 ?_
          refine jv_goto 21 X dX10_met_21 25 (by decide) ?_
          refine jv_ior 25 X dX10_met_25 ?_
          refine jv_istore_n (lv2 := [(1, .int ((((0 ||| 0) ||| 0) ||| 0) ||| ((1 : Int32) <<< ((3 : Int32) &&& 31)))), (2, .int 3), (0, .ref (a 0))]) 26 X dX10_met_26 (by decide) rfl ?_
          refine jv_iinc (v := 4) (lv2 := [(2, .int 4), (1, .int ((((0 ||| 0) ||| 0) ||| 0) ||| ((1 : Int32) <<< ((3 : Int32) &&& 31)))), (0, .ref (a 0))]) 27 X dX10_met_27 1 rfl (by decide) (by decide) rfl ?_
          refine jv_goto 30 X dX10_met_30 4 (by decide) ?_
          refine jv_iload_n 4 X dX10_met_4 0 rfl ?_
          refine jv_iconst (v := 4) 5 X dX10_met_5 rfl ?_
          refine jn_icmp_ge 6 X dX10_met_6 33 (by decide) (fun _ => ?_) (fun c_10 => absurd c_10 (by decide))
          refine jv_iload_n 33 X dX10_met_33 1 rfl ?_
          exact jv_iret 34 X Y rfl dX10_met_34 () (congrArg (fun z => some (Value.int z)) (by simp only [metS, c_2, c_4, c_6, c_8, if_true, if_false])) rfl
      · refine jv_iconst (v := 1) 18 X dX10_met_18 rfl ?_
        refine jv_iload_n 19 X dX10_met_19 0 rfl ?_
        refine jv_ishl 20 X dX10_met_20 ?_
        refine jv_goto 21 X dX10_met_21 25 (by decide) ?_
        refine jv_ior 25 X dX10_met_25 ?_
        refine jv_istore_n (lv2 := [(1, .int (((0 ||| 0) ||| 0) ||| ((1 : Int32) <<< ((2 : Int32) &&& 31)))), (2, .int 2), (0, .ref (a 0))]) 26 X dX10_met_26 (by decide) rfl ?_
        refine jv_iinc (v := 3) (lv2 := [(2, .int 3), (1, .int (((0 ||| 0) ||| 0) ||| ((1 : Int32) <<< ((2 : Int32) &&& 31)))), (0, .ref (a 0))]) 27 X dX10_met_27 1 rfl (by decide) (by decide) rfl ?_
        refine jv_goto 30 X dX10_met_30 4 (by decide) ?_
        refine jv_iload_n 4 X dX10_met_4 0 rfl ?_
        refine jv_iconst (v := 4) 5 X dX10_met_5 rfl ?_
        refine jn_icmp_ge 6 X dX10_met_6 33 (by decide) (fun c_11 => absurd c_11 (by decide)) (fun _ => ?_)
        refine jv_iload_n 9 X dX10_met_9 1 rfl ?_
        refine jv_aload_n 10 X dX10_met_10 2 rfl ?_
        refine jv_iload_n 11 X dX10_met_11 0 rfl ?_
        refine jv_callW (w1 := bMd E a book now week sights sight signs pad metAt metWho reason acts atp will fitting counts ring nxt wins ways nextWays image isKept) 12 X (c_X10_hasMet E _ a book now week sights sight signs pad metAt metWho reason acts atp will fitting counts ring nxt wins ways nextWays image isKept 3 (by omega)) wv_X10_94 ⟨Nat.le_of_ble_eq_true rfl, Nat.le_of_ble_eq_true rfl⟩ ⟨rfl, rfl⟩ ⟨Nat.zero_le _, Nat.zero_le _⟩ dX10_met_12 rfl [.int (((0 ||| 0) ||| 0) ||| ((1 : Int32) <<< ((2 : Int32) &&& 31)))] rfl (Nat.le_of_ble_eq_true rfl) 0 rfl rfl ?_
        refine jv_z_eq 15 X dX10_met_15 24 (by decide) (fun c_12 => ?_) (fun c_12 => ?_)
        · refine jv_iconst (v := 0) 24 X dX10_met_24 rfl ?_
          refine jv_ior 25 X dX10_met_25 ?_
          refine jv_istore_n (lv2 := [(1, .int ((((0 ||| 0) ||| 0) ||| ((1 : Int32) <<< ((2 : Int32) &&& 31))) ||| 0)), (2, .int 3), (0, .ref (a 0))]) 26 X dX10_met_26 (by decide) rfl ?_
          refine jv_iinc (v := 4) (lv2 := [(2, .int 4), (1, .int ((((0 ||| 0) ||| 0) ||| ((1 : Int32) <<< ((2 : Int32) &&& 31))) ||| 0)), (0, .ref (a 0))]) 27 X dX10_met_27 1 rfl (by decide) (by decide) rfl ?_
          refine jv_goto 30 X dX10_met_30 4 (by decide) ?_
          refine jv_iload_n 4 X dX10_met_4 0 rfl ?_
          refine jv_iconst (v := 4) 5 X dX10_met_5 rfl ?_
          refine jn_icmp_ge 6 X dX10_met_6 33 (by decide) (fun _ => ?_) (fun c_13 => absurd c_13 (by decide))
          refine jv_iload_n 33 X dX10_met_33 1 rfl ?_
          exact jv_iret 34 X Y rfl dX10_met_34 () (congrArg (fun z => some (Value.int z)) (by simp only [metS, c_2, c_4, c_6, c_12, if_true, if_false])) rfl
        · refine jv_iconst (v := 1) 18 X dX10_met_18 rfl ?_
          refine jv_iload_n 19 X dX10_met_19 0 rfl ?_
          refine jv_ishl 20 X dX10_met_20 ?_
          refine jv_goto 21 X dX10_met_21 25 (by decide) ?_
          refine jv_ior 25 X dX10_met_25 ?_
          refine jv_istore_n (lv2 := [(1, .int ((((0 ||| 0) ||| 0) ||| ((1 : Int32) <<< ((2 : Int32) &&& 31))) ||| ((1 : Int32) <<< ((3 : Int32) &&& 31)))), (2, .int 3), (0, .ref (a 0))]) 26 X dX10_met_26 (by decide) rfl ?_
          refine jv_iinc (v := 4) (lv2 := [(2, .int 4), (1, .int ((((0 ||| 0) ||| 0) ||| ((1 : Int32) <<< ((2 : Int32) &&& 31))) ||| ((1 : Int32) <<< ((3 : Int32) &&& 31)))), (0, .ref (a 0))]) 27 X dX10_met_27 1 rfl (by decide) (by decide) rfl ?_
          refine jv_goto 30 X dX10_met_30 4 (by decide) ?_
          refine jv_iload_n 4 X dX10_met_4 0 rfl ?_
          refine jv_iconst (v := 4) 5 X dX10_met_5 rfl ?_
          refine jn_icmp_ge 6 X dX10_met_6 33 (by decide) (fun _ => ?_) (fun c_14 => absurd c_14 (by decide))
          refine jv_iload_n 33 X dX10_met_33 1 rfl ?_
          exact jv_iret 34 X Y rfl dX10_met_34 () (congrArg (fun z => some (Value.int z)) (by simp only [metS, c_2, c_4, c_6, c_12, if_true, if_false])) rfl
    · refine jv_iconst (v := 1) 18 X dX10_met_18 rfl ?_
      refine jv_iload_n 19 X dX10_met_19 0 rfl ?_
      refine jv_ishl 20 X dX10_met_20 ?_
      refine jv_goto 21 X dX10_met_21 25 (by decide) ?_
      refine jv_ior 25 X dX10_met_25 ?_
      refine jv_istore_n (lv2 := [(1, .int ((0 ||| 0) ||| ((1 : Int32) <<< ((1 : Int32) &&& 31)))), (2, .int 1), (0, .ref (a 0))]) 26 X dX10_met_26 (by decide) rfl ?_
      refine jv_iinc (v := 2) (lv2 := [(2, .int 2), (1, .int ((0 ||| 0) ||| ((1 : Int32) <<< ((1 : Int32) &&& 31)))), (0, .ref (a 0))]) 27 X dX10_met_27 1 rfl (by decide) (by decide) rfl ?_
      refine jv_goto 30 X dX10_met_30 4 (by decide) ?_
      refine jv_iload_n 4 X dX10_met_4 0 rfl ?_
      refine jv_iconst (v := 4) 5 X dX10_met_5 rfl ?_
      refine jn_icmp_ge 6 X dX10_met_6 33 (by decide) (fun c_15 => absurd c_15 (by decide)) (fun _ => ?_)
      refine jv_iload_n 9 X dX10_met_9 1 rfl ?_
      refine jv_aload_n 10 X dX10_met_10 2 rfl ?_
      refine jv_iload_n 11 X dX10_met_11 0 rfl ?_
      refine jv_callW (w1 := bMd E a book now week sights sight signs pad metAt metWho reason acts atp will fitting counts ring nxt wins ways nextWays image isKept) 12 X (c_X10_hasMet E _ a book now week sights sight signs pad metAt metWho reason acts atp will fitting counts ring nxt wins ways nextWays image isKept 2 (by omega)) wv_X10_94 ⟨Nat.le_of_ble_eq_true rfl, Nat.le_of_ble_eq_true rfl⟩ ⟨rfl, rfl⟩ ⟨Nat.zero_le _, Nat.zero_le _⟩ dX10_met_12 rfl [.int ((0 ||| 0) ||| ((1 : Int32) <<< ((1 : Int32) &&& 31)))] rfl (Nat.le_of_ble_eq_true rfl) 0 rfl rfl ?_
      refine jv_z_eq 15 X dX10_met_15 24 (by decide) (fun c_16 => ?_) (fun c_16 => ?_)
      · refine jv_iconst (v := 0) 24 X dX10_met_24 rfl ?_
        refine jv_ior 25 X dX10_met_25 ?_
        refine jv_istore_n (lv2 := [(1, .int (((0 ||| 0) ||| ((1 : Int32) <<< ((1 : Int32) &&& 31))) ||| 0)), (2, .int 2), (0, .ref (a 0))]) 26 X dX10_met_26 (by decide) rfl ?_
        refine jv_iinc (v := 3) (lv2 := [(2, .int 3), (1, .int (((0 ||| 0) ||| ((1 : Int32) <<< ((1 : Int32) &&& 31))) ||| 0)), (0, .ref (a 0))]) 27 X dX10_met_27 1 rfl (by decide) (by decide) rfl ?_
        refine jv_goto 30 X dX10_met_30 4 (by decide) ?_
        refine jv_iload_n 4 X dX10_met_4 0 rfl ?_
        refine jv_iconst (v := 4) 5 X dX10_met_5 rfl ?_
        refine jn_icmp_ge 6 X dX10_met_6 33 (by decide) (fun c_17 => absurd c_17 (by decide)) (fun _ => ?_)
        refine jv_iload_n 9 X dX10_met_9 1 rfl ?_
        refine jv_aload_n 10 X dX10_met_10 2 rfl ?_
        refine jv_iload_n 11 X dX10_met_11 0 rfl ?_
        refine jv_callW (w1 := bMd E a book now week sights sight signs pad metAt metWho reason acts atp will fitting counts ring nxt wins ways nextWays image isKept) 12 X (c_X10_hasMet E _ a book now week sights sight signs pad metAt metWho reason acts atp will fitting counts ring nxt wins ways nextWays image isKept 3 (by omega)) wv_X10_94 ⟨Nat.le_of_ble_eq_true rfl, Nat.le_of_ble_eq_true rfl⟩ ⟨rfl, rfl⟩ ⟨Nat.zero_le _, Nat.zero_le _⟩ dX10_met_12 rfl [.int (((0 ||| 0) ||| ((1 : Int32) <<< ((1 : Int32) &&& 31))) ||| 0)] rfl (Nat.le_of_ble_eq_true rfl) 0 rfl rfl ?_
        refine jv_z_eq 15 X dX10_met_15 24 (by decide) (fun c_18 => ?_) (fun c_18 => ?_)
        · refine jv_iconst (v := 0) 24 X dX10_met_24 rfl ?_
          refine jv_ior 25 X dX10_met_25 ?_
          refine jv_istore_n (lv2 := [(1, .int ((((0 ||| 0) ||| ((1 : Int32) <<< ((1 : Int32) &&& 31))) ||| 0) ||| 0)), (2, .int 3), (0, .ref (a 0))]) 26 X dX10_met_26 (by decide) rfl ?_
          refine jv_iinc (v := 4) (lv2 := [(2, .int 4), (1, .int ((((0 ||| 0) ||| ((1 : Int32) <<< ((1 : Int32) &&& 31))) ||| 0) ||| 0)), (0, .ref (a 0))]) 27 X dX10_met_27 1 rfl (by decide) (by decide) rfl ?_
          refine jv_goto 30 X dX10_met_30 4 (by decide) ?_
          refine jv_iload_n 4 X dX10_met_4 0 rfl ?_
          refine jv_iconst (v := 4) 5 X dX10_met_5 rfl ?_
          refine jn_icmp_ge 6 X dX10_met_6 33 (by decide) (fun _ => ?_) (fun c_19 => absurd c_19 (by decide))
          refine jv_iload_n 33 X dX10_met_33 1 rfl ?_
          exact jv_iret 34 X Y rfl dX10_met_34 () (congrArg (fun z => some (Value.int z)) (by simp only [metS, c_2, c_4, c_16, c_18, if_true, if_false])) rfl
        · refine jv_iconst (v := 1) 18 X dX10_met_18 rfl ?_
          refine jv_iload_n 19 X dX10_met_19 0 rfl ?_
          refine jv_ishl 20 X dX10_met_20 ?_
          refine jv_goto 21 X dX10_met_21 25 (by decide) ?_
          refine jv_ior 25 X dX10_met_25 ?_
          refine jv_istore_n (lv2 := [(1, .int ((((0 ||| 0) ||| ((1 : Int32) <<< ((1 : Int32) &&& 31))) ||| 0) ||| ((1 : Int32) <<< ((3 : Int32) &&& 31)))), (2, .int 3), (0, .ref (a 0))]) 26 X dX10_met_26 (by decide) rfl ?_
          refine jv_iinc (v := 4) (lv2 := [(2, .int 4), (1, .int ((((0 ||| 0) ||| ((1 : Int32) <<< ((1 : Int32) &&& 31))) ||| 0) ||| ((1 : Int32) <<< ((3 : Int32) &&& 31)))), (0, .ref (a 0))]) 27 X dX10_met_27 1 rfl (by decide) (by decide) rfl ?_
          refine jv_goto 30 X dX10_met_30 4 (by decide) ?_
          refine jv_iload_n 4 X dX10_met_4 0 rfl ?_
          refine jv_iconst (v := 4) 5 X dX10_met_5 rfl ?_
          refine jn_icmp_ge 6 X dX10_met_6 33 (by decide) (fun _ => ?_) (fun c_20 => absurd c_20 (by decide))
          refine jv_iload_n 33 X dX10_met_33 1 rfl ?_
          exact jv_iret 34 X Y rfl dX10_met_34 () (congrArg (fun z => some (Value.int z)) (by simp only [metS, c_2, c_4, c_16, c_18, if_true, if_false])) rfl
      · refine jv_iconst (v := 1) 18 X dX10_met_18 rfl ?_
        refine jv_iload_n 19 X dX10_met_19 0 rfl ?_
        refine jv_ishl 20 X dX10_met_20 ?_
        refine jv_goto 21 X dX10_met_21 25 (by decide) ?_
        refine jv_ior 25 X dX10_met_25 ?_
        refine jv_istore_n (lv2 := [(1, .int (((0 ||| 0) ||| ((1 : Int32) <<< ((1 : Int32) &&& 31))) ||| ((1 : Int32) <<< ((2 : Int32) &&& 31)))), (2, .int 2), (0, .ref (a 0))]) 26 X dX10_met_26 (by decide) rfl ?_
        refine jv_iinc (v := 3) (lv2 := [(2, .int 3), (1, .int (((0 ||| 0) ||| ((1 : Int32) <<< ((1 : Int32) &&& 31))) ||| ((1 : Int32) <<< ((2 : Int32) &&& 31)))), (0, .ref (a 0))]) 27 X dX10_met_27 1 rfl (by decide) (by decide) rfl ?_
        refine jv_goto 30 X dX10_met_30 4 (by decide) ?_
        refine jv_iload_n 4 X dX10_met_4 0 rfl ?_
        refine jv_iconst (v := 4) 5 X dX10_met_5 rfl ?_
        refine jn_icmp_ge 6 X dX10_met_6 33 (by decide) (fun c_21 => absurd c_21 (by decide)) (fun _ => ?_)
        refine jv_iload_n 9 X dX10_met_9 1 rfl ?_
        refine jv_aload_n 10 X dX10_met_10 2 rfl ?_
        refine jv_iload_n 11 X dX10_met_11 0 rfl ?_
        refine jv_callW (w1 := bMd E a book now week sights sight signs pad metAt metWho reason acts atp will fitting counts ring nxt wins ways nextWays image isKept) 12 X (c_X10_hasMet E _ a book now week sights sight signs pad metAt metWho reason acts atp will fitting counts ring nxt wins ways nextWays image isKept 3 (by omega)) wv_X10_94 ⟨Nat.le_of_ble_eq_true rfl, Nat.le_of_ble_eq_true rfl⟩ ⟨rfl, rfl⟩ ⟨Nat.zero_le _, Nat.zero_le _⟩ dX10_met_12 rfl [.int (((0 ||| 0) ||| ((1 : Int32) <<< ((1 : Int32) &&& 31))) ||| ((1 : Int32) <<< ((2 : Int32) &&& 31)))] rfl (Nat.le_of_ble_eq_true rfl) 0 rfl rfl ?_
        refine jv_z_eq 15 X dX10_met_15 24 (by decide) (fun c_22 => ?_) (fun c_22 => ?_)
        · refine jv_iconst (v := 0) 24 X dX10_met_24 rfl ?_
          refine jv_ior 25 X dX10_met_25 ?_
          refine jv_istore_n (lv2 := [(1, .int ((((0 ||| 0) ||| ((1 : Int32) <<< ((1 : Int32) &&& 31))) ||| ((1 : Int32) <<< ((2 : Int32) &&& 31))) ||| 0)), (2, .int 3), (0, .ref (a 0))]) 26 X dX10_met_26 (by decide) rfl ?_
          refine jv_iinc (v := 4) (lv2 := [(2, .int 4), (1, .int ((((0 ||| 0) ||| ((1 : Int32) <<< ((1 : Int32) &&& 31))) ||| ((1 : Int32) <<< ((2 : Int32) &&& 31))) ||| 0)), (0, .ref (a 0))]) 27 X dX10_met_27 1 rfl (by decide) (by decide) rfl ?_
          refine jv_goto 30 X dX10_met_30 4 (by decide) ?_
          refine jv_iload_n 4 X dX10_met_4 0 rfl ?_
          refine jv_iconst (v := 4) 5 X dX10_met_5 rfl ?_
          refine jn_icmp_ge 6 X dX10_met_6 33 (by decide) (fun _ => ?_) (fun c_23 => absurd c_23 (by decide))
          refine jv_iload_n 33 X dX10_met_33 1 rfl ?_
          exact jv_iret 34 X Y rfl dX10_met_34 () (congrArg (fun z => some (Value.int z)) (by simp only [metS, c_2, c_4, c_16, c_22, if_true, if_false])) rfl
        · refine jv_iconst (v := 1) 18 X dX10_met_18 rfl ?_
          refine jv_iload_n 19 X dX10_met_19 0 rfl ?_
          refine jv_ishl 20 X dX10_met_20 ?_
          refine jv_goto 21 X dX10_met_21 25 (by decide) ?_
          refine jv_ior 25 X dX10_met_25 ?_
          refine jv_istore_n (lv2 := [(1, .int ((((0 ||| 0) ||| ((1 : Int32) <<< ((1 : Int32) &&& 31))) ||| ((1 : Int32) <<< ((2 : Int32) &&& 31))) ||| ((1 : Int32) <<< ((3 : Int32) &&& 31)))), (2, .int 3), (0, .ref (a 0))]) 26 X dX10_met_26 (by decide) rfl ?_
          refine jv_iinc (v := 4) (lv2 := [(2, .int 4), (1, .int ((((0 ||| 0) ||| ((1 : Int32) <<< ((1 : Int32) &&& 31))) ||| ((1 : Int32) <<< ((2 : Int32) &&& 31))) ||| ((1 : Int32) <<< ((3 : Int32) &&& 31)))), (0, .ref (a 0))]) 27 X dX10_met_27 1 rfl (by decide) (by decide) rfl ?_
          refine jv_goto 30 X dX10_met_30 4 (by decide) ?_
          refine jv_iload_n 4 X dX10_met_4 0 rfl ?_
          refine jv_iconst (v := 4) 5 X dX10_met_5 rfl ?_
          refine jn_icmp_ge 6 X dX10_met_6 33 (by decide) (fun _ => ?_) (fun c_24 => absurd c_24 (by decide))
          refine jv_iload_n 33 X dX10_met_33 1 rfl ?_
          exact jv_iret 34 X Y rfl dX10_met_34 () (congrArg (fun z => some (Value.int z)) (by simp only [metS, c_2, c_4, c_16, c_22, if_true, if_false])) rfl
  · refine jv_iconst (v := 1) 18 X dX10_met_18 rfl ?_
    refine jv_iload_n 19 X dX10_met_19 0 rfl ?_
    refine jv_ishl 20 X dX10_met_20 ?_
    refine jv_goto 21 X dX10_met_21 25 (by decide) ?_
    refine jv_ior 25 X dX10_met_25 ?_
    refine jv_istore_n (lv2 := [(1, .int (0 ||| ((1 : Int32) <<< ((0 : Int32) &&& 31)))), (2, .int 0), (0, .ref (a 0))]) 26 X dX10_met_26 (by decide) rfl ?_
    refine jv_iinc (v := 1) (lv2 := [(2, .int 1), (1, .int (0 ||| ((1 : Int32) <<< ((0 : Int32) &&& 31)))), (0, .ref (a 0))]) 27 X dX10_met_27 1 rfl (by decide) (by decide) rfl ?_
    refine jv_goto 30 X dX10_met_30 4 (by decide) ?_
    refine jv_iload_n 4 X dX10_met_4 0 rfl ?_
    refine jv_iconst (v := 4) 5 X dX10_met_5 rfl ?_
    refine jn_icmp_ge 6 X dX10_met_6 33 (by decide) (fun c_25 => absurd c_25 (by decide)) (fun _ => ?_)
    refine jv_iload_n 9 X dX10_met_9 1 rfl ?_
    refine jv_aload_n 10 X dX10_met_10 2 rfl ?_
    refine jv_iload_n 11 X dX10_met_11 0 rfl ?_
    refine jv_callW (w1 := bMd E a book now week sights sight signs pad metAt metWho reason acts atp will fitting counts ring nxt wins ways nextWays image isKept) 12 X (c_X10_hasMet E _ a book now week sights sight signs pad metAt metWho reason acts atp will fitting counts ring nxt wins ways nextWays image isKept 1 (by omega)) wv_X10_94 ⟨Nat.le_of_ble_eq_true rfl, Nat.le_of_ble_eq_true rfl⟩ ⟨rfl, rfl⟩ ⟨Nat.zero_le _, Nat.zero_le _⟩ dX10_met_12 rfl [.int (0 ||| ((1 : Int32) <<< ((0 : Int32) &&& 31)))] rfl (Nat.le_of_ble_eq_true rfl) 0 rfl rfl ?_
    refine jv_z_eq 15 X dX10_met_15 24 (by decide) (fun c_26 => ?_) (fun c_26 => ?_)
    · refine jv_iconst (v := 0) 24 X dX10_met_24 rfl ?_
      refine jv_ior 25 X dX10_met_25 ?_
      refine jv_istore_n (lv2 := [(1, .int ((0 ||| ((1 : Int32) <<< ((0 : Int32) &&& 31))) ||| 0)), (2, .int 1), (0, .ref (a 0))]) 26 X dX10_met_26 (by decide) rfl ?_
      refine jv_iinc (v := 2) (lv2 := [(2, .int 2), (1, .int ((0 ||| ((1 : Int32) <<< ((0 : Int32) &&& 31))) ||| 0)), (0, .ref (a 0))]) 27 X dX10_met_27 1 rfl (by decide) (by decide) rfl ?_
      refine jv_goto 30 X dX10_met_30 4 (by decide) ?_
      refine jv_iload_n 4 X dX10_met_4 0 rfl ?_
      refine jv_iconst (v := 4) 5 X dX10_met_5 rfl ?_
      refine jn_icmp_ge 6 X dX10_met_6 33 (by decide) (fun c_27 => absurd c_27 (by decide)) (fun _ => ?_)
      refine jv_iload_n 9 X dX10_met_9 1 rfl ?_
      refine jv_aload_n 10 X dX10_met_10 2 rfl ?_
      refine jv_iload_n 11 X dX10_met_11 0 rfl ?_
      refine jv_callW (w1 := bMd E a book now week sights sight signs pad metAt metWho reason acts atp will fitting counts ring nxt wins ways nextWays image isKept) 12 X (c_X10_hasMet E _ a book now week sights sight signs pad metAt metWho reason acts atp will fitting counts ring nxt wins ways nextWays image isKept 2 (by omega)) wv_X10_94 ⟨Nat.le_of_ble_eq_true rfl, Nat.le_of_ble_eq_true rfl⟩ ⟨rfl, rfl⟩ ⟨Nat.zero_le _, Nat.zero_le _⟩ dX10_met_12 rfl [.int ((0 ||| ((1 : Int32) <<< ((0 : Int32) &&& 31))) ||| 0)] rfl (Nat.le_of_ble_eq_true rfl) 0 rfl rfl ?_
      refine jv_z_eq 15 X dX10_met_15 24 (by decide) (fun c_28 => ?_) (fun c_28 => ?_)
      · refine jv_iconst (v := 0) 24 X dX10_met_24 rfl ?_
        refine jv_ior 25 X dX10_met_25 ?_
        refine jv_istore_n (lv2 := [(1, .int (((0 ||| ((1 : Int32) <<< ((0 : Int32) &&& 31))) ||| 0) ||| 0)), (2, .int 2), (0, .ref (a 0))]) 26 X dX10_met_26 (by decide) rfl ?_
        refine jv_iinc (v := 3) (lv2 := [(2, .int 3), (1, .int (((0 ||| ((1 : Int32) <<< ((0 : Int32) &&& 31))) ||| 0) ||| 0)), (0, .ref (a 0))]) 27 X dX10_met_27 1 rfl (by decide) (by decide) rfl ?_
        refine jv_goto 30 X dX10_met_30 4 (by decide) ?_
        refine jv_iload_n 4 X dX10_met_4 0 rfl ?_
        refine jv_iconst (v := 4) 5 X dX10_met_5 rfl ?_
        refine jn_icmp_ge 6 X dX10_met_6 33 (by decide) (fun c_29 => absurd c_29 (by decide)) (fun _ => ?_)
        refine jv_iload_n 9 X dX10_met_9 1 rfl ?_
        refine jv_aload_n 10 X dX10_met_10 2 rfl ?_
        refine jv_iload_n 11 X dX10_met_11 0 rfl ?_
        refine jv_callW (w1 := bMd E a book now week sights sight signs pad metAt metWho reason acts atp will fitting counts ring nxt wins ways nextWays image isKept) 12 X (c_X10_hasMet E _ a book now week sights sight signs pad metAt metWho reason acts atp will fitting counts ring nxt wins ways nextWays image isKept 3 (by omega)) wv_X10_94 ⟨Nat.le_of_ble_eq_true rfl, Nat.le_of_ble_eq_true rfl⟩ ⟨rfl, rfl⟩ ⟨Nat.zero_le _, Nat.zero_le _⟩ dX10_met_12 rfl [.int (((0 ||| ((1 : Int32) <<< ((0 : Int32) &&& 31))) ||| 0) ||| 0)] rfl (Nat.le_of_ble_eq_true rfl) 0 rfl rfl ?_
        refine jv_z_eq 15 X dX10_met_15 24 (by decide) (fun c_30 => ?_) (fun c_30 => ?_)
        · refine jv_iconst (v := 0) 24 X dX10_met_24 rfl ?_
          refine jv_ior 25 X dX10_met_25 ?_
          refine jv_istore_n (lv2 := [(1, .int ((((0 ||| ((1 : Int32) <<< ((0 : Int32) &&& 31))) ||| 0) ||| 0) ||| 0)), (2, .int 3), (0, .ref (a 0))]) 26 X dX10_met_26 (by decide) rfl ?_
          refine jv_iinc (v := 4) (lv2 := [(2, .int 4), (1, .int ((((0 ||| ((1 : Int32) <<< ((0 : Int32) &&& 31))) ||| 0) ||| 0) ||| 0)), (0, .ref (a 0))]) 27 X dX10_met_27 1 rfl (by decide) (by decide) rfl ?_
          refine jv_goto 30 X dX10_met_30 4 (by decide) ?_
          refine jv_iload_n 4 X dX10_met_4 0 rfl ?_
          refine jv_iconst (v := 4) 5 X dX10_met_5 rfl ?_
          refine jn_icmp_ge 6 X dX10_met_6 33 (by decide) (fun _ => ?_) (fun c_31 => absurd c_31 (by decide))
          refine jv_iload_n 33 X dX10_met_33 1 rfl ?_
          exact jv_iret 34 X Y rfl dX10_met_34 () (congrArg (fun z => some (Value.int z)) (by simp only [metS, c_2, c_26, c_28, c_30, if_true, if_false])) rfl
        · refine jv_iconst (v := 1) 18 X dX10_met_18 rfl ?_
          refine jv_iload_n 19 X dX10_met_19 0 rfl ?_
          refine jv_ishl 20 X dX10_met_20 ?_
          refine jv_goto 21 X dX10_met_21 25 (by decide) ?_
          refine jv_ior 25 X dX10_met_25 ?_
          refine jv_istore_n (lv2 := [(1, .int ((((0 ||| ((1 : Int32) <<< ((0 : Int32) &&& 31))) ||| 0) ||| 0) ||| ((1 : Int32) <<< ((3 : Int32) &&& 31)))), (2, .int 3), (0, .ref (a 0))]) 26 X dX10_met_26 (by decide) rfl ?_
          refine jv_iinc (v := 4) (lv2 := [(2, .int 4), (1, .int ((((0 ||| ((1 : Int32) <<< ((0 : Int32) &&& 31))) ||| 0) ||| 0) ||| ((1 : Int32) <<< ((3 : Int32) &&& 31)))), (0, .ref (a 0))]) 27 X dX10_met_27 1 rfl (by decide) (by decide) rfl ?_
          refine jv_goto 30 X dX10_met_30 4 (by decide) ?_
          refine jv_iload_n 4 X dX10_met_4 0 rfl ?_
          refine jv_iconst (v := 4) 5 X dX10_met_5 rfl ?_
          refine jn_icmp_ge 6 X dX10_met_6 33 (by decide) (fun _ => ?_) (fun c_32 => absurd c_32 (by decide))
          refine jv_iload_n 33 X dX10_met_33 1 rfl ?_
          exact jv_iret 34 X Y rfl dX10_met_34 () (congrArg (fun z => some (Value.int z)) (by simp only [metS, c_2, c_26, c_28, c_30, if_true, if_false])) rfl
      · refine jv_iconst (v := 1) 18 X dX10_met_18 rfl ?_
        refine jv_iload_n 19 X dX10_met_19 0 rfl ?_
        refine jv_ishl 20 X dX10_met_20 ?_
        refine jv_goto 21 X dX10_met_21 25 (by decide) ?_
        refine jv_ior 25 X dX10_met_25 ?_
        refine jv_istore_n (lv2 := [(1, .int (((0 ||| ((1 : Int32) <<< ((0 : Int32) &&& 31))) ||| 0) ||| ((1 : Int32) <<< ((2 : Int32) &&& 31)))), (2, .int 2), (0, .ref (a 0))]) 26 X dX10_met_26 (by decide) rfl ?_
        refine jv_iinc (v := 3) (lv2 := [(2, .int 3), (1, .int (((0 ||| ((1 : Int32) <<< ((0 : Int32) &&& 31))) ||| 0) ||| ((1 : Int32) <<< ((2 : Int32) &&& 31)))), (0, .ref (a 0))]) 27 X dX10_met_27 1 rfl (by decide) (by decide) rfl ?_
        refine jv_goto 30 X dX10_met_30 4 (by decide) ?_
        refine jv_iload_n 4 X dX10_met_4 0 rfl ?_
        refine jv_iconst (v := 4) 5 X dX10_met_5 rfl ?_
        refine jn_icmp_ge 6 X dX10_met_6 33 (by decide) (fun c_33 => absurd c_33 (by decide)) (fun _ => ?_)
        refine jv_iload_n 9 X dX10_met_9 1 rfl ?_
        refine jv_aload_n 10 X dX10_met_10 2 rfl ?_
        refine jv_iload_n 11 X dX10_met_11 0 rfl ?_
        refine jv_callW (w1 := bMd E a book now week sights sight signs pad metAt metWho reason acts atp will fitting counts ring nxt wins ways nextWays image isKept) 12 X (c_X10_hasMet E _ a book now week sights sight signs pad metAt metWho reason acts atp will fitting counts ring nxt wins ways nextWays image isKept 3 (by omega)) wv_X10_94 ⟨Nat.le_of_ble_eq_true rfl, Nat.le_of_ble_eq_true rfl⟩ ⟨rfl, rfl⟩ ⟨Nat.zero_le _, Nat.zero_le _⟩ dX10_met_12 rfl [.int (((0 ||| ((1 : Int32) <<< ((0 : Int32) &&& 31))) ||| 0) ||| ((1 : Int32) <<< ((2 : Int32) &&& 31)))] rfl (Nat.le_of_ble_eq_true rfl) 0 rfl rfl ?_
        refine jv_z_eq 15 X dX10_met_15 24 (by decide) (fun c_34 => ?_) (fun c_34 => ?_)
        · refine jv_iconst (v := 0) 24 X dX10_met_24 rfl ?_
          refine jv_ior 25 X dX10_met_25 ?_
          refine jv_istore_n (lv2 := [(1, .int ((((0 ||| ((1 : Int32) <<< ((0 : Int32) &&& 31))) ||| 0) ||| ((1 : Int32) <<< ((2 : Int32) &&& 31))) ||| 0)), (2, .int 3), (0, .ref (a 0))]) 26 X dX10_met_26 (by decide) rfl ?_
          refine jv_iinc (v := 4) (lv2 := [(2, .int 4), (1, .int ((((0 ||| ((1 : Int32) <<< ((0 : Int32) &&& 31))) ||| 0) ||| ((1 : Int32) <<< ((2 : Int32) &&& 31))) ||| 0)), (0, .ref (a 0))]) 27 X dX10_met_27 1 rfl (by decide) (by decide) rfl ?_
          refine jv_goto 30 X dX10_met_30 4 (by decide) ?_
          refine jv_iload_n 4 X dX10_met_4 0 rfl ?_
          refine jv_iconst (v := 4) 5 X dX10_met_5 rfl ?_
          refine jn_icmp_ge 6 X dX10_met_6 33 (by decide) (fun _ => ?_) (fun c_35 => absurd c_35 (by decide))
          refine jv_iload_n 33 X dX10_met_33 1 rfl ?_
          exact jv_iret 34 X Y rfl dX10_met_34 () (congrArg (fun z => some (Value.int z)) (by simp only [metS, c_2, c_26, c_28, c_34, if_true, if_false])) rfl
        · refine jv_iconst (v := 1) 18 X dX10_met_18 rfl ?_
          refine jv_iload_n 19 X dX10_met_19 0 rfl ?_
          refine jv_ishl 20 X dX10_met_20 ?_
          refine jv_goto 21 X dX10_met_21 25 (by decide) ?_
          refine jv_ior 25 X dX10_met_25 ?_
          refine jv_istore_n (lv2 := [(1, .int ((((0 ||| ((1 : Int32) <<< ((0 : Int32) &&& 31))) ||| 0) ||| ((1 : Int32) <<< ((2 : Int32) &&& 31))) ||| ((1 : Int32) <<< ((3 : Int32) &&& 31)))), (2, .int 3), (0, .ref (a 0))]) 26 X dX10_met_26 (by decide) rfl ?_
          refine jv_iinc (v := 4) (lv2 := [(2, .int 4), (1, .int ((((0 ||| ((1 : Int32) <<< ((0 : Int32) &&& 31))) ||| 0) ||| ((1 : Int32) <<< ((2 : Int32) &&& 31))) ||| ((1 : Int32) <<< ((3 : Int32) &&& 31)))), (0, .ref (a 0))]) 27 X dX10_met_27 1 rfl (by decide) (by decide) rfl ?_
          refine jv_goto 30 X dX10_met_30 4 (by decide) ?_
          refine jv_iload_n 4 X dX10_met_4 0 rfl ?_
          refine jv_iconst (v := 4) 5 X dX10_met_5 rfl ?_
          refine jn_icmp_ge 6 X dX10_met_6 33 (by decide) (fun _ => ?_) (fun c_36 => absurd c_36 (by decide))
          refine jv_iload_n 33 X dX10_met_33 1 rfl ?_
          exact jv_iret 34 X Y rfl dX10_met_34 () (congrArg (fun z => some (Value.int z)) (by simp only [metS, c_2, c_26, c_28, c_34, if_true, if_false])) rfl
    · refine jv_iconst (v := 1) 18 X dX10_met_18 rfl ?_
      refine jv_iload_n 19 X dX10_met_19 0 rfl ?_
      refine jv_ishl 20 X dX10_met_20 ?_
      refine jv_goto 21 X dX10_met_21 25 (by decide) ?_
      refine jv_ior 25 X dX10_met_25 ?_
      refine jv_istore_n (lv2 := [(1, .int ((0 ||| ((1 : Int32) <<< ((0 : Int32) &&& 31))) ||| ((1 : Int32) <<< ((1 : Int32) &&& 31)))), (2, .int 1), (0, .ref (a 0))]) 26 X dX10_met_26 (by decide) rfl ?_
      refine jv_iinc (v := 2) (lv2 := [(2, .int 2), (1, .int ((0 ||| ((1 : Int32) <<< ((0 : Int32) &&& 31))) ||| ((1 : Int32) <<< ((1 : Int32) &&& 31)))), (0, .ref (a 0))]) 27 X dX10_met_27 1 rfl (by decide) (by decide) rfl ?_
      refine jv_goto 30 X dX10_met_30 4 (by decide) ?_
      refine jv_iload_n 4 X dX10_met_4 0 rfl ?_
      refine jv_iconst (v := 4) 5 X dX10_met_5 rfl ?_
      refine jn_icmp_ge 6 X dX10_met_6 33 (by decide) (fun c_37 => absurd c_37 (by decide)) (fun _ => ?_)
      refine jv_iload_n 9 X dX10_met_9 1 rfl ?_
      refine jv_aload_n 10 X dX10_met_10 2 rfl ?_
      refine jv_iload_n 11 X dX10_met_11 0 rfl ?_
      refine jv_callW (w1 := bMd E a book now week sights sight signs pad metAt metWho reason acts atp will fitting counts ring nxt wins ways nextWays image isKept) 12 X (c_X10_hasMet E _ a book now week sights sight signs pad metAt metWho reason acts atp will fitting counts ring nxt wins ways nextWays image isKept 2 (by omega)) wv_X10_94 ⟨Nat.le_of_ble_eq_true rfl, Nat.le_of_ble_eq_true rfl⟩ ⟨rfl, rfl⟩ ⟨Nat.zero_le _, Nat.zero_le _⟩ dX10_met_12 rfl [.int ((0 ||| ((1 : Int32) <<< ((0 : Int32) &&& 31))) ||| ((1 : Int32) <<< ((1 : Int32) &&& 31)))] rfl (Nat.le_of_ble_eq_true rfl) 0 rfl rfl ?_
      refine jv_z_eq 15 X dX10_met_15 24 (by decide) (fun c_38 => ?_) (fun c_38 => ?_)
      · refine jv_iconst (v := 0) 24 X dX10_met_24 rfl ?_
        refine jv_ior 25 X dX10_met_25 ?_
        refine jv_istore_n (lv2 := [(1, .int (((0 ||| ((1 : Int32) <<< ((0 : Int32) &&& 31))) ||| ((1 : Int32) <<< ((1 : Int32) &&& 31))) ||| 0)), (2, .int 2), (0, .ref (a 0))]) 26 X dX10_met_26 (by decide) rfl ?_
        refine jv_iinc (v := 3) (lv2 := [(2, .int 3), (1, .int (((0 ||| ((1 : Int32) <<< ((0 : Int32) &&& 31))) ||| ((1 : Int32) <<< ((1 : Int32) &&& 31))) ||| 0)), (0, .ref (a 0))]) 27 X dX10_met_27 1 rfl (by decide) (by decide) rfl ?_
        refine jv_goto 30 X dX10_met_30 4 (by decide) ?_
        refine jv_iload_n 4 X dX10_met_4 0 rfl ?_
        refine jv_iconst (v := 4) 5 X dX10_met_5 rfl ?_
        refine jn_icmp_ge 6 X dX10_met_6 33 (by decide) (fun c_39 => absurd c_39 (by decide)) (fun _ => ?_)
        refine jv_iload_n 9 X dX10_met_9 1 rfl ?_
        refine jv_aload_n 10 X dX10_met_10 2 rfl ?_
        refine jv_iload_n 11 X dX10_met_11 0 rfl ?_
        refine jv_callW (w1 := bMd E a book now week sights sight signs pad metAt metWho reason acts atp will fitting counts ring nxt wins ways nextWays image isKept) 12 X (c_X10_hasMet E _ a book now week sights sight signs pad metAt metWho reason acts atp will fitting counts ring nxt wins ways nextWays image isKept 3 (by omega)) wv_X10_94 ⟨Nat.le_of_ble_eq_true rfl, Nat.le_of_ble_eq_true rfl⟩ ⟨rfl, rfl⟩ ⟨Nat.zero_le _, Nat.zero_le _⟩ dX10_met_12 rfl [.int (((0 ||| ((1 : Int32) <<< ((0 : Int32) &&& 31))) ||| ((1 : Int32) <<< ((1 : Int32) &&& 31))) ||| 0)] rfl (Nat.le_of_ble_eq_true rfl) 0 rfl rfl ?_
        refine jv_z_eq 15 X dX10_met_15 24 (by decide) (fun c_40 => ?_) (fun c_40 => ?_)
        · refine jv_iconst (v := 0) 24 X dX10_met_24 rfl ?_
          refine jv_ior 25 X dX10_met_25 ?_
          refine jv_istore_n (lv2 := [(1, .int ((((0 ||| ((1 : Int32) <<< ((0 : Int32) &&& 31))) ||| ((1 : Int32) <<< ((1 : Int32) &&& 31))) ||| 0) ||| 0)), (2, .int 3), (0, .ref (a 0))]) 26 X dX10_met_26 (by decide) rfl ?_
          refine jv_iinc (v := 4) (lv2 := [(2, .int 4), (1, .int ((((0 ||| ((1 : Int32) <<< ((0 : Int32) &&& 31))) ||| ((1 : Int32) <<< ((1 : Int32) &&& 31))) ||| 0) ||| 0)), (0, .ref (a 0))]) 27 X dX10_met_27 1 rfl (by decide) (by decide) rfl ?_
          refine jv_goto 30 X dX10_met_30 4 (by decide) ?_
          refine jv_iload_n 4 X dX10_met_4 0 rfl ?_
          refine jv_iconst (v := 4) 5 X dX10_met_5 rfl ?_
          refine jn_icmp_ge 6 X dX10_met_6 33 (by decide) (fun _ => ?_) (fun c_41 => absurd c_41 (by decide))
          refine jv_iload_n 33 X dX10_met_33 1 rfl ?_
          exact jv_iret 34 X Y rfl dX10_met_34 () (congrArg (fun z => some (Value.int z)) (by simp only [metS, c_2, c_26, c_38, c_40, if_true, if_false])) rfl
        · refine jv_iconst (v := 1) 18 X dX10_met_18 rfl ?_
          refine jv_iload_n 19 X dX10_met_19 0 rfl ?_
          refine jv_ishl 20 X dX10_met_20 ?_
          refine jv_goto 21 X dX10_met_21 25 (by decide) ?_
          refine jv_ior 25 X dX10_met_25 ?_
          refine jv_istore_n (lv2 := [(1, .int ((((0 ||| ((1 : Int32) <<< ((0 : Int32) &&& 31))) ||| ((1 : Int32) <<< ((1 : Int32) &&& 31))) ||| 0) ||| ((1 : Int32) <<< ((3 : Int32) &&& 31)))), (2, .int 3), (0, .ref (a 0))]) 26 X dX10_met_26 (by decide) rfl ?_
          refine jv_iinc (v := 4) (lv2 := [(2, .int 4), (1, .int ((((0 ||| ((1 : Int32) <<< ((0 : Int32) &&& 31))) ||| ((1 : Int32) <<< ((1 : Int32) &&& 31))) ||| 0) ||| ((1 : Int32) <<< ((3 : Int32) &&& 31)))), (0, .ref (a 0))]) 27 X dX10_met_27 1 rfl (by decide) (by decide) rfl ?_
          refine jv_goto 30 X dX10_met_30 4 (by decide) ?_
          refine jv_iload_n 4 X dX10_met_4 0 rfl ?_
          refine jv_iconst (v := 4) 5 X dX10_met_5 rfl ?_
          refine jn_icmp_ge 6 X dX10_met_6 33 (by decide) (fun _ => ?_) (fun c_42 => absurd c_42 (by decide))
          refine jv_iload_n 33 X dX10_met_33 1 rfl ?_
          exact jv_iret 34 X Y rfl dX10_met_34 () (congrArg (fun z => some (Value.int z)) (by simp only [metS, c_2, c_26, c_38, c_40, if_true, if_false])) rfl
      · refine jv_iconst (v := 1) 18 X dX10_met_18 rfl ?_
        refine jv_iload_n 19 X dX10_met_19 0 rfl ?_
        refine jv_ishl 20 X dX10_met_20 ?_
        refine jv_goto 21 X dX10_met_21 25 (by decide) ?_
        refine jv_ior 25 X dX10_met_25 ?_
        refine jv_istore_n (lv2 := [(1, .int (((0 ||| ((1 : Int32) <<< ((0 : Int32) &&& 31))) ||| ((1 : Int32) <<< ((1 : Int32) &&& 31))) ||| ((1 : Int32) <<< ((2 : Int32) &&& 31)))), (2, .int 2), (0, .ref (a 0))]) 26 X dX10_met_26 (by decide) rfl ?_
        refine jv_iinc (v := 3) (lv2 := [(2, .int 3), (1, .int (((0 ||| ((1 : Int32) <<< ((0 : Int32) &&& 31))) ||| ((1 : Int32) <<< ((1 : Int32) &&& 31))) ||| ((1 : Int32) <<< ((2 : Int32) &&& 31)))), (0, .ref (a 0))]) 27 X dX10_met_27 1 rfl (by decide) (by decide) rfl ?_
        refine jv_goto 30 X dX10_met_30 4 (by decide) ?_
        refine jv_iload_n 4 X dX10_met_4 0 rfl ?_
        refine jv_iconst (v := 4) 5 X dX10_met_5 rfl ?_
        refine jn_icmp_ge 6 X dX10_met_6 33 (by decide) (fun c_43 => absurd c_43 (by decide)) (fun _ => ?_)
        refine jv_iload_n 9 X dX10_met_9 1 rfl ?_
        refine jv_aload_n 10 X dX10_met_10 2 rfl ?_
        refine jv_iload_n 11 X dX10_met_11 0 rfl ?_
        refine jv_callW (w1 := bMd E a book now week sights sight signs pad metAt metWho reason acts atp will fitting counts ring nxt wins ways nextWays image isKept) 12 X (c_X10_hasMet E _ a book now week sights sight signs pad metAt metWho reason acts atp will fitting counts ring nxt wins ways nextWays image isKept 3 (by omega)) wv_X10_94 ⟨Nat.le_of_ble_eq_true rfl, Nat.le_of_ble_eq_true rfl⟩ ⟨rfl, rfl⟩ ⟨Nat.zero_le _, Nat.zero_le _⟩ dX10_met_12 rfl [.int (((0 ||| ((1 : Int32) <<< ((0 : Int32) &&& 31))) ||| ((1 : Int32) <<< ((1 : Int32) &&& 31))) ||| ((1 : Int32) <<< ((2 : Int32) &&& 31)))] rfl (Nat.le_of_ble_eq_true rfl) 0 rfl rfl ?_
        refine jv_z_eq 15 X dX10_met_15 24 (by decide) (fun c_44 => ?_) (fun c_44 => ?_)
        · refine jv_iconst (v := 0) 24 X dX10_met_24 rfl ?_
          refine jv_ior 25 X dX10_met_25 ?_
          refine jv_istore_n (lv2 := [(1, .int ((((0 ||| ((1 : Int32) <<< ((0 : Int32) &&& 31))) ||| ((1 : Int32) <<< ((1 : Int32) &&& 31))) ||| ((1 : Int32) <<< ((2 : Int32) &&& 31))) ||| 0)), (2, .int 3), (0, .ref (a 0))]) 26 X dX10_met_26 (by decide) rfl ?_
          refine jv_iinc (v := 4) (lv2 := [(2, .int 4), (1, .int ((((0 ||| ((1 : Int32) <<< ((0 : Int32) &&& 31))) ||| ((1 : Int32) <<< ((1 : Int32) &&& 31))) ||| ((1 : Int32) <<< ((2 : Int32) &&& 31))) ||| 0)), (0, .ref (a 0))]) 27 X dX10_met_27 1 rfl (by decide) (by decide) rfl ?_
          refine jv_goto 30 X dX10_met_30 4 (by decide) ?_
          refine jv_iload_n 4 X dX10_met_4 0 rfl ?_
          refine jv_iconst (v := 4) 5 X dX10_met_5 rfl ?_
          refine jn_icmp_ge 6 X dX10_met_6 33 (by decide) (fun _ => ?_) (fun c_45 => absurd c_45 (by decide))
          refine jv_iload_n 33 X dX10_met_33 1 rfl ?_
          exact jv_iret 34 X Y rfl dX10_met_34 () (congrArg (fun z => some (Value.int z)) (by simp only [metS, c_2, c_26, c_38, c_44, if_true, if_false])) rfl
        · refine jv_iconst (v := 1) 18 X dX10_met_18 rfl ?_
          refine jv_iload_n 19 X dX10_met_19 0 rfl ?_
          refine jv_ishl 20 X dX10_met_20 ?_
          refine jv_goto 21 X dX10_met_21 25 (by decide) ?_
          refine jv_ior 25 X dX10_met_25 ?_
          refine jv_istore_n (lv2 := [(1, .int ((((0 ||| ((1 : Int32) <<< ((0 : Int32) &&& 31))) ||| ((1 : Int32) <<< ((1 : Int32) &&& 31))) ||| ((1 : Int32) <<< ((2 : Int32) &&& 31))) ||| ((1 : Int32) <<< ((3 : Int32) &&& 31)))), (2, .int 3), (0, .ref (a 0))]) 26 X dX10_met_26 (by decide) rfl ?_
          refine jv_iinc (v := 4) (lv2 := [(2, .int 4), (1, .int ((((0 ||| ((1 : Int32) <<< ((0 : Int32) &&& 31))) ||| ((1 : Int32) <<< ((1 : Int32) &&& 31))) ||| ((1 : Int32) <<< ((2 : Int32) &&& 31))) ||| ((1 : Int32) <<< ((3 : Int32) &&& 31)))), (0, .ref (a 0))]) 27 X dX10_met_27 1 rfl (by decide) (by decide) rfl ?_
          refine jv_goto 30 X dX10_met_30 4 (by decide) ?_
          refine jv_iload_n 4 X dX10_met_4 0 rfl ?_
          refine jv_iconst (v := 4) 5 X dX10_met_5 rfl ?_
          refine jn_icmp_ge 6 X dX10_met_6 33 (by decide) (fun _ => ?_) (fun c_46 => absurd c_46 (by decide))
          refine jv_iload_n 33 X dX10_met_33 1 rfl ?_
          exact jv_iret 34 X Y rfl dX10_met_34 () (congrArg (fun z => some (Value.int z)) (by simp only [metS, c_2, c_26, c_38, c_44, if_true, if_false])) rfl
