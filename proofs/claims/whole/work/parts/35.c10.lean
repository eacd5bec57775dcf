def wmS (mv : Nat → Int32) (len c : Nat) (_ : Unit) : Int32 ⊕ Unit := if mv (len - c) = -6 then .inl (nI c) else .inr ()
def wmF (mv : Nat → Int32) (len k : Nat) : Int32 := if len = 0 then -6 else if mv (len / 2) = -6 then 0 else match itE (wmS mv len) (min k len) 1 () with
  | .inl x => x
  | .inr _ => -6
def fmS (k l : Nat) (mv : Nat → Int32) : Nat → Int32 := upd mv l (wmF mv l k)
def fmF (mv : Nat → Int32) (n k : Nat) : Int32 := itr (fmS k) (n + 1) mv n
theorem c_X6_stand (E : EE) (l : Launch) (a : Nat → Nat) (has : Nat → Int32) (nxt : Nat → Int32) (b : Nat → Nat) (r : Rl) : CT E l yX6_stand cX6_stand 3 none { frames := 1, cells := 0, slots := 0, locals := 21 } [.ref (a 0), .ref (b 0)] (wB [bRg E a has nxt, tRl E b r]) (none) (wB [bRg E a (msC r) nxt, tRl E b r]) := by
  refine CT.intro (by decide +kernel) (Nat.le_of_ble_eq_true rfl) (fun K X Y => ?_)
  refine jv_iconst (v := 0) 0 X dX6_stand_0 rfl ?_
  refine jv_istore_n (lv2 := [(2, .int 0), (0, .ref (a 0)), (1, .ref (b 0))]) 1 X dX6_stand_1 (by decide) rfl ?_
  have lp2 : ∀ (n2 : Nat) (k : Nat) (h : Nat → Int32), (k ≤ 6) → (∀ j, j < k → h j = msC r j) → 6 - k < n2 → JV E K 0 0 (wB [bRg E a h nxt, tRl E b r]) [(0, .ref (a 0)), (1, .ref (b 0)), (2, .int (nI k))] 2 [] := by
    intro n2
    induction n2 with
    | zero => intro k h hk hI hm; exact absurd hm (Nat.not_lt_zero _)
    | succ n2 ih2 =>
      intro k h hk hI hm
      refine jv_iload_n 2 X dX6_stand_2 2 rfl ?_
      refine jv_bipush (v := 6) 3 X dX6_stand_3 (by decide) ?_
      refine jn_icmp_ge 5 X dX6_stand_5 25 (by decide) (fun c_1 => ?_) (fun c_1 => ?_)
      · have n_1 : 6 ≤ k := (nx_le (a := 6) (b := k) rfl rfl (by omega) (by omega)).mp c_1
        refine jv_ext (ws2 := wB [bRg E a (msC r) nxt, tRl E b r]) 1 (msC r) rfl (fun j hj => hI j (by omega)) rfl ?_
        exact jv_vret 25 X Y rfl dX6_stand_25 () rfl rfl
      · have n_1 : ¬ 6 ≤ k := fun zq => c_1 ((nx_le (a := 6) (b := k) rfl rfl (by omega) (by omega)).mpr zq)
        refine jv_aload_n 8 X dX6_stand_8 0 rfl ?_
        refine jv_get (v := .ref (a 1)) 9 X gf_X6_9 dX6_stand_9 0 rfl rfl ?_
        refine jv_iload_n 12 X dX6_stand_12 2 rfl ?_
        refine jv_aload_n 13 X dX6_stand_13 1 rfl ?_
        refine jv_iload_n 14 X dX6_stand_14 2 rfl ?_
        refine jv_callB1 (wl2 := [bRg E a h nxt, tRl E b r]) 15 X (c_X5_measure E _ b r k (by omega)) wv_X6_18 ⟨Nat.le_of_ble_eq_true rfl, Nat.le_of_ble_eq_true rfl⟩ ⟨rfl, rfl⟩ ⟨Nat.zero_le _, Nat.zero_le _⟩ dX6_stand_15 rfl [.int (nI k), .ref (a 1)] rfl (Nat.le_of_ble_eq_true rfl) 1 rfl [(b 0), (b 1), (b 2), (b 3), (b 4), (b 5), (b 6), (b 7), (b 8), (b 9), (b 10)] rfl rfl rfl rfl rfl ?_
        refine jv_iast (ws2 := wB [bRg E a (upd h k (msC r k)) nxt, tRl E b r]) (f := h) 18 X dX6_stand_18 1 rfl (by decide) k rfl (by omega) rfl ?_
        refine jv_iinc (v := (nI (k + 1))) (lv2 := [(2, .int (nI (k + 1))), (0, .ref (a 0)), (1, .ref (b 0))]) 19 X dX6_stand_19 2 rfl (nx_inc _) (by decide) rfl ?_
        refine jv_goto 22 X dX6_stand_22 2 (by decide) ?_
        exact jv_lv [1, 2, 0] rfl (ih2 (k + 1) (upd h k (msC r k)) (by omega) (cp_upd (g := msC r) hI) (by omega))
  exact jv_lv [1, 2, 0] rfl (lp2 _ 0 has (by omega) (fun j hj => absurd hj (Nat.not_lt_zero j)) (Nat.lt_succ_self _))
theorem c_X6_takeMeans (E : EE) (l : Launch) (a : Nat → Nat) (has : Nat → Int32) (nxt : Nat → Int32) : CT E l yX6_takeMeans cX6_takeMeans 3 (some .boolean) { frames := 1, cells := 0, slots := 0, locals := 40 } [.ref (a 0)] (bRg E a has nxt) (some (.int (zI (anyB (rgC has) 6 = true)))) (bRg E a (rgF has) (rgF has)) := by
  refine CT.intro (by decide +kernel) (Nat.le_of_ble_eq_true rfl) (fun K X Y => ?_)
  refine jv_iconst (v := 0) 0 X dX6_takeMeans_0 rfl ?_
  refine jv_istore_n (lv2 := [(1, .int 0), (0, .ref (a 0))]) 1 X dX6_takeMeans_1 (by decide) rfl ?_
  refine jv_iconst (v := 0) 2 X dX6_takeMeans_2 rfl ?_
  refine jv_istore_n (lv2 := [(2, .int 0), (1, .int 0), (0, .ref (a 0))]) 3 X dX6_takeMeans_3 (by decide) rfl ?_
  have lp4 : ∀ (n4 : Nat) (k : Nat) (nx : Nat → Int32) (ch : Int32), (k ≤ 6) → (∀ j, j < k → nx j = rgF has j) → (ch = zI (anyB (rgC has) k = true)) → 6 - k < n4 → JV E K 0 0 (bRg E a has nx) [(0, .ref (a 0)), (1, .int ch), (2, .int (nI k))] 4 [] := by
    intro n4
    induction n4 with
    | zero => intro k nx ch hk hI hch hm; exact absurd hm (Nat.not_lt_zero _)
    | succ n4 ih4 =>
      intro k nx ch hk hI hch hm
      refine jv_iload_n 4 X dX6_takeMeans_4 2 rfl ?_
      refine jv_bipush (v := 6) 5 X dX6_takeMeans_5 (by decide) ?_
      refine jn_icmp_ge 7 X dX6_takeMeans_7 82 (by decide) (fun c_1 => ?_) (fun c_1 => ?_)
      · have n_1 : 6 ≤ k := (nx_le (a := 6) (b := k) rfl rfl (by omega) (by omega)).mp c_1
        have hch2 : ch = zI (anyB (rgC has) 6 = true) := by rw [hch, show k = 6 by omega]
        refine jv_ext (ws2 := bRg E a has (rgF has)) 2 (rgF has) rfl (fun j hj => hI j (by omega)) rfl ?_
        refine jv_aload_n 82 X dX6_takeMeans_82 0 rfl ?_
        refine jv_get (v := .ref (a 2)) 83 X gf_X6_15 dX6_takeMeans_83 0 rfl rfl ?_
        refine jv_iconst (v := 0) 86 X dX6_takeMeans_86 rfl ?_
        refine jv_aload_n 87 X dX6_takeMeans_87 0 rfl ?_
        refine jv_get (v := .ref (a 1)) 88 X gf_X6_9 dX6_takeMeans_88 0 rfl rfl ?_
        refine jv_iconst (v := 0) 91 X dX6_takeMeans_91 rfl ?_
        refine jv_bipush (v := 6) 92 X dX6_takeMeans_92 (by decide) ?_
        refine jv_copyi (ws2 := bRg E a (rgF has) (rgF has)) 94 X wa_X6_24 dX6_takeMeans_94 2 1 rfl rfl rfl (by decide) (Nat.le_of_ble_eq_true rfl) (Nat.le_of_ble_eq_true rfl) rfl ?_
        refine jv_iload_n 97 X dX6_takeMeans_97 1 rfl ?_
        exact jv_zret 98 X Y rfl (hch2 ▸ zI_n) dX6_takeMeans_98 () (congrArg (fun z => some (Value.int z)) hch2) rfl
      · have n_1 : ¬ 6 ≤ k := fun zq => c_1 ((nx_le (a := 6) (b := k) rfl rfl (by omega) (by omega)).mpr zq)
        refine jv_aload_n 10 X dX6_takeMeans_10 0 rfl ?_
        refine jv_get (v := .ref (a 2)) 11 X gf_X6_15 dX6_takeMeans_11 0 rfl rfl ?_
        refine jv_iload_n 14 X dX6_takeMeans_14 2 rfl ?_
        refine jv_aload_n 15 X dX6_takeMeans_15 0 rfl ?_
        refine jv_get (v := .ref (a 1)) 16 X gf_X6_9 dX6_takeMeans_16 0 rfl rfl ?_
        refine jv_iload_n 19 X dX6_takeMeans_19 2 rfl ?_
        refine jv_bipush (v := 6) 20 X dX6_takeMeans_20 (by decide) ?_
        refine jv_iadd 22 X dX6_takeMeans_22 ?_
        refine jv_norm (x2 := nI (k + 6)) (nx_add2 (a := k) (b := 6) rfl rfl (by omega)) ?_
        refine jv_iconst (v := 1) 23 X dX6_takeMeans_23 rfl ?_
        refine jv_isub 24 X dX6_takeMeans_24 ?_
        refine jv_norm (x2 := nI (k + 5)) (nx_sub2 (a := (k + 6)) (b := 1) rfl rfl (by omega)) ?_
        refine jv_bipush (v := 6) 25 X dX6_takeMeans_25 (by decide) ?_
        refine jv_irem 27 X dX6_takeMeans_27 (by decide) ?_
        refine jv_norm (x2 := nI ((k + 5) % 6)) (nx_rem (a := (k + 5)) (b := 6) rfl rfl (by omega) (by omega) (by omega)) ?_
        refine jv_iald (f := has) 28 X dX6_takeMeans_28 1 rfl (by decide) ((k + 5) % 6) rfl (by omega) ?_
        refine jv_aload_n 29 X dX6_takeMeans_29 0 rfl ?_
        refine jv_get (v := .ref (a 1)) 30 X gf_X6_9 dX6_takeMeans_30 0 rfl rfl ?_
        refine jv_iload_n 33 X dX6_takeMeans_33 2 rfl ?_
        refine jv_iald (f := has) 34 X dX6_takeMeans_34 1 rfl (by decide) k rfl (by omega) ?_
        refine jv_iadd 35 X dX6_takeMeans_35 ?_
        refine jv_aload_n 36 X dX6_takeMeans_36 0 rfl ?_
        refine jv_get (v := .ref (a 1)) 37 X gf_X6_9 dX6_takeMeans_37 0 rfl rfl ?_
        refine jv_iload_n 40 X dX6_takeMeans_40 2 rfl ?_
        refine jv_iconst (v := 1) 41 X dX6_takeMeans_41 rfl ?_
        refine jv_iadd 42 X dX6_takeMeans_42 ?_
        refine jv_norm (x2 := nI (k + 1)) (nx_add2 (a := k) (b := 1) rfl rfl (by omega)) ?_
        refine jv_bipush (v := 6) 43 X dX6_takeMeans_43 (by decide) ?_
        refine jv_irem 45 X dX6_takeMeans_45 (by decide) ?_
        refine jv_norm (x2 := nI ((k + 1) % 6)) (nx_rem (a := (k + 1)) (b := 6) rfl rfl (by omega) (by omega) (by omega)) ?_
        refine jv_iald (f := has) 46 X dX6_takeMeans_46 1 rfl (by decide) ((k + 1) % 6) rfl (by omega) ?_
        refine jv_iadd 47 X dX6_takeMeans_47 ?_
        refine jv_iconst (v := 3) 48 X dX6_takeMeans_48 rfl ?_
        refine jv_idiv 49 X dX6_takeMeans_49 (by decide) ?_
        refine jv_iast (ws2 := bRg E a has (upd nx k ((((has ((k + 5) % 6)) + (has k)) + (has ((k + 1) % 6))) / 3))) (f := nx) 50 X dX6_takeMeans_50 2 rfl (by decide) k rfl (by omega) rfl ?_
        refine jv_iload_n 51 X dX6_takeMeans_51 1 rfl ?_
        refine jn_if_ne 52 X dX6_takeMeans_52 70 (by decide) (fun c_2 => ?_) (fun c_2 => ?_)
        · refine jv_iconst (v := 1) 70 X dX6_takeMeans_70 rfl ?_
          refine jv_goto 71 X dX6_takeMeans_71 75 (by decide) ?_
          refine jv_istore_n (lv2 := [(1, .int 1), (0, .ref (a 0)), (2, .int (nI k))]) 75 X dX6_takeMeans_75 (by decide) rfl ?_
          refine jv_iinc (v := (nI (k + 1))) (lv2 := [(2, .int (nI (k + 1))), (1, .int 1), (0, .ref (a 0))]) 76 X dX6_takeMeans_76 2 rfl (nx_inc _) (by decide) rfl ?_
          refine jv_goto 79 X dX6_takeMeans_79 4 (by decide) ?_
          exact jv_lv [2, 1, 0] rfl (ih4 (k + 1) (upd nx k ((((has ((k + 5) % 6)) + (has k)) + (has ((k + 1) % 6))) / 3)) 1 (by omega) (rg_upd hI) ((zI_t (by rw [anyB, zI_nz hch c_2, Bool.true_or])).symm) (by omega))
        · refine jv_aload_n 55 X dX6_takeMeans_55 0 rfl ?_
          refine jv_get (v := .ref (a 2)) 56 X gf_X6_15 dX6_takeMeans_56 0 rfl rfl ?_
          refine jv_iload_n 59 X dX6_takeMeans_59 2 rfl ?_
          refine jv_iald (f := (upd nx k ((((has ((k + 5) % 6)) + (has k)) + (has ((k + 1) % 6))) / 3))) 60 X dX6_takeMeans_60 2 rfl (by decide) k rfl (by omega) ?_
          refine jv_aload_n 61 X dX6_takeMeans_61 0 rfl ?_
          refine jv_get (v := .ref (a 1)) 62 X gf_X6_9 dX6_takeMeans_62 0 rfl rfl ?_
          refine jv_iload_n 65 X dX6_takeMeans_65 2 rfl ?_
          refine jv_iald (f := has) 66 X dX6_takeMeans_66 1 rfl (by decide) k rfl (by omega) ?_
          refine jn_icmp_eq 67 X dX6_takeMeans_67 74 (by decide) (fun c_3 => ?_) (fun c_3 => ?_)
          · refine jv_iconst (v := 0) 74 X dX6_takeMeans_74 rfl ?_
            refine jv_istore_n (lv2 := [(1, .int 0), (0, .ref (a 0)), (2, .int (nI k))]) 75 X dX6_takeMeans_75 (by decide) rfl ?_
            refine jv_iinc (v := (nI (k + 1))) (lv2 := [(2, .int (nI (k + 1))), (1, .int 0), (0, .ref (a 0))]) 76 X dX6_takeMeans_76 2 rfl (nx_inc _) (by decide) rfl ?_
            refine jv_goto 79 X dX6_takeMeans_79 4 (by decide) ?_
            exact jv_lv [2, 1, 0] rfl (ih4 (k + 1) (upd nx k ((((has ((k + 5) % 6)) + (has k)) + (has ((k + 1) % 6))) / 3)) 0 (by omega) (rg_upd hI) ((zI_f (by rw [anyB, Bool.or_eq_true]; rintro (z | z); exact zI_0.mp (hch ▸ c_2) z; rw [rgC, decide_eq_true (show rgF has k = has k from pk_us.symm.trans c_3)] at z; exact Bool.noConfusion z)).symm) (by omega))
          · refine jv_iconst (v := 1) 70 X dX6_takeMeans_70 rfl ?_
            refine jv_goto 71 X dX6_takeMeans_71 75 (by decide) ?_
            refine jv_istore_n (lv2 := [(1, .int 1), (0, .ref (a 0)), (2, .int (nI k))]) 75 X dX6_takeMeans_75 (by decide) rfl ?_
            refine jv_iinc (v := (nI (k + 1))) (lv2 := [(2, .int (nI (k + 1))), (1, .int 1), (0, .ref (a 0))]) 76 X dX6_takeMeans_76 2 rfl (nx_inc _) (by decide) rfl ?_
            refine jv_goto 79 X dX6_takeMeans_79 4 (by decide) ?_
            exact jv_lv [2, 1, 0] rfl (ih4 (k + 1) (upd nx k ((((has ((k + 5) % 6)) + (has k)) + (has ((k + 1) % 6))) / 3)) 1 (by omega) (rg_upd hI) ((zI_t (by rw [anyB, Bool.or_eq_true]; exact Or.inr (by rw [rgC, decide_eq_false (show ¬ rgF has k = has k from fun z => c_3 (pk_us.trans z))]; rfl))).symm) (by omega))
  exact jv_lv [2, 1, 0] rfl (lp4 _ 0 nxt 0 (by omega) (fun j hj => absurd hj (Nat.not_lt_zero j)) ((zI_f (by simp [anyB])).symm) (Nat.lt_succ_self _))
theorem c_X6_timesTillStill (E : EE) (l : Launch) (a : Nat → Nat) (has : Nat → Int32) (nxt : Nat → Int32) (M : Nat) (hM1 : M < 1000000) (hM2 : ¬ anyB (rgC (rgI has M)) 6 = true) (hM3 : ∀ j, j < M → anyB (rgC (rgI has j)) 6 = true) : CT E l yX6_timesTillStill cX6_timesTillStill 2 (some .int) { frames := 2, cells := 0, slots := 0, locals := 62 } [.ref (a 0)] (bRg E a has nxt) (some (.int (nI M))) (bRg E a (rgI has (M + 1)) (rgI has (M + 1))) := by
  refine CT.intro (by decide +kernel) (Nat.le_of_ble_eq_true rfl) (fun K X Y => ?_)
  refine jv_iconst (v := 0) 0 X dX6_timesTillStill_0 rfl ?_
  refine jv_istore_n (lv2 := [(1, .int 0), (0, .ref (a 0))]) 1 X dX6_timesTillStill_1 (by decide) rfl ?_
  have lp2 : ∀ (n2 : Nat) (c : Nat) (rg nx : Nat → Int32), (c ≤ M) → (rg = rgI has c) → M - c < n2 → JV E K 0 0 (bRg E a rg nx) [(0, .ref (a 0)), (1, .int (nI c))] 2 [] := by
    intro n2
    induction n2 with
    | zero => intro c rg nx hc hI hm; exact absurd hm (Nat.not_lt_zero _)
    | succ n2 ih2 =>
      intro c rg nx hc hI hm
      refine jv_iload_n 2 X dX6_timesTillStill_2 1 rfl ?_
      refine jv_ldc (v := 1000000) 3 X tm_k_X6_30 dX6_timesTillStill_3 ?_
      refine jn_icmp_ge 5 X dX6_timesTillStill_5 21 (by decide) (fun c_1 => absurd ((nx_le (a := 1000000) (b := c) rfl rfl (by omega) (by omega)).mp c_1) (by omega)) (fun c_1 => ?_)
      have n_1 : ¬ 1000000 ≤ c := fun zq => c_1 ((nx_le (a := 1000000) (b := c) rfl rfl (by omega) (by omega)).mpr zq)
      refine jv_aload_n 8 X dX6_timesTillStill_8 0 rfl ?_
      refine jv_callW (w1 := bRg E a (rgF rg) (rgF rg)) 9 X (c_X6_takeMeans E _ a rg nx) wv_X6_31 ⟨Nat.le_of_ble_eq_true rfl, Nat.le_of_ble_eq_true rfl⟩ ⟨rfl, rfl⟩ ⟨Nat.zero_le _, Nat.zero_le _⟩ dX6_timesTillStill_9 rfl [] rfl (Nat.le_of_ble_eq_true rfl) 0 rfl rfl ?_
      refine jv_z_eq 12 X dX6_timesTillStill_12 21 (by decide) (fun c_2 => ?_) (fun c_2 => ?_)
      · have hcn : c = M := by rcases Nat.lt_or_ge c M with z | z; exact absurd (hM3 c z) (by rw [← hI]; exact c_2); omega
        refine jv_iload_n 21 X dX6_timesTillStill_21 1 rfl ?_
        exact jv_iret 22 X Y rfl dX6_timesTillStill_22 () (by rw [hcn]) (by rw [hI, hcn]; rfl)
      · have hcn : c + 1 ≤ M := by rcases Nat.lt_or_ge c M with z | z; exact z; exact absurd c_2 (by rw [hI, show c = M by omega]; exact hM2)
        refine jv_iinc (v := (nI (c + 1))) (lv2 := [(1, .int (nI (c + 1))), (0, .ref (a 0))]) 15 X dX6_timesTillStill_15 1 rfl (nx_inc _) (by decide) rfl ?_
        refine jv_goto 18 X dX6_timesTillStill_18 2 (by decide) ?_
        exact jv_lv [1, 0] rfl (ih2 (c + 1) (rgF rg) (rgF rg) hcn (by rw [hI]; rfl) (by omega))
  exact jv_lv [1, 0] rfl (lp2 _ 0 has nxt (by omega) rfl (Nat.lt_succ_self _))
theorem c_X9_settle (E : EE) (l : Launch) (g : Nat → Nat → Nat) (r : Rl) (ri : Rg) (k : Int32) (n : Int32) : CG E l yX9_settle cX9_settle 4 (some .int) { frames := 2, cells := 0, slots := 0, locals := 62 } [.ref (g 0 0), .int k, .int n] (wB [bLR g, tRl E (g 1) r, tRg E (g 11) ri]) noB (fun _ : Rg => some (.int (if ¬ (0 ≤ k ∧ k ≤ 5) then -1 else if 0 ≤ n ∧ n ≤ 99 then rgI (msC r) n.toNatClampNeg k.toNatClampNeg else -2))) (fun u : Rg => wB [bLR g, tRl E (g 1) r, tRg E (g 11) u]) := by
  obtain ⟨has, nxt⟩ := ri
  refine CG.intro (by decide) (Nat.le_of_ble_eq_true rfl) (fun K X Y _ _ _ => ?_)
  refine jv_iload_n 0 X dX9_settle_0 1 rfl ?_
  refine jv_fun 1 X (c_X9_isOne E _ k) ws_X9_87 ⟨Nat.le_of_ble_eq_true rfl, Nat.le_of_ble_eq_true rfl⟩ ⟨rfl, rfl⟩ ⟨Nat.zero_le _, Nat.zero_le _⟩ dX9_settle_1 rfl [] rfl (Nat.le_of_ble_eq_true rfl) ?_
  refine jv_z_ne 4 X dX9_settle_4 9 (by decide) (fun c_1 => ?_) (fun c_1 => ?_)
  · obtain ⟨jk, h1jk, h2jk, rfl⟩ := nx_in (a := 0) (b := 5) rfl rfl (by decide) (by decide) c_1
    have hcjk : (nI jk).toNatClampNeg = jk := nI_clamp (by omega)
    refine jv_iload_n 9 X dX9_settle_9 2 rfl ?_
    refine jv_iconst (v := 0) 10 X dX9_settle_10 rfl ?_
    refine jv_bipush (v := 99) 11 X dX9_settle_11 (by decide) ?_
    refine jv_fun 13 X (c_X9_within E _ n 0 99) ws_X9_75 ⟨Nat.le_of_ble_eq_true rfl, Nat.le_of_ble_eq_true rfl⟩ ⟨rfl, rfl⟩ ⟨Nat.zero_le _, Nat.zero_le _⟩ dX9_settle_13 rfl [] rfl (Nat.le_of_ble_eq_true rfl) ?_
    refine jv_z_ne 16 X dX9_settle_16 22 (by decide) (fun c_2 => ?_) (fun c_2 => ?_)
    · obtain ⟨jn, h1jn, h2jn, rfl⟩ := nx_in (a := 0) (b := 99) rfl rfl (by decide) (by decide) c_2
      have hcjn : (nI jn).toNatClampNeg = jn := nI_clamp (by omega)
      refine jv_aload_n 22 X dX9_settle_22 0 rfl ?_
      refine jv_get (v := .ref (g 11 0)) 23 X gf_X9_57 dX9_settle_23 0 rfl rfl ?_
      refine jv_aload_n 26 X dX9_settle_26 0 rfl ?_
      refine jv_get (v := .ref (g 1 0)) 27 X gf_X9_10 dX9_settle_27 0 rfl rfl ?_
      refine jv_callB (wl2 := [bLR g, tRl E (g 1) r, bRg E (g 11) (msC r) nxt]) 30 X (c_X6_stand E _ (g 11) has nxt (g 1) r) wv_X9_243 ⟨Nat.le_of_ble_eq_true rfl, Nat.le_of_ble_eq_true rfl⟩ ⟨rfl, rfl⟩ ⟨Nat.zero_le _, Nat.zero_le _⟩ dX9_settle_30 rfl [] rfl (Nat.le_of_ble_eq_true rfl) [2, 1] rfl rfl [[(g 11 0), (g 11 1), (g 11 2)], [(g 1 0), (g 1 1), (g 1 2), (g 1 3), (g 1 4), (g 1 5), (g 1 6), (g 1 7), (g 1 8), (g 1 9), (g 1 10)]] rfl rfl 2 rfl rfl rfl rfl ?_
      refine jv_iconst (v := 0) 33 X dX9_settle_33 rfl ?_
      refine jv_istore_n (lv2 := [(3, .int 0), (0, .ref (g 0 0)), (1, .int (nI jk)), (2, .int (nI jn))]) 34 X dX9_settle_34 (by decide) rfl ?_
      have lp35 : ∀ (n35 : Nat) (i : Nat) (rg nx : Nat → Int32), (i ≤ jn) → (rg = rgI (msC r) i) → jn - i < n35 → JV E K 0 0 (wB [bLR g, tRl E (g 1) r, bRg E (g 11) rg nx]) [(0, .ref (g 0 0)), (1, .int (nI jk)), (2, .int (nI jn)), (3, .int (nI i))] 35 [] := by
        intro n35
        induction n35 with
        | zero => intro i rg nx hi hI hm; exact absurd hm (Nat.not_lt_zero _)
        | succ n35 ih35 =>
          intro i rg nx hi hI hm
          refine jv_iload_n 35 X dX9_settle_35 3 rfl ?_
          refine jv_iload_n 36 X dX9_settle_36 2 rfl ?_
          refine jn_icmp_ge 37 X dX9_settle_37 54 (by decide) (fun c_3 => ?_) (fun c_3 => ?_)
          · have n_3 : jn ≤ i := (nx_le (a := jn) (b := i) rfl rfl (by omega) (by omega)).mp c_3
            refine jv_aload_n 54 X dX9_settle_54 0 rfl ?_
            refine jv_get (v := .ref (g 11 0)) 55 X gf_X9_57 dX9_settle_55 0 rfl rfl ?_
            refine jv_get (v := .ref (g 11 1)) 58 X gf_X9_249 dX9_settle_58 12 rfl rfl ?_
            refine jv_iload_n 61 X dX9_settle_61 1 rfl ?_
            refine jv_iald (f := rg) 62 X dX9_settle_62 13 rfl (by decide) jk rfl (by omega) ?_
            have hq : (rg jk) = rgI (msC r) jn jk := by rw [hI, show i = jn by omega]
            exact jv_iret 63 X Y rfl dX9_settle_63 (rg, nx) (by rw [hq]; simp [c_1, hcjk, c_2, hcjn]) rfl
          · have n_3 : ¬ jn ≤ i := fun zq => c_3 ((nx_le (a := jn) (b := i) rfl rfl (by omega) (by omega)).mpr zq)
            refine jv_aload_n 40 X dX9_settle_40 0 rfl ?_
            refine jv_get (v := .ref (g 11 0)) 41 X gf_X9_57 dX9_settle_41 0 rfl rfl ?_
            refine jv_callB1 (wl2 := [bLR g, tRl E (g 1) r, bRg E (g 11) (rgF rg) (rgF rg)]) 44 X (c_X6_takeMeans E _ (g 11) rg nx) wv_X9_246 ⟨Nat.le_of_ble_eq_true rfl, Nat.le_of_ble_eq_true rfl⟩ ⟨rfl, rfl⟩ ⟨Nat.zero_le _, Nat.zero_le _⟩ dX9_settle_44 rfl [] rfl (Nat.le_of_ble_eq_true rfl) 2 rfl [(g 11 0), (g 11 1), (g 11 2)] rfl rfl rfl rfl rfl ?_
            refine jv_pop 47 X dX9_settle_47 rfl ?_
            refine jv_iinc (v := (nI (i + 1))) (lv2 := [(3, .int (nI (i + 1))), (0, .ref (g 0 0)), (1, .int (nI jk)), (2, .int (nI jn))]) 48 X dX9_settle_48 3 rfl (nx_inc _) (by decide) rfl ?_
            refine jv_goto 51 X dX9_settle_51 35 (by decide) ?_
            exact jv_lv [1, 2, 3, 0] rfl (ih35 (i + 1) (rgF rg) (rgF rg) (by omega) (by rw [hI]; rfl) (by omega))
      exact jv_lv [1, 2, 3, 0] rfl (lp35 _ 0 (msC r) nxt (by omega) rfl (Nat.lt_succ_self _))
    · refine jv_bipush (v := (-2)) 19 X dX9_settle_19 (by decide) ?_
      exact jv_iret 21 X Y rfl dX9_settle_21 (has, nxt) (by simp [lt_nle, -Int32.not_le, c_1, hcjk, c_2]) rfl
  · refine jv_iconst (v := (-1)) 7 X dX9_settle_7 rfl ?_
    exact jv_iret 8 X Y rfl dX9_settle_8 (has, nxt) (by simp [lt_nle, -Int32.not_le, c_1]) rfl
theorem c_X9_settled (E : EE) (l : Launch) (g : Nat → Nat → Nat) (r : Rl) (ri : Rg) (M : Nat) (hM1 : M < 1000000) (hM2 : ¬ anyB (rgC (rgI (msC r) M)) 6 = true) (hM3 : ∀ j, j < M → anyB (rgC (rgI (msC r) j)) 6 = true) : CG E l yX9_settled cX9_settled 1 (some .int) { frames := 3, cells := 0, slots := 0, locals := 83 } [.ref (g 0 0)] (wB [bLR g, tRl E (g 1) r, tRg E (g 11) ri]) noB (fun _ : Rg => some (.int (nI M))) (fun u : Rg => wB [bLR g, tRl E (g 1) r, tRg E (g 11) u]) := by
  obtain ⟨has, nxt⟩ := ri
  refine CG.intro (by decide) (Nat.le_of_ble_eq_true rfl) (fun K X Y _ _ _ => ?_)
  refine jv_aload_n 0 X dX9_settled_0 0 rfl ?_
  refine jv_get (v := .ref (g 11 0)) 1 X gf_X9_57 dX9_settled_1 0 rfl rfl ?_
  refine jv_aload_n 4 X dX9_settled_4 0 rfl ?_
  refine jv_get (v := .ref (g 1 0)) 5 X gf_X9_10 dX9_settled_5 0 rfl rfl ?_
  refine jv_callB (wl2 := [bLR g, tRl E (g 1) r, bRg E (g 11) (msC r) nxt]) 8 X (c_X6_stand E _ (g 11) has nxt (g 1) r) wv_X9_243 ⟨Nat.le_of_ble_eq_true rfl, Nat.le_of_ble_eq_true rfl⟩ ⟨rfl, rfl⟩ ⟨Nat.zero_le _, Nat.zero_le _⟩ dX9_settled_8 rfl [] rfl (Nat.le_of_ble_eq_true rfl) [2, 1] rfl rfl [[(g 11 0), (g 11 1), (g 11 2)], [(g 1 0), (g 1 1), (g 1 2), (g 1 3), (g 1 4), (g 1 5), (g 1 6), (g 1 7), (g 1 8), (g 1 9), (g 1 10)]] rfl rfl 2 rfl rfl rfl rfl ?_
  refine jv_aload_n 11 X dX9_settled_11 0 rfl ?_
  refine jv_get (v := .ref (g 11 0)) 12 X gf_X9_57 dX9_settled_12 0 rfl rfl ?_
  refine jv_callB1 (wl2 := [bLR g, tRl E (g 1) r, bRg E (g 11) (rgI (msC r) (M + 1)) (rgI (msC r) (M + 1))]) 15 X (c_X6_timesTillStill E _ (g 11) (msC r) nxt M hM1 hM2 hM3) wv_X9_252 ⟨Nat.le_of_ble_eq_true rfl, Nat.le_of_ble_eq_true rfl⟩ ⟨rfl, rfl⟩ ⟨Nat.zero_le _, Nat.zero_le _⟩ dX9_settled_15 rfl [] rfl (Nat.le_of_ble_eq_true rfl) 2 rfl [(g 11 0), (g 11 1), (g 11 2)] rfl rfl rfl rfl rfl ?_
  exact jv_iret 18 X Y rfl dX9_settled_18 ((rgI (msC r) (M + 1)), (rgI (msC r) (M + 1))) rfl rfl
theorem c_X7_winningMove (E : EE) (l : Launch) (a : Nat → Nat) (moves : Nat → Int32) (n : Nat) (k : Nat) (hn : n ≤ 200) (hk : k ≤ 9) : CT E l yX7_winningMove cX7_winningMove 4 (some .int) { frames := 0, cells := 0, slots := 0, locals := 0 } [.ref (a 0), .int (nI n), .int (nI k)] (bTu E a moves) (some (.int (wmF moves n k))) (bTu E a moves) := by
  refine CT.intro (by decide +kernel) (Nat.le_of_ble_eq_true rfl) (fun K X Y => ?_)
  refine jv_iload_n 0 X dX7_winningMove_0 1 rfl ?_
  refine jn_if_ne 1 X dX7_winningMove_1 7 (by decide) (fun c_1 => ?_) (fun c_1 => ?_)
  · have n_1 : ¬ n = 0 := fun zq => c_1 ((nx_eq (a := n) (b := 0) rfl rfl (by omega) (by omega)).mpr zq)
    refine jv_aload_n 7 X dX7_winningMove_7 0 rfl ?_
    refine jv_get (v := .ref (a 1)) 8 X gf_X7_9 dX7_winningMove_8 0 rfl rfl ?_
    refine jv_iload_n 11 X dX7_winningMove_11 1 rfl ?_
    refine jv_iconst (v := 2) 12 X dX7_winningMove_12 rfl ?_
    refine jv_idiv 13 X dX7_winningMove_13 (by decide) ?_
    refine jv_norm (x2 := nI (n / 2)) (nx_div (a := n) (b := 2) rfl rfl (by omega) (by omega) (by omega)) ?_
    refine jv_iald (f := moves) 14 X dX7_winningMove_14 1 rfl (by decide) (n / 2) rfl (by omega) ?_
    refine jv_bipush (v := (-6)) 15 X dX7_winningMove_15 (by decide) ?_
    refine jn_icmp_ne 17 X dX7_winningMove_17 22 (by decide) (fun c_2 => ?_) (fun c_2 => ?_)
    · refine jv_iconst (v := 1) 22 X dX7_winningMove_22 rfl ?_
      refine jv_istore_n (lv2 := [(3, .int 1), (0, .ref (a 0)), (1, .int (nI n)), (2, .int (nI k))]) 23 X dX7_winningMove_23 (by decide) rfl ?_
      have lp24 : ∀ (n24 : Nat) (c : Nat), (1 ≤ c) → (c ≤ min k n + 1) → (itE (wmS moves n) (min k n) 1 () = itE (wmS moves n) (min k n + 1 - c) c ()) → min k n + 1 - c < n24 → JV E K 0 0 (bTu E a moves) [(0, .ref (a 0)), (1, .int (nI n)), (2, .int (nI k)), (3, .int (nI c))] 24 [] := by
        intro n24
        induction n24 with
        | zero => intro c hc1 hc2 hJ hm; exact absurd hm (Nat.not_lt_zero _)
        | succ n24 ih24 =>
          intro c hc1 hc2 hJ hm
          refine jv_iload_n 24 X dX7_winningMove_24 3 rfl ?_
          refine jv_iload_n 25 X dX7_winningMove_25 2 rfl ?_
          refine jn_icmp_gt 26 X dX7_winningMove_26 55 (by decide) (fun c_3 => ?_) (fun c_3 => ?_)
          · have n_3 : ¬ c ≤ k := fun zq => c_3 ((nx_le (a := c) (b := k) rfl rfl (by omega) (by omega)).mpr zq)
            refine jv_bipush (v := (-6)) 55 X dX7_winningMove_55 (by decide) ?_
            exact jv_iret 57 X Y rfl dX7_winningMove_57 () (congrArg (fun z => some (Value.int z)) (by unfold wmF; rw [if_neg n_1, if_neg c_2, hJ, show min k n + 1 - c = 0 by omega]; rfl)) rfl
          · have n_3 : c ≤ k := (nx_le (a := c) (b := k) rfl rfl (by omega) (by omega)).mp c_3
            refine jv_iload_n 29 X dX7_winningMove_29 3 rfl ?_
            refine jv_iload_n 30 X dX7_winningMove_30 1 rfl ?_
            refine jn_icmp_gt 31 X dX7_winningMove_31 55 (by decide) (fun c_4 => ?_) (fun c_4 => ?_)
            · have n_4 : ¬ c ≤ n := fun zq => c_4 ((nx_le (a := c) (b := n) rfl rfl (by omega) (by omega)).mpr zq)
              refine jv_bipush (v := (-6)) 55 X dX7_winningMove_55 (by decide) ?_
              exact jv_iret 57 X Y rfl dX7_winningMove_57 () (congrArg (fun z => some (Value.int z)) (by unfold wmF; rw [if_neg n_1, if_neg c_2, hJ, show min k n + 1 - c = 0 by omega]; rfl)) rfl
            · have n_4 : c ≤ n := (nx_le (a := c) (b := n) rfl rfl (by omega) (by omega)).mp c_4
              refine jv_aload_n 34 X dX7_winningMove_34 0 rfl ?_
              refine jv_get (v := .ref (a 1)) 35 X gf_X7_9 dX7_winningMove_35 0 rfl rfl ?_
              refine jv_iload_n 38 X dX7_winningMove_38 1 rfl ?_
              refine jv_iload_n 39 X dX7_winningMove_39 3 rfl ?_
              refine jv_isub 40 X dX7_winningMove_40 ?_
              refine jv_norm (x2 := nI (n - c)) (nx_sub2 (a := n) (b := c) rfl rfl (by omega)) ?_
              refine jv_iald (f := moves) 41 X dX7_winningMove_41 1 rfl (by decide) (n - c) rfl (by omega) ?_
              refine jv_bipush (v := (-6)) 42 X dX7_winningMove_42 (by decide) ?_
              refine jn_icmp_ne 44 X dX7_winningMove_44 49 (by decide) (fun c_5 => ?_) (fun c_5 => ?_)
              · refine jv_iinc (v := (nI (c + 1))) (lv2 := [(3, .int (nI (c + 1))), (0, .ref (a 0)), (1, .int (nI n)), (2, .int (nI k))]) 49 X dX7_winningMove_49 3 rfl (nx_inc _) (by decide) rfl ?_
                refine jv_goto 52 X dX7_winningMove_52 24 (by decide) ?_
                exact jv_lv [1, 2, 3, 0] rfl (ih24 (c + 1) (by omega) (by omega) (by rw [hJ, show min k n + 1 - c = (min k n + 1 - (c + 1)) + 1 by omega]; exact itE_r (if_neg c_5)) (by omega))
              · refine jv_iload_n 47 X dX7_winningMove_47 3 rfl ?_
                exact jv_iret 48 X Y rfl dX7_winningMove_48 () (congrArg (fun z => some (Value.int z)) (by unfold wmF; rw [if_neg n_1, if_neg c_2, hJ, show min k n + 1 - c = (min k n - c) + 1 by omega, itE_l (show wmS moves n c () = .inl (nI c) from if_pos c_5)])) rfl
      exact jv_lv [1, 2, 3, 0] rfl (lp24 _ 1 (by omega) (by omega) rfl (Nat.lt_succ_self _))
    · refine jv_iconst (v := 0) 20 X dX7_winningMove_20 rfl ?_
      exact jv_iret 21 X Y rfl dX7_winningMove_21 () (congrArg (fun z => some (Value.int z)) (by unfold wmF; rw [if_neg n_1, if_pos c_2])) rfl
  · have n_1 : n = 0 := (nx_eq (a := n) (b := 0) rfl rfl (by omega) (by omega)).mp c_1
    refine jv_bipush (v := (-6)) 4 X dX7_winningMove_4 (by decide) ?_
    exact jv_iret 6 X Y rfl dX7_winningMove_6 () (congrArg (fun z => some (Value.int z)) (by unfold wmF; rw [if_pos n_1])) rfl
theorem c_X7_firstMove (E : EE) (l : Launch) (a : Nat → Nat) (moves : Nat → Int32) (n : Nat) (k : Nat) (hn : n ≤ 200) (hk : k ≤ 9) : CT E l yX7_firstMove cX7_firstMove 4 (some .int) { frames := 1, cells := 0, slots := 0, locals := 23 } [.ref (a 0), .int (nI n), .int (nI k)] (bTu E a moves) (some (.int (fmF moves n k))) (bTu E a (itr (fmS k) (n + 1) moves)) := by
  refine CT.intro (by decide +kernel) (Nat.le_of_ble_eq_true rfl) (fun K X Y => ?_)
  refine jv_iconst (v := 0) 0 X dX7_firstMove_0 rfl ?_
  refine jv_istore_n (lv2 := [(3, .int 0), (0, .ref (a 0)), (1, .int (nI n)), (2, .int (nI k))]) 1 X dX7_firstMove_1 (by decide) rfl ?_
  have lp2 : ∀ (n2 : Nat) (l : Nat) (mv : Nat → Int32), (l ≤ n + 1) → (mv = itr (fmS k) l moves) → n + 1 - l < n2 → JV E K 0 0 (bTu E a mv) [(0, .ref (a 0)), (1, .int (nI n)), (2, .int (nI k)), (3, .int (nI l))] 2 [] := by
    intro n2
    induction n2 with
    | zero => intro l mv hl hI hm; exact absurd hm (Nat.not_lt_zero _)
    | succ n2 ih2 =>
      intro l mv hl hI hm
      refine jv_iload_n 2 X dX7_firstMove_2 3 rfl ?_
      refine jv_iload_n 3 X dX7_firstMove_3 1 rfl ?_
      refine jn_icmp_gt 4 X dX7_firstMove_4 25 (by decide) (fun c_1 => ?_) (fun c_1 => ?_)
      · have n_1 : ¬ l ≤ n := fun zq => c_1 ((nx_le (a := l) (b := n) rfl rfl (by omega) (by omega)).mpr zq)
        refine jv_aload_n 25 X dX7_firstMove_25 0 rfl ?_
        refine jv_get (v := .ref (a 1)) 26 X gf_X7_9 dX7_firstMove_26 0 rfl rfl ?_
        refine jv_iload_n 29 X dX7_firstMove_29 1 rfl ?_
        refine jv_iald (f := mv) 30 X dX7_firstMove_30 1 rfl (by decide) n rfl (by omega) ?_
        obtain rfl : l = n + 1 := by omega
        subst hI
        exact jv_iret 31 X Y rfl dX7_firstMove_31 () rfl rfl
      · have n_1 : l ≤ n := (nx_le (a := l) (b := n) rfl rfl (by omega) (by omega)).mp c_1
        refine jv_aload_n 7 X dX7_firstMove_7 0 rfl ?_
        refine jv_get (v := .ref (a 1)) 8 X gf_X7_9 dX7_firstMove_8 0 rfl rfl ?_
        refine jv_iload_n 11 X dX7_firstMove_11 3 rfl ?_
        refine jv_aload_n 12 X dX7_firstMove_12 0 rfl ?_
        refine jv_iload_n 13 X dX7_firstMove_13 3 rfl ?_
        refine jv_iload_n 14 X dX7_firstMove_14 2 rfl ?_
        refine jv_callW (w1 := bTu E a mv) 15 X (c_X7_winningMove E _ a mv l k (by omega) hk) wv_X7_15 ⟨Nat.le_of_ble_eq_true rfl, Nat.le_of_ble_eq_true rfl⟩ ⟨rfl, rfl⟩ ⟨Nat.zero_le _, Nat.zero_le _⟩ dX7_firstMove_15 rfl [.int (nI l), .ref (a 1)] rfl (Nat.le_of_ble_eq_true rfl) 0 rfl rfl ?_
        refine jv_iast (ws2 := bTu E a (upd mv l (wmF mv l k))) (f := mv) 18 X dX7_firstMove_18 1 rfl (by decide) l rfl (by omega) rfl ?_
        refine jv_iinc (v := (nI (l + 1))) (lv2 := [(3, .int (nI (l + 1))), (0, .ref (a 0)), (1, .int (nI n)), (2, .int (nI k))]) 19 X dX7_firstMove_19 3 rfl (nx_inc _) (by decide) rfl ?_
        refine jv_goto 22 X dX7_firstMove_22 2 (by decide) ?_
        exact jv_lv [1, 2, 3, 0] rfl (ih2 (l + 1) (upd mv l (wmF mv l k)) (by omega) (by rw [itr_s, ← hI]; rfl) (by omega))
  exact jv_lv [1, 2, 3, 0] rfl (lp2 _ 0 moves (by omega) rfl (Nat.lt_succ_self _))
theorem c_X9_halves (E : EE) (l : Launch) (g : Nat → Nat → Nat) (moves : Nat → Int32) (n : Int32) (k : Int32) (what : Int32) : CG E l yX9_halves cX9_halves 5 (some .int) { frames := 2, cells := 0, slots := 0, locals := 46 } [.ref (g 0 0), .int n, .int k, .int what] (wB [bLR g, bTu E (g 12) moves]) noB (fun _ : (Nat → Int32) => some (.int (if (0 ≤ n ∧ n ≤ 200) ∧ (1 ≤ k ∧ k ≤ 9) ∧ (0 ≤ what ∧ what ≤ 1) then (if what = 1 then (fmF moves n.toNatClampNeg k.toNatClampNeg) else if (fmF moves n.toNatClampNeg k.toNatClampNeg) = -6 then 0 else 1) else -2))) (fun u : (Nat → Int32) => wB [bLR g, bTu E (g 12) u]) := by
  refine CG.intro (by decide) (Nat.le_of_ble_eq_true rfl) (fun K X Y _ _ _ => ?_)
  refine jv_iload_n 0 X dX9_halves_0 1 rfl ?_
  refine jv_iconst (v := 0) 1 X dX9_halves_1 rfl ?_
  refine jv_sipush (v := 200) 2 X dX9_halves_2 (by decide) ?_
  refine jv_fun 5 X (c_X9_within E _ n 0 200) ws_X9_75 ⟨Nat.le_of_ble_eq_true rfl, Nat.le_of_ble_eq_true rfl⟩ ⟨rfl, rfl⟩ ⟨Nat.zero_le _, Nat.zero_le _⟩ dX9_halves_5 rfl [] rfl (Nat.le_of_ble_eq_true rfl) ?_
  refine jv_z_eq 8 X dX9_halves_8 30 (by decide) (fun c_1 => ?_) (fun c_1 => ?_)
  · refine jv_bipush (v := (-2)) 30 X dX9_halves_30 (by decide) ?_
    exact jv_iret 32 X Y rfl dX9_halves_32 moves (by simp [lt_nle, -Int32.not_le, c_1]) rfl
  · obtain ⟨jn, h1jn, h2jn, rfl⟩ := nx_in (a := 0) (b := 200) rfl rfl (by decide) (by decide) c_1
    have hcjn : (nI jn).toNatClampNeg = jn := nI_clamp (by omega)
    refine jv_iload_n 11 X dX9_halves_11 2 rfl ?_
    refine jv_iconst (v := 1) 12 X dX9_halves_12 rfl ?_
    refine jv_bipush (v := 9) 13 X dX9_halves_13 (by decide) ?_
    refine jv_fun 15 X (c_X9_within E _ k 1 9) ws_X9_75 ⟨Nat.le_of_ble_eq_true rfl, Nat.le_of_ble_eq_true rfl⟩ ⟨rfl, rfl⟩ ⟨Nat.zero_le _, Nat.zero_le _⟩ dX9_halves_15 rfl [] rfl (Nat.le_of_ble_eq_true rfl) ?_
    refine jv_z_eq 18 X dX9_halves_18 30 (by decide) (fun c_2 => ?_) (fun c_2 => ?_)
    · refine jv_bipush (v := (-2)) 30 X dX9_halves_30 (by decide) ?_
      exact jv_iret 32 X Y rfl dX9_halves_32 moves (by simp [lt_nle, -Int32.not_le, c_1, hcjn, c_2]) rfl
    · obtain ⟨jk, h1jk, h2jk, rfl⟩ := nx_in (a := 1) (b := 9) rfl rfl (by decide) (by decide) c_2
      have hcjk : (nI jk).toNatClampNeg = jk := nI_clamp (by omega)
      refine jv_iload_n 21 X dX9_halves_21 3 rfl ?_
      refine jv_iconst (v := 0) 22 X dX9_halves_22 rfl ?_
      refine jv_iconst (v := 1) 23 X dX9_halves_23 rfl ?_
      refine jv_fun 24 X (c_X9_within E _ what 0 1) ws_X9_75 ⟨Nat.le_of_ble_eq_true rfl, Nat.le_of_ble_eq_true rfl⟩ ⟨rfl, rfl⟩ ⟨Nat.zero_le _, Nat.zero_le _⟩ dX9_halves_24 rfl [] rfl (Nat.le_of_ble_eq_true rfl) ?_
      refine jv_z_ne 27 X dX9_halves_27 33 (by decide) (fun c_3 => ?_) (fun c_3 => ?_)
      · refine jv_aload_n 33 X dX9_halves_33 0 rfl ?_
        refine jv_get (v := .ref (g 12 0)) 34 X gf_X9_64 dX9_halves_34 0 rfl rfl ?_
        refine jv_iload_n 37 X dX9_halves_37 1 rfl ?_
        refine jv_iload_n 38 X dX9_halves_38 2 rfl ?_
        refine jv_callB1 (wl2 := [bLR g, bTu E (g 12) (itr (fmS jk) (jn + 1) moves)]) 39 X (c_X7_firstMove E _ (g 12) moves jn jk (by omega) (by omega)) wv_X9_255 ⟨Nat.le_of_ble_eq_true rfl, Nat.le_of_ble_eq_true rfl⟩ ⟨rfl, rfl⟩ ⟨Nat.zero_le _, Nat.zero_le _⟩ dX9_halves_39 rfl [] rfl (Nat.le_of_ble_eq_true rfl) 1 rfl [(g 12 0), (g 12 1)] rfl rfl rfl rfl rfl ?_
        refine jv_istore (lv2 := [(4, .int (fmF moves jn jk)), (0, .ref (g 0 0)), (1, .int (nI jn)), (2, .int (nI jk)), (3, .int what)]) 42 X dX9_halves_42 (by decide) rfl ?_
        refine jv_iload_n 44 X dX9_halves_44 4 rfl ?_
        refine jv_iconst (v := 1) 45 X dX9_halves_45 rfl ?_
        refine jn_icmp_ne 46 X dX9_halves_46 52 (by decide) (fun c_4 => ?_) (fun c_4 => ?_)
        · refine jv_iload 52 X dX9_halves_52 0 rfl ?_
          refine jv_bipush (v := (-6)) 54 X dX9_halves_54 (by decide) ?_
          refine jn_icmp_ne 56 X dX9_halves_56 63 (by decide) (fun c_5 => ?_) (fun c_5 => ?_)
          · refine jv_iconst (v := 1) 63 X dX9_halves_63 rfl ?_
            exact jv_iret 64 X Y rfl dX9_halves_64 (itr (fmS jk) (jn + 1) moves) (by simp [lt_nle, -Int32.not_le, c_1, hcjn, c_2, hcjk, c_3, c_4, c_5]) rfl
          · refine jv_iconst (v := 0) 59 X dX9_halves_59 rfl ?_
            refine jv_goto 60 X dX9_halves_60 64 (by decide) ?_
            exact jv_iret 64 X Y rfl dX9_halves_64 (itr (fmS jk) (jn + 1) moves) (by simp [lt_nle, -Int32.not_le, c_1, hcjn, c_2, hcjk, c_3, c_4, c_5]) rfl
        · refine jv_iload 49 X dX9_halves_49 0 rfl ?_
          exact jv_iret 51 X Y rfl dX9_halves_51 (itr (fmS jk) (jn + 1) moves) (by simp [lt_nle, -Int32.not_le, c_1, hcjn, c_2, hcjk, c_3, c_4]) rfl
      · refine jv_bipush (v := (-2)) 30 X dX9_halves_30 (by decide) ?_
        exact jv_iret 32 X Y rfl dX9_halves_32 moves (by simp [lt_nle, -Int32.not_le, c_1, hcjn, c_2, hcjk, c_3]) rfl
