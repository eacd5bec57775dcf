def insW (x : Int32) : Nat → (Nat → Int32) → Nat → Int32
  | 0, s => upd s 0 x
  | p + 1, s => if s p ≤ x then upd s (p + 1) x else insW x p (upd s (p + 1) (s p))
def srF (W : Nat → Int32) (n : Nat) (s : Nat → Int32) : Nat → Int32 := itr (fun i s => insW (W i) i s) n s
def lsS (s : Nat → Int32) (r i : Nat) (l : Int32) : Int32 := if s (i + r - 1) - s i < l then s (i + r - 1) - s i else l
def lsF (s : Nat → Int32) (m r : Nat) : Int32 := itr (lsS s r) (m + 2 - r) 200
def bgP (W : Nat → Int32) (f m r sp t : Nat) : Bool := decide (W (f + t) ≤ W f ∧ W f ≤ W (f + t) + nI sp) && decide (r ≤ ctI W (W (f + t)) (W (f + t) + nI sp) f (m + 1 - f))
def fdS (W : Nat → Int32) (m r sp dy : Nat) (_ : Unit) : Int32 ⊕ Unit := if anyB (bgP W dy m r sp) (m + 1 - dy) = true then .inl (nI dy) else .inr ()
def fdM (W : Nat → Int32) (m r sp : Nat) : Int32 := match itE (fdS W m r sp) (m + 1) 0 () with
  | .inl x => x
  | .inr _ => -6
theorem c_X0_sort (E : EE) (l : Launch) (a : Nat → Nat) (inches : Nat → Int32) (sorted : Nat → Int32) (buyDay : Int32) (sellDay : Int32) (m : Nat) (W : Nat → Int32) (hm6 : m ≤ 60) (hW : ∀ j, j ≤ m → inches j = W j) : CT E l yX0_sort cX0_sort 4 none { frames := 0, cells := 0, slots := 0, locals := 0 } [.ref (a 0), .int (nI m)] (bAh E a inches sorted buyDay sellDay) (none) (bAh E a inches (srF W (m + 1) sorted) buyDay sellDay) := by
  refine CT.intro (by decide +kernel) (Nat.le_of_ble_eq_true rfl) (fun K X Y => ?_)
  refine jv_iconst (v := 0) 0 X dX0_sort_0 rfl ?_
  refine jv_istore_n (lv2 := [(2, .int 0), (0, .ref (a 0)), (1, .int (nI m))]) 1 X dX0_sort_1 (by decide) rfl ?_
  have lp2 : ∀ (n2 : Nat) (i : Nat) (so : Nat → Int32), (i ≤ m + 1) → (so = itr (fun i s => insW (W i) i s) i sorted) → m + 1 - i < n2 → JV E K 0 0 (bAh E a inches so buyDay sellDay) [(0, .ref (a 0)), (1, .int (nI m)), (2, .int (nI i))] 2 [] := by
    intro n2
    induction n2 with
    | zero => intro i so hi hI hm; exact absurd hm (Nat.not_lt_zero _)
    | succ n2 ih2 =>
      intro i so hi hI hm
      refine jv_iload_n 2 X dX0_sort_2 2 rfl ?_
      refine jv_iload_n 3 X dX0_sort_3 1 rfl ?_
      refine jn_icmp_gt 4 X dX0_sort_4 68 (by decide) (fun c_1 => ?_) (fun c_1 => ?_)
      · have n_1 : ¬ i ≤ m := fun zq => c_1 ((nx_le (a := i) (b := m) rfl rfl (by omega) (by omega)).mpr zq)
        exact jv_vret 68 X Y rfl dX0_sort_68 () rfl (by rw [srF, show m + 1 = i by omega, ← hI])
      · have n_1 : i ≤ m := (nx_le (a := i) (b := m) rfl rfl (by omega) (by omega)).mp c_1
        refine jv_iload_n 7 X dX0_sort_7 2 rfl ?_
        refine jv_istore_n (lv2 := [(3, .int (nI i)), (0, .ref (a 0)), (1, .int (nI m)), (2, .int (nI i))]) 8 X dX0_sort_8 (by decide) rfl ?_
        have lp9 : ∀ (n9 : Nat) (p : Nat) (s : Nat → Int32), (p ≤ i) → (insW (W i) i so = insW (W i) p s) → p < n9 → JV E K 0 0 (bAh E a inches s buyDay sellDay) [(0, .ref (a 0)), (1, .int (nI m)), (2, .int (nI i)), (3, .int (nI p))] 9 [] := by
          intro n9
          induction n9 with
          | zero => intro p s hp hJ hm; exact absurd hm (Nat.not_lt_zero _)
          | succ n9 ih9 =>
            intro p s hp hJ hm
            refine jv_iload_n 9 X dX0_sort_9 3 rfl ?_
            refine jn_if_le 10 X dX0_sort_10 50 (by decide) (fun c_2 => ?_) (fun c_2 => ?_)
            · have n_2 : p ≤ 0 := (nx_le (a := p) (b := 0) rfl rfl (by omega) (by omega)).mp c_2
              obtain rfl : p = 0 := by omega
              refine jv_aload_n 50 X dX0_sort_50 0 rfl ?_
              refine jv_get (v := .ref (a 2)) 51 X gf_X0_15 dX0_sort_51 0 rfl rfl ?_
              refine jv_iload_n 54 X dX0_sort_54 3 rfl ?_
              refine jv_aload_n 55 X dX0_sort_55 0 rfl ?_
              refine jv_get (v := .ref (a 1)) 56 X gf_X0_9 dX0_sort_56 0 rfl rfl ?_
              refine jv_iload_n 59 X dX0_sort_59 2 rfl ?_
              refine jv_iald (f := inches) 60 X dX0_sort_60 1 rfl (by decide) i rfl (by omega) ?_
              refine jv_norm (x2 := (W i)) (hW _ (by omega)) ?_
              refine jv_iast (ws2 := bAh E a inches (upd s 0 (W i)) buyDay sellDay) (f := s) 61 X dX0_sort_61 2 rfl (by decide) 0 rfl (by omega) rfl ?_
              refine jv_iinc (v := (nI (i + 1))) (lv2 := [(2, .int (nI (i + 1))), (0, .ref (a 0)), (1, .int (nI m)), (3, .int (nI 0))]) 62 X dX0_sort_62 2 rfl (nx_inc _) (by decide) rfl ?_
              refine jv_goto 65 X dX0_sort_65 2 (by decide) ?_
              exact jv_lv [1, 2, 0] rfl (ih2 (i + 1) (upd s 0 (W i)) (by omega) (by rw [itr_s, ← hI, hJ]; symm; rw [insW]) (by omega))
            · have n_2 : ¬ p ≤ 0 := fun zq => c_2 ((nx_le (a := p) (b := 0) rfl rfl (by omega) (by omega)).mpr zq)
              obtain ⟨z, rfl⟩ : ∃ z, p = z + 1 := ⟨p - 1, by omega⟩
              refine jv_aload_n 13 X dX0_sort_13 0 rfl ?_
              refine jv_get (v := .ref (a 2)) 14 X gf_X0_15 dX0_sort_14 0 rfl rfl ?_
              refine jv_iload_n 17 X dX0_sort_17 3 rfl ?_
              refine jv_iconst (v := 1) 18 X dX0_sort_18 rfl ?_
              refine jv_isub 19 X dX0_sort_19 ?_
              refine jv_norm (x2 := nI z) (nx_sub2 (a := (z + 1)) (b := 1) rfl rfl (by omega)) ?_
              refine jv_iald (f := s) 20 X dX0_sort_20 2 rfl (by decide) z rfl (by omega) ?_
              refine jv_aload_n 21 X dX0_sort_21 0 rfl ?_
              refine jv_get (v := .ref (a 1)) 22 X gf_X0_9 dX0_sort_22 0 rfl rfl ?_
              refine jv_iload_n 25 X dX0_sort_25 2 rfl ?_
              refine jv_iald (f := inches) 26 X dX0_sort_26 1 rfl (by decide) i rfl (by omega) ?_
              refine jv_norm (x2 := (W i)) (hW _ (by omega)) ?_
              refine jn_icmp_le 27 X dX0_sort_27 50 (by decide) (fun c_3 => ?_) (fun c_3 => ?_)
              · refine jv_aload_n 50 X dX0_sort_50 0 rfl ?_
                refine jv_get (v := .ref (a 2)) 51 X gf_X0_15 dX0_sort_51 0 rfl rfl ?_
                refine jv_iload_n 54 X dX0_sort_54 3 rfl ?_
                refine jv_aload_n 55 X dX0_sort_55 0 rfl ?_
                refine jv_get (v := .ref (a 1)) 56 X gf_X0_9 dX0_sort_56 0 rfl rfl ?_
                refine jv_iload_n 59 X dX0_sort_59 2 rfl ?_
                refine jv_iald (f := inches) 60 X dX0_sort_60 1 rfl (by decide) i rfl (by omega) ?_
                refine jv_norm (x2 := (W i)) (hW _ (by omega)) ?_
                refine jv_iast (ws2 := bAh E a inches (upd s (z + 1) (W i)) buyDay sellDay) (f := s) 61 X dX0_sort_61 2 rfl (by decide) (z + 1) rfl (by omega) rfl ?_
                refine jv_iinc (v := (nI (i + 1))) (lv2 := [(2, .int (nI (i + 1))), (0, .ref (a 0)), (1, .int (nI m)), (3, .int (nI (z + 1)))]) 62 X dX0_sort_62 2 rfl (nx_inc _) (by decide) rfl ?_
                refine jv_goto 65 X dX0_sort_65 2 (by decide) ?_
                exact jv_lv [1, 2, 0] rfl (ih2 (i + 1) (upd s (z + 1) (W i)) (by omega) (by rw [itr_s, ← hI, hJ]; symm; rw [insW, if_pos c_3]) (by omega))
              · refine jv_aload_n 30 X dX0_sort_30 0 rfl ?_
                refine jv_get (v := .ref (a 2)) 31 X gf_X0_15 dX0_sort_31 0 rfl rfl ?_
                refine jv_iload_n 34 X dX0_sort_34 3 rfl ?_
                refine jv_aload_n 35 X dX0_sort_35 0 rfl ?_
                refine jv_get (v := .ref (a 2)) 36 X gf_X0_15 dX0_sort_36 0 rfl rfl ?_
                refine jv_iload_n 39 X dX0_sort_39 3 rfl ?_
                refine jv_iconst (v := 1) 40 X dX0_sort_40 rfl ?_
                refine jv_isub 41 X dX0_sort_41 ?_
                refine jv_norm (x2 := nI z) (nx_sub2 (a := (z + 1)) (b := 1) rfl rfl (by omega)) ?_
                refine jv_iald (f := s) 42 X dX0_sort_42 2 rfl (by decide) z rfl (by omega) ?_
                refine jv_iast (ws2 := bAh E a inches (upd s (z + 1) (s z)) buyDay sellDay) (f := s) 43 X dX0_sort_43 2 rfl (by decide) (z + 1) rfl (by omega) rfl ?_
                refine jv_iinc (v := (nI z)) (lv2 := [(3, .int (nI z)), (0, .ref (a 0)), (1, .int (nI m)), (2, .int (nI i))]) 44 X dX0_sort_44 3 rfl (nx_dec _) (by decide) rfl ?_
                refine jv_goto 47 X dX0_sort_47 9 (by decide) ?_
                exact jv_lv [1, 2, 3, 0] rfl (ih9 z (upd s (z + 1) (s z)) (by omega) (by rw [hJ, insW, if_neg c_3]) (by omega))
        exact jv_lv [1, 2, 3, 0] rfl (lp9 _ i so (by omega) rfl (Nat.lt_succ_self _))
  exact jv_lv [1, 2, 0] rfl (lp2 _ 0 sorted (by omega) rfl (Nat.lt_succ_self _))
theorem c_X0_leastSpread (E : EE) (l : Launch) (a : Nat → Nat) (inches : Nat → Int32) (sorted : Nat → Int32) (buyDay : Int32) (sellDay : Int32) (m : Nat) (r : Nat) (W : Nat → Int32) (hm6 : m ≤ 60) (hr : 1 ≤ r) (hr2 : r ≤ 60) (hW : ∀ j, j ≤ m → inches j = W j) : CT E l yX0_leastSpread cX0_leastSpread 5 (some .int) { frames := 1, cells := 0, slots := 0, locals := 23 } [.ref (a 0), .int (nI m), .int (nI r)] (bAh E a inches sorted buyDay sellDay) (some (.int (lsF (srF W (m + 1) sorted) m r))) (bAh E a inches (srF W (m + 1) sorted) buyDay sellDay) := by
  refine CT.intro (by decide +kernel) (Nat.le_of_ble_eq_true rfl) (fun K X Y => ?_)
  refine jv_aload_n 0 X dX0_leastSpread_0 0 rfl ?_
  refine jv_iload_n 1 X dX0_leastSpread_1 1 rfl ?_
  refine jv_callW (w1 := bAh E a inches (srF W (m + 1) sorted) buyDay sellDay) 2 X (c_X0_sort E _ a inches sorted buyDay sellDay m W hm6 hW) wv_X0_37 ⟨Nat.le_of_ble_eq_true rfl, Nat.le_of_ble_eq_true rfl⟩ ⟨rfl, rfl⟩ ⟨Nat.zero_le _, Nat.zero_le _⟩ dX0_leastSpread_2 rfl [] rfl (Nat.le_of_ble_eq_true rfl) 0 rfl rfl ?_
  refine jv_sipush (v := 200) 5 X dX0_leastSpread_5 (by decide) ?_
  refine jv_istore_n (lv2 := [(3, .int 200), (0, .ref (a 0)), (1, .int (nI m)), (2, .int (nI r))]) 8 X dX0_leastSpread_8 (by decide) rfl ?_
  refine jv_iconst (v := 0) 9 X dX0_leastSpread_9 rfl ?_
  refine jv_istore (lv2 := [(4, .int 0), (3, .int 200), (0, .ref (a 0)), (1, .int (nI m)), (2, .int (nI r))]) 10 X dX0_leastSpread_10 (by decide) rfl ?_
  have lp12 : ∀ (n12 : Nat) (i : Nat) (le : Int32), (i ≤ m + 2 - r) → (le = itr (lsS (srF W (m + 1) sorted) r) i 200) → m + 2 - r - i < n12 → JV E K 0 0 (bAh E a inches (srF W (m + 1) sorted) buyDay sellDay) [(0, .ref (a 0)), (1, .int (nI m)), (2, .int (nI r)), (3, .int le), (4, .int (nI i))] 12 [] := by
    intro n12
    induction n12 with
    | zero => intro i le hi hI hm; exact absurd hm (Nat.not_lt_zero _)
    | succ n12 ih12 =>
      intro i le hi hI hm
      refine jv_iload 12 X dX0_leastSpread_12 4 rfl ?_
      refine jv_iload_n 14 X dX0_leastSpread_14 2 rfl ?_
      refine jv_iadd 15 X dX0_leastSpread_15 ?_
      refine jv_norm (x2 := nI (i + r)) (nx_add2 (a := i) (b := r) rfl rfl (by omega)) ?_
      refine jv_iconst (v := 1) 16 X dX0_leastSpread_16 rfl ?_
      refine jv_isub 17 X dX0_leastSpread_17 ?_
      refine jv_norm (x2 := nI ((i + r) - 1)) (nx_sub2 (a := (i + r)) (b := 1) rfl rfl (by omega)) ?_
      refine jv_iload_n 18 X dX0_leastSpread_18 1 rfl ?_
      refine jn_icmp_gt 19 X dX0_leastSpread_19 52 (by decide) (fun c_1 => ?_) (fun c_1 => ?_)
      · have n_1 : ¬ ((i + r) - 1) ≤ m := fun zq => c_1 ((nx_le (a := ((i + r) - 1)) (b := m) rfl rfl (by omega) (by omega)).mpr zq)
        refine jv_iload_n 52 X dX0_leastSpread_52 3 rfl ?_
        exact jv_iret 53 X Y rfl dX0_leastSpread_53 () (congrArg (fun z => some (Value.int z)) (by rw [lsF, show m + 2 - r = i by omega, ← hI])) rfl
      · have n_1 : ((i + r) - 1) ≤ m := (nx_le (a := ((i + r) - 1)) (b := m) rfl rfl (by omega) (by omega)).mp c_1
        refine jv_iload_n 22 X dX0_leastSpread_22 3 rfl ?_
        refine jv_aload_n 23 X dX0_leastSpread_23 0 rfl ?_
        refine jv_get (v := .ref (a 2)) 24 X gf_X0_15 dX0_leastSpread_24 0 rfl rfl ?_
        refine jv_iload 27 X dX0_leastSpread_27 4 rfl ?_
        refine jv_iload_n 29 X dX0_leastSpread_29 2 rfl ?_
        refine jv_iadd 30 X dX0_leastSpread_30 ?_
        refine jv_norm (x2 := nI (i + r)) (nx_add2 (a := i) (b := r) rfl rfl (by omega)) ?_
        refine jv_iconst (v := 1) 31 X dX0_leastSpread_31 rfl ?_
        refine jv_isub 32 X dX0_leastSpread_32 ?_
        refine jv_norm (x2 := nI ((i + r) - 1)) (nx_sub2 (a := (i + r)) (b := 1) rfl rfl (by omega)) ?_
        refine jv_iald (f := (srF W (m + 1) sorted)) 33 X dX0_leastSpread_33 2 rfl (by decide) ((i + r) - 1) rfl (by omega) ?_
        refine jv_aload_n 34 X dX0_leastSpread_34 0 rfl ?_
        refine jv_get (v := .ref (a 2)) 35 X gf_X0_15 dX0_leastSpread_35 0 rfl rfl ?_
        refine jv_iload 38 X dX0_leastSpread_38 4 rfl ?_
        refine jv_iald (f := (srF W (m + 1) sorted)) 40 X dX0_leastSpread_40 2 rfl (by decide) i rfl (by omega) ?_
        refine jv_isub 41 X dX0_leastSpread_41 ?_
        refine jv_mmin 42 X wm_X0_41 dX0_leastSpread_42 (Nat.le_of_ble_eq_true rfl) (Nat.le_of_ble_eq_true rfl) ⟨Nat.zero_le _, Nat.zero_le _⟩ ?_
        refine jv_istore_n (lv2 := [(3, .int (if (((srF W (m + 1) sorted) ((i + r) - 1)) - ((srF W (m + 1) sorted) i)) < le then (((srF W (m + 1) sorted) ((i + r) - 1)) - ((srF W (m + 1) sorted) i)) else le)), (0, .ref (a 0)), (1, .int (nI m)), (2, .int (nI r)), (4, .int (nI i))]) 45 X dX0_leastSpread_45 (by decide) rfl ?_
        refine jv_iinc (v := (nI (i + 1))) (lv2 := [(4, .int (nI (i + 1))), (3, .int (if (((srF W (m + 1) sorted) ((i + r) - 1)) - ((srF W (m + 1) sorted) i)) < le then (((srF W (m + 1) sorted) ((i + r) - 1)) - ((srF W (m + 1) sorted) i)) else le)), (0, .ref (a 0)), (1, .int (nI m)), (2, .int (nI r))]) 46 X dX0_leastSpread_46 4 rfl (nx_inc _) (by decide) rfl ?_
        refine jv_goto 49 X dX0_leastSpread_49 12 (by decide) ?_
        exact jv_lv [2, 3, 4, 1, 0] rfl (ih12 (i + 1) (if (((srF W (m + 1) sorted) ((i + r) - 1)) - ((srF W (m + 1) sorted) i)) < le then (((srF W (m + 1) sorted) ((i + r) - 1)) - ((srF W (m + 1) sorted) i)) else le) (by omega) (by rw [itr_s, ← hI, lsS]) (by omega))
  exact jv_lv [2, 3, 4, 1, 0] rfl (lp12 _ 0 200 (by omega) rfl (Nat.lt_succ_self _))
theorem c_X0_daysWithin (E : EE) (l : Launch) (a : Nat → Nat) (inches : Nat → Int32) (sorted : Nat → Int32) (buyDay : Int32) (sellDay : Int32) (f : Nat) (m : Nat) (lo : Int32) (hi : Int32) (W : Nat → Int32) (hf : f ≤ m + 1) (hm6 : m ≤ 60) (hW : ∀ j, j ≤ m → inches j = W j) : CT E l yX0_daysWithin cX0_daysWithin 7 (some .int) { frames := 1, cells := 0, slots := 0, locals := 22 } [.ref (a 0), .int (nI f), .int (nI m), .int lo, .int hi] (bAh E a inches sorted buyDay sellDay) (some (.int (nI (ctI W lo hi f (m + 1 - f))))) (bAh E a inches sorted buyDay sellDay) := by
  refine CT.intro (by decide +kernel) (Nat.le_of_ble_eq_true rfl) (fun K X Y => ?_)
  refine jv_iconst (v := 0) 0 X dX0_daysWithin_0 rfl ?_
  refine jv_istore (lv2 := [(5, .int 0), (0, .ref (a 0)), (1, .int (nI f)), (2, .int (nI m)), (3, .int lo), (4, .int hi)]) 1 X dX0_daysWithin_1 (by decide) rfl ?_
  refine jv_iload_n 3 X dX0_daysWithin_3 2 rfl ?_
  refine jv_istore (lv2 := [(6, .int (nI f)), (5, .int 0), (0, .ref (a 0)), (1, .int (nI f)), (2, .int (nI m)), (3, .int lo), (4, .int hi)]) 4 X dX0_daysWithin_4 (by decide) rfl ?_
  have lp6 : ∀ (n6 : Nat) (t c : Nat), (t ≤ m + 1 - f) → (c ≤ t) → (c = itr (ctS W lo hi f) t 0) → m + 1 - f - t < n6 → JV E K 0 0 (bAh E a inches sorted buyDay sellDay) [(0, .ref (a 0)), (1, .int (nI f)), (2, .int (nI m)), (3, .int lo), (4, .int hi), (5, .int (nI c)), (6, .int (nI (f + t)))] 6 [] := by
    intro n6
    induction n6 with
    | zero => intro t c ht hc hI hm; exact absurd hm (Nat.not_lt_zero _)
    | succ n6 ih6 =>
      intro t c ht hc hI hm
      refine jv_iload 6 X dX0_daysWithin_6 6 rfl ?_
      refine jv_iload_n 8 X dX0_daysWithin_8 2 rfl ?_
      refine jn_icmp_gt 9 X dX0_daysWithin_9 37 (by decide) (fun c_1 => ?_) (fun c_1 => ?_)
      · have n_1 : ¬ (f + t) ≤ m := fun zq => c_1 ((nx_le (a := (f + t)) (b := m) rfl rfl (by omega) (by omega)).mpr zq)
        refine jv_iload 37 X dX0_daysWithin_37 5 rfl ?_
        exact jv_iret 39 X Y rfl dX0_daysWithin_39 () (congrArg (fun z => some (Value.int z)) (congrArg nI (by rw [hI, show t = m + 1 - f by omega]; rfl))) rfl
      · have n_1 : (f + t) ≤ m := (nx_le (a := (f + t)) (b := m) rfl rfl (by omega) (by omega)).mp c_1
        refine jv_aload_n 12 X dX0_daysWithin_12 0 rfl ?_
        refine jv_get (v := .ref (a 1)) 13 X gf_X0_9 dX0_daysWithin_13 0 rfl rfl ?_
        refine jv_iload 16 X dX0_daysWithin_16 6 rfl ?_
        refine jv_iald (f := inches) 18 X dX0_daysWithin_18 1 rfl (by decide) (f + t) rfl (by omega) ?_
        refine jv_norm (x2 := (W (f + t))) (hW _ (by omega)) ?_
        refine jv_iload_n 19 X dX0_daysWithin_19 3 rfl ?_
        refine jv_iload 20 X dX0_daysWithin_20 4 rfl ?_
        refine jv_funN 22 X (c_X9_within E _ (W (f + t)) lo hi) wn_X0_50 ⟨Nat.le_of_ble_eq_true rfl, Nat.le_of_ble_eq_true rfl⟩ ⟨rfl, rfl⟩ ⟨Nat.zero_le _, Nat.zero_le _⟩ dX0_daysWithin_22 rfl [] rfl (Nat.le_of_ble_eq_true rfl) ?_
        refine jv_z_eq 25 X dX0_daysWithin_25 31 (by decide) (fun c_2 => ?_) (fun c_2 => ?_)
        · refine jv_iinc (v := (nI ((f + t) + 1))) (lv2 := [(6, .int (nI ((f + t) + 1))), (0, .ref (a 0)), (1, .int (nI f)), (2, .int (nI m)), (3, .int lo), (4, .int hi), (5, .int (nI c))]) 31 X dX0_daysWithin_31 6 rfl (nx_inc _) (by decide) rfl ?_
          refine jv_goto 34 X dX0_daysWithin_34 6 (by decide) ?_
          exact jv_lv [1, 2, 3, 4, 5, 6, 0] rfl (ih6 (t + 1) c (by omega) (by omega) (by rw [itr_s, ← hI, ctS, if_neg c_2]) (by omega))
        · refine jv_iinc (v := (nI (c + 1))) (lv2 := [(5, .int (nI (c + 1))), (0, .ref (a 0)), (1, .int (nI f)), (2, .int (nI m)), (3, .int lo), (4, .int hi), (6, .int (nI (f + t)))]) 28 X dX0_daysWithin_28 5 rfl (nx_inc _) (by decide) rfl ?_
          refine jv_iinc (v := (nI ((f + t) + 1))) (lv2 := [(6, .int (nI ((f + t) + 1))), (5, .int (nI (c + 1))), (0, .ref (a 0)), (1, .int (nI f)), (2, .int (nI m)), (3, .int lo), (4, .int hi)]) 31 X dX0_daysWithin_31 6 rfl (nx_inc _) (by decide) rfl ?_
          refine jv_goto 34 X dX0_daysWithin_34 6 (by decide) ?_
          exact jv_lv [2, 3, 4, 5, 6, 1, 0] rfl (ih6 (t + 1) (c + 1) (by omega) (by omega) (by rw [itr_s, ← hI, ctS, if_pos c_2]) (by omega))
  exact jv_lv [2, 3, 4, 5, 6, 1, 0] rfl (lp6 _ 0 0 (by omega) (by omega) rfl (Nat.lt_succ_self _))
theorem c_X0_begins (E : EE) (l : Launch) (a : Nat → Nat) (inches : Nat → Int32) (sorted : Nat → Int32) (buyDay : Int32) (sellDay : Int32) (f : Nat) (m : Nat) (r : Nat) (sp : Nat) (W : Nat → Int32) (hf : f ≤ m) (hm6 : m ≤ 60) (hr2 : r ≤ 60) (hW : ∀ j, j ≤ m → inches j = W j) : CT E l yX0_begins cX0_begins 7 (some .boolean) { frames := 2, cells := 0, slots := 0, locals := 48 } [.ref (a 0), .int (nI f), .int (nI m), .int (nI r), .int (nI sp)] (bAh E a inches sorted buyDay sellDay) (some (.int (zI (anyB (bgP W f m r sp) (m + 1 - f) = true)))) (bAh E a inches sorted buyDay sellDay) := by
  refine CT.intro (by decide +kernel) (Nat.le_of_ble_eq_true rfl) (fun K X Y => ?_)
  refine jv_iload_n 0 X dX0_begins_0 1 rfl ?_
  refine jv_istore (lv2 := [(5, .int (nI f)), (0, .ref (a 0)), (1, .int (nI f)), (2, .int (nI m)), (3, .int (nI r)), (4, .int (nI sp))]) 1 X dX0_begins_1 (by decide) rfl ?_
  have lp3 : ∀ (n3 : Nat) (t : Nat), (t ≤ m + 1 - f) → (¬ anyB (bgP W f m r sp) t = true) → m + 1 - f - t < n3 → JV E K 0 0 (bAh E a inches sorted buyDay sellDay) [(0, .ref (a 0)), (1, .int (nI f)), (2, .int (nI m)), (3, .int (nI r)), (4, .int (nI sp)), (5, .int (nI (f + t)))] 3 [] := by
    intro n3
    induction n3 with
    | zero => intro t ht hno hm; exact absurd hm (Nat.not_lt_zero _)
    | succ n3 ih3 =>
      intro t ht hno hm
      refine jv_iload 3 X dX0_begins_3 5 rfl ?_
      refine jv_iload_n 5 X dX0_begins_5 2 rfl ?_
      refine jn_icmp_gt 6 X dX0_begins_6 62 (by decide) (fun c_1 => ?_) (fun c_1 => ?_)
      · have n_1 : ¬ (f + t) ≤ m := fun zq => c_1 ((nx_le (a := (f + t)) (b := m) rfl rfl (by omega) (by omega)).mpr zq)
        refine jv_iconst (v := 0) 62 X dX0_begins_62 rfl ?_
        exact jv_zret 63 X Y rfl rfl dX0_begins_63 () (by rw [show m + 1 - f = t by omega, zI_f hno]) rfl
      · have n_1 : (f + t) ≤ m := (nx_le (a := (f + t)) (b := m) rfl rfl (by omega) (by omega)).mp c_1
        refine jv_aload_n 9 X dX0_begins_9 0 rfl ?_
        refine jv_get (v := .ref (a 1)) 10 X gf_X0_9 dX0_begins_10 0 rfl rfl ?_
        refine jv_iload 13 X dX0_begins_13 5 rfl ?_
        refine jv_iald (f := inches) 15 X dX0_begins_15 1 rfl (by decide) (f + t) rfl (by omega) ?_
        refine jv_norm (x2 := (W (f + t))) (hW _ (by omega)) ?_
        refine jv_istore (lv2 := [(6, .int (W (f + t))), (0, .ref (a 0)), (1, .int (nI f)), (2, .int (nI m)), (3, .int (nI r)), (4, .int (nI sp)), (5, .int (nI (f + t)))]) 16 X dX0_begins_16 (by decide) rfl ?_
        refine jv_aload_n 18 X dX0_begins_18 1 rfl ?_
        refine jv_get (v := .ref (a 1)) 19 X gf_X0_9 dX0_begins_19 0 rfl rfl ?_
        refine jv_iload_n 22 X dX0_begins_22 2 rfl ?_
        refine jv_iald (f := inches) 23 X dX0_begins_23 1 rfl (by decide) f rfl (by omega) ?_
        refine jv_norm (x2 := (W f)) (hW _ (by omega)) ?_
        refine jv_iload 24 X dX0_begins_24 0 rfl ?_
        refine jv_iload 26 X dX0_begins_26 0 rfl ?_
        refine jv_iload 28 X dX0_begins_28 5 rfl ?_
        refine jv_iadd 30 X dX0_begins_30 ?_
        refine jv_funN 31 X (c_X9_within E _ (W f) (W (f + t)) ((W (f + t)) + (nI sp))) wn_X0_50 ⟨Nat.le_of_ble_eq_true rfl, Nat.le_of_ble_eq_true rfl⟩ ⟨rfl, rfl⟩ ⟨Nat.zero_le _, Nat.zero_le _⟩ dX0_begins_31 rfl [] rfl (Nat.le_of_ble_eq_true rfl) ?_
        refine jv_z_eq 34 X dX0_begins_34 56 (by decide) (fun c_2 => ?_) (fun c_2 => ?_)
        · refine jv_iinc (v := (nI ((f + t) + 1))) (lv2 := [(5, .int (nI ((f + t) + 1))), (6, .int (W (f + t))), (0, .ref (a 0)), (1, .int (nI f)), (2, .int (nI m)), (3, .int (nI r)), (4, .int (nI sp))]) 56 X dX0_begins_56 6 rfl (nx_inc _) (by decide) rfl ?_
          refine jv_goto 59 X dX0_begins_59 3 (by decide) ?_
          exact jv_lv [2, 3, 4, 5, 6, 0] rfl (ih3 (t + 1) (by omega) (by rw [anyB, Bool.or_eq_true]; exact fun z => z.elim hno (fun z => absurd (of_decide_eq_true (Bool.and_eq_true_iff.mp z).1) c_2)) (by omega))
        · refine jv_aload_n 37 X dX0_begins_37 1 rfl ?_
          refine jv_iload_n 38 X dX0_begins_38 2 rfl ?_
          refine jv_iload_n 39 X dX0_begins_39 3 rfl ?_
          refine jv_iload 40 X dX0_begins_40 0 rfl ?_
          refine jv_iload 42 X dX0_begins_42 0 rfl ?_
          refine jv_iload 44 X dX0_begins_44 5 rfl ?_
          refine jv_iadd 46 X dX0_begins_46 ?_
          refine jv_callW (w1 := bAh E a inches sorted buyDay sellDay) 47 X (c_X0_daysWithin E _ a inches sorted buyDay sellDay f m (W (f + t)) ((W (f + t)) + (nI sp)) W (by omega) hm6 hW) wv_X0_54 ⟨Nat.le_of_ble_eq_true rfl, Nat.le_of_ble_eq_true rfl⟩ ⟨rfl, rfl⟩ ⟨Nat.zero_le _, Nat.zero_le _⟩ dX0_begins_47 rfl [] rfl (Nat.le_of_ble_eq_true rfl) 0 rfl rfl ?_
          have hct := ctI_le W (W (f + t)) ((W (f + t)) + (nI sp)) f (m + 1 - f)
          refine jv_iload_n 50 X dX0_begins_50 4 rfl ?_
          refine jn_icmp_lt 51 X dX0_begins_51 56 (by decide) (fun c_3 => ?_) (fun c_3 => ?_)
          · have n_3 : ¬ r ≤ (ctI W (W (f + t)) ((W (f + t)) + (nI sp)) f (m + 1 - f)) := fun zq => c_3 ((nx_le (a := r) (b := (ctI W (W (f + t)) ((W (f + t)) + (nI sp)) f (m + 1 - f))) rfl rfl (by omega) (by omega)).mpr zq)
            refine jv_iinc (v := (nI ((f + t) + 1))) (lv2 := [(5, .int (nI ((f + t) + 1))), (6, .int (W (f + t))), (0, .ref (a 0)), (1, .int (nI f)), (2, .int (nI m)), (3, .int (nI r)), (4, .int (nI sp))]) 56 X dX0_begins_56 6 rfl (nx_inc _) (by decide) rfl ?_
            refine jv_goto 59 X dX0_begins_59 3 (by decide) ?_
            exact jv_lv [2, 3, 4, 5, 6, 0] rfl (ih3 (t + 1) (by omega) (by rw [anyB, Bool.or_eq_true]; exact fun z => z.elim hno (fun z => absurd (of_decide_eq_true (Bool.and_eq_true_iff.mp z).2) n_3)) (by omega))
          · have n_3 : r ≤ (ctI W (W (f + t)) ((W (f + t)) + (nI sp)) f (m + 1 - f)) := (nx_le (a := r) (b := (ctI W (W (f + t)) ((W (f + t)) + (nI sp)) f (m + 1 - f))) rfl rfl (by omega) (by omega)).mp c_3
            refine jv_iconst (v := 1) 54 X dX0_begins_54 rfl ?_
            exact jv_zret 55 X Y rfl rfl dX0_begins_55 () (by rw [zI_t (anyB_iff.mpr ⟨t, by omega, Bool.and_eq_true_iff.mpr ⟨decide_eq_true c_2, decide_eq_true n_3⟩⟩)]) rfl
  exact jv_lv [1, 2, 3, 4, 5, 0] rfl (lp3 _ 0 (by omega) (by simp [anyB]) (Nat.lt_succ_self _))
theorem c_X0_firstDay (E : EE) (l : Launch) (a : Nat → Nat) (inches : Nat → Int32) (sorted : Nat → Int32) (buyDay : Int32) (sellDay : Int32) (m : Nat) (r : Nat) (sp : Nat) (W : Nat → Int32) (hm6 : m ≤ 60) (hr2 : r ≤ 60) (hW : ∀ j, j ≤ m → inches j = W j) : CT E l yX0_firstDay cX0_firstDay 5 (some .int) { frames := 3, cells := 0, slots := 0, locals := 74 } [.ref (a 0), .int (nI m), .int (nI r), .int (nI sp)] (bAh E a inches sorted buyDay sellDay) (some (.int (fdM W m r sp))) (bAh E a inches sorted buyDay sellDay) := by
  refine CT.intro (by decide +kernel) (Nat.le_of_ble_eq_true rfl) (fun K X Y => ?_)
  refine jv_iconst (v := 0) 0 X dX0_firstDay_0 rfl ?_
  refine jv_istore (lv2 := [(4, .int 0), (0, .ref (a 0)), (1, .int (nI m)), (2, .int (nI r)), (3, .int (nI sp))]) 1 X dX0_firstDay_1 (by decide) rfl ?_
  have lp3 : ∀ (n3 : Nat) (dy : Nat), (dy ≤ m + 1) → (itE (fdS W m r sp) (m + 1) 0 () = itE (fdS W m r sp) (m + 1 - dy) dy ()) → m + 1 - dy < n3 → JV E K 0 0 (bAh E a inches sorted buyDay sellDay) [(0, .ref (a 0)), (1, .int (nI m)), (2, .int (nI r)), (3, .int (nI sp)), (4, .int (nI dy))] 3 [] := by
    intro n3
    induction n3 with
    | zero => intro dy hdy hJ hm; exact absurd hm (Nat.not_lt_zero _)
    | succ n3 ih3 =>
      intro dy hdy hJ hm
      refine jv_iload 3 X dX0_firstDay_3 4 rfl ?_
      refine jv_iload_n 5 X dX0_firstDay_5 1 rfl ?_
      refine jn_icmp_gt 6 X dX0_firstDay_6 30 (by decide) (fun c_1 => ?_) (fun c_1 => ?_)
      · have n_1 : ¬ dy ≤ m := fun zq => c_1 ((nx_le (a := dy) (b := m) rfl rfl (by omega) (by omega)).mpr zq)
        refine jv_bipush (v := (-6)) 30 X dX0_firstDay_30 (by decide) ?_
        exact jv_iret 32 X Y rfl dX0_firstDay_32 () (congrArg (fun z => some (Value.int z)) (by unfold fdM; rw [hJ, show m + 1 - dy = 0 by omega]; rfl)) rfl
      · have n_1 : dy ≤ m := (nx_le (a := dy) (b := m) rfl rfl (by omega) (by omega)).mp c_1
        refine jv_aload_n 9 X dX0_firstDay_9 0 rfl ?_
        refine jv_iload 10 X dX0_firstDay_10 4 rfl ?_
        refine jv_iload_n 12 X dX0_firstDay_12 1 rfl ?_
        refine jv_iload_n 13 X dX0_firstDay_13 2 rfl ?_
        refine jv_iload_n 14 X dX0_firstDay_14 3 rfl ?_
        refine jv_callW (w1 := bAh E a inches sorted buyDay sellDay) 15 X (c_X0_begins E _ a inches sorted buyDay sellDay dy m r sp W (by omega) hm6 hr2 hW) wv_X0_46 ⟨Nat.le_of_ble_eq_true rfl, Nat.le_of_ble_eq_true rfl⟩ ⟨rfl, rfl⟩ ⟨Nat.zero_le _, Nat.zero_le _⟩ dX0_firstDay_15 rfl [] rfl (Nat.le_of_ble_eq_true rfl) 0 rfl rfl ?_
        refine jv_z_eq 18 X dX0_firstDay_18 24 (by decide) (fun c_2 => ?_) (fun c_2 => ?_)
        · refine jv_iinc (v := (nI (dy + 1))) (lv2 := [(4, .int (nI (dy + 1))), (0, .ref (a 0)), (1, .int (nI m)), (2, .int (nI r)), (3, .int (nI sp))]) 24 X dX0_firstDay_24 4 rfl (nx_inc _) (by decide) rfl ?_
          refine jv_goto 27 X dX0_firstDay_27 3 (by decide) ?_
          exact jv_lv [1, 2, 3, 4, 0] rfl (ih3 (dy + 1) (by omega) (by rw [hJ, show m + 1 - dy = (m + 1 - (dy + 1)) + 1 by omega]; exact itE_r (if_neg c_2)) (by omega))
        · refine jv_iload 21 X dX0_firstDay_21 4 rfl ?_
          exact jv_iret 23 X Y rfl dX0_firstDay_23 () (congrArg (fun z => some (Value.int z)) (by unfold fdM; rw [hJ, show m + 1 - dy = (m + 1 - (dy + 1)) + 1 by omega, itE_l (show fdS W m r sp dy () = .inl (nI dy) from if_pos c_2)])) rfl
  exact jv_lv [1, 2, 3, 4, 0] rfl (lp3 _ 0 (by omega) rfl (Nat.lt_succ_self _))
