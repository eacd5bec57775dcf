theorem c_J7_fill_53178 (E : EE) (l : Launch) (a n : Nat) (f : Nat → Int32) (v : Int32) (hn : n < 100000) : CT E l yJ7_fill_53178 cJ7_fill_53178 4 none { frames := 0, cells := 0, slots := 0, locals := 0 } [.ref a, .int v] [(a, .inl (E.2.1, n, .inl f))] none [(a, .inl (E.2.1, n, .inl (fun _ => v)))] := by
  refine CT.introF (by decide +kernel) (Nat.le_of_ble_eq_true rfl) (fun K X Y => ?_)
  refine jv_iconst (v := 0) 0 X dJ7_fill_53178_0 rfl ?_
  refine jv_istore_n (lv2 := [(2, .int 0), (0, .ref a), (1, .int v)]) 1 X dJ7_fill_53178_1 (by decide) rfl ?_
  refine jv_aload_n 2 X dJ7_fill_53178_2 1 rfl ?_
  refine jv_alen (v := nI n) 3 X dJ7_fill_53178_3 0 0 rfl rfl rfl ?_
  refine jv_istore_n (lv2 := [(3, .int (nI n)), (2, .int 0), (0, .ref a), (1, .int v)]) 4 X dJ7_fill_53178_4 (by decide) rfl ?_
  have lp : ∀ (n5 i : Nat) (h : Nat → Int32), i ≤ n → (∀ j, j < i → h j = v) → n - i < n5 → JV E K 0 0 [(a, .inl (E.2.1, n, .inl h))] [(0, .ref a), (1, .int v), (2, .int (nI i)), (3, .int (nI n))] 5 [] := by
    intro n5
    induction n5 with
    | zero => intro i h hi hI hm; exact absurd hm (Nat.not_lt_zero _)
    | succ n5 ih =>
      intro i h hi hI hm
      refine jv_iload_n 5 X dJ7_fill_53178_5 2 rfl ?_
      refine jv_iload_n 6 X dJ7_fill_53178_6 3 rfl ?_
      refine jn_icmp_ge 7 X dJ7_fill_53178_7 20 (by decide) (fun c_1 => ?_) (fun c_1 => ?_)
      · have n_1 : n ≤ i := (nx_le (a := n) (b := i) rfl rfl (by omega) (by omega)).mp c_1
        refine jv_ext (ws2 := [(a, .inl (E.2.1, n, .inl (fun _ => v)))]) 0 (fun _ => v) rfl (fun j hj => hI j (by omega)) rfl ?_
        exact jv_vret 20 X Y rfl dJ7_fill_53178_20 () rfl rfl
      · have n_1 : ¬ n ≤ i := fun zq => c_1 ((nx_le (a := n) (b := i) rfl rfl (by omega) (by omega)).mpr zq)
        refine jv_aload_n 10 X dJ7_fill_53178_10 0 rfl ?_
        refine jv_iload_n 11 X dJ7_fill_53178_11 2 rfl ?_
        refine jv_iload_n 12 X dJ7_fill_53178_12 1 rfl ?_
        refine jv_iast (ws2 := [(a, .inl (E.2.1, n, .inl (upd h i v)))]) (f := h) 13 X dJ7_fill_53178_13 0 rfl (by omega) i rfl (by omega) rfl ?_
        refine jv_iinc (v := nI (i + 1)) (lv2 := [(2, .int (nI (i + 1))), (0, .ref a), (1, .int v), (3, .int (nI n))]) 14 X dJ7_fill_53178_14 2 rfl (nx_inc _) (by decide) rfl ?_
        refine jv_goto 17 X dJ7_fill_53178_17 5 (by decide) ?_
        exact jv_lv [1, 2, 0, 3] rfl (ih (i + 1) (upd h i v) (by omega) (cp_upd (g := fun _ => v) hI) (by omega))
  exact jv_lv [2, 3, 1, 0] rfl (lp _ 0 f (by omega) (fun j hj => absurd hj (Nat.not_lt_zero j)) (Nat.lt_succ_self _))
theorem cp_updl {f g : Nat → Int64} {k : Nat} (hI : ∀ j, j < k → f j = g j) : ∀ j, j < k + 1 → vp_updL f k (g k) j = g j := fun j hj => by
  rcases Nat.lt_succ_iff_lt_or_eq.mp hj with h | h
  · rw [vp_updL, if_neg (by omega)]; exact hI j h
  · rw [h, vp_updL, if_pos rfl]
theorem c_J7_fill_d0a16 (E : EE) (l : Launch) (a n : Nat) (f : Nat → Int64) (v : Int64) (hn : n < 100000) : CT E l yJ7_fill_d0a16 cJ7_fill_d0a16 5 none { frames := 0, cells := 0, slots := 0, locals := 0 } [.ref a, .long v] [(a, .inl (E.2.2.1, n, .inr (.inl f)))] none [(a, .inl (E.2.2.1, n, .inr (.inl (fun _ => v))))] := by
  refine CT.introF (by decide +kernel) (Nat.le_of_ble_eq_true rfl) (fun K X Y => ?_)
  refine jv_iconst (v := 0) 0 X dJ7_fill_d0a16_0 rfl ?_
  refine jv_istore_n (lv2 := [(3, .int 0), (0, .ref a), (1, .long v)]) 1 X dJ7_fill_d0a16_1 (by decide) rfl ?_
  refine jv_aload_n 2 X dJ7_fill_d0a16_2 1 rfl ?_
  refine jv_alen (v := nI n) 3 X dJ7_fill_d0a16_3 0 1 rfl rfl rfl ?_
  refine jv_istore (lv2 := [(4, .int (nI n)), (3, .int 0), (0, .ref a), (1, .long v)]) 4 X dJ7_fill_d0a16_4 (by decide) rfl ?_
  have lp : ∀ (n5 i : Nat) (h : Nat → Int64), i ≤ n → (∀ j, j < i → h j = v) → n - i < n5 → JV E K 0 0 [(a, .inl (E.2.2.1, n, .inr (.inl h)))] [(0, .ref a), (1, .long v), (3, .int (nI i)), (4, .int (nI n))] 6 [] := by
    intro n5
    induction n5 with
    | zero => intro i h hi hI hm; exact absurd hm (Nat.not_lt_zero _)
    | succ n5 ih =>
      intro i h hi hI hm
      refine jv_iload_n 6 X dJ7_fill_d0a16_6 2 rfl ?_
      refine jv_iload 7 X dJ7_fill_d0a16_7 3 rfl ?_
      refine jn_icmp_ge 9 X dJ7_fill_d0a16_9 22 (by decide) (fun c_1 => ?_) (fun c_1 => ?_)
      · have n_1 : n ≤ i := (nx_le (a := n) (b := i) rfl rfl (by omega) (by omega)).mp c_1
        refine jv_extl (ws2 := [(a, .inl (E.2.2.1, n, .inr (.inl (fun _ => v))))]) 0 (fun _ => v) rfl (fun j hj => hI j (by omega)) rfl ?_
        exact jv_vret 22 X Y rfl dJ7_fill_d0a16_22 () rfl rfl
      · have n_1 : ¬ n ≤ i := fun zq => c_1 ((nx_le (a := n) (b := i) rfl rfl (by omega) (by omega)).mpr zq)
        refine jv_aload_n 12 X dJ7_fill_d0a16_12 0 rfl ?_
        refine jv_iload_n 13 X dJ7_fill_d0a16_13 2 rfl ?_
        refine jv_lload_n 14 X dJ7_fill_d0a16_14 1 rfl ?_
        refine jv_last (ws2 := [(a, .inl (E.2.2.1, n, .inr (.inl (vp_updL h i v))))]) (f := h) 15 X dJ7_fill_d0a16_15 0 rfl (by omega) i rfl (by omega) rfl ?_
        refine jv_iinc (v := nI (i + 1)) (lv2 := [(3, .int (nI (i + 1))), (0, .ref a), (1, .long v), (4, .int (nI n))]) 16 X dJ7_fill_d0a16_16 2 rfl (nx_inc _) (by decide) rfl ?_
        refine jv_goto 19 X dJ7_fill_d0a16_19 6 (by decide) ?_
        exact jv_lv [1, 2, 0, 3] rfl (ih (i + 1) (vp_updL h i v) (by omega) (cp_updl (g := fun _ => v) hI) (by omega))
  exact jv_lv [2, 3, 1, 0] rfl (lp _ 0 f (by omega) (fun j hj => absurd hj (Nat.not_lt_zero j)) (Nat.lt_succ_self _))
