def lowM (u v : Nat) (part : Int32) : Int64 := if part = 0 then lN (u / Nat.gcd u v) else lN (v / Nat.gcd u v)
theorem gcd_st (a b : Nat) : Nat.gcd b (a % b) = Nat.gcd a b := by rw [Nat.gcd_comm b, ← Nat.gcd_rec b a, Nat.gcd_comm]
theorem lN_0 {b : Nat} (hb : b < 4611686018427387904) : lN b = 0 ↔ b = 0 := by rw [show (0 : Int64) = lN 0 from rfl]; exact pk_lEQ (by omega) (by omega)
theorem clampI_in (x : Int32) : ∃ j : Nat, 1 ≤ j ∧ j ≤ 200 ∧ clampI x = nI j := by
  unfold clampI
  split
  · exact ⟨1, by omega, by omega, rfl⟩
  · split
    · exact ⟨200, by omega, by omega, rfl⟩
    · rename_i h1 h2
      exact nx_in (lo := 1) (hi := 200) (a := 1) (b := 200) rfl rfl (by decide) (by decide) ⟨Int32.not_lt.mp h1, Int32.not_lt.mp h2⟩
def wlF (week : Nat → Int32) (inch : Int32) (d : Nat) : Nat → Int32
  | 0 => inch
  | i + 1 => clampI (wlF week inch d i + week ((d + i) % 7))
theorem wlF_s {week : Nat → Int32} {inch : Int32} {d i : Nat} (h : 1 ≤ i) : wlF week inch d i = clampI (wlF week inch d (i - 1) + week (((d + i) - 1) % 7)) := by
  cases i with
  | zero => omega
  | succ n => rfl
def inOK (x : Int32) : Prop := x = nI x.toNatClampNeg ∧ 1 ≤ x.toNatClampNeg ∧ x.toNatClampNeg ≤ 200
theorem inOK_of {x : Int32} {j : Nat} (h : x = nI j) (h1 : 1 ≤ j) (h2 : j ≤ 200) : inOK x := by
  have e : x.toNatClampNeg = j := by rw [h]; exact nI_clamp (by omega)
  unfold inOK
  rw [e]
  exact ⟨h, h1, h2⟩
theorem wlF_in {week : Nat → Int32} {inch : Int32} {d : Nat} (h : inOK inch) : ∀ i, inOK (wlF week inch d i)
  | 0 => h
  | i + 1 => by
    obtain ⟨j, h1, h2, h3⟩ := clampI_in (wlF week inch d i + week ((d + i) % 7))
    exact inOK_of h3 h1 h2
def bsS (will : Nat → Int32) (i j fd : Nat) : Nat := if will i * will (fd % 100) ≤ will (fd / 100) * will j then fd else 100 * i + j
def bsI (will : Nat → Int32) (m i : Nat) (fd : Nat) : Nat := itr (fun t fd => bsS will i (i + 1 + t) fd) (m - i) fd
def bsM (will : Nat → Int32) (m : Nat) : Nat := itr (fun i fd => bsI will m i fd) m 1
def mtS (will : Nat → Int32) (s a b r what : Int32) (day : Nat) (sum : Int32) : Int32 ⊕ Int32 := if s ≤ sum + (a * will day + b * r) then .inl (if what = 0 then nI (day + 1) else sum + (a * will day + b * r) - s) else .inr (sum + (a * will day + b * r))
def mtM (will : Nat → Int32) (s a b r what : Int32) : Int32 := match itE (mtS will s a b r what) 99 0 0 with
  | .inl x => x
  | .inr _ => -6
def wtS (len P Q k : Nat) (x : Nat × Nat) : Nat × Nat := if (len - k * P) % Q < x.1 then ((len - k * P) % Q, k) else x
def wtM (len P Q : Nat) : Nat × Nat := itr (wtS len P Q) (len / P + 1) (1000000, 0)
theorem bsS_lt {will : Nat → Int32} {m i j fd : Nat} (hi : i < m) (hj : i < j) (hj2 : j ≤ m) (hm : m ≤ 60) (h : fd / 100 ≤ m ∧ fd % 100 ≤ m ∧ fd < 10000) : bsS will i j fd / 100 ≤ m ∧ bsS will i j fd % 100 ≤ m ∧ bsS will i j fd < 10000 := by
  unfold bsS
  split
  · exact h
  · omega
theorem bsI_lt {will : Nat → Int32} {m i : Nat} (hi : i < m) (hm : m ≤ 60) {fd : Nat} (h : fd / 100 ≤ m ∧ fd % 100 ≤ m ∧ fd < 10000) : ∀ t, t ≤ m - i → itr (fun t fd => bsS will i (i + 1 + t) fd) t fd / 100 ≤ m ∧ itr (fun t fd => bsS will i (i + 1 + t) fd) t fd % 100 ≤ m ∧ itr (fun t fd => bsS will i (i + 1 + t) fd) t fd < 10000
  | 0, _ => h
  | t + 1, ht => by
    rw [itr_s]
    exact bsS_lt hi (by omega) (by omega) hm (bsI_lt hi hm h t (by omega))
theorem bs_lt (will : Nat → Int32) (m : Nat) (hm : 1 ≤ m ∧ m ≤ 60) : bsM will m / 100 ≤ m ∧ bsM will m % 100 ≤ m ∧ bsM will m < 10000 := by
  have key : ∀ i, i ≤ m → itr (fun i fd => bsI will m i fd) i 1 / 100 ≤ m ∧ itr (fun i fd => bsI will m i fd) i 1 % 100 ≤ m ∧ itr (fun i fd => bsI will m i fd) i 1 < 10000 := by
    intro i
    induction i with
    | zero => intro _; rw [itr_0]; omega
    | succ i ih =>
      intro hi
      rw [itr_s]
      exact bsI_lt (by omega) hm.2 (ih (by omega)) (m - i) (Nat.le_refl _)
  exact key m (Nat.le_refl _)
theorem nn_62 (x : Int32) : x.toNatClampNeg < 4611686018427387904 := by
  have := Int32.toInt_lt x
  have h : x.toNatClampNeg = x.toInt.toNat := rfl
  omega
theorem l_nn {x : Int32} (h : 0 ≤ x) : x.toInt64 = lN x.toNatClampNeg := by
  obtain ⟨j, h1, rfl⟩ := nI_of (Int32.not_lt.mpr h)
  rw [nI_clamp h1]
  exact nI_l h1
theorem l_in {x : Int32} (h : inOK x) : x.toInt64 = lN x.toNatClampNeg := by
  have e : x.toInt64 = (nI x.toNatClampNeg).toInt64 := congrArg Int32.toInt64 h.1
  rw [e]
  exact nI_l (by have := h.2.2; omega)
theorem wl_l {week : Nat → Int32} {inch : Int32} {d : Nat} (h : inOK inch) (i : Nat) : (wlF week inch d i).toInt64 = lN (wlF week inch d i).toNatClampNeg := l_in (wlF_in h i)
theorem wl_62 {week : Nat → Int32} {inch : Int32} {d : Nat} (h : inOK inch) (i : Nat) : (wlF week inch d i).toNatClampNeg < 4611686018427387904 := nn_62 _
theorem wl_pos {week : Nat → Int32} {inch : Int32} {d : Nat} (h : inOK inch) (i : Nat) : 0 < (wlF week inch d i).toNatClampNeg := (wlF_in h i).2.1
theorem c_X10_lowest (E : EE) (l : Launch) (u : Nat) (v : Nat) (part : Int32) (hu : u < 4611686018427387904) (hv : v < 4611686018427387904) (hv0 : 0 < v) : CT E l yX10_lowest cX10_lowest 11 (some .long) { frames := 0, cells := 0, slots := 0, locals := 0 } [.long (lN u), .long (lN v), .int part] ([]) (some (.long (lowM u v part))) ([]) := by
  refine CT.intro (by decide) (Nat.le_of_ble_eq_true rfl) (fun K X Y => ?_)
  refine jv_lload_n 0 X dX10_lowest_0 0 rfl ?_
  refine jv_lstore (lv2 := [(5, .long (lN u)), (0, .long (lN u)), (2, .long (lN v)), (4, .int part)]) 1 X dX10_lowest_1 (by decide) rfl ?_
  refine jv_lload_n 3 X dX10_lowest_3 2 rfl ?_
  refine jv_lstore (lv2 := [(7, .long (lN v)), (5, .long (lN u)), (0, .long (lN u)), (2, .long (lN v)), (4, .int part)]) 4 X dX10_lowest_4 (by decide) rfl ?_
  have lp6 : ∀ (n6 : Nat) (a b : Nat), (Nat.gcd a b = Nat.gcd u v) → (a < 4611686018427387904) → (b < 4611686018427387904) → b < n6 → JV E K 0 0 ([]) [(0, .long (lN u)), (2, .long (lN v)), (4, .int part), (5, .long (lN a)), (7, .long (lN b))] 6 [] := by
    intro n6
    induction n6 with
    | zero => intro a b hab ha hb hm; exact absurd hm (Nat.not_lt_zero _)
    | succ n6 ih6 =>
      intro a b hab ha hb hm
      refine jv_lload 6 X dX10_lowest_6 4 rfl ?_
      refine jv_lconst (v := 0) 8 X dX10_lowest_8 rfl ?_
      refine jv_lcmp 9 X dX10_lowest_9 ?_
      refine jn_if_eq 10 X dX10_lowest_10 31 (by decide) (fun c_1 => ?_) (fun c_1 => ?_)
      · have hb0 : b = 0 := (lN_0 (by omega)).mp ((lg_cmp_eq _ _).mp c_1)
        subst hb0
        rw [Nat.gcd_zero_right] at hab
        have ha0 : 0 < a := by rw [hab]; exact Nat.gcd_pos_of_pos_right _ hv0
        have hne : ¬ lN a = 0 := fun z => absurd ((lN_0 (by omega)).mp z) (by omega)
        refine jv_iload 31 X dX10_lowest_31 2 rfl ?_
        refine jn_if_ne 33 X dX10_lowest_33 43 (by decide) (fun c_2 => ?_) (fun c_2 => ?_)
        · refine jv_lload_n 43 X dX10_lowest_43 1 rfl ?_
          refine jv_lload 44 X dX10_lowest_44 3 rfl ?_
          refine jv_ldiv 46 X dX10_lowest_46 hne ?_
          exact jv_lret 47 X Y rfl dX10_lowest_47 () (congrArg (fun z => some (Value.long z)) (by rw [pk_lDiv (by omega) ha0 (by omega), hab]; exact (if_neg c_2).symm)) rfl
        · refine jv_lload_n 36 X dX10_lowest_36 0 rfl ?_
          refine jv_lload 37 X dX10_lowest_37 3 rfl ?_
          refine jv_ldiv 39 X dX10_lowest_39 hne ?_
          refine jv_goto 40 X dX10_lowest_40 47 (by decide) ?_
          exact jv_lret 47 X Y rfl dX10_lowest_47 () (congrArg (fun z => some (Value.long z)) (by rw [pk_lDiv (by omega) ha0 (by omega), hab]; exact (if_pos c_2).symm)) rfl
      · have hne : ¬ lN b = 0 := fun z => c_1 ((lg_cmp_eq _ _).mpr z)
        have hb0 : 0 < b := Nat.pos_of_ne_zero fun z => hne (by rw [z]; rfl)
        refine jv_lload 13 X dX10_lowest_13 3 rfl ?_
        refine jv_lload 15 X dX10_lowest_15 4 rfl ?_
        refine jv_lrem 17 X dX10_lowest_17 hne ?_
        refine jv_norml (x2 := lN (a % b)) (pk_lRem (by omega) hb0 (by omega)) ?_
        have hlt : a % b < b := Nat.mod_lt _ hb0
        refine jv_lstore (lv2 := [(9, .long (lN (a % b))), (0, .long (lN u)), (2, .long (lN v)), (4, .int part), (5, .long (lN a)), (7, .long (lN b))]) 18 X dX10_lowest_18 (by decide) rfl ?_
        refine jv_lload 20 X dX10_lowest_20 5 rfl ?_
        refine jv_lstore (lv2 := [(5, .long (lN b)), (9, .long (lN (a % b))), (0, .long (lN u)), (2, .long (lN v)), (4, .int part), (7, .long (lN b))]) 22 X dX10_lowest_22 (by decide) rfl ?_
        refine jv_lload 24 X dX10_lowest_24 1 rfl ?_
        refine jv_lstore (lv2 := [(7, .long (lN (a % b))), (5, .long (lN b)), (9, .long (lN (a % b))), (0, .long (lN u)), (2, .long (lN v)), (4, .int part)]) 26 X dX10_lowest_26 (by decide) rfl ?_
        refine jv_goto 28 X dX10_lowest_28 6 (by decide) ?_
        exact jv_lv [3, 4, 5, 1, 0] rfl (ih6 b (a % b) (by rw [gcd_st]; exact hab) hb (by omega) (by omega))
  exact jv_lv [2, 3, 4, 1, 0] rfl (lp6 _ u v rfl hu hv (Nat.lt_succ_self _))
theorem c_X10_layWill (E : EE) (l : Launch) (a : Nat → Nat) (book : Nat → Int32) (now : Nat → Int32) (week : Nat → Int32) (sights : Int32) (sight : Nat → Int32) (signs : Int32) (pad : Nat → Int32) (metAt : Int32) (metWho : Int32) (reason : Int32) (acts : Int32) (atp : Int32) (will : Nat → Int32) (fitting : Nat → Int32) (counts : Nat → Int32) (ring : Nat → Int32) (nxt : Nat → Int32) (wins : Nat → Int32) (ways : Nat → Int64) (nextWays : Nat → Int64) (image : Nat → Int32) (isKept : Nat → Int32) (d : Nat) (hmk : book 39 = nI d) (hd : d ≤ 999) : CT E l yX10_layWill cX10_layWill 2 none { frames := 1, cells := 0, slots := 0, locals := 20 } [.ref (a 0)] (bMd E a book now week sights sight signs pad metAt metWho reason acts atp will fitting counts ring nxt wins ways nextWays image isKept) (none) (bMd E a book now week sights sight signs pad metAt metWho reason acts atp (wlF week (book 38) d) fitting counts ring nxt wins ways nextWays image isKept) := by
  refine CT.intro (by decide) (Nat.le_of_ble_eq_true rfl) (fun K X Y => ?_)
  refine jv_aload_n 0 X dX10_layWill_0 0 rfl ?_
  refine jv_get (v := .ref (a 6)) 1 X gf_X10_25 dX10_layWill_1 0 rfl rfl ?_
  refine jv_iconst (v := 0) 4 X dX10_layWill_4 rfl ?_
  refine jv_aload_n 5 X dX10_layWill_5 0 rfl ?_
  refine jv_get (v := .ref (a 1)) 6 X gf_X10_7 dX10_layWill_6 0 rfl rfl ?_
  refine jv_bipush (v := 38) 9 X dX10_layWill_9 (by decide) ?_
  refine jv_iald (f := book) 11 X dX10_layWill_11 1 rfl (by decide) 38 rfl (by omega) ?_
  refine jv_iast (ws2 := bMd E a book now week sights sight signs pad metAt metWho reason acts atp (upd will 0 (book 38)) fitting counts ring nxt wins ways nextWays image isKept) (f := will) 12 X dX10_layWill_12 6 rfl (by decide) 0 rfl (by omega) rfl ?_
  refine jv_iconst (v := 1) 13 X dX10_layWill_13 rfl ?_
  refine jv_istore_n (lv2 := [(1, .int 1), (0, .ref (a 0))]) 14 X dX10_layWill_14 (by decide) rfl ?_
  have lp15 : ∀ (n15 : Nat) (i : Nat) (wl : Nat → Int32), (1 ≤ i) → (i ≤ 100) → (∀ j, j < i → wl j = wlF week (book 38) d j) → 100 - i < n15 → JV E K 0 0 (bMd E a book now week sights sight signs pad metAt metWho reason acts atp wl fitting counts ring nxt wins ways nextWays image isKept) [(0, .ref (a 0)), (1, .int (nI i))] 15 [] := by
    intro n15
    induction n15 with
    | zero => intro i wl h1 h2 hI hm; exact absurd hm (Nat.not_lt_zero _)
    | succ n15 ih15 =>
      intro i wl h1 h2 hI hm
      refine jv_iload_n 15 X dX10_layWill_15 1 rfl ?_
      refine jv_bipush (v := 100) 16 X dX10_layWill_16 (by decide) ?_
      refine jn_icmp_ge 18 X dX10_layWill_18 64 (by decide) (fun c_1 => ?_) (fun c_1 => ?_)
      · have n_1 : 100 ≤ i := (nx_le (a := 100) (b := i) rfl rfl (by omega) (by omega)).mp c_1
        refine jv_ext (ws2 := bMd E a book now week sights sight signs pad metAt metWho reason acts atp (wlF week (book 38) d) fitting counts ring nxt wins ways nextWays image isKept) 6 (wlF week (book 38) d) rfl (fun j hj => hI j (by omega)) rfl ?_
        exact jv_vret 64 X Y rfl dX10_layWill_64 () rfl rfl
      · have n_1 : ¬ 100 ≤ i := fun zq => c_1 ((nx_le (a := 100) (b := i) rfl rfl (by omega) (by omega)).mpr zq)
        refine jv_aload_n 21 X dX10_layWill_21 0 rfl ?_
        refine jv_get (v := .ref (a 6)) 22 X gf_X10_25 dX10_layWill_22 0 rfl rfl ?_
        refine jv_iload_n 25 X dX10_layWill_25 1 rfl ?_
        refine jv_aload_n 26 X dX10_layWill_26 0 rfl ?_
        refine jv_get (v := .ref (a 6)) 27 X gf_X10_25 dX10_layWill_27 0 rfl rfl ?_
        refine jv_iload_n 30 X dX10_layWill_30 1 rfl ?_
        refine jv_iconst (v := 1) 31 X dX10_layWill_31 rfl ?_
        refine jv_isub 32 X dX10_layWill_32 ?_
        refine jv_norm (x2 := nI (i - 1)) (nx_sub2 (a := i) (b := 1) rfl rfl (by omega)) ?_
        refine jv_iald (f := wl) 33 X dX10_layWill_33 6 rfl (by decide) (i - 1) rfl (by omega) ?_
        refine jv_aload_n 34 X dX10_layWill_34 0 rfl ?_
        refine jv_get (v := .ref (a 3)) 35 X gf_X10_16 dX10_layWill_35 0 rfl rfl ?_
        refine jv_aload_n 38 X dX10_layWill_38 0 rfl ?_
        refine jv_get (v := .ref (a 1)) 39 X gf_X10_7 dX10_layWill_39 0 rfl rfl ?_
        refine jv_bipush (v := 39) 42 X dX10_layWill_42 (by decide) ?_
        refine jv_iald (f := book) 44 X dX10_layWill_44 1 rfl (by decide) 39 rfl (by omega) ?_
        refine jv_iload_n 45 X dX10_layWill_45 1 rfl ?_
        refine jv_iadd 46 X dX10_layWill_46 ?_
        refine jv_norm (x2 := nI (d + i)) (nx_add2 (a := d) (b := i) hmk rfl (by omega)) ?_
        refine jv_iconst (v := 1) 47 X dX10_layWill_47 rfl ?_
        refine jv_isub 48 X dX10_layWill_48 ?_
        refine jv_norm (x2 := nI ((d + i) - 1)) (nx_sub2 (a := (d + i)) (b := 1) rfl rfl (by omega)) ?_
        refine jv_bipush (v := 7) 49 X dX10_layWill_49 (by decide) ?_
        refine jv_irem 51 X dX10_layWill_51 (by decide) ?_
        refine jv_norm (x2 := nI (((d + i) - 1) % 7)) (nx_rem (a := ((d + i) - 1)) (b := 7) rfl rfl (by omega) (by omega) (by omega)) ?_
        refine jv_iald (f := week) 52 X dX10_layWill_52 3 rfl (by decide) (((d + i) - 1) % 7) rfl (by omega) ?_
        refine jv_iadd 53 X dX10_layWill_53 ?_
        refine jv_fun 54 X (c_X10_clamp E _ ((wl (i - 1)) + (week (((d + i) - 1) % 7)))) ws_X10_97 ⟨Nat.le_of_ble_eq_true rfl, Nat.le_of_ble_eq_true rfl⟩ ⟨rfl, rfl⟩ ⟨Nat.zero_le _, Nat.zero_le _⟩ dX10_layWill_54 rfl [.int (nI i), .ref (a 6)] rfl (Nat.le_of_ble_eq_true rfl) ?_
        refine jv_iast (ws2 := bMd E a book now week sights sight signs pad metAt metWho reason acts atp (upd wl i (clampI ((wl (i - 1)) + (week (((d + i) - 1) % 7))))) fitting counts ring nxt wins ways nextWays image isKept) (f := wl) 57 X dX10_layWill_57 6 rfl (by decide) i rfl (by omega) rfl ?_
        refine jv_iinc (v := (nI (i + 1))) (lv2 := [(1, .int (nI (i + 1))), (0, .ref (a 0))]) 58 X dX10_layWill_58 1 rfl (nx_inc _) (by decide) rfl ?_
        refine jv_goto 61 X dX10_layWill_61 15 (by decide) ?_
        exact jv_lv [1, 0] rfl (ih15 (i + 1) (upd wl i (clampI ((wl (i - 1)) + (week (((d + i) - 1) % 7))))) (by omega) (by omega) (fun j hj => by rcases Nat.lt_succ_iff_lt_or_eq.mp hj with h | h; rw [pk_un (by omega)]; exact hI j h; rw [h, pk_us, wlF_s h1, hI (i - 1) (by omega)]) (by omega))
  exact jv_lv [1, 0] rfl (lp15 _ 1 (upd will 0 (book 38)) (by omega) (by omega) (fun j hj => by rw [show j = 0 by omega]; exact pk_us) (Nat.lt_succ_self _))
theorem c_X10_will (E : EE) (l : Launch) (a : Nat → Nat) (book : Nat → Int32) (now : Nat → Int32) (week : Nat → Int32) (sights : Int32) (sight : Nat → Int32) (signs : Int32) (pad : Nat → Int32) (metAt : Int32) (metWho : Int32) (reason : Int32) (acts : Int32) (atp : Int32) (will : Nat → Int32) (fitting : Nat → Int32) (counts : Nat → Int32) (ring : Nat → Int32) (nxt : Nat → Int32) (wins : Nat → Int32) (ways : Nat → Int64) (nextWays : Nat → Int64) (image : Nat → Int32) (isKept : Nat → Int32) (m : Int32) (hD : dyOK book) : CG E l yX10_will cX10_will 2 (some .int) { frames := 2, cells := 0, slots := 0, locals := 41 } [.ref (a 0), .int m] (bMd E a book now week sights sight signs pad metAt metWho reason acts atp will fitting counts ring nxt wins ways nextWays image isKept) noB (fun _ : ScrM => some (.int (if 0 ≤ m ∧ m ≤ 99 then (wlF week (book 38) (book 39).toNatClampNeg) m.toNatClampNeg else -2))) (fun u : ScrM => bMd E a book u.1 week sights sight signs pad u.2.1 u.2.2.1 u.2.2.2.1 u.2.2.2.2.1 u.2.2.2.2.2.1 u.2.2.2.2.2.2.1 u.2.2.2.2.2.2.2.1 u.2.2.2.2.2.2.2.2.1 u.2.2.2.2.2.2.2.2.2.1 u.2.2.2.2.2.2.2.2.2.2.1 u.2.2.2.2.2.2.2.2.2.2.2.1 u.2.2.2.2.2.2.2.2.2.2.2.2.1 u.2.2.2.2.2.2.2.2.2.2.2.2.2 image isKept) := by
  refine CG.intro (by decide) (Nat.le_of_ble_eq_true rfl) (fun K X Y _ _ _ => ?_)
  refine jv_iload_n 0 X dX10_will_0 1 rfl ?_
  refine jv_iconst (v := 0) 1 X dX10_will_1 rfl ?_
  refine jv_bipush (v := 99) 2 X dX10_will_2 (by decide) ?_
  refine jv_fun 4 X (c_X10_in E _ m 0 99) ws_X10_57 ⟨Nat.le_of_ble_eq_true rfl, Nat.le_of_ble_eq_true rfl⟩ ⟨rfl, rfl⟩ ⟨Nat.zero_le _, Nat.zero_le _⟩ dX10_will_4 rfl [] rfl (Nat.le_of_ble_eq_true rfl) ?_
  refine jv_z_ne 7 X dX10_will_7 13 (by decide) (fun c_1 => ?_) (fun c_1 => ?_)
  · obtain ⟨jm, h1jm, h2jm, rfl⟩ := nx_in (a := 0) (b := 99) rfl rfl (by decide) (by decide) c_1
    have hcjm : (nI jm).toNatClampNeg = jm := nI_clamp (by omega)
    refine jv_aload_n 13 X dX10_will_13 0 rfl ?_
    refine jv_callW (w1 := bMd E a book now week sights sight signs pad metAt metWho reason acts atp (wlF week (book 38) ((book 39).toNatClampNeg)) fitting counts ring nxt wins ways nextWays image isKept) 14 X (c_X10_layWill E _ a book now week sights sight signs pad metAt metWho reason acts atp will fitting counts ring nxt wins ways nextWays image isKept ((book 39).toNatClampNeg) hD.1 hD.2) wv_X10_157 ⟨Nat.le_of_ble_eq_true rfl, Nat.le_of_ble_eq_true rfl⟩ ⟨rfl, rfl⟩ ⟨Nat.zero_le _, Nat.zero_le _⟩ dX10_will_14 rfl [] rfl (Nat.le_of_ble_eq_true rfl) 0 rfl rfl ?_
    refine jv_aload_n 17 X dX10_will_17 0 rfl ?_
    refine jv_get (v := .ref (a 6)) 18 X gf_X10_25 dX10_will_18 0 rfl rfl ?_
    refine jv_iload_n 21 X dX10_will_21 1 rfl ?_
    refine jv_iald (f := (wlF week (book 38) ((book 39).toNatClampNeg))) 22 X dX10_will_22 6 rfl (by decide) jm rfl (by omega) ?_
    exact jv_iret 23 X Y rfl dX10_will_23 (now, metAt, metWho, reason, acts, atp, (wlF week (book 38) ((book 39).toNatClampNeg)), fitting, counts, ring, nxt, wins, ways, nextWays) (by simp [lt_nle, -Int32.not_le, c_1, hcjm]) rfl
  · refine jv_bipush (v := (-2)) 10 X dX10_will_10 (by decide) ?_
    exact jv_iret 12 X Y rfl dX10_will_12 (now, metAt, metWho, reason, acts, atp, will, fitting, counts, ring, nxt, wins, ways, nextWays) (by simp [lt_nle, -Int32.not_le, c_1]) rfl
theorem c_X10_best (E : EE) (l : Launch) (a : Nat → Nat) (book : Nat → Int32) (now : Nat → Int32) (week : Nat → Int32) (sights : Int32) (sight : Nat → Int32) (signs : Int32) (pad : Nat → Int32) (metAt : Int32) (metWho : Int32) (reason : Int32) (acts : Int32) (atp : Int32) (will : Nat → Int32) (fitting : Nat → Int32) (counts : Nat → Int32) (ring : Nat → Int32) (nxt : Nat → Int32) (wins : Nat → Int32) (ways : Nat → Int64) (nextWays : Nat → Int64) (image : Nat → Int32) (isKept : Nat → Int32) (m : Nat) (hD : dyOK book) (hm : m ≤ 60) : CT E l yX10_best cX10_best 6 (some .int) { frames := 2, cells := 0, slots := 0, locals := 41 } [.ref (a 0), .int (nI m)] (bMd E a book now week sights sight signs pad metAt metWho reason acts atp will fitting counts ring nxt wins ways nextWays image isKept) (some (.int (nI (bsM (wlF week (book 38) (book 39).toNatClampNeg) m)))) (bMd E a book now week sights sight signs pad metAt metWho reason acts atp (wlF week (book 38) (book 39).toNatClampNeg) fitting counts ring nxt wins ways nextWays image isKept) := by
  refine CT.intro (by decide) (Nat.le_of_ble_eq_true rfl) (fun K X Y => ?_)
  refine jv_aload_n 0 X dX10_best_0 0 rfl ?_
  refine jv_callW (w1 := bMd E a book now week sights sight signs pad metAt metWho reason acts atp (wlF week (book 38) ((book 39).toNatClampNeg)) fitting counts ring nxt wins ways nextWays image isKept) 1 X (c_X10_layWill E _ a book now week sights sight signs pad metAt metWho reason acts atp will fitting counts ring nxt wins ways nextWays image isKept ((book 39).toNatClampNeg) hD.1 hD.2) wv_X10_157 ⟨Nat.le_of_ble_eq_true rfl, Nat.le_of_ble_eq_true rfl⟩ ⟨rfl, rfl⟩ ⟨Nat.zero_le _, Nat.zero_le _⟩ dX10_best_1 rfl [] rfl (Nat.le_of_ble_eq_true rfl) 0 rfl rfl ?_
  refine jv_iconst (v := 1) 4 X dX10_best_4 rfl ?_
  refine jv_istore_n (lv2 := [(2, .int 1), (0, .ref (a 0)), (1, .int (nI m))]) 5 X dX10_best_5 (by decide) rfl ?_
  refine jv_iconst (v := 0) 6 X dX10_best_6 rfl ?_
  refine jv_istore_n (lv2 := [(3, .int 0), (2, .int 1), (0, .ref (a 0)), (1, .int (nI m))]) 7 X dX10_best_7 (by decide) rfl ?_
  have lp8 : ∀ (n8 : Nat) (i fd : Nat), (i ≤ m) → (fd < 10000) → (fd = itr (fun i fd => bsI (wlF week (book 38) (book 39).toNatClampNeg) m i fd) i 1) → m - i < n8 → JV E K 0 0 (bMd E a book now week sights sight signs pad metAt metWho reason acts atp (wlF week (book 38) ((book 39).toNatClampNeg)) fitting counts ring nxt wins ways nextWays image isKept) [(0, .ref (a 0)), (1, .int (nI m)), (2, .int (nI fd)), (3, .int (nI i))] 8 [] := by
    intro n8
    induction n8 with
    | zero => intro i fd hi hfd hI hm; exact absurd hm (Nat.not_lt_zero _)
    | succ n8 ih8 =>
      intro i fd hi hfd hI hm
      refine jv_iload_n 8 X dX10_best_8 3 rfl ?_
      refine jv_iload_n 9 X dX10_best_9 1 rfl ?_
      refine jn_icmp_ge 10 X dX10_best_10 96 (by decide) (fun c_1 => ?_) (fun c_1 => ?_)
      · have n_1 : m ≤ i := (nx_le (a := m) (b := i) rfl rfl (by omega) (by omega)).mp c_1
        refine jv_iload_n 96 X dX10_best_96 2 rfl ?_
        exact jv_iret 97 X Y rfl dX10_best_97 () (congrArg (fun z => some (Value.int z)) (congrArg nI (by rw [hI, show i = m by omega]; rfl))) rfl
      · have n_1 : ¬ m ≤ i := fun zq => c_1 ((nx_le (a := m) (b := i) rfl rfl (by omega) (by omega)).mpr zq)
        refine jv_iload_n 13 X dX10_best_13 3 rfl ?_
        refine jv_iconst (v := 1) 14 X dX10_best_14 rfl ?_
        refine jv_iadd 15 X dX10_best_15 ?_
        refine jv_norm (x2 := nI (i + 1)) (nx_add2 (a := i) (b := 1) rfl rfl (by omega)) ?_
        refine jv_istore (lv2 := [(4, .int (nI (i + 1))), (0, .ref (a 0)), (1, .int (nI m)), (2, .int (nI fd)), (3, .int (nI i))]) 16 X dX10_best_16 (by decide) rfl ?_
        have lp18 : ∀ (n18 : Nat) (t f2 : Nat), (t ≤ m - i) → (f2 < 10000) → (f2 = itr (fun t fd => bsS (wlF week (book 38) (book 39).toNatClampNeg) i (i + 1 + t) fd) t fd) → m - i - t < n18 → JV E K 0 0 (bMd E a book now week sights sight signs pad metAt metWho reason acts atp (wlF week (book 38) ((book 39).toNatClampNeg)) fitting counts ring nxt wins ways nextWays image isKept) [(0, .ref (a 0)), (1, .int (nI m)), (2, .int (nI f2)), (3, .int (nI i)), (4, .int (nI (i + 1 + t)))] 18 [] := by
          intro n18
          induction n18 with
          | zero => intro t f2 ht hf2 hI2 hm; exact absurd hm (Nat.not_lt_zero _)
          | succ n18 ih18 =>
            intro t f2 ht hf2 hI2 hm
            refine jv_iload 18 X dX10_best_18 4 rfl ?_
            refine jv_iload_n 20 X dX10_best_20 1 rfl ?_
            refine jn_icmp_gt 21 X dX10_best_21 90 (by decide) (fun c_2 => ?_) (fun c_2 => ?_)
            · have n_2 : ¬ (i + 1 + t) ≤ m := fun zq => c_2 ((nx_le (a := (i + 1 + t)) (b := m) rfl rfl (by omega) (by omega)).mpr zq)
              refine jv_iinc (v := (nI (i + 1))) (lv2 := [(3, .int (nI (i + 1))), (0, .ref (a 0)), (1, .int (nI m)), (2, .int (nI f2)), (4, .int (nI (i + 1 + t)))]) 90 X dX10_best_90 3 rfl (nx_inc _) (by decide) rfl ?_
              refine jv_goto 93 X dX10_best_93 8 (by decide) ?_
              exact jv_lv [1, 2, 3, 0] rfl (ih8 (i + 1) f2 (by omega) (by omega) (by rw [itr_s, ← hI, bsI, hI2, show m - i = t by omega]) (by omega))
            · have n_2 : (i + 1 + t) ≤ m := (nx_le (a := (i + 1 + t)) (b := m) rfl rfl (by omega) (by omega)).mp c_2
              refine jv_aload_n 24 X dX10_best_24 0 rfl ?_
              refine jv_get (v := .ref (a 6)) 25 X gf_X10_25 dX10_best_25 0 rfl rfl ?_
              refine jv_iload_n 28 X dX10_best_28 3 rfl ?_
              refine jv_iald (f := (wlF week (book 38) ((book 39).toNatClampNeg))) 29 X dX10_best_29 6 rfl (by decide) i rfl (by omega) ?_
              refine jv_aload_n 30 X dX10_best_30 0 rfl ?_
              refine jv_get (v := .ref (a 6)) 31 X gf_X10_25 dX10_best_31 0 rfl rfl ?_
              refine jv_iload_n 34 X dX10_best_34 2 rfl ?_
              refine jv_bipush (v := 100) 35 X dX10_best_35 (by decide) ?_
              refine jv_irem 37 X dX10_best_37 (by decide) ?_
              refine jv_norm (x2 := nI (f2 % 100)) (nx_rem (a := f2) (b := 100) rfl rfl (by omega) (by omega) (by omega)) ?_
              refine jv_iald (f := (wlF week (book 38) ((book 39).toNatClampNeg))) 38 X dX10_best_38 6 rfl (by decide) (f2 % 100) rfl (by omega) ?_
              refine jv_imul 39 X dX10_best_39 ?_
              refine jv_aload_n 40 X dX10_best_40 0 rfl ?_
              refine jv_get (v := .ref (a 6)) 41 X gf_X10_25 dX10_best_41 0 rfl rfl ?_
              refine jv_iload_n 44 X dX10_best_44 2 rfl ?_
              refine jv_bipush (v := 100) 45 X dX10_best_45 (by decide) ?_
              refine jv_idiv 47 X dX10_best_47 (by decide) ?_
              refine jv_norm (x2 := nI (f2 / 100)) (nx_div (a := f2) (b := 100) rfl rfl (by omega) (by omega) (by omega)) ?_
              refine jv_iald (f := (wlF week (book 38) ((book 39).toNatClampNeg))) 48 X dX10_best_48 6 rfl (by decide) (f2 / 100) rfl (by omega) ?_
              refine jv_aload_n 49 X dX10_best_49 0 rfl ?_
              refine jv_get (v := .ref (a 6)) 50 X gf_X10_25 dX10_best_50 0 rfl rfl ?_
              refine jv_iload 53 X dX10_best_53 4 rfl ?_
              refine jv_iald (f := (wlF week (book 38) ((book 39).toNatClampNeg))) 55 X dX10_best_55 6 rfl (by decide) (i + 1 + t) rfl (by omega) ?_
              refine jv_imul 56 X dX10_best_56 ?_
              refine jn_icmp_le 57 X dX10_best_57 64 (by decide) (fun c_3 => ?_) (fun c_3 => ?_)
              · refine jv_iconst (v := 0) 64 X dX10_best_64 rfl ?_
                refine jv_istore (lv2 := [(5, .int 0), (0, .ref (a 0)), (1, .int (nI m)), (2, .int (nI f2)), (3, .int (nI i)), (4, .int (nI (i + 1 + t)))]) 65 X dX10_best_65 (by decide) rfl ?_
                refine jv_iload 67 X dX10_best_67 0 rfl ?_
                refine jn_if_eq 69 X dX10_best_69 82 (by decide) (fun _ => ?_) (fun c_4 => absurd c_4 (by decide))
                refine jv_iload_n 82 X dX10_best_82 3 rfl ?_
                refine jv_istore_n (lv2 := [(2, .int (nI f2)), (5, .int 0), (0, .ref (a 0)), (1, .int (nI m)), (3, .int (nI i)), (4, .int (nI (i + 1 + t)))]) 83 X dX10_best_83 (by decide) rfl ?_
                refine jv_iinc (v := (nI ((i + 1 + t) + 1))) (lv2 := [(4, .int (nI ((i + 1 + t) + 1))), (2, .int (nI f2)), (5, .int 0), (0, .ref (a 0)), (1, .int (nI m)), (3, .int (nI i))]) 84 X dX10_best_84 5 rfl (nx_inc _) (by decide) rfl ?_
                refine jv_goto 87 X dX10_best_87 18 (by decide) ?_
                exact jv_lv [3, 4, 1, 5, 0] rfl (ih18 (t + 1) f2 (by omega) (by omega) (by rw [itr_s, ← hI2, bsS, if_pos c_3]) (by omega))
              · refine jv_iconst (v := 1) 60 X dX10_best_60 rfl ?_
                refine jv_goto 61 X dX10_best_61 65 (by decide) ?_
                refine jv_istore (lv2 := [(5, .int 1), (0, .ref (a 0)), (1, .int (nI m)), (2, .int (nI f2)), (3, .int (nI i)), (4, .int (nI (i + 1 + t)))]) 65 X dX10_best_65 (by decide) rfl ?_
                refine jv_iload 67 X dX10_best_67 0 rfl ?_
                refine jn_if_eq 69 X dX10_best_69 82 (by decide) (fun c_5 => absurd c_5 (by decide)) (fun _ => ?_)
                refine jv_bipush (v := 100) 72 X dX10_best_72 (by decide) ?_
                refine jv_iload_n 74 X dX10_best_74 4 rfl ?_
                refine jv_imul 75 X dX10_best_75 ?_
                refine jv_norm (x2 := nI (100 * i)) (nx_mul (a := 100) (b := i) rfl rfl) ?_
                refine jv_iload 76 X dX10_best_76 5 rfl ?_
                refine jv_iadd 78 X dX10_best_78 ?_
                refine jv_norm (x2 := nI ((100 * i) + (i + 1 + t))) (nx_add2 (a := (100 * i)) (b := (i + 1 + t)) rfl rfl (by omega)) ?_
                refine jv_goto 79 X dX10_best_79 83 (by decide) ?_
                refine jv_istore_n (lv2 := [(2, .int (nI ((100 * i) + (i + 1 + t)))), (5, .int 1), (0, .ref (a 0)), (1, .int (nI m)), (3, .int (nI i)), (4, .int (nI (i + 1 + t)))]) 83 X dX10_best_83 (by decide) rfl ?_
                refine jv_iinc (v := (nI ((i + 1 + t) + 1))) (lv2 := [(4, .int (nI ((i + 1 + t) + 1))), (2, .int (nI ((100 * i) + (i + 1 + t)))), (5, .int 1), (0, .ref (a 0)), (1, .int (nI m)), (3, .int (nI i))]) 84 X dX10_best_84 5 rfl (nx_inc _) (by decide) rfl ?_
                refine jv_goto 87 X dX10_best_87 18 (by decide) ?_
                exact jv_lv [3, 4, 1, 5, 0] rfl (ih18 (t + 1) ((100 * i) + (i + 1 + t)) (by omega) (by omega) (by rw [itr_s, ← hI2, bsS, if_neg c_3]) (by omega))
        exact jv_lv [1, 2, 3, 4, 0] rfl (lp18 _ 0 fd (by omega) hfd rfl (Nat.lt_succ_self _))
  exact jv_lv [2, 3, 1, 0] rfl (lp8 _ 0 1 (by omega) (by omega) rfl (Nat.lt_succ_self _))
theorem c_X10_sure (E : EE) (l : Launch) (a : Nat → Nat) (book : Nat → Int32) (now : Nat → Int32) (week : Nat → Int32) (sights : Int32) (sight : Nat → Int32) (signs : Int32) (pad : Nat → Int32) (metAt : Int32) (metWho : Int32) (reason : Int32) (acts : Int32) (atp : Int32) (will : Nat → Int32) (fitting : Nat → Int32) (counts : Nat → Int32) (ring : Nat → Int32) (nxt : Nat → Int32) (wins : Nat → Int32) (ways : Nat → Int64) (nextWays : Nat → Int64) (image : Nat → Int32) (isKept : Nat → Int32) (m : Int32) (part : Int32) (hD : dyOK book) (hin : inOK (book 38)) : CG E l yX10_sure cX10_sure 4 (some .long) { frames := 3, cells := 0, slots := 0, locals := 66 } [.ref (a 0), .int m, .int part] (bMd E a book now week sights sight signs pad metAt metWho reason acts atp will fitting counts ring nxt wins ways nextWays image isKept) noB (fun _ : ScrM => some (.long (if (1 ≤ m ∧ m ≤ 60) ∧ (0 ≤ part ∧ part ≤ 1) then lowM ((wlF week (book 38) (book 39).toNatClampNeg) ((bsM (wlF week (book 38) (book 39).toNatClampNeg) m.toNatClampNeg) / 100)).toNatClampNeg ((wlF week (book 38) (book 39).toNatClampNeg) ((bsM (wlF week (book 38) (book 39).toNatClampNeg) m.toNatClampNeg) % 100)).toNatClampNeg part else -1000000000000000002))) (fun u : ScrM => bMd E a book u.1 week sights sight signs pad u.2.1 u.2.2.1 u.2.2.2.1 u.2.2.2.2.1 u.2.2.2.2.2.1 u.2.2.2.2.2.2.1 u.2.2.2.2.2.2.2.1 u.2.2.2.2.2.2.2.2.1 u.2.2.2.2.2.2.2.2.2.1 u.2.2.2.2.2.2.2.2.2.2.1 u.2.2.2.2.2.2.2.2.2.2.2.1 u.2.2.2.2.2.2.2.2.2.2.2.2.1 u.2.2.2.2.2.2.2.2.2.2.2.2.2 image isKept) := by
  refine CG.intro (by decide) (Nat.le_of_ble_eq_true rfl) (fun K X Y _ _ _ => ?_)
  refine jv_iload_n 0 X dX10_sure_0 1 rfl ?_
  refine jv_iconst (v := 1) 1 X dX10_sure_1 rfl ?_
  refine jv_bipush (v := 60) 2 X dX10_sure_2 (by decide) ?_
  refine jv_fun 4 X (c_X10_in E _ m 1 60) ws_X10_57 ⟨Nat.le_of_ble_eq_true rfl, Nat.le_of_ble_eq_true rfl⟩ ⟨rfl, rfl⟩ ⟨Nat.zero_le _, Nat.zero_le _⟩ dX10_sure_4 rfl [] rfl (Nat.le_of_ble_eq_true rfl) ?_
  refine jv_z_eq 7 X dX10_sure_7 19 (by decide) (fun c_1 => ?_) (fun c_1 => ?_)
  · refine jv_ldc2 (v := (-1000000000000000002)) 19 X tm_kl_X10_151 dX10_sure_19 ?_
    exact jv_lret 22 X Y rfl dX10_sure_22 (now, metAt, metWho, reason, acts, atp, will, fitting, counts, ring, nxt, wins, ways, nextWays) (by simp [lt_nle, -Int32.not_le, c_1]) rfl
  · obtain ⟨jm, h1jm, h2jm, rfl⟩ := nx_in (a := 1) (b := 60) rfl rfl (by decide) (by decide) c_1
    have hcjm : (nI jm).toNatClampNeg = jm := nI_clamp (by omega)
    refine jv_iload_n 10 X dX10_sure_10 2 rfl ?_
    refine jv_iconst (v := 0) 11 X dX10_sure_11 rfl ?_
    refine jv_iconst (v := 1) 12 X dX10_sure_12 rfl ?_
    refine jv_fun 13 X (c_X10_in E _ part 0 1) ws_X10_57 ⟨Nat.le_of_ble_eq_true rfl, Nat.le_of_ble_eq_true rfl⟩ ⟨rfl, rfl⟩ ⟨Nat.zero_le _, Nat.zero_le _⟩ dX10_sure_13 rfl [] rfl (Nat.le_of_ble_eq_true rfl) ?_
    refine jv_z_ne 16 X dX10_sure_16 23 (by decide) (fun c_2 => ?_) (fun c_2 => ?_)
    · refine jv_aload_n 23 X dX10_sure_23 0 rfl ?_
      refine jv_iload_n 24 X dX10_sure_24 1 rfl ?_
      refine jv_callW (w1 := bMd E a book now week sights sight signs pad metAt metWho reason acts atp (wlF week (book 38) (book 39).toNatClampNeg) fitting counts ring nxt wins ways nextWays image isKept) 25 X (c_X10_best E _ a book now week sights sight signs pad metAt metWho reason acts atp will fitting counts ring nxt wins ways nextWays image isKept jm hD (by omega)) wv_X10_160 ⟨Nat.le_of_ble_eq_true rfl, Nat.le_of_ble_eq_true rfl⟩ ⟨rfl, rfl⟩ ⟨Nat.zero_le _, Nat.zero_le _⟩ dX10_sure_25 rfl [] rfl (Nat.le_of_ble_eq_true rfl) 0 rfl rfl ?_
      obtain ⟨hb1, hb2, hb3⟩ := bs_lt (wlF week (book 38) (book 39).toNatClampNeg) jm (by omega)
      refine jv_istore_n (lv2 := [(3, .int (nI (bsM (wlF week (book 38) (book 39).toNatClampNeg) jm))), (0, .ref (a 0)), (1, .int (nI jm)), (2, .int part)]) 28 X dX10_sure_28 (by decide) rfl ?_
      refine jv_aload_n 29 X dX10_sure_29 1 rfl ?_
      refine jv_get (v := .ref (a 6)) 30 X gf_X10_25 dX10_sure_30 0 rfl rfl ?_
      refine jv_iload_n 33 X dX10_sure_33 0 rfl ?_
      refine jv_bipush (v := 100) 34 X dX10_sure_34 (by decide) ?_
      refine jv_idiv 36 X dX10_sure_36 (by decide) ?_
      refine jv_norm (x2 := nI ((bsM (wlF week (book 38) (book 39).toNatClampNeg) jm) / 100)) (nx_div (a := (bsM (wlF week (book 38) (book 39).toNatClampNeg) jm)) (b := 100) rfl rfl (by omega) (by omega) (by omega)) ?_
      refine jv_iald (f := (wlF week (book 38) (book 39).toNatClampNeg)) 37 X dX10_sure_37 6 rfl (by decide) ((bsM (wlF week (book 38) (book 39).toNatClampNeg) jm) / 100) rfl (by omega) ?_
      refine jv_i2l 38 X dX10_sure_38 ?_
      refine jv_norml (x2 := lN ((wlF week (book 38) (book 39).toNatClampNeg) ((bsM (wlF week (book 38) (book 39).toNatClampNeg) jm) / 100)).toNatClampNeg) (wl_l hin _) ?_
      refine jv_aload_n 39 X dX10_sure_39 1 rfl ?_
      refine jv_get (v := .ref (a 6)) 40 X gf_X10_25 dX10_sure_40 0 rfl rfl ?_
      refine jv_iload_n 43 X dX10_sure_43 0 rfl ?_
      refine jv_bipush (v := 100) 44 X dX10_sure_44 (by decide) ?_
      refine jv_irem 46 X dX10_sure_46 (by decide) ?_
      refine jv_norm (x2 := nI ((bsM (wlF week (book 38) (book 39).toNatClampNeg) jm) % 100)) (nx_rem (a := (bsM (wlF week (book 38) (book 39).toNatClampNeg) jm)) (b := 100) rfl rfl (by omega) (by omega) (by omega)) ?_
      refine jv_iald (f := (wlF week (book 38) (book 39).toNatClampNeg)) 47 X dX10_sure_47 6 rfl (by decide) ((bsM (wlF week (book 38) (book 39).toNatClampNeg) jm) % 100) rfl (by omega) ?_
      refine jv_i2l 48 X dX10_sure_48 ?_
      refine jv_norml (x2 := lN ((wlF week (book 38) (book 39).toNatClampNeg) ((bsM (wlF week (book 38) (book 39).toNatClampNeg) jm) % 100)).toNatClampNeg) (wl_l hin _) ?_
      refine jv_iload_n 49 X dX10_sure_49 3 rfl ?_
      refine jv_fun 50 X (c_X10_lowest E _ (((wlF week (book 38) (book 39).toNatClampNeg) ((bsM (wlF week (book 38) (book 39).toNatClampNeg) jm) / 100)).toNatClampNeg) (((wlF week (book 38) (book 39).toNatClampNeg) ((bsM (wlF week (book 38) (book 39).toNatClampNeg) jm) % 100)).toNatClampNeg) part (wl_62 hin _) (wl_62 hin _) (wl_pos hin _)) ws_X10_153 ⟨Nat.le_of_ble_eq_true rfl, Nat.le_of_ble_eq_true rfl⟩ ⟨rfl, rfl⟩ ⟨Nat.zero_le _, Nat.zero_le _⟩ dX10_sure_50 rfl [] rfl (Nat.le_of_ble_eq_true rfl) ?_
      exact jv_lret 53 X Y rfl dX10_sure_53 (now, metAt, metWho, reason, acts, atp, (wlF week (book 38) (book 39).toNatClampNeg), fitting, counts, ring, nxt, wins, ways, nextWays) (by simp [lt_nle, -Int32.not_le, c_1, hcjm, c_2]) rfl
    · refine jv_ldc2 (v := (-1000000000000000002)) 19 X tm_kl_X10_151 dX10_sure_19 ?_
      exact jv_lret 22 X Y rfl dX10_sure_22 (now, metAt, metWho, reason, acts, atp, will, fitting, counts, ring, nxt, wins, ways, nextWays) (by simp [lt_nle, -Int32.not_le, c_1, hcjm, c_2]) rfl
theorem c_X10_when (E : EE) (l : Launch) (a : Nat → Nat) (book : Nat → Int32) (now : Nat → Int32) (week : Nat → Int32) (sights : Int32) (sight : Nat → Int32) (signs : Int32) (pad : Nat → Int32) (metAt : Int32) (metWho : Int32) (reason : Int32) (acts : Int32) (atp : Int32) (will : Nat → Int32) (fitting : Nat → Int32) (counts : Nat → Int32) (ring : Nat → Int32) (nxt : Nat → Int32) (wins : Nat → Int32) (ways : Nat → Int64) (nextWays : Nat → Int64) (image : Nat → Int32) (isKept : Nat → Int32) (m : Int32) (hD : dyOK book) : CG E l yX10_when cX10_when 2 (some .int) { frames := 3, cells := 0, slots := 0, locals := 66 } [.ref (a 0), .int m] (bMd E a book now week sights sight signs pad metAt metWho reason acts atp will fitting counts ring nxt wins ways nextWays image isKept) noB (fun _ : ScrM => some (.int (if 1 ≤ m ∧ m ≤ 60 then nI (bsM (wlF week (book 38) (book 39).toNatClampNeg) m.toNatClampNeg) else -2))) (fun u : ScrM => bMd E a book u.1 week sights sight signs pad u.2.1 u.2.2.1 u.2.2.2.1 u.2.2.2.2.1 u.2.2.2.2.2.1 u.2.2.2.2.2.2.1 u.2.2.2.2.2.2.2.1 u.2.2.2.2.2.2.2.2.1 u.2.2.2.2.2.2.2.2.2.1 u.2.2.2.2.2.2.2.2.2.2.1 u.2.2.2.2.2.2.2.2.2.2.2.1 u.2.2.2.2.2.2.2.2.2.2.2.2.1 u.2.2.2.2.2.2.2.2.2.2.2.2.2 image isKept) := by
  refine CG.intro (by decide) (Nat.le_of_ble_eq_true rfl) (fun K X Y _ _ _ => ?_)
  refine jv_iload_n 0 X dX10_when_0 1 rfl ?_
  refine jv_iconst (v := 1) 1 X dX10_when_1 rfl ?_
  refine jv_bipush (v := 60) 2 X dX10_when_2 (by decide) ?_
  refine jv_fun 4 X (c_X10_in E _ m 1 60) ws_X10_57 ⟨Nat.le_of_ble_eq_true rfl, Nat.le_of_ble_eq_true rfl⟩ ⟨rfl, rfl⟩ ⟨Nat.zero_le _, Nat.zero_le _⟩ dX10_when_4 rfl [] rfl (Nat.le_of_ble_eq_true rfl) ?_
  refine jv_z_eq 7 X dX10_when_7 18 (by decide) (fun c_1 => ?_) (fun c_1 => ?_)
  · refine jv_bipush (v := (-2)) 18 X dX10_when_18 (by decide) ?_
    exact jv_iret 20 X Y rfl dX10_when_20 (now, metAt, metWho, reason, acts, atp, will, fitting, counts, ring, nxt, wins, ways, nextWays) (by simp [lt_nle, -Int32.not_le, c_1]) rfl
  · obtain ⟨jm, h1jm, h2jm, rfl⟩ := nx_in (a := 1) (b := 60) rfl rfl (by decide) (by decide) c_1
    have hcjm : (nI jm).toNatClampNeg = jm := nI_clamp (by omega)
    refine jv_aload_n 10 X dX10_when_10 0 rfl ?_
    refine jv_iload_n 11 X dX10_when_11 1 rfl ?_
    refine jv_callW (w1 := bMd E a book now week sights sight signs pad metAt metWho reason acts atp (wlF week (book 38) (book 39).toNatClampNeg) fitting counts ring nxt wins ways nextWays image isKept) 12 X (c_X10_best E _ a book now week sights sight signs pad metAt metWho reason acts atp will fitting counts ring nxt wins ways nextWays image isKept jm hD (by omega)) wv_X10_160 ⟨Nat.le_of_ble_eq_true rfl, Nat.le_of_ble_eq_true rfl⟩ ⟨rfl, rfl⟩ ⟨Nat.zero_le _, Nat.zero_le _⟩ dX10_when_12 rfl [] rfl (Nat.le_of_ble_eq_true rfl) 0 rfl rfl ?_
    refine jv_goto 15 X dX10_when_15 20 (by decide) ?_
    exact jv_iret 20 X Y rfl dX10_when_20 (now, metAt, metWho, reason, acts, atp, (wlF week (book 38) (book 39).toNatClampNeg), fitting, counts, ring, nxt, wins, ways, nextWays) (by simp [lt_nle, -Int32.not_le, c_1, hcjm]) rfl
theorem c_X10_inches (E : EE) (l : Launch) (a : Nat → Nat) (book : Nat → Int32) (now : Nat → Int32) (week : Nat → Int32) (sights : Int32) (sight : Nat → Int32) (signs : Int32) (pad : Nat → Int32) (metAt : Int32) (metWho : Int32) (reason : Int32) (acts : Int32) (atp : Int32) (will : Nat → Int32) (fitting : Nat → Int32) (counts : Nat → Int32) (ring : Nat → Int32) (nxt : Nat → Int32) (wins : Nat → Int32) (ways : Nat → Int64) (nextWays : Nat → Int64) (image : Nat → Int32) (isKept : Nat → Int32) (k : Int32) (j : Int32) (part : Int32) (hst : ∀ s, s < 8 → 0 ≤ book (18 + s)) (hms : ∀ o, o < 6 → inOK (msM book o)) : CG E l yX10_inches cX10_inches 4 (some .long) { frames := 2, cells := 0, slots := 0, locals := 42 } [.ref (a 0), .int k, .int j, .int part] (bMd E a book now week sights sight signs pad metAt metWho reason acts atp will fitting counts ring nxt wins ways nextWays image isKept) noB (fun _ : ScrM => some (.long (if ¬ ((0 ≤ k ∧ k ≤ 7) ∧ (0 ≤ j ∧ j ≤ 5)) then -1000000000000000001 else if ¬ (0 ≤ part ∧ part ≤ 1) then -1000000000000000002 else lowM (book (18 + k.toNatClampNeg)).toNatClampNeg (msM book j.toNatClampNeg).toNatClampNeg part))) (fun u : ScrM => bMd E a book u.1 week sights sight signs pad u.2.1 u.2.2.1 u.2.2.2.1 u.2.2.2.2.1 u.2.2.2.2.2.1 u.2.2.2.2.2.2.1 u.2.2.2.2.2.2.2.1 u.2.2.2.2.2.2.2.2.1 u.2.2.2.2.2.2.2.2.2.1 u.2.2.2.2.2.2.2.2.2.2.1 u.2.2.2.2.2.2.2.2.2.2.2.1 u.2.2.2.2.2.2.2.2.2.2.2.2.1 u.2.2.2.2.2.2.2.2.2.2.2.2.2 image isKept) := by
  refine CG.intro (by decide) (Nat.le_of_ble_eq_true rfl) (fun K X Y _ _ _ => ?_)
  refine jv_iload_n 0 X dX10_inches_0 1 rfl ?_
  refine jv_fun 1 X (c_X10_isStick E _ k) ws_X10_66 ⟨Nat.le_of_ble_eq_true rfl, Nat.le_of_ble_eq_true rfl⟩ ⟨rfl, rfl⟩ ⟨Nat.zero_le _, Nat.zero_le _⟩ dX10_inches_1 rfl [] rfl (Nat.le_of_ble_eq_true rfl) ?_
  refine jv_z_eq 4 X dX10_inches_4 14 (by decide) (fun c_1 => ?_) (fun c_1 => ?_)
  · refine jv_ldc2 (v := (-1000000000000000001)) 14 X tm_kl_X10_149 dX10_inches_14 ?_
    exact jv_lret 17 X Y rfl dX10_inches_17 (now, metAt, metWho, reason, acts, atp, will, fitting, counts, ring, nxt, wins, ways, nextWays) (by simp [lt_nle, -Int32.not_le, c_1]) rfl
  · obtain ⟨jk, h1jk, h2jk, rfl⟩ := nx_in (a := 0) (b := 7) rfl rfl (by decide) (by decide) c_1
    have hcjk : (nI jk).toNatClampNeg = jk := nI_clamp (by omega)
    refine jv_iload_n 7 X dX10_inches_7 2 rfl ?_
    refine jv_fun 8 X (c_X10_isOne E _ j) ws_X10_61 ⟨Nat.le_of_ble_eq_true rfl, Nat.le_of_ble_eq_true rfl⟩ ⟨rfl, rfl⟩ ⟨Nat.zero_le _, Nat.zero_le _⟩ dX10_inches_8 rfl [] rfl (Nat.le_of_ble_eq_true rfl) ?_
    refine jv_z_ne 11 X dX10_inches_11 18 (by decide) (fun c_2 => ?_) (fun c_2 => ?_)
    · obtain ⟨jj, h1jj, h2jj, rfl⟩ := nx_in (a := 0) (b := 5) rfl rfl (by decide) (by decide) c_2
      have hcjj : (nI jj).toNatClampNeg = jj := nI_clamp (by omega)
      refine jv_iload_n 18 X dX10_inches_18 3 rfl ?_
      refine jv_iconst (v := 0) 19 X dX10_inches_19 rfl ?_
      refine jv_iconst (v := 1) 20 X dX10_inches_20 rfl ?_
      refine jv_fun 21 X (c_X10_in E _ part 0 1) ws_X10_57 ⟨Nat.le_of_ble_eq_true rfl, Nat.le_of_ble_eq_true rfl⟩ ⟨rfl, rfl⟩ ⟨Nat.zero_le _, Nat.zero_le _⟩ dX10_inches_21 rfl [] rfl (Nat.le_of_ble_eq_true rfl) ?_
      refine jv_z_ne 24 X dX10_inches_24 31 (by decide) (fun c_3 => ?_) (fun c_3 => ?_)
      · refine jv_aload_n 31 X dX10_inches_31 0 rfl ?_
        refine jv_callW (w1 := bMd E a book book week sights sight signs pad (-6) (-6) reason acts atp will fitting counts ring nxt wins ways nextWays image isKept) 32 X (c_X10_asNow E _ a book now week sights sight signs pad metAt metWho reason acts atp will fitting counts ring nxt wins ways nextWays image isKept) wv_X10_122 ⟨Nat.le_of_ble_eq_true rfl, Nat.le_of_ble_eq_true rfl⟩ ⟨rfl, rfl⟩ ⟨Nat.zero_le _, Nat.zero_le _⟩ dX10_inches_32 rfl [] rfl (Nat.le_of_ble_eq_true rfl) 0 rfl rfl ?_
        refine jv_aload_n 35 X dX10_inches_35 0 rfl ?_
        refine jv_get (v := .ref (a 1)) 36 X gf_X10_7 dX10_inches_36 0 rfl rfl ?_
        refine jv_bipush (v := 18) 39 X dX10_inches_39 (by decide) ?_
        refine jv_iload_n 41 X dX10_inches_41 1 rfl ?_
        refine jv_iadd 42 X dX10_inches_42 ?_
        refine jv_norm (x2 := nI (18 + jk)) (nx_add2 (a := 18) (b := jk) rfl rfl (by omega)) ?_
        refine jv_iald (f := book) 43 X dX10_inches_43 1 rfl (by decide) (18 + jk) rfl (by omega) ?_
        refine jv_i2l 44 X dX10_inches_44 ?_
        refine jv_norml (x2 := lN (book (18 + jk)).toNatClampNeg) (l_nn (hst _ (by omega))) ?_
        refine jv_aload_n 45 X dX10_inches_45 0 rfl ?_
        refine jv_iload_n 46 X dX10_inches_46 2 rfl ?_
        refine jv_callW (w1 := bMd E a book book week sights sight signs pad (-6) (-6) reason acts atp will fitting counts ring nxt wins ways nextWays image isKept) 47 X (c_X10_measureOf E _ a book book week sights sight signs pad (-6) (-6) reason acts atp will fitting counts ring nxt wins ways nextWays image isKept jj (by omega)) wv_X10_90 ⟨Nat.le_of_ble_eq_true rfl, Nat.le_of_ble_eq_true rfl⟩ ⟨rfl, rfl⟩ ⟨Nat.zero_le _, Nat.zero_le _⟩ dX10_inches_47 rfl [.long (lN (book (18 + jk)).toNatClampNeg)] rfl (Nat.le_of_ble_eq_true rfl) 0 rfl rfl ?_
        refine jv_i2l 50 X dX10_inches_50 ?_
        refine jv_norml (x2 := lN (msM book jj).toNatClampNeg) (l_in (hms _ (by omega))) ?_
        refine jv_iload_n 51 X dX10_inches_51 3 rfl ?_
        refine jv_fun 52 X (c_X10_lowest E _ ((book (18 + jk)).toNatClampNeg) ((msM book jj).toNatClampNeg) part (nn_62 _) (nn_62 _) (hms _ (by omega)).2.1) ws_X10_153 ⟨Nat.le_of_ble_eq_true rfl, Nat.le_of_ble_eq_true rfl⟩ ⟨rfl, rfl⟩ ⟨Nat.zero_le _, Nat.zero_le _⟩ dX10_inches_52 rfl [] rfl (Nat.le_of_ble_eq_true rfl) ?_
        exact jv_lret 55 X Y rfl dX10_inches_55 (book, (-6), (-6), reason, acts, atp, will, fitting, counts, ring, nxt, wins, ways, nextWays) (by simp [lt_nle, -Int32.not_le, c_1, hcjk, c_2, hcjj, c_3]) rfl
      · refine jv_ldc2 (v := (-1000000000000000002)) 27 X tm_kl_X10_151 dX10_inches_27 ?_
        exact jv_lret 30 X Y rfl dX10_inches_30 (now, metAt, metWho, reason, acts, atp, will, fitting, counts, ring, nxt, wins, ways, nextWays) (by simp [lt_nle, -Int32.not_le, c_1, hcjk, c_2, hcjj, c_3]) rfl
    · refine jv_ldc2 (v := (-1000000000000000001)) 14 X tm_kl_X10_149 dX10_inches_14 ?_
      exact jv_lret 17 X Y rfl dX10_inches_17 (now, metAt, metWho, reason, acts, atp, will, fitting, counts, ring, nxt, wins, ways, nextWays) (by simp [lt_nle, -Int32.not_le, c_1, hcjk, c_2]) rfl
theorem c_X10_meet (E : EE) (l : Launch) (a : Nat → Nat) (book : Nat → Int32) (now : Nat → Int32) (week : Nat → Int32) (sights : Int32) (sight : Nat → Int32) (signs : Int32) (pad : Nat → Int32) (metAt : Int32) (metWho : Int32) (reason : Int32) (acts : Int32) (atp : Int32) (will : Nat → Int32) (fitting : Nat → Int32) (counts : Nat → Int32) (ring : Nat → Int32) (nxt : Nat → Int32) (wins : Nat → Int32) (ways : Nat → Int64) (nextWays : Nat → Int64) (image : Nat → Int32) (isKept : Nat → Int32) (s : Int32) (o : Int32) (b : Int32) (r : Int32) (what : Int32) (hD : dyOK book) : CG E l yX10_meet cX10_meet 8 (some .int) { frames := 2, cells := 0, slots := 0, locals := 41 } [.ref (a 0), .int s, .int o, .int b, .int r, .int what] (bMd E a book now week sights sight signs pad metAt metWho reason acts atp will fitting counts ring nxt wins ways nextWays image isKept) noB (fun _ : ScrM => some (.int (if (1 ≤ s ∧ s ≤ 99999) ∧ (0 ≤ o ∧ o ≤ 20) ∧ (0 ≤ b ∧ b ≤ 20) ∧ (1 ≤ r ∧ r ≤ 200) ∧ (0 ≤ what ∧ what ≤ 1) then mtM (wlF week (book 38) (book 39).toNatClampNeg) s o b r what else -2))) (fun u : ScrM => bMd E a book u.1 week sights sight signs pad u.2.1 u.2.2.1 u.2.2.2.1 u.2.2.2.2.1 u.2.2.2.2.2.1 u.2.2.2.2.2.2.1 u.2.2.2.2.2.2.2.1 u.2.2.2.2.2.2.2.2.1 u.2.2.2.2.2.2.2.2.2.1 u.2.2.2.2.2.2.2.2.2.2.1 u.2.2.2.2.2.2.2.2.2.2.2.1 u.2.2.2.2.2.2.2.2.2.2.2.2.1 u.2.2.2.2.2.2.2.2.2.2.2.2.2 image isKept) := by
  refine CG.intro (by decide) (Nat.le_of_ble_eq_true rfl) (fun K X Y _ _ _ => ?_)
  refine jv_iload_n 0 X dX10_meet_0 1 rfl ?_
  refine jv_iconst (v := 1) 1 X dX10_meet_1 rfl ?_
  refine jv_ldc (v := 99999) 2 X tm_k_X10_65 dX10_meet_2 ?_
  refine jv_fun 4 X (c_X10_in E _ s 1 99999) ws_X10_57 ⟨Nat.le_of_ble_eq_true rfl, Nat.le_of_ble_eq_true rfl⟩ ⟨rfl, rfl⟩ ⟨Nat.zero_le _, Nat.zero_le _⟩ dX10_meet_4 rfl [] rfl (Nat.le_of_ble_eq_true rfl) ?_
  refine jv_z_eq 7 X dX10_meet_7 52 (by decide) (fun c_1 => ?_) (fun c_1 => ?_)
  · refine jv_bipush (v := (-2)) 52 X dX10_meet_52 (by decide) ?_
    exact jv_iret 54 X Y rfl dX10_meet_54 (now, metAt, metWho, reason, acts, atp, will, fitting, counts, ring, nxt, wins, ways, nextWays) (by simp [lt_nle, -Int32.not_le, c_1]) rfl
  · refine jv_iload_n 10 X dX10_meet_10 2 rfl ?_
    refine jv_iconst (v := 0) 11 X dX10_meet_11 rfl ?_
    refine jv_bipush (v := 20) 12 X dX10_meet_12 (by decide) ?_
    refine jv_fun 14 X (c_X10_in E _ o 0 20) ws_X10_57 ⟨Nat.le_of_ble_eq_true rfl, Nat.le_of_ble_eq_true rfl⟩ ⟨rfl, rfl⟩ ⟨Nat.zero_le _, Nat.zero_le _⟩ dX10_meet_14 rfl [] rfl (Nat.le_of_ble_eq_true rfl) ?_
    refine jv_z_eq 17 X dX10_meet_17 52 (by decide) (fun c_2 => ?_) (fun c_2 => ?_)
    · refine jv_bipush (v := (-2)) 52 X dX10_meet_52 (by decide) ?_
      exact jv_iret 54 X Y rfl dX10_meet_54 (now, metAt, metWho, reason, acts, atp, will, fitting, counts, ring, nxt, wins, ways, nextWays) (by simp [lt_nle, -Int32.not_le, c_1, c_2]) rfl
    · refine jv_iload_n 20 X dX10_meet_20 3 rfl ?_
      refine jv_iconst (v := 0) 21 X dX10_meet_21 rfl ?_
      refine jv_bipush (v := 20) 22 X dX10_meet_22 (by decide) ?_
      refine jv_fun 24 X (c_X10_in E _ b 0 20) ws_X10_57 ⟨Nat.le_of_ble_eq_true rfl, Nat.le_of_ble_eq_true rfl⟩ ⟨rfl, rfl⟩ ⟨Nat.zero_le _, Nat.zero_le _⟩ dX10_meet_24 rfl [] rfl (Nat.le_of_ble_eq_true rfl) ?_
      refine jv_z_eq 27 X dX10_meet_27 52 (by decide) (fun c_3 => ?_) (fun c_3 => ?_)
      · refine jv_bipush (v := (-2)) 52 X dX10_meet_52 (by decide) ?_
        exact jv_iret 54 X Y rfl dX10_meet_54 (now, metAt, metWho, reason, acts, atp, will, fitting, counts, ring, nxt, wins, ways, nextWays) (by simp [lt_nle, -Int32.not_le, c_1, c_2, c_3]) rfl
      · refine jv_iload 30 X dX10_meet_30 4 rfl ?_
        refine jv_iconst (v := 1) 32 X dX10_meet_32 rfl ?_
        refine jv_sipush (v := 200) 33 X dX10_meet_33 (by decide) ?_
        refine jv_fun 36 X (c_X10_in E _ r 1 200) ws_X10_57 ⟨Nat.le_of_ble_eq_true rfl, Nat.le_of_ble_eq_true rfl⟩ ⟨rfl, rfl⟩ ⟨Nat.zero_le _, Nat.zero_le _⟩ dX10_meet_36 rfl [] rfl (Nat.le_of_ble_eq_true rfl) ?_
        refine jv_z_eq 39 X dX10_meet_39 52 (by decide) (fun c_4 => ?_) (fun c_4 => ?_)
        · refine jv_bipush (v := (-2)) 52 X dX10_meet_52 (by decide) ?_
          exact jv_iret 54 X Y rfl dX10_meet_54 (now, metAt, metWho, reason, acts, atp, will, fitting, counts, ring, nxt, wins, ways, nextWays) (by simp [lt_nle, -Int32.not_le, c_1, c_2, c_3, c_4]) rfl
        · refine jv_iload 42 X dX10_meet_42 5 rfl ?_
          refine jv_iconst (v := 0) 44 X dX10_meet_44 rfl ?_
          refine jv_iconst (v := 1) 45 X dX10_meet_45 rfl ?_
          refine jv_fun 46 X (c_X10_in E _ what 0 1) ws_X10_57 ⟨Nat.le_of_ble_eq_true rfl, Nat.le_of_ble_eq_true rfl⟩ ⟨rfl, rfl⟩ ⟨Nat.zero_le _, Nat.zero_le _⟩ dX10_meet_46 rfl [] rfl (Nat.le_of_ble_eq_true rfl) ?_
          refine jv_z_ne 49 X dX10_meet_49 55 (by decide) (fun c_5 => ?_) (fun c_5 => ?_)
          · refine jv_aload_n 55 X dX10_meet_55 0 rfl ?_
            refine jv_callW (w1 := bMd E a book now week sights sight signs pad metAt metWho reason acts atp (wlF week (book 38) ((book 39).toNatClampNeg)) fitting counts ring nxt wins ways nextWays image isKept) 56 X (c_X10_layWill E _ a book now week sights sight signs pad metAt metWho reason acts atp will fitting counts ring nxt wins ways nextWays image isKept ((book 39).toNatClampNeg) hD.1 hD.2) wv_X10_157 ⟨Nat.le_of_ble_eq_true rfl, Nat.le_of_ble_eq_true rfl⟩ ⟨rfl, rfl⟩ ⟨Nat.zero_le _, Nat.zero_le _⟩ dX10_meet_56 rfl [] rfl (Nat.le_of_ble_eq_true rfl) 0 rfl rfl ?_
            refine jv_iconst (v := 0) 59 X dX10_meet_59 rfl ?_
            refine jv_istore (lv2 := [(6, .int 0), (0, .ref (a 0)), (1, .int s), (2, .int o), (3, .int b), (4, .int r), (5, .int what)]) 60 X dX10_meet_60 (by decide) rfl ?_
            refine jv_iconst (v := 0) 62 X dX10_meet_62 rfl ?_
            refine jv_istore (lv2 := [(7, .int 0), (6, .int 0), (0, .ref (a 0)), (1, .int s), (2, .int o), (3, .int b), (4, .int r), (5, .int what)]) 63 X dX10_meet_63 (by decide) rfl ?_
            have lp65 : ∀ (n65 : Nat) (dy : Nat) (sm : Int32), (dy ≤ 99) → (itE (mtS (wlF week (book 38) (book 39).toNatClampNeg) s o b r what) 99 0 0 = itE (mtS (wlF week (book 38) (book 39).toNatClampNeg) s o b r what) (99 - dy) dy sm) → 99 - dy < n65 → JV E K 0 0 (bMd E a book now week sights sight signs pad metAt metWho reason acts atp (wlF week (book 38) ((book 39).toNatClampNeg)) fitting counts ring nxt wins ways nextWays image isKept) [(0, .ref (a 0)), (1, .int s), (2, .int o), (3, .int b), (4, .int r), (5, .int what), (6, .int sm), (7, .int (nI dy))] 65 [] := by
              intro n65
              induction n65 with
              | zero => intro dy sm hdy hI hm; exact absurd hm (Nat.not_lt_zero _)
              | succ n65 ih65 =>
                intro dy sm hdy hI hm
                refine jv_iload 65 X dX10_meet_65 7 rfl ?_
                refine jv_bipush (v := 99) 67 X dX10_meet_67 (by decide) ?_
                refine jn_icmp_ge 69 X dX10_meet_69 120 (by decide) (fun c_6 => ?_) (fun c_6 => ?_)
                · have n_6 : 99 ≤ dy := (nx_le (a := 99) (b := dy) rfl rfl (by omega) (by omega)).mp c_6
                  refine jv_bipush (v := (-6)) 120 X dX10_meet_120 (by decide) ?_
                  have hq : (-6) = mtM (wlF week (book 38) (book 39).toNatClampNeg) s o b r what := by unfold mtM; rw [hI, show 99 - dy = 0 by omega]; rfl
                  exact jv_iret 122 X Y rfl dX10_meet_122 (now, metAt, metWho, reason, acts, atp, (wlF week (book 38) ((book 39).toNatClampNeg)), fitting, counts, ring, nxt, wins, ways, nextWays) (by rw [hq]; simp [c_1, c_2, c_3, c_4, c_5]) rfl
                · have n_6 : ¬ 99 ≤ dy := fun zq => c_6 ((nx_le (a := 99) (b := dy) rfl rfl (by omega) (by omega)).mpr zq)
                  refine jv_iload 72 X dX10_meet_72 6 rfl ?_
                  refine jv_iload_n 74 X dX10_meet_74 2 rfl ?_
                  refine jv_aload_n 75 X dX10_meet_75 0 rfl ?_
                  refine jv_get (v := .ref (a 6)) 76 X gf_X10_25 dX10_meet_76 0 rfl rfl ?_
                  refine jv_iload 79 X dX10_meet_79 7 rfl ?_
                  refine jv_iald (f := (wlF week (book 38) ((book 39).toNatClampNeg))) 81 X dX10_meet_81 6 rfl (by decide) dy rfl (by omega) ?_
                  refine jv_imul 82 X dX10_meet_82 ?_
                  refine jv_iload_n 83 X dX10_meet_83 3 rfl ?_
                  refine jv_iload 84 X dX10_meet_84 4 rfl ?_
                  refine jv_imul 86 X dX10_meet_86 ?_
                  refine jv_iadd 87 X dX10_meet_87 ?_
                  refine jv_iadd 88 X dX10_meet_88 ?_
                  refine jv_istore (lv2 := [(6, .int (sm + ((o * ((wlF week (book 38) ((book 39).toNatClampNeg)) dy)) + (b * r)))), (0, .ref (a 0)), (1, .int s), (2, .int o), (3, .int b), (4, .int r), (5, .int what), (7, .int (nI dy))]) 89 X dX10_meet_89 (by decide) rfl ?_
                  refine jv_iload 91 X dX10_meet_91 0 rfl ?_
                  refine jv_iload_n 93 X dX10_meet_93 2 rfl ?_
                  refine jn_icmp_lt 94 X dX10_meet_94 114 (by decide) (fun c_7 => ?_) (fun c_7 => ?_)
                  · refine jv_iinc (v := (nI (dy + 1))) (lv2 := [(7, .int (nI (dy + 1))), (6, .int (sm + ((o * ((wlF week (book 38) ((book 39).toNatClampNeg)) dy)) + (b * r)))), (0, .ref (a 0)), (1, .int s), (2, .int o), (3, .int b), (4, .int r), (5, .int what)]) 114 X dX10_meet_114 7 rfl (nx_inc _) (by decide) rfl ?_
                    refine jv_goto 117 X dX10_meet_117 65 (by decide) ?_
                    exact jv_lv [2, 3, 4, 5, 6, 7, 1, 0] rfl (ih65 (dy + 1) (sm + ((o * ((wlF week (book 38) ((book 39).toNatClampNeg)) dy)) + (b * r))) (by omega) (by rw [hI, show 99 - dy = (99 - (dy + 1)) + 1 by omega]; exact itE_r (if_neg c_7)) (by omega))
                  · refine jv_iload 97 X dX10_meet_97 6 rfl ?_
                    refine jn_if_ne 99 X dX10_meet_99 109 (by decide) (fun c_8 => ?_) (fun c_8 => ?_)
                    · refine jv_iload 109 X dX10_meet_109 0 rfl ?_
                      refine jv_iload_n 111 X dX10_meet_111 2 rfl ?_
                      refine jv_isub 112 X dX10_meet_112 ?_
                      have hq : ((sm + ((o * ((wlF week (book 38) ((book 39).toNatClampNeg)) dy)) + (b * r))) - s) = mtM (wlF week (book 38) (book 39).toNatClampNeg) s o b r what := by unfold mtM; rw [hI, show 99 - dy = (99 - (dy + 1)) + 1 by omega, itE_l (if_pos c_7)]; exact (if_neg c_8).symm
                      exact jv_iret 113 X Y rfl dX10_meet_113 (now, metAt, metWho, reason, acts, atp, (wlF week (book 38) ((book 39).toNatClampNeg)), fitting, counts, ring, nxt, wins, ways, nextWays) (by rw [hq]; simp [c_1, c_2, c_3, c_4, c_5]) rfl
                    · refine jv_iload 102 X dX10_meet_102 7 rfl ?_
                      refine jv_iconst (v := 1) 104 X dX10_meet_104 rfl ?_
                      refine jv_iadd 105 X dX10_meet_105 ?_
                      refine jv_norm (x2 := nI (dy + 1)) (nx_add2 (a := dy) (b := 1) rfl rfl (by omega)) ?_
                      refine jv_goto 106 X dX10_meet_106 113 (by decide) ?_
                      have hq : (nI (dy + 1)) = mtM (wlF week (book 38) (book 39).toNatClampNeg) s o b r what := by unfold mtM; rw [hI, show 99 - dy = (99 - (dy + 1)) + 1 by omega, itE_l (if_pos c_7)]; exact (if_pos c_8).symm
                      exact jv_iret 113 X Y rfl dX10_meet_113 (now, metAt, metWho, reason, acts, atp, (wlF week (book 38) ((book 39).toNatClampNeg)), fitting, counts, ring, nxt, wins, ways, nextWays) (by rw [hq]; simp [c_1, c_2, c_3, c_4, c_5]) rfl
            exact jv_lv [2, 3, 4, 5, 6, 7, 1, 0] rfl (lp65 _ 0 0 (by omega) rfl (Nat.lt_succ_self _))
          · refine jv_bipush (v := (-2)) 52 X dX10_meet_52 (by decide) ?_
            exact jv_iret 54 X Y rfl dX10_meet_54 (now, metAt, metWho, reason, acts, atp, will, fitting, counts, ring, nxt, wins, ways, nextWays) (by simp [lt_nle, -Int32.not_le, c_1, c_2, c_3, c_4, c_5]) rfl
