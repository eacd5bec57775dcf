theorem nI_n0 : nI 0 = 0 := rfl
theorem nI_n1 : nI 1 = 1 := rfl
theorem nI_n2 : nI 2 = 2 := rfl
theorem nI_n3 : nI 3 = 3 := rfl
theorem nI_n4 : nI 4 = 4 := rfl
def stN (q : Nat) (s : Int32) : Nat := if q = 0 then (if 65 ≤ s ∧ s ≤ 70 then 1 else if s = 60 ∨ s = 62 then 2 else if s = 46 then 0 else 5) else if q = 1 then (if s = 43 ∨ s = 45 then 2 else if s = 47 then 3 else if s = 40 ∨ s = 41 then 4 else if s = 61 ∨ s = 120 then 0 else 5) else if q = 2 then (if 49 ≤ s ∧ s ≤ 57 then 0 else 5) else if q = 3 then (if 48 ≤ s ∧ s ≤ 55 then 2 else 5) else (if 48 ≤ s ∧ s ≤ 51 then 2 else 5)
def stI (q : Nat) : Int32 := if q = 5 then -6 else nI q
theorem stN_le (q : Nat) (s : Int32) : stN q s ≤ 5 := by unfold stN; (repeat' split) <;> omega
def ftS (pad : Nat → Int32) (k q : Nat) : Int32 ⊕ Nat := if stN q (pad k) = 5 then .inl (nI k) else .inr (stN q (pad k))
def ftR (n : Nat) (x : Int32 ⊕ Nat) : Int32 := match x with
  | .inl r => r
  | .inr q => if q = 0 then -6 else nI n
def ftM (pad : Nat → Int32) (n : Nat) : Int32 := ftR n (itE (ftS pad) n 0 0)
def msM (now : Nat → Int32) (k : Nat) : Int32 := if now (12 + k) = 0 then now 38 else now (12 + k)
theorem c_X10_say (E : EE) (l : Launch) (a : Nat → Nat) (book : Nat → Int32) (now : Nat → Int32) (week : Nat → Int32) (sights : Int32) (sight : Nat → Int32) (sg : Nat) (pad : Nat → Int32) (metAt : Int32) (metWho : Int32) (reason : Int32) (acts : Int32) (atp : Int32) (will : Nat → Int32) (fitting : Nat → Int32) (counts : Nat → Int32) (ring : Nat → Int32) (nxt : Nat → Int32) (wins : Nat → Int32) (ways : Nat → Int64) (nextWays : Nat → Int64) (image : Nat → Int32) (isKept : Nat → Int32) (v : Int32) (hs : sg ≤ 60) : CT E l yX10_say cX10_say 2 (some .int) { frames := 1, cells := 0, slots := 0, locals := 22 } [.ref (a 0), .int v] (bMd E a book now week sights sight (nI sg) pad metAt metWho reason acts atp will fitting counts ring nxt wins ways nextWays image isKept) (some (.int ((f_say sg pad v).1))) (bMd E a book now week sights sight (nI (f_say sg pad v).2.1) ((f_say sg pad v).2.2) metAt metWho reason acts atp will fitting counts ring nxt wins ways nextWays image isKept) := by
  refine CT.intro (by decide) (Nat.le_of_ble_eq_true rfl) (fun K X Y => ?_)
  refine jv_iload_n 0 X dX10_say_0 1 rfl ?_
  refine jv_bipush (v := 33) 1 X dX10_say_1 (by decide) ?_
  refine jv_bipush (v := 126) 3 X dX10_say_3 (by decide) ?_
  refine jv_fun 5 X (c_X10_in E _ v 33 126) ws_X10_57 ⟨Nat.le_of_ble_eq_true rfl, Nat.le_of_ble_eq_true rfl⟩ ⟨rfl, rfl⟩ ⟨Nat.zero_le _, Nat.zero_le _⟩ dX10_say_5 rfl [] rfl (Nat.le_of_ble_eq_true rfl) ?_
  refine jv_z_ne 8 X dX10_say_8 14 (by decide) (fun c_1 => ?_) (fun c_1 => ?_)
  · refine jv_aload_n 14 X dX10_say_14 0 rfl ?_
    refine jv_get (v := .int (nI sg)) 15 X gf_X10_72 dX10_say_15 0 rfl rfl ?_
    refine jv_bipush (v := 60) 18 X dX10_say_18 (by decide) ?_
    refine jn_icmp_ne 20 X dX10_say_20 26 (by decide) (fun c_2 => ?_) (fun c_2 => ?_)
    · have n_2 : ¬ sg = 60 := fun zq => c_2 ((nx_eq (a := sg) (b := 60) rfl rfl (by omega) (by omega)).mpr zq)
      refine jv_aload_n 26 X dX10_say_26 0 rfl ?_
      refine jv_get (v := .ref (a 5)) 27 X gf_X10_22 dX10_say_27 0 rfl rfl ?_
      refine jv_aload_n 30 X dX10_say_30 0 rfl ?_
      refine jv_get (v := .int (nI sg)) 31 X gf_X10_72 dX10_say_31 0 rfl rfl ?_
      refine jv_iload_n 34 X dX10_say_34 1 rfl ?_
      refine jv_iast (ws2 := bMd E a book now week sights sight (nI sg) (upd pad sg v) metAt metWho reason acts atp will fitting counts ring nxt wins ways nextWays image isKept) (f := pad) 35 X dX10_say_35 5 rfl (by decide) sg rfl (by omega) rfl ?_
      refine jv_aload_n 36 X dX10_say_36 0 rfl ?_
      refine jv_dup 37 X dX10_say_37 rfl ?_
      refine jv_get (v := .int (nI sg)) 38 X gf_X10_72 dX10_say_38 0 rfl rfl ?_
      refine jv_iconst (v := 1) 41 X dX10_say_41 rfl ?_
      refine jv_iadd 42 X dX10_say_42 ?_
      refine jv_norm (x2 := nI (sg + 1)) (nx_add2 (a := sg) (b := 1) rfl rfl (by omega)) ?_
      refine jv_puti (ws2 := bMd E a book now week sights sight (nI (sg + 1)) (upd pad sg v) metAt metWho reason acts atp will fitting counts ring nxt wins ways nextWays image isKept) 43 X gf_X10_72 tyX10_ok nmX10 rfl rfl dX10_say_43 0 rfl (Nat.le_of_ble_eq_true rfl) rfl ?_
      refine jv_aload_n 46 X dX10_say_46 0 rfl ?_
      refine jv_get (v := .int (nI (sg + 1))) 47 X gf_X10_72 dX10_say_47 0 rfl rfl ?_
      have hq : f_say sg pad v = ((nI (sg + 1)), (sg + 1), (upd pad sg v)) := by simp [f_say, lt_nle, -Int32.not_le, c_1, c_2, n_2]
      exact jv_iret 50 X Y rfl dX10_say_50 () (by rw [hq]; try rfl) (by rw [hq]; try rfl)
    · have n_2 : sg = 60 := (nx_eq (a := sg) (b := 60) rfl rfl (by omega) (by omega)).mp c_2
      refine jv_bipush (v := (-4)) 23 X dX10_say_23 (by decide) ?_
      have hq : f_say sg pad v = ((-4), sg, pad) := by simp [f_say, lt_nle, -Int32.not_le, c_1, c_2, n_2]
      exact jv_iret 25 X Y rfl dX10_say_25 () (by rw [hq]; try rfl) (by rw [hq]; try rfl)
  · refine jv_bipush (v := (-2)) 11 X dX10_say_11 (by decide) ?_
    have hq : f_say sg pad v = ((-2), sg, pad) := by simp [f_say, lt_nle, -Int32.not_le, c_1]
    exact jv_iret 13 X Y rfl dX10_say_13 () (by rw [hq]; try rfl) (by rw [hq]; try rfl)
theorem c_X10_seen (E : EE) (l : Launch) (a : Nat → Nat) (book : Nat → Int32) (now : Nat → Int32) (week : Nat → Int32) (sk : Nat) (sight : Nat → Int32) (signs : Int32) (pad : Nat → Int32) (metAt : Int32) (metWho : Int32) (reason : Int32) (acts : Int32) (atp : Int32) (will : Nat → Int32) (fitting : Nat → Int32) (counts : Nat → Int32) (ring : Nat → Int32) (nxt : Nat → Int32) (wins : Nat → Int32) (ways : Nat → Int64) (nextWays : Nat → Int64) (image : Nat → Int32) (isKept : Nat → Int32) (day : Int32) (v : Int32) (hs : sk ≤ 8) : CT E l yX10_seen cX10_seen 3 (some .int) { frames := 1, cells := 0, slots := 0, locals := 22 } [.ref (a 0), .int day, .int v] (bMd E a book now week (nI sk) sight signs pad metAt metWho reason acts atp will fitting counts ring nxt wins ways nextWays image isKept) (some (.int ((f_seen sk sight day v).1))) (bMd E a book now week (nI (f_seen sk sight day v).2.1) ((f_seen sk sight day v).2.2) signs pad metAt metWho reason acts atp will fitting counts ring nxt wins ways nextWays image isKept) := by
  refine CT.intro (by decide) (Nat.le_of_ble_eq_true rfl) (fun K X Y => ?_)
  refine jv_iload_n 0 X dX10_seen_0 1 rfl ?_
  refine jv_iconst (v := 0) 1 X dX10_seen_1 rfl ?_
  refine jv_bipush (v := 60) 2 X dX10_seen_2 (by decide) ?_
  refine jv_fun 4 X (c_X10_in E _ day 0 60) ws_X10_57 ⟨Nat.le_of_ble_eq_true rfl, Nat.le_of_ble_eq_true rfl⟩ ⟨rfl, rfl⟩ ⟨Nat.zero_le _, Nat.zero_le _⟩ dX10_seen_4 rfl [] rfl (Nat.le_of_ble_eq_true rfl) ?_
  refine jv_z_eq 7 X dX10_seen_7 21 (by decide) (fun c_1 => ?_) (fun c_1 => ?_)
  · refine jv_bipush (v := (-2)) 21 X dX10_seen_21 (by decide) ?_
    have hq : f_seen sk sight day v = ((-2), sk, sight) := by simp [f_seen, lt_nle, -Int32.not_le, c_1]
    exact jv_iret 23 X Y rfl dX10_seen_23 () (by rw [hq]; try rfl) (by rw [hq]; try rfl)
  · refine jv_iload_n 10 X dX10_seen_10 2 rfl ?_
    refine jv_iconst (v := 1) 11 X dX10_seen_11 rfl ?_
    refine jv_sipush (v := 200) 12 X dX10_seen_12 (by decide) ?_
    refine jv_fun 15 X (c_X10_in E _ v 1 200) ws_X10_57 ⟨Nat.le_of_ble_eq_true rfl, Nat.le_of_ble_eq_true rfl⟩ ⟨rfl, rfl⟩ ⟨Nat.zero_le _, Nat.zero_le _⟩ dX10_seen_15 rfl [] rfl (Nat.le_of_ble_eq_true rfl) ?_
    refine jv_z_ne 18 X dX10_seen_18 24 (by decide) (fun c_2 => ?_) (fun c_2 => ?_)
    · refine jv_aload_n 24 X dX10_seen_24 0 rfl ?_
      refine jv_get (v := .int (nI sk)) 25 X gf_X10_167 dX10_seen_25 0 rfl rfl ?_
      refine jv_bipush (v := 8) 28 X dX10_seen_28 (by decide) ?_
      refine jn_icmp_ne 30 X dX10_seen_30 36 (by decide) (fun c_3 => ?_) (fun c_3 => ?_)
      · have n_3 : ¬ sk = 8 := fun zq => c_3 ((nx_eq (a := sk) (b := 8) rfl rfl (by omega) (by omega)).mpr zq)
        refine jv_aload_n 36 X dX10_seen_36 0 rfl ?_
        refine jv_get (v := .ref (a 4)) 37 X gf_X10_19 dX10_seen_37 0 rfl rfl ?_
        refine jv_iconst (v := 2) 40 X dX10_seen_40 rfl ?_
        refine jv_aload_n 41 X dX10_seen_41 0 rfl ?_
        refine jv_get (v := .int (nI sk)) 42 X gf_X10_167 dX10_seen_42 0 rfl rfl ?_
        refine jv_imul 45 X dX10_seen_45 ?_
        refine jv_norm (x2 := nI (2 * sk)) (nx_mul (a := 2) (b := sk) rfl rfl) ?_
        refine jv_iload_n 46 X dX10_seen_46 1 rfl ?_
        refine jv_iast (ws2 := bMd E a book now week (nI sk) (upd sight (2 * sk) day) signs pad metAt metWho reason acts atp will fitting counts ring nxt wins ways nextWays image isKept) (f := sight) 47 X dX10_seen_47 4 rfl (by decide) (2 * sk) rfl (by omega) rfl ?_
        refine jv_aload_n 48 X dX10_seen_48 0 rfl ?_
        refine jv_get (v := .ref (a 4)) 49 X gf_X10_19 dX10_seen_49 0 rfl rfl ?_
        refine jv_iconst (v := 2) 52 X dX10_seen_52 rfl ?_
        refine jv_aload_n 53 X dX10_seen_53 0 rfl ?_
        refine jv_get (v := .int (nI sk)) 54 X gf_X10_167 dX10_seen_54 0 rfl rfl ?_
        refine jv_imul 57 X dX10_seen_57 ?_
        refine jv_norm (x2 := nI (2 * sk)) (nx_mul (a := 2) (b := sk) rfl rfl) ?_
        refine jv_iconst (v := 1) 58 X dX10_seen_58 rfl ?_
        refine jv_iadd 59 X dX10_seen_59 ?_
        refine jv_norm (x2 := nI ((2 * sk) + 1)) (nx_add2 (a := (2 * sk)) (b := 1) rfl rfl (by omega)) ?_
        refine jv_iload_n 60 X dX10_seen_60 2 rfl ?_
        refine jv_iast (ws2 := bMd E a book now week (nI sk) (upd (upd sight (2 * sk) day) ((2 * sk) + 1) v) signs pad metAt metWho reason acts atp will fitting counts ring nxt wins ways nextWays image isKept) (f := (upd sight (2 * sk) day)) 61 X dX10_seen_61 4 rfl (by decide) ((2 * sk) + 1) rfl (by omega) rfl ?_
        refine jv_aload_n 62 X dX10_seen_62 0 rfl ?_
        refine jv_dup 63 X dX10_seen_63 rfl ?_
        refine jv_get (v := .int (nI sk)) 64 X gf_X10_167 dX10_seen_64 0 rfl rfl ?_
        refine jv_iconst (v := 1) 67 X dX10_seen_67 rfl ?_
        refine jv_iadd 68 X dX10_seen_68 ?_
        refine jv_norm (x2 := nI (sk + 1)) (nx_add2 (a := sk) (b := 1) rfl rfl (by omega)) ?_
        refine jv_puti (ws2 := bMd E a book now week (nI (sk + 1)) (upd (upd sight (2 * sk) day) ((2 * sk) + 1) v) signs pad metAt metWho reason acts atp will fitting counts ring nxt wins ways nextWays image isKept) 69 X gf_X10_167 tyX10_ok nmX10 rfl rfl dX10_seen_69 0 rfl (Nat.le_of_ble_eq_true rfl) rfl ?_
        refine jv_aload_n 72 X dX10_seen_72 0 rfl ?_
        refine jv_get (v := .int (nI (sk + 1))) 73 X gf_X10_167 dX10_seen_73 0 rfl rfl ?_
        have hq : f_seen sk sight day v = ((nI (sk + 1)), (sk + 1), (upd (upd sight (2 * sk) day) ((2 * sk) + 1) v)) := by simp [f_seen, lt_nle, -Int32.not_le, c_1, c_2, c_3, n_3]
        exact jv_iret 76 X Y rfl dX10_seen_76 () (by rw [hq]; try rfl) (by rw [hq]; try rfl)
      · have n_3 : sk = 8 := (nx_eq (a := sk) (b := 8) rfl rfl (by omega) (by omega)).mp c_3
        refine jv_bipush (v := (-4)) 33 X dX10_seen_33 (by decide) ?_
        have hq : f_seen sk sight day v = ((-4), sk, sight) := by simp [f_seen, lt_nle, -Int32.not_le, c_1, c_2, c_3, n_3]
        exact jv_iret 35 X Y rfl dX10_seen_35 () (by rw [hq]; try rfl) (by rw [hq]; try rfl)
    · refine jv_bipush (v := (-2)) 21 X dX10_seen_21 (by decide) ?_
      have hq : f_seen sk sight day v = ((-2), sk, sight) := by simp [f_seen, lt_nle, -Int32.not_le, c_1, c_2]
      exact jv_iret 23 X Y rfl dX10_seen_23 () (by rw [hq]; try rfl) (by rw [hq]; try rfl)
theorem c_X10_step (E : EE) (l : Launch) (q : Nat) (s : Int32) (hq : q < 5) : CT E l yX10_step cX10_step 2 (some .int) { frames := 1, cells := 0, slots := 0, locals := 22 } [.int (nI q), .int s] ([]) (some (.int (stI (stN q s)))) ([]) := by
  refine CT.intro (by decide) (Nat.le_of_ble_eq_true rfl) (fun K X Y => ?_)
  rcases (show q = 0 ∨ q = 1 ∨ q = 2 ∨ q = 3 ∨ q = 4 by omega) with rfl | rfl | rfl | rfl | rfl
  · refine jv_iload_n 0 X dX10_step_0 0 rfl ?_
    refine jv_tabIn 1 X dX10_step_1 32 (by decide) (by decide) rfl (by decide) ?_
    refine jv_iload_n 32 X dX10_step_32 1 rfl ?_
    refine jv_bipush (v := 65) 33 X dX10_step_33 (by decide) ?_
    refine jv_bipush (v := 70) 35 X dX10_step_35 (by decide) ?_
    refine jv_fun 37 X (c_X10_in E _ s 65 70) ws_X10_57 ⟨Nat.le_of_ble_eq_true rfl, Nat.le_of_ble_eq_true rfl⟩ ⟨rfl, rfl⟩ ⟨Nat.zero_le _, Nat.zero_le _⟩ dX10_step_37 rfl [] rfl (Nat.le_of_ble_eq_true rfl) ?_
    refine jv_z_eq 40 X dX10_step_40 47 (by decide) (fun c_1 => ?_) (fun c_1 => ?_)
    · refine jv_iload_n 47 X dX10_step_47 1 rfl ?_
      refine jv_bipush (v := 60) 48 X dX10_step_48 (by decide) ?_
      refine jn_icmp_eq 50 X dX10_step_50 59 (by decide) (fun c_2 => ?_) (fun c_2 => ?_)
      · refine jv_iconst (v := 2) 59 X dX10_step_59 rfl ?_
        refine jv_goto 60 X dX10_step_60 75 (by decide) ?_
        exact jv_iret 75 X Y rfl dX10_step_75 () (by simp [stI, stN, nI_n0, nI_n1, nI_n2, nI_n3, nI_n4, lt_nle, -Int32.not_le, c_1, c_2]) rfl
      · refine jv_iload_n 53 X dX10_step_53 1 rfl ?_
        refine jv_bipush (v := 62) 54 X dX10_step_54 (by decide) ?_
        refine jn_icmp_ne 56 X dX10_step_56 63 (by decide) (fun c_3 => ?_) (fun c_3 => ?_)
        · refine jv_iload_n 63 X dX10_step_63 1 rfl ?_
          refine jv_bipush (v := 46) 64 X dX10_step_64 (by decide) ?_
          refine jn_icmp_ne 66 X dX10_step_66 73 (by decide) (fun c_4 => ?_) (fun c_4 => ?_)
          · refine jv_bipush (v := (-6)) 73 X dX10_step_73 (by decide) ?_
            exact jv_iret 75 X Y rfl dX10_step_75 () (by simp [stI, stN, nI_n0, nI_n1, nI_n2, nI_n3, nI_n4, lt_nle, -Int32.not_le, c_1, c_2, c_3, c_4]) rfl
          · refine jv_iconst (v := 0) 69 X dX10_step_69 rfl ?_
            refine jv_goto 70 X dX10_step_70 75 (by decide) ?_
            exact jv_iret 75 X Y rfl dX10_step_75 () (by simp [stI, stN, nI_n0, nI_n1, nI_n2, nI_n3, nI_n4, lt_nle, -Int32.not_le, c_1, c_2, c_3, c_4]) rfl
        · refine jv_iconst (v := 2) 59 X dX10_step_59 rfl ?_
          refine jv_goto 60 X dX10_step_60 75 (by decide) ?_
          exact jv_iret 75 X Y rfl dX10_step_75 () (by simp [stI, stN, nI_n0, nI_n1, nI_n2, nI_n3, nI_n4, lt_nle, -Int32.not_le, c_1, c_2, c_3]) rfl
    · refine jv_iconst (v := 1) 43 X dX10_step_43 rfl ?_
      refine jv_goto 44 X dX10_step_44 75 (by decide) ?_
      exact jv_iret 75 X Y rfl dX10_step_75 () (by simp [stI, stN, nI_n0, nI_n1, nI_n2, nI_n3, nI_n4, lt_nle, -Int32.not_le, c_1]) rfl
  · refine jv_iload_n 0 X dX10_step_0 0 rfl ?_
    refine jv_tabIn 1 X dX10_step_1 76 (by decide) (by decide) rfl (by decide) ?_
    refine jv_iload_n 76 X dX10_step_76 1 rfl ?_
    refine jv_bipush (v := 43) 77 X dX10_step_77 (by decide) ?_
    refine jn_icmp_eq 79 X dX10_step_79 88 (by decide) (fun c_5 => ?_) (fun c_5 => ?_)
    · refine jv_iconst (v := 2) 88 X dX10_step_88 rfl ?_
      refine jv_goto 89 X dX10_step_89 136 (by decide) ?_
      exact jv_iret 136 X Y rfl dX10_step_136 () (by simp [stI, stN, nI_n0, nI_n1, nI_n2, nI_n3, nI_n4, lt_nle, -Int32.not_le, c_5]) rfl
    · refine jv_iload_n 82 X dX10_step_82 1 rfl ?_
      refine jv_bipush (v := 45) 83 X dX10_step_83 (by decide) ?_
      refine jn_icmp_ne 85 X dX10_step_85 92 (by decide) (fun c_6 => ?_) (fun c_6 => ?_)
      · refine jv_iload_n 92 X dX10_step_92 1 rfl ?_
        refine jv_bipush (v := 47) 93 X dX10_step_93 (by decide) ?_
        refine jn_icmp_ne 95 X dX10_step_95 102 (by decide) (fun c_7 => ?_) (fun c_7 => ?_)
        · refine jv_iload_n 102 X dX10_step_102 1 rfl ?_
          refine jv_bipush (v := 40) 103 X dX10_step_103 (by decide) ?_
          refine jn_icmp_eq 105 X dX10_step_105 114 (by decide) (fun c_8 => ?_) (fun c_8 => ?_)
          · refine jv_iconst (v := 4) 114 X dX10_step_114 rfl ?_
            refine jv_goto 115 X dX10_step_115 136 (by decide) ?_
            exact jv_iret 136 X Y rfl dX10_step_136 () (by simp [stI, stN, nI_n0, nI_n1, nI_n2, nI_n3, nI_n4, lt_nle, -Int32.not_le, c_5, c_6, c_7, c_8]) rfl
          · refine jv_iload_n 108 X dX10_step_108 1 rfl ?_
            refine jv_bipush (v := 41) 109 X dX10_step_109 (by decide) ?_
            refine jn_icmp_ne 111 X dX10_step_111 118 (by decide) (fun c_9 => ?_) (fun c_9 => ?_)
            · refine jv_iload_n 118 X dX10_step_118 1 rfl ?_
              refine jv_bipush (v := 61) 119 X dX10_step_119 (by decide) ?_
              refine jn_icmp_eq 121 X dX10_step_121 130 (by decide) (fun c_10 => ?_) (fun c_10 => ?_)
              · refine jv_iconst (v := 0) 130 X dX10_step_130 rfl ?_
                refine jv_goto 131 X dX10_step_131 136 (by decide) ?_
                exact jv_iret 136 X Y rfl dX10_step_136 () (by simp [stI, stN, nI_n0, nI_n1, nI_n2, nI_n3, nI_n4, lt_nle, -Int32.not_le, c_5, c_6, c_7, c_8, c_9, c_10]) rfl
              · refine jv_iload_n 124 X dX10_step_124 1 rfl ?_
                refine jv_bipush (v := 120) 125 X dX10_step_125 (by decide) ?_
                refine jn_icmp_ne 127 X dX10_step_127 134 (by decide) (fun c_11 => ?_) (fun c_11 => ?_)
                · refine jv_bipush (v := (-6)) 134 X dX10_step_134 (by decide) ?_
                  exact jv_iret 136 X Y rfl dX10_step_136 () (by simp [stI, stN, nI_n0, nI_n1, nI_n2, nI_n3, nI_n4, lt_nle, -Int32.not_le, c_5, c_6, c_7, c_8, c_9, c_10, c_11]) rfl
                · refine jv_iconst (v := 0) 130 X dX10_step_130 rfl ?_
                  refine jv_goto 131 X dX10_step_131 136 (by decide) ?_
                  exact jv_iret 136 X Y rfl dX10_step_136 () (by simp [stI, stN, nI_n0, nI_n1, nI_n2, nI_n3, nI_n4, lt_nle, -Int32.not_le, c_5, c_6, c_7, c_8, c_9, c_10, c_11]) rfl
            · refine jv_iconst (v := 4) 114 X dX10_step_114 rfl ?_
              refine jv_goto 115 X dX10_step_115 136 (by decide) ?_
              exact jv_iret 136 X Y rfl dX10_step_136 () (by simp [stI, stN, nI_n0, nI_n1, nI_n2, nI_n3, nI_n4, lt_nle, -Int32.not_le, c_5, c_6, c_7, c_8, c_9]) rfl
        · refine jv_iconst (v := 3) 98 X dX10_step_98 rfl ?_
          refine jv_goto 99 X dX10_step_99 136 (by decide) ?_
          exact jv_iret 136 X Y rfl dX10_step_136 () (by simp [stI, stN, nI_n0, nI_n1, nI_n2, nI_n3, nI_n4, lt_nle, -Int32.not_le, c_5, c_6, c_7]) rfl
      · refine jv_iconst (v := 2) 88 X dX10_step_88 rfl ?_
        refine jv_goto 89 X dX10_step_89 136 (by decide) ?_
        exact jv_iret 136 X Y rfl dX10_step_136 () (by simp [stI, stN, nI_n0, nI_n1, nI_n2, nI_n3, nI_n4, lt_nle, -Int32.not_le, c_5, c_6]) rfl
  · refine jv_iload_n 0 X dX10_step_0 0 rfl ?_
    refine jv_tabIn 1 X dX10_step_1 137 (by decide) (by decide) rfl (by decide) ?_
    refine jv_iload_n 137 X dX10_step_137 1 rfl ?_
    refine jv_bipush (v := 49) 138 X dX10_step_138 (by decide) ?_
    refine jv_bipush (v := 57) 140 X dX10_step_140 (by decide) ?_
    refine jv_fun 142 X (c_X10_in E _ s 49 57) ws_X10_57 ⟨Nat.le_of_ble_eq_true rfl, Nat.le_of_ble_eq_true rfl⟩ ⟨rfl, rfl⟩ ⟨Nat.zero_le _, Nat.zero_le _⟩ dX10_step_142 rfl [] rfl (Nat.le_of_ble_eq_true rfl) ?_
    refine jv_z_eq 145 X dX10_step_145 152 (by decide) (fun c_12 => ?_) (fun c_12 => ?_)
    · refine jv_bipush (v := (-6)) 152 X dX10_step_152 (by decide) ?_
      exact jv_iret 154 X Y rfl dX10_step_154 () (by simp [stI, stN, nI_n0, nI_n1, nI_n2, nI_n3, nI_n4, lt_nle, -Int32.not_le, c_12]) rfl
    · refine jv_iconst (v := 0) 148 X dX10_step_148 rfl ?_
      refine jv_goto 149 X dX10_step_149 154 (by decide) ?_
      exact jv_iret 154 X Y rfl dX10_step_154 () (by simp [stI, stN, nI_n0, nI_n1, nI_n2, nI_n3, nI_n4, lt_nle, -Int32.not_le, c_12]) rfl
  · refine jv_iload_n 0 X dX10_step_0 0 rfl ?_
    refine jv_tabIn 1 X dX10_step_1 155 (by decide) (by decide) rfl (by decide) ?_
    refine jv_iload_n 155 X dX10_step_155 1 rfl ?_
    refine jv_bipush (v := 48) 156 X dX10_step_156 (by decide) ?_
    refine jv_bipush (v := 55) 158 X dX10_step_158 (by decide) ?_
    refine jv_fun 160 X (c_X10_in E _ s 48 55) ws_X10_57 ⟨Nat.le_of_ble_eq_true rfl, Nat.le_of_ble_eq_true rfl⟩ ⟨rfl, rfl⟩ ⟨Nat.zero_le _, Nat.zero_le _⟩ dX10_step_160 rfl [] rfl (Nat.le_of_ble_eq_true rfl) ?_
    refine jv_z_eq 163 X dX10_step_163 170 (by decide) (fun c_13 => ?_) (fun c_13 => ?_)
    · refine jv_bipush (v := (-6)) 170 X dX10_step_170 (by decide) ?_
      exact jv_iret 172 X Y rfl dX10_step_172 () (by simp [stI, stN, nI_n0, nI_n1, nI_n2, nI_n3, nI_n4, lt_nle, -Int32.not_le, c_13]) rfl
    · refine jv_iconst (v := 2) 166 X dX10_step_166 rfl ?_
      refine jv_goto 167 X dX10_step_167 172 (by decide) ?_
      exact jv_iret 172 X Y rfl dX10_step_172 () (by simp [stI, stN, nI_n0, nI_n1, nI_n2, nI_n3, nI_n4, lt_nle, -Int32.not_le, c_13]) rfl
  · refine jv_iload_n 0 X dX10_step_0 0 rfl ?_
    refine jv_tabOut 1 X dX10_step_1 173 (by decide) (by decide) ?_
    refine jv_iload_n 173 X dX10_step_173 1 rfl ?_
    refine jv_bipush (v := 48) 174 X dX10_step_174 (by decide) ?_
    refine jv_bipush (v := 51) 176 X dX10_step_176 (by decide) ?_
    refine jv_fun 178 X (c_X10_in E _ s 48 51) ws_X10_57 ⟨Nat.le_of_ble_eq_true rfl, Nat.le_of_ble_eq_true rfl⟩ ⟨rfl, rfl⟩ ⟨Nat.zero_le _, Nat.zero_le _⟩ dX10_step_178 rfl [] rfl (Nat.le_of_ble_eq_true rfl) ?_
    refine jv_z_eq 181 X dX10_step_181 188 (by decide) (fun c_14 => ?_) (fun c_14 => ?_)
    · refine jv_bipush (v := (-6)) 188 X dX10_step_188 (by decide) ?_
      exact jv_iret 190 X Y rfl dX10_step_190 () (by simp [stI, stN, nI_n0, nI_n1, nI_n2, nI_n3, nI_n4, lt_nle, -Int32.not_le, c_14]) rfl
    · refine jv_iconst (v := 2) 184 X dX10_step_184 rfl ?_
      refine jv_goto 185 X dX10_step_185 190 (by decide) ?_
      exact jv_iret 190 X Y rfl dX10_step_190 () (by simp [stI, stN, nI_n0, nI_n1, nI_n2, nI_n3, nI_n4, lt_nle, -Int32.not_le, c_14]) rfl
theorem c_X10_faultOf (E : EE) (l : Launch) (a : Nat → Nat) (book : Nat → Int32) (now : Nat → Int32) (week : Nat → Int32) (sights : Int32) (sight : Nat → Int32) (sg : Nat) (pad : Nat → Int32) (metAt : Int32) (metWho : Int32) (reason : Int32) (acts : Int32) (atp : Int32) (will : Nat → Int32) (fitting : Nat → Int32) (counts : Nat → Int32) (ring : Nat → Int32) (nxt : Nat → Int32) (wins : Nat → Int32) (ways : Nat → Int64) (nextWays : Nat → Int64) (image : Nat → Int32) (isKept : Nat → Int32) (hs : sg ≤ 60) : CT E l yX10_faultOf cX10_faultOf 3 (some .int) { frames := 2, cells := 0, slots := 0, locals := 43 } [.ref (a 0)] (bMd E a book now week sights sight (nI sg) pad metAt metWho reason acts atp will fitting counts ring nxt wins ways nextWays image isKept) (some (.int (ftM pad sg))) (bMd E a book now week sights sight (nI sg) pad metAt metWho reason acts atp will fitting counts ring nxt wins ways nextWays image isKept) := by
  refine CT.intro (by decide) (Nat.le_of_ble_eq_true rfl) (fun K X Y => ?_)
  refine jv_iconst (v := 0) 0 X dX10_faultOf_0 rfl ?_
  refine jv_istore_n (lv2 := [(1, .int 0), (0, .ref (a 0))]) 1 X dX10_faultOf_1 (by decide) rfl ?_
  refine jv_iconst (v := 0) 2 X dX10_faultOf_2 rfl ?_
  refine jv_istore_n (lv2 := [(2, .int 0), (1, .int 0), (0, .ref (a 0))]) 3 X dX10_faultOf_3 (by decide) rfl ?_
  have lp4 : ∀ (n4 : Nat) (k q : Nat), (k ≤ sg) → (q < 5) → (itE (ftS pad) sg 0 0 = itE (ftS pad) (sg - k) k q) → sg - k < n4 → JV E K 0 0 (bMd E a book now week sights sight (nI sg) pad metAt metWho reason acts atp will fitting counts ring nxt wins ways nextWays image isKept) [(0, .ref (a 0)), (1, .int (nI q)), (2, .int (nI k))] 4 [] := by
    intro n4
    induction n4 with
    | zero => intro k q hk hq hI hm; exact absurd hm (Nat.not_lt_zero _)
    | succ n4 ih4 =>
      intro k q hk hq hI hm
      refine jv_iload_n 4 X dX10_faultOf_4 2 rfl ?_
      refine jv_aload_n 5 X dX10_faultOf_5 0 rfl ?_
      refine jv_get (v := .int (nI sg)) 6 X gf_X10_72 dX10_faultOf_6 0 rfl rfl ?_
      refine jn_icmp_ge 9 X dX10_faultOf_9 35 (by decide) (fun c_1 => ?_) (fun c_1 => ?_)
      · have n_1 : sg ≤ k := (nx_le (a := sg) (b := k) rfl rfl (by omega) (by omega)).mp c_1
        refine jv_iload_n 35 X dX10_faultOf_35 1 rfl ?_
        refine jn_if_ne 36 X dX10_faultOf_36 44 (by decide) (fun c_2 => ?_) (fun c_2 => ?_)
        · have n_2 : ¬ q = 0 := fun zq => c_2 ((nx_eq (a := q) (b := 0) rfl rfl (by omega) (by omega)).mpr zq)
          refine jv_aload_n 44 X dX10_faultOf_44 0 rfl ?_
          refine jv_get (v := .int (nI sg)) 45 X gf_X10_72 dX10_faultOf_45 0 rfl rfl ?_
          exact jv_iret 48 X Y rfl dX10_faultOf_48 () (congrArg (fun z => some (Value.int z)) (by show _ = ftR sg _; rw [hI, show sg - k = 0 by omega]; simp [itE, ftR, n_1, n_2])) rfl
        · have n_2 : q = 0 := (nx_eq (a := q) (b := 0) rfl rfl (by omega) (by omega)).mp c_2
          refine jv_bipush (v := (-6)) 39 X dX10_faultOf_39 (by decide) ?_
          refine jv_goto 41 X dX10_faultOf_41 48 (by decide) ?_
          exact jv_iret 48 X Y rfl dX10_faultOf_48 () (congrArg (fun z => some (Value.int z)) (by show _ = ftR sg _; rw [hI, show sg - k = 0 by omega]; simp [itE, ftR, n_1, n_2])) rfl
      · have n_1 : ¬ sg ≤ k := fun zq => c_1 ((nx_le (a := sg) (b := k) rfl rfl (by omega) (by omega)).mpr zq)
        refine jv_iload_n 12 X dX10_faultOf_12 1 rfl ?_
        refine jv_aload_n 13 X dX10_faultOf_13 0 rfl ?_
        refine jv_get (v := .ref (a 5)) 14 X gf_X10_22 dX10_faultOf_14 0 rfl rfl ?_
        refine jv_iload_n 17 X dX10_faultOf_17 2 rfl ?_
        refine jv_iald (f := pad) 18 X dX10_faultOf_18 5 rfl (by decide) k rfl (by omega) ?_
        refine jv_fun 19 X (c_X10_step E _ q (pad k) hq) ws_X10_76 ⟨Nat.le_of_ble_eq_true rfl, Nat.le_of_ble_eq_true rfl⟩ ⟨rfl, rfl⟩ ⟨Nat.zero_le _, Nat.zero_le _⟩ dX10_faultOf_19 rfl [] rfl (Nat.le_of_ble_eq_true rfl) ?_
        by_cases hs5 : (stN q (pad k)) = 5
        · refine jv_norm (x2 := -6) (if_pos hs5) ?_
          refine jv_istore_n (lv2 := [(1, .int (-6)), (0, .ref (a 0)), (2, .int (nI k))]) 22 X dX10_faultOf_22 (by decide) rfl ?_
          refine jv_iload_n 23 X dX10_faultOf_23 0 rfl ?_
          refine jn_if_ge 24 X dX10_faultOf_24 29 (by decide) (fun c_3 => absurd c_3 (by decide)) (fun _ => ?_)
          refine jv_iload_n 27 X dX10_faultOf_27 2 rfl ?_
          exact jv_iret 28 X Y rfl dX10_faultOf_28 () (congrArg (fun z => some (Value.int z)) (by show _ = ftR sg _; rw [hI, show sg - k = (sg - (k + 1)) + 1 by omega, itE_l (if_pos hs5)]; rfl)) rfl
        · refine jv_norm (x2 := nI (stN q (pad k))) (if_neg hs5) ?_
          have hs6 := stN_le q (pad k)
          refine jv_istore_n (lv2 := [(1, .int (nI (stN q (pad k)))), (0, .ref (a 0)), (2, .int (nI k))]) 22 X dX10_faultOf_22 (by decide) rfl ?_
          refine jv_iload_n 23 X dX10_faultOf_23 0 rfl ?_
          refine jn_if_ge 24 X dX10_faultOf_24 29 (by decide) (fun c_4 => ?_) (fun c_4 => absurd (nI_pos' (by omega)) c_4)
          have n_4 : 0 ≤ (stN q (pad k)) := (nx_le (a := 0) (b := (stN q (pad k))) rfl rfl (by omega) (by omega)).mp c_4
          refine jv_iinc (v := (nI (k + 1))) (lv2 := [(2, .int (nI (k + 1))), (1, .int (nI (stN q (pad k)))), (0, .ref (a 0))]) 29 X dX10_faultOf_29 2 rfl (nx_inc _) (by decide) rfl ?_
          refine jv_goto 32 X dX10_faultOf_32 4 (by decide) ?_
          exact jv_lv [2, 1, 0] rfl (ih4 (k + 1) (stN q (pad k)) (by omega) (by omega) (by rw [hI, show sg - k = (sg - (k + 1)) + 1 by omega]; exact itE_r (if_neg hs5)) (by omega))
  exact jv_lv [2, 1, 0] rfl (lp4 _ 0 0 (by omega) (by omega) rfl (Nat.lt_succ_self _))
theorem c_X10_fault (E : EE) (l : Launch) (a : Nat → Nat) (book : Nat → Int32) (now : Nat → Int32) (week : Nat → Int32) (sights : Int32) (sight : Nat → Int32) (sg : Nat) (pad : Nat → Int32) (metAt : Int32) (metWho : Int32) (reason : Int32) (acts : Int32) (atp : Int32) (will : Nat → Int32) (fitting : Nat → Int32) (counts : Nat → Int32) (ring : Nat → Int32) (nxt : Nat → Int32) (wins : Nat → Int32) (ways : Nat → Int64) (nextWays : Nat → Int64) (image : Nat → Int32) (isKept : Nat → Int32) (hs : sg ≤ 60) : CT E l yX10_fault cX10_fault 1 (some .int) { frames := 3, cells := 0, slots := 0, locals := 65 } [.ref (a 0)] (bMd E a book now week sights sight (nI sg) pad metAt metWho reason acts atp will fitting counts ring nxt wins ways nextWays image isKept) (some (.int (ftM pad sg))) (bMd E a book now week sights sight (nI sg) pad metAt metWho reason acts atp will fitting counts ring nxt wins ways nextWays image isKept) := by
  refine CT.intro (by decide) (Nat.le_of_ble_eq_true rfl) (fun K X Y => ?_)
  refine jv_aload_n 0 X dX10_fault_0 0 rfl ?_
  refine jv_callW (w1 := bMd E a book now week sights sight (nI sg) pad metAt metWho reason acts atp will fitting counts ring nxt wins ways nextWays image isKept) 1 X (c_X10_faultOf E _ a book now week sights sight sg pad metAt metWho reason acts atp will fitting counts ring nxt wins ways nextWays image isKept (by omega)) wv_X10_80 ⟨Nat.le_of_ble_eq_true rfl, Nat.le_of_ble_eq_true rfl⟩ ⟨rfl, rfl⟩ ⟨Nat.zero_le _, Nat.zero_le _⟩ dX10_fault_1 rfl [] rfl (Nat.le_of_ble_eq_true rfl) 0 rfl rfl ?_
  exact jv_iret 4 X Y rfl dX10_fault_4 () rfl rfl
theorem c_X10_asNow (E : EE) (l : Launch) (a : Nat → Nat) (book : Nat → Int32) (now : Nat → Int32) (week : Nat → Int32) (sights : Int32) (sight : Nat → Int32) (signs : Int32) (pad : Nat → Int32) (metAt : Int32) (metWho : Int32) (reason : Int32) (acts : Int32) (atp : Int32) (will : Nat → Int32) (fitting : Nat → Int32) (counts : Nat → Int32) (ring : Nat → Int32) (nxt : Nat → Int32) (wins : Nat → Int32) (ways : Nat → Int64) (nextWays : Nat → Int64) (image : Nat → Int32) (isKept : Nat → Int32) : CT E l yX10_asNow cX10_asNow 2 none { frames := 0, cells := 0, slots := 0, locals := 0 } [.ref (a 0)] (bMd E a book now week sights sight signs pad metAt metWho reason acts atp will fitting counts ring nxt wins ways nextWays image isKept) (none) (bMd E a book book week sights sight signs pad (-6) (-6) reason acts atp will fitting counts ring nxt wins ways nextWays image isKept) := by
  refine CT.intro (by decide) (Nat.le_of_ble_eq_true rfl) (fun K X Y => ?_)
  refine jv_iconst (v := 0) 0 X dX10_asNow_0 rfl ?_
  refine jv_istore_n (lv2 := [(1, .int 0), (0, .ref (a 0))]) 1 X dX10_asNow_1 (by decide) rfl ?_
  have lp2 : ∀ (n2 : Nat) (k : Nat) (nw : Nat → Int32), (k ≤ 40) → (∀ j, j < k → nw j = book j) → 40 - k < n2 → JV E K 0 0 (bMd E a book nw week sights sight signs pad metAt metWho reason acts atp will fitting counts ring nxt wins ways nextWays image isKept) [(0, .ref (a 0)), (1, .int (nI k))] 2 [] := by
    intro n2
    induction n2 with
    | zero => intro k nw hk hI hm; exact absurd hm (Nat.not_lt_zero _)
    | succ n2 ih2 =>
      intro k nw hk hI hm
      refine jv_iload_n 2 X dX10_asNow_2 1 rfl ?_
      refine jv_bipush (v := 40) 3 X dX10_asNow_3 (by decide) ?_
      refine jn_icmp_ge 5 X dX10_asNow_5 26 (by decide) (fun c_1 => ?_) (fun c_1 => ?_)
      · have n_1 : 40 ≤ k := (nx_le (a := 40) (b := k) rfl rfl (by omega) (by omega)).mp c_1
        refine jv_ext (ws2 := bMd E a book book week sights sight signs pad metAt metWho reason acts atp will fitting counts ring nxt wins ways nextWays image isKept) 2 book rfl (fun j hj => hI j (by omega)) rfl ?_
        refine jv_aload_n 26 X dX10_asNow_26 0 rfl ?_
        refine jv_bipush (v := (-6)) 27 X dX10_asNow_27 (by decide) ?_
        refine jv_puti (ws2 := bMd E a book book week sights sight signs pad (-6) metWho reason acts atp will fitting counts ring nxt wins ways nextWays image isKept) 29 X gf_X10_84 tyX10_ok nmX10 rfl rfl dX10_asNow_29 0 rfl (Nat.le_of_ble_eq_true rfl) rfl ?_
        refine jv_aload_n 32 X dX10_asNow_32 0 rfl ?_
        refine jv_bipush (v := (-6)) 33 X dX10_asNow_33 (by decide) ?_
        refine jv_puti (ws2 := bMd E a book book week sights sight signs pad (-6) (-6) reason acts atp will fitting counts ring nxt wins ways nextWays image isKept) 35 X gf_X10_87 tyX10_ok nmX10 rfl rfl dX10_asNow_35 0 rfl (Nat.le_of_ble_eq_true rfl) rfl ?_
        exact jv_vret 38 X Y rfl dX10_asNow_38 () rfl rfl
      · have n_1 : ¬ 40 ≤ k := fun zq => c_1 ((nx_le (a := 40) (b := k) rfl rfl (by omega) (by omega)).mpr zq)
        refine jv_aload_n 8 X dX10_asNow_8 0 rfl ?_
        refine jv_get (v := .ref (a 2)) 9 X gf_X10_13 dX10_asNow_9 0 rfl rfl ?_
        refine jv_iload_n 12 X dX10_asNow_12 1 rfl ?_
        refine jv_aload_n 13 X dX10_asNow_13 0 rfl ?_
        refine jv_get (v := .ref (a 1)) 14 X gf_X10_7 dX10_asNow_14 0 rfl rfl ?_
        refine jv_iload_n 17 X dX10_asNow_17 1 rfl ?_
        refine jv_iald (f := book) 18 X dX10_asNow_18 1 rfl (by decide) k rfl (by omega) ?_
        refine jv_iast (ws2 := bMd E a book (upd nw k (book k)) week sights sight signs pad metAt metWho reason acts atp will fitting counts ring nxt wins ways nextWays image isKept) (f := nw) 19 X dX10_asNow_19 2 rfl (by decide) k rfl (by omega) rfl ?_
        refine jv_iinc (v := (nI (k + 1))) (lv2 := [(1, .int (nI (k + 1))), (0, .ref (a 0))]) 20 X dX10_asNow_20 1 rfl (nx_inc _) (by decide) rfl ?_
        refine jv_goto 23 X dX10_asNow_23 2 (by decide) ?_
        exact jv_lv [1, 0] rfl (ih2 (k + 1) (upd nw k (book k)) (by omega) (fun j hj => by rcases Nat.lt_succ_iff_lt_or_eq.mp hj with h | h; rw [pk_un (by omega)]; exact hI j h; rw [h]; exact pk_us) (by omega))
  exact jv_lv [1, 0] rfl (lp2 _ 0 now (by omega) (fun j hj => absurd hj (Nat.not_lt_zero j)) (Nat.lt_succ_self _))
theorem c_X10_measureOf (E : EE) (l : Launch) (a : Nat → Nat) (book : Nat → Int32) (now : Nat → Int32) (week : Nat → Int32) (sights : Int32) (sight : Nat → Int32) (signs : Int32) (pad : Nat → Int32) (metAt : Int32) (metWho : Int32) (reason : Int32) (acts : Int32) (atp : Int32) (will : Nat → Int32) (fitting : Nat → Int32) (counts : Nat → Int32) (ring : Nat → Int32) (nxt : Nat → Int32) (wins : Nat → Int32) (ways : Nat → Int64) (nextWays : Nat → Int64) (image : Nat → Int32) (isKept : Nat → Int32) (k : Nat) (hk : k < 6) : CT E l yX10_measureOf cX10_measureOf 2 (some .int) { frames := 0, cells := 0, slots := 0, locals := 0 } [.ref (a 0), .int (nI k)] (bMd E a book now week sights sight signs pad metAt metWho reason acts atp will fitting counts ring nxt wins ways nextWays image isKept) (some (.int (msM now k))) (bMd E a book now week sights sight signs pad metAt metWho reason acts atp will fitting counts ring nxt wins ways nextWays image isKept) := by
  refine CT.intro (by decide) (Nat.le_of_ble_eq_true rfl) (fun K X Y => ?_)
  refine jv_aload_n 0 X dX10_measureOf_0 0 rfl ?_
  refine jv_get (v := .ref (a 2)) 1 X gf_X10_13 dX10_measureOf_1 0 rfl rfl ?_
  refine jv_bipush (v := 12) 4 X dX10_measureOf_4 (by decide) ?_
  refine jv_iload_n 6 X dX10_measureOf_6 1 rfl ?_
  refine jv_iadd 7 X dX10_measureOf_7 ?_
  refine jv_norm (x2 := nI (12 + k)) (nx_add2 (a := 12) (b := k) rfl rfl (by omega)) ?_
  refine jv_iald (f := now) 8 X dX10_measureOf_8 2 rfl (by decide) (12 + k) rfl (by omega) ?_
  refine jn_if_ne 9 X dX10_measureOf_9 22 (by decide) (fun c_1 => ?_) (fun c_1 => ?_)
  · refine jv_aload_n 22 X dX10_measureOf_22 0 rfl ?_
    refine jv_get (v := .ref (a 2)) 23 X gf_X10_13 dX10_measureOf_23 0 rfl rfl ?_
    refine jv_bipush (v := 12) 26 X dX10_measureOf_26 (by decide) ?_
    refine jv_iload_n 28 X dX10_measureOf_28 1 rfl ?_
    refine jv_iadd 29 X dX10_measureOf_29 ?_
    refine jv_norm (x2 := nI (12 + k)) (nx_add2 (a := 12) (b := k) rfl rfl (by omega)) ?_
    refine jv_iald (f := now) 30 X dX10_measureOf_30 2 rfl (by decide) (12 + k) rfl (by omega) ?_
    exact jv_iret 31 X Y rfl dX10_measureOf_31 () (by simp [msM, lt_nle, -Int32.not_le, c_1]) rfl
  · refine jv_aload_n 12 X dX10_measureOf_12 0 rfl ?_
    refine jv_get (v := .ref (a 2)) 13 X gf_X10_13 dX10_measureOf_13 0 rfl rfl ?_
    refine jv_bipush (v := 38) 16 X dX10_measureOf_16 (by decide) ?_
    refine jv_iald (f := now) 18 X dX10_measureOf_18 2 rfl (by decide) 38 rfl (by omega) ?_
    refine jv_goto 19 X dX10_measureOf_19 31 (by decide) ?_
    exact jv_iret 31 X Y rfl dX10_measureOf_31 () (by simp [msM, lt_nle, -Int32.not_le, c_1]) rfl
theorem c_X10_hasMet (E : EE) (l : Launch) (a : Nat → Nat) (book : Nat → Int32) (now : Nat → Int32) (week : Nat → Int32) (sights : Int32) (sight : Nat → Int32) (signs : Int32) (pad : Nat → Int32) (metAt : Int32) (metWho : Int32) (reason : Int32) (acts : Int32) (atp : Int32) (will : Nat → Int32) (fitting : Nat → Int32) (counts : Nat → Int32) (ring : Nat → Int32) (nxt : Nat → Int32) (wins : Nat → Int32) (ways : Nat → Int64) (nextWays : Nat → Int64) (image : Nat → Int32) (isKept : Nat → Int32) (b : Nat) (hb : b < 4) : CT E l yX10_hasMet cX10_hasMet 2 (some .boolean) { frames := 0, cells := 0, slots := 0, locals := 0 } [.ref (a 0), .int (nI b)] (bMd E a book now week sights sight signs pad metAt metWho reason acts atp will fitting counts ring nxt wins ways nextWays image isKept) (some (.int (zI (now (34 + b) ≤ now (26 + b) + now (30 + b))))) (bMd E a book now week sights sight signs pad metAt metWho reason acts atp will fitting counts ring nxt wins ways nextWays image isKept) := by
  refine CT.intro (by decide) (Nat.le_of_ble_eq_true rfl) (fun K X Y => ?_)
  refine jv_aload_n 0 X dX10_hasMet_0 0 rfl ?_
  refine jv_get (v := .ref (a 2)) 1 X gf_X10_13 dX10_hasMet_1 0 rfl rfl ?_
  refine jv_bipush (v := 26) 4 X dX10_hasMet_4 (by decide) ?_
  refine jv_iload_n 6 X dX10_hasMet_6 1 rfl ?_
  refine jv_iadd 7 X dX10_hasMet_7 ?_
  refine jv_norm (x2 := nI (26 + b)) (nx_add2 (a := 26) (b := b) rfl rfl (by omega)) ?_
  refine jv_iald (f := now) 8 X dX10_hasMet_8 2 rfl (by decide) (26 + b) rfl (by omega) ?_
  refine jv_aload_n 9 X dX10_hasMet_9 0 rfl ?_
  refine jv_get (v := .ref (a 2)) 10 X gf_X10_13 dX10_hasMet_10 0 rfl rfl ?_
  refine jv_bipush (v := 30) 13 X dX10_hasMet_13 (by decide) ?_
  refine jv_iload_n 15 X dX10_hasMet_15 1 rfl ?_
  refine jv_iadd 16 X dX10_hasMet_16 ?_
  refine jv_norm (x2 := nI (30 + b)) (nx_add2 (a := 30) (b := b) rfl rfl (by omega)) ?_
  refine jv_iald (f := now) 17 X dX10_hasMet_17 2 rfl (by decide) (30 + b) rfl (by omega) ?_
  refine jv_iadd 18 X dX10_hasMet_18 ?_
  refine jv_aload_n 19 X dX10_hasMet_19 0 rfl ?_
  refine jv_get (v := .ref (a 2)) 20 X gf_X10_13 dX10_hasMet_20 0 rfl rfl ?_
  refine jv_bipush (v := 34) 23 X dX10_hasMet_23 (by decide) ?_
  refine jv_iload_n 25 X dX10_hasMet_25 1 rfl ?_
  refine jv_iadd 26 X dX10_hasMet_26 ?_
  refine jv_norm (x2 := nI (34 + b)) (nx_add2 (a := 34) (b := b) rfl rfl (by omega)) ?_
  refine jv_iald (f := now) 27 X dX10_hasMet_27 2 rfl (by decide) (34 + b) rfl (by omega) ?_
  refine jn_icmp_lt 28 X dX10_hasMet_28 35 (by decide) (fun c_1 => ?_) (fun c_1 => ?_)
  · refine jv_iconst (v := 0) 35 X dX10_hasMet_35 rfl ?_
    exact jv_zret 36 X Y rfl rfl dX10_hasMet_36 () (by simp [zI, lt_nle, -Int32.not_le, c_1]) rfl
  · refine jv_iconst (v := 1) 31 X dX10_hasMet_31 rfl ?_
    refine jv_goto 32 X dX10_hasMet_32 36 (by decide) ?_
    exact jv_zret 36 X Y rfl rfl dX10_hasMet_36 () (by simp [zI, lt_nle, -Int32.not_le, c_1]) rfl
theorem c_X10_numberAt (E : EE) (l : Launch) (a : Nat → Nat) (book : Nat → Int32) (now : Nat → Int32) (week : Nat → Int32) (sights : Int32) (sight : Nat → Int32) (signs : Int32) (pad : Nat → Int32) (metAt : Int32) (metWho : Int32) (reason : Int32) (acts : Int32) (atp : Int32) (will : Nat → Int32) (fitting : Nat → Int32) (counts : Nat → Int32) (ring : Nat → Int32) (nxt : Nat → Int32) (wins : Nat → Int32) (ways : Nat → Int64) (nextWays : Nat → Int64) (image : Nat → Int32) (isKept : Nat → Int32) (k : Nat) (hk : k < 60) : CT E l yX10_numberAt cX10_numberAt 2 (some .int) { frames := 0, cells := 0, slots := 0, locals := 0 } [.ref (a 0), .int (nI k)] (bMd E a book now week sights sight signs pad metAt metWho reason acts atp will fitting counts ring nxt wins ways nextWays image isKept) (some (.int (pad k - 48))) (bMd E a book now week sights sight signs pad metAt metWho reason acts atp will fitting counts ring nxt wins ways nextWays image isKept) := by
  refine CT.intro (by decide) (Nat.le_of_ble_eq_true rfl) (fun K X Y => ?_)
  refine jv_aload_n 0 X dX10_numberAt_0 0 rfl ?_
  refine jv_get (v := .ref (a 5)) 1 X gf_X10_22 dX10_numberAt_1 0 rfl rfl ?_
  refine jv_iload_n 4 X dX10_numberAt_4 1 rfl ?_
  refine jv_iald (f := pad) 5 X dX10_numberAt_5 5 rfl (by decide) k rfl (by omega) ?_
  refine jv_bipush (v := 48) 6 X dX10_numberAt_6 (by decide) ?_
  refine jv_isub 8 X dX10_numberAt_8 ?_
  exact jv_iret 9 X Y rfl dX10_numberAt_9 () rfl rfl
