def f_inch (book : Nat → Int32) (v : Int32) : Int32 × (Nat → Int32) := if 1 ≤ v ∧ v ≤ 200 then (book 38, upd book 38 v) else (-2, book)
def f_week (week : Nat → Int32) (day more : Int32) : Int32 × (Nat → Int32) := if (0 ≤ day ∧ day ≤ 6) ∧ (-9 ≤ more ∧ more ≤ 9) then (week day.toNatClampNeg + 9, upd week day.toNatClampNeg more) else (-2, week)
def f_one (book : Nat → Int32) (k purse cloth ruler : Int32) : Int32 × (Nat → Int32) := if ¬ (0 ≤ k ∧ k ≤ 5) then (-1, book) else if (0 ≤ purse ∧ purse ≤ 9999) ∧ (0 ≤ cloth ∧ cloth ≤ 99999) ∧ (0 ≤ ruler ∧ ruler ≤ 200) then (book k.toNatClampNeg, upd (upd (upd book k.toNatClampNeg purse) (6 + k.toNatClampNeg) cloth) (12 + k.toNatClampNeg) ruler) else (-2, book)
def f_stick (book : Nat → Int32) (k v : Int32) : Int32 × (Nat → Int32) := if ¬ (0 ≤ k ∧ k ≤ 7) then (-1, book) else if 0 ≤ v ∧ v ≤ 1800 then (book (18 + k.toNatClampNeg), upd book (18 + k.toNatClampNeg) v) else (-2, book)
def f_bridge (book : Nat → Int32) (k v : Int32) : Int32 × (Nat → Int32) := if ¬ (0 ≤ k ∧ k ≤ 3) then (-1, book) else if 1 ≤ v ∧ v ≤ 99999 then (book (34 + k.toNatClampNeg), upd (upd (upd book (34 + k.toNatClampNeg) v) (26 + k.toNatClampNeg) 0) (30 + k.toNatClampNeg) 0) else (-2, book)
def f_say (n : Nat) (pad : Nat → Int32) (v : Int32) : Int32 × Nat × (Nat → Int32) := if ¬ (33 ≤ v ∧ v ≤ 126) then (-2, n, pad) else if n = 60 then (-4, n, pad) else (nI (n + 1), n + 1, upd pad n v)
def f_seen (n : Nat) (sight : Nat → Int32) (day v : Int32) : Int32 × Nat × (Nat → Int32) := if ¬ ((0 ≤ day ∧ day ≤ 60) ∧ (1 ≤ v ∧ v ≤ 200)) then (-2, n, sight) else if n = 8 then (-4, n, sight) else (nI (n + 1), n + 1, upd (upd sight (2 * n) day) (2 * n + 1) v)
theorem c_X10_inch (E : EE) (l : Launch) (a : Nat → Nat) (book : Nat → Int32) (now : Nat → Int32) (week : Nat → Int32) (sights : Int32) (sight : Nat → Int32) (signs : Int32) (pad : Nat → Int32) (metAt : Int32) (metWho : Int32) (reason : Int32) (acts : Int32) (atp : Int32) (will : Nat → Int32) (fitting : Nat → Int32) (counts : Nat → Int32) (ring : Nat → Int32) (nxt : Nat → Int32) (wins : Nat → Int32) (ways : Nat → Int64) (nextWays : Nat → Int64) (image : Nat → Int32) (isKept : Nat → Int32) (v : Int32) : CT E l yX10_inch cX10_inch 3 (some .int) { frames := 1, cells := 0, slots := 0, locals := 22 } [.ref (a 0), .int v] (bMd E a book now week sights sight signs pad metAt metWho reason acts atp will fitting counts ring nxt wins ways nextWays image isKept) (some (.int ((f_inch book v).1))) (bMd E a ((f_inch book v).2) now week sights sight signs pad metAt metWho reason acts atp will fitting counts ring nxt wins ways nextWays image isKept) := by
  refine CT.intro (by decide) (Nat.le_of_ble_eq_true rfl) (fun K X Y => ?_)
  refine jv_iload_n 0 X dX10_inch_0 1 rfl ?_
  refine jv_iconst (v := 1) 1 X dX10_inch_1 rfl ?_
  refine jv_sipush (v := 200) 2 X dX10_inch_2 (by decide) ?_
  refine jv_fun 5 X (c_X10_in E _ v 1 200) ws_X10_57 ⟨Nat.le_of_ble_eq_true rfl, Nat.le_of_ble_eq_true rfl⟩ ⟨rfl, rfl⟩ ⟨Nat.zero_le _, Nat.zero_le _⟩ dX10_inch_5 rfl [] rfl (Nat.le_of_ble_eq_true rfl) ?_
  refine jv_z_ne 8 X dX10_inch_8 14 (by decide) (fun c_1 => ?_) (fun c_1 => ?_)
  · refine jv_aload_n 14 X dX10_inch_14 0 rfl ?_
    refine jv_get (v := .ref (a 1)) 15 X gf_X10_7 dX10_inch_15 0 rfl rfl ?_
    refine jv_bipush (v := 38) 18 X dX10_inch_18 (by decide) ?_
    refine jv_iald (f := book) 20 X dX10_inch_20 1 rfl (by decide) 38 rfl (by omega) ?_
    refine jv_istore_n (lv2 := [(2, .int (book 38)), (0, .ref (a 0)), (1, .int v)]) 21 X dX10_inch_21 (by decide) rfl ?_
    refine jv_aload_n 22 X dX10_inch_22 1 rfl ?_
    refine jv_get (v := .ref (a 1)) 23 X gf_X10_7 dX10_inch_23 0 rfl rfl ?_
    refine jv_bipush (v := 38) 26 X dX10_inch_26 (by decide) ?_
    refine jv_iload_n 28 X dX10_inch_28 2 rfl ?_
    refine jv_iast (ws2 := bMd E a (upd book 38 v) now week sights sight signs pad metAt metWho reason acts atp will fitting counts ring nxt wins ways nextWays image isKept) (f := book) 29 X dX10_inch_29 1 rfl (by decide) 38 rfl (by omega) rfl ?_
    refine jv_iload_n 30 X dX10_inch_30 0 rfl ?_
    have hq : f_inch book v = ((book 38), (upd book 38 v)) := by simp [f_inch, lt_nle, -Int32.not_le, c_1]
    exact jv_iret 31 X Y rfl dX10_inch_31 () (by rw [hq]; try rfl) (by rw [hq]; try rfl)
  · refine jv_bipush (v := (-2)) 11 X dX10_inch_11 (by decide) ?_
    have hq : f_inch book v = ((-2), book) := by simp [f_inch, lt_nle, -Int32.not_le, c_1]
    exact jv_iret 13 X Y rfl dX10_inch_13 () (by rw [hq]; try rfl) (by rw [hq]; try rfl)
theorem c_X10_week (E : EE) (l : Launch) (a : Nat → Nat) (book : Nat → Int32) (now : Nat → Int32) (week : Nat → Int32) (sights : Int32) (sight : Nat → Int32) (signs : Int32) (pad : Nat → Int32) (metAt : Int32) (metWho : Int32) (reason : Int32) (acts : Int32) (atp : Int32) (will : Nat → Int32) (fitting : Nat → Int32) (counts : Nat → Int32) (ring : Nat → Int32) (nxt : Nat → Int32) (wins : Nat → Int32) (ways : Nat → Int64) (nextWays : Nat → Int64) (image : Nat → Int32) (isKept : Nat → Int32) (day : Int32) (more : Int32) : CT E l yX10_week cX10_week 4 (some .int) { frames := 1, cells := 0, slots := 0, locals := 22 } [.ref (a 0), .int day, .int more] (bMd E a book now week sights sight signs pad metAt metWho reason acts atp will fitting counts ring nxt wins ways nextWays image isKept) (some (.int ((f_week week day more).1))) (bMd E a book now ((f_week week day more).2) sights sight signs pad metAt metWho reason acts atp will fitting counts ring nxt wins ways nextWays image isKept) := by
  refine CT.intro (by decide) (Nat.le_of_ble_eq_true rfl) (fun K X Y => ?_)
  refine jv_iload_n 0 X dX10_week_0 1 rfl ?_
  refine jv_iconst (v := 0) 1 X dX10_week_1 rfl ?_
  refine jv_bipush (v := 6) 2 X dX10_week_2 (by decide) ?_
  refine jv_fun 4 X (c_X10_in E _ day 0 6) ws_X10_57 ⟨Nat.le_of_ble_eq_true rfl, Nat.le_of_ble_eq_true rfl⟩ ⟨rfl, rfl⟩ ⟨Nat.zero_le _, Nat.zero_le _⟩ dX10_week_4 rfl [] rfl (Nat.le_of_ble_eq_true rfl) ?_
  refine jv_z_eq 7 X dX10_week_7 21 (by decide) (fun c_1 => ?_) (fun c_1 => ?_)
  · refine jv_bipush (v := (-2)) 21 X dX10_week_21 (by decide) ?_
    have hq : f_week week day more = ((-2), week) := by simp [f_week, lt_nle, -Int32.not_le, c_1]
    exact jv_iret 23 X Y rfl dX10_week_23 () (by rw [hq]; try rfl) (by rw [hq]; try rfl)
  · obtain ⟨jday, h1jday, h2jday, rfl⟩ := nx_in (a := 0) (b := 6) rfl rfl (by decide) (by decide) c_1
    have hcjday : (nI jday).toNatClampNeg = jday := nI_clamp (by omega)
    refine jv_iload_n 10 X dX10_week_10 2 rfl ?_
    refine jv_bipush (v := (-9)) 11 X dX10_week_11 (by decide) ?_
    refine jv_bipush (v := 9) 13 X dX10_week_13 (by decide) ?_
    refine jv_fun 15 X (c_X10_in E _ more (-9) 9) ws_X10_57 ⟨Nat.le_of_ble_eq_true rfl, Nat.le_of_ble_eq_true rfl⟩ ⟨rfl, rfl⟩ ⟨Nat.zero_le _, Nat.zero_le _⟩ dX10_week_15 rfl [] rfl (Nat.le_of_ble_eq_true rfl) ?_
    refine jv_z_ne 18 X dX10_week_18 24 (by decide) (fun c_2 => ?_) (fun c_2 => ?_)
    · refine jv_aload_n 24 X dX10_week_24 0 rfl ?_
      refine jv_get (v := .ref (a 3)) 25 X gf_X10_16 dX10_week_25 0 rfl rfl ?_
      refine jv_iload_n 28 X dX10_week_28 1 rfl ?_
      refine jv_iald (f := week) 29 X dX10_week_29 3 rfl (by decide) jday rfl (by omega) ?_
      refine jv_istore_n (lv2 := [(3, .int (week jday)), (0, .ref (a 0)), (1, .int (nI jday)), (2, .int more)]) 30 X dX10_week_30 (by decide) rfl ?_
      refine jv_aload_n 31 X dX10_week_31 1 rfl ?_
      refine jv_get (v := .ref (a 3)) 32 X gf_X10_16 dX10_week_32 0 rfl rfl ?_
      refine jv_iload_n 35 X dX10_week_35 2 rfl ?_
      refine jv_iload_n 36 X dX10_week_36 3 rfl ?_
      refine jv_iast (ws2 := bMd E a book now (upd week jday more) sights sight signs pad metAt metWho reason acts atp will fitting counts ring nxt wins ways nextWays image isKept) (f := week) 37 X dX10_week_37 3 rfl (by decide) jday rfl (by omega) rfl ?_
      refine jv_iload_n 38 X dX10_week_38 0 rfl ?_
      refine jv_bipush (v := 9) 39 X dX10_week_39 (by decide) ?_
      refine jv_iadd 41 X dX10_week_41 ?_
      have hq : f_week week (nI jday) more = (((week jday) + 9), (upd week jday more)) := by simp [f_week, lt_nle, -Int32.not_le, c_1, hcjday, c_2]
      exact jv_iret 42 X Y rfl dX10_week_42 () (by rw [hq]; try rfl) (by rw [hq]; try rfl)
    · refine jv_bipush (v := (-2)) 21 X dX10_week_21 (by decide) ?_
      have hq : f_week week (nI jday) more = ((-2), week) := by simp [f_week, lt_nle, -Int32.not_le, c_1, hcjday, c_2]
      exact jv_iret 23 X Y rfl dX10_week_23 () (by rw [hq]; try rfl) (by rw [hq]; try rfl)
theorem c_X10_one (E : EE) (l : Launch) (a : Nat → Nat) (book : Nat → Int32) (now : Nat → Int32) (week : Nat → Int32) (sights : Int32) (sight : Nat → Int32) (signs : Int32) (pad : Nat → Int32) (metAt : Int32) (metWho : Int32) (reason : Int32) (acts : Int32) (atp : Int32) (will : Nat → Int32) (fitting : Nat → Int32) (counts : Nat → Int32) (ring : Nat → Int32) (nxt : Nat → Int32) (wins : Nat → Int32) (ways : Nat → Int64) (nextWays : Nat → Int64) (image : Nat → Int32) (isKept : Nat → Int32) (k : Int32) (purse : Int32) (cloth : Int32) (ruler : Int32) : CT E l yX10_one cX10_one 6 (some .int) { frames := 2, cells := 0, slots := 0, locals := 42 } [.ref (a 0), .int k, .int purse, .int cloth, .int ruler] (bMd E a book now week sights sight signs pad metAt metWho reason acts atp will fitting counts ring nxt wins ways nextWays image isKept) (some (.int ((f_one book k purse cloth ruler).1))) (bMd E a ((f_one book k purse cloth ruler).2) now week sights sight signs pad metAt metWho reason acts atp will fitting counts ring nxt wins ways nextWays image isKept) := by
  refine CT.intro (by decide) (Nat.le_of_ble_eq_true rfl) (fun K X Y => ?_)
  refine jv_iload_n 0 X dX10_one_0 1 rfl ?_
  refine jv_fun 1 X (c_X10_isOne E _ k) ws_X10_61 ⟨Nat.le_of_ble_eq_true rfl, Nat.le_of_ble_eq_true rfl⟩ ⟨rfl, rfl⟩ ⟨Nat.zero_le _, Nat.zero_le _⟩ dX10_one_1 rfl [] rfl (Nat.le_of_ble_eq_true rfl) ?_
  refine jv_z_ne 4 X dX10_one_4 9 (by decide) (fun c_1 => ?_) (fun c_1 => ?_)
  · obtain ⟨jk, h1jk, h2jk, rfl⟩ := nx_in (a := 0) (b := 5) rfl rfl (by decide) (by decide) c_1
    have hcjk : (nI jk).toNatClampNeg = jk := nI_clamp (by omega)
    refine jv_iload_n 9 X dX10_one_9 2 rfl ?_
    refine jv_iconst (v := 0) 10 X dX10_one_10 rfl ?_
    refine jv_sipush (v := 9999) 11 X dX10_one_11 (by decide) ?_
    refine jv_fun 14 X (c_X10_in E _ purse 0 9999) ws_X10_57 ⟨Nat.le_of_ble_eq_true rfl, Nat.le_of_ble_eq_true rfl⟩ ⟨rfl, rfl⟩ ⟨Nat.zero_le _, Nat.zero_le _⟩ dX10_one_14 rfl [] rfl (Nat.le_of_ble_eq_true rfl) ?_
    refine jv_z_eq 17 X dX10_one_17 42 (by decide) (fun c_2 => ?_) (fun c_2 => ?_)
    · refine jv_bipush (v := (-2)) 42 X dX10_one_42 (by decide) ?_
      have hq : f_one book (nI jk) purse cloth ruler = ((-2), book) := by simp [f_one, lt_nle, -Int32.not_le, c_1, hcjk, c_2]
      exact jv_iret 44 X Y rfl dX10_one_44 () (by rw [hq]; try rfl) (by rw [hq]; try rfl)
    · refine jv_iload_n 20 X dX10_one_20 3 rfl ?_
      refine jv_iconst (v := 0) 21 X dX10_one_21 rfl ?_
      refine jv_ldc (v := 99999) 22 X tm_k_X10_65 dX10_one_22 ?_
      refine jv_fun 24 X (c_X10_in E _ cloth 0 99999) ws_X10_57 ⟨Nat.le_of_ble_eq_true rfl, Nat.le_of_ble_eq_true rfl⟩ ⟨rfl, rfl⟩ ⟨Nat.zero_le _, Nat.zero_le _⟩ dX10_one_24 rfl [] rfl (Nat.le_of_ble_eq_true rfl) ?_
      refine jv_z_eq 27 X dX10_one_27 42 (by decide) (fun c_3 => ?_) (fun c_3 => ?_)
      · refine jv_bipush (v := (-2)) 42 X dX10_one_42 (by decide) ?_
        have hq : f_one book (nI jk) purse cloth ruler = ((-2), book) := by simp [f_one, lt_nle, -Int32.not_le, c_1, hcjk, c_2, c_3]
        exact jv_iret 44 X Y rfl dX10_one_44 () (by rw [hq]; try rfl) (by rw [hq]; try rfl)
      · refine jv_iload 30 X dX10_one_30 4 rfl ?_
        refine jv_iconst (v := 0) 32 X dX10_one_32 rfl ?_
        refine jv_sipush (v := 200) 33 X dX10_one_33 (by decide) ?_
        refine jv_fun 36 X (c_X10_in E _ ruler 0 200) ws_X10_57 ⟨Nat.le_of_ble_eq_true rfl, Nat.le_of_ble_eq_true rfl⟩ ⟨rfl, rfl⟩ ⟨Nat.zero_le _, Nat.zero_le _⟩ dX10_one_36 rfl [] rfl (Nat.le_of_ble_eq_true rfl) ?_
        refine jv_z_ne 39 X dX10_one_39 45 (by decide) (fun c_4 => ?_) (fun c_4 => ?_)
        · refine jv_aload_n 45 X dX10_one_45 0 rfl ?_
          refine jv_get (v := .ref (a 1)) 46 X gf_X10_7 dX10_one_46 0 rfl rfl ?_
          refine jv_iload_n 49 X dX10_one_49 1 rfl ?_
          refine jv_iald (f := book) 50 X dX10_one_50 1 rfl (by decide) jk rfl (by omega) ?_
          refine jv_istore (lv2 := [(5, .int (book jk)), (0, .ref (a 0)), (1, .int (nI jk)), (2, .int purse), (3, .int cloth), (4, .int ruler)]) 51 X dX10_one_51 (by decide) rfl ?_
          refine jv_aload_n 53 X dX10_one_53 1 rfl ?_
          refine jv_get (v := .ref (a 1)) 54 X gf_X10_7 dX10_one_54 0 rfl rfl ?_
          refine jv_iload_n 57 X dX10_one_57 2 rfl ?_
          refine jv_iload_n 58 X dX10_one_58 3 rfl ?_
          refine jv_iast (ws2 := bMd E a (upd book jk purse) now week sights sight signs pad metAt metWho reason acts atp will fitting counts ring nxt wins ways nextWays image isKept) (f := book) 59 X dX10_one_59 1 rfl (by decide) jk rfl (by omega) rfl ?_
          refine jv_aload_n 60 X dX10_one_60 1 rfl ?_
          refine jv_get (v := .ref (a 1)) 61 X gf_X10_7 dX10_one_61 0 rfl rfl ?_
          refine jv_bipush (v := 6) 64 X dX10_one_64 (by decide) ?_
          refine jv_iload_n 66 X dX10_one_66 2 rfl ?_
          refine jv_iadd 67 X dX10_one_67 ?_
          refine jv_norm (x2 := nI (6 + jk)) (nx_add2 (a := 6) (b := jk) rfl rfl (by omega)) ?_
          refine jv_iload_n 68 X dX10_one_68 4 rfl ?_
          refine jv_iast (ws2 := bMd E a (upd (upd book jk purse) (6 + jk) cloth) now week sights sight signs pad metAt metWho reason acts atp will fitting counts ring nxt wins ways nextWays image isKept) (f := (upd book jk purse)) 69 X dX10_one_69 1 rfl (by decide) (6 + jk) rfl (by omega) rfl ?_
          refine jv_aload_n 70 X dX10_one_70 1 rfl ?_
          refine jv_get (v := .ref (a 1)) 71 X gf_X10_7 dX10_one_71 0 rfl rfl ?_
          refine jv_bipush (v := 12) 74 X dX10_one_74 (by decide) ?_
          refine jv_iload_n 76 X dX10_one_76 2 rfl ?_
          refine jv_iadd 77 X dX10_one_77 ?_
          refine jv_norm (x2 := nI (12 + jk)) (nx_add2 (a := 12) (b := jk) rfl rfl (by omega)) ?_
          refine jv_iload 78 X dX10_one_78 5 rfl ?_
          refine jv_iast (ws2 := bMd E a (upd (upd (upd book jk purse) (6 + jk) cloth) (12 + jk) ruler) now week sights sight signs pad metAt metWho reason acts atp will fitting counts ring nxt wins ways nextWays image isKept) (f := (upd (upd book jk purse) (6 + jk) cloth)) 80 X dX10_one_80 1 rfl (by decide) (12 + jk) rfl (by omega) rfl ?_
          refine jv_iload 81 X dX10_one_81 0 rfl ?_
          have hq : f_one book (nI jk) purse cloth ruler = ((book jk), (upd (upd (upd book jk purse) (6 + jk) cloth) (12 + jk) ruler)) := by simp [f_one, lt_nle, -Int32.not_le, c_1, hcjk, c_2, c_3, c_4]
          exact jv_iret 83 X Y rfl dX10_one_83 () (by rw [hq]; try rfl) (by rw [hq]; try rfl)
        · refine jv_bipush (v := (-2)) 42 X dX10_one_42 (by decide) ?_
          have hq : f_one book (nI jk) purse cloth ruler = ((-2), book) := by simp [f_one, lt_nle, -Int32.not_le, c_1, hcjk, c_2, c_3, c_4]
          exact jv_iret 44 X Y rfl dX10_one_44 () (by rw [hq]; try rfl) (by rw [hq]; try rfl)
  · refine jv_iconst (v := (-1)) 7 X dX10_one_7 rfl ?_
    have hq : f_one book k purse cloth ruler = ((-1), book) := by simp [f_one, lt_nle, -Int32.not_le, c_1]
    exact jv_iret 8 X Y rfl dX10_one_8 () (by rw [hq]; try rfl) (by rw [hq]; try rfl)
theorem c_X10_stick (E : EE) (l : Launch) (a : Nat → Nat) (book : Nat → Int32) (now : Nat → Int32) (week : Nat → Int32) (sights : Int32) (sight : Nat → Int32) (signs : Int32) (pad : Nat → Int32) (metAt : Int32) (metWho : Int32) (reason : Int32) (acts : Int32) (atp : Int32) (will : Nat → Int32) (fitting : Nat → Int32) (counts : Nat → Int32) (ring : Nat → Int32) (nxt : Nat → Int32) (wins : Nat → Int32) (ways : Nat → Int64) (nextWays : Nat → Int64) (image : Nat → Int32) (isKept : Nat → Int32) (k : Int32) (v : Int32) : CT E l yX10_stick cX10_stick 4 (some .int) { frames := 2, cells := 0, slots := 0, locals := 42 } [.ref (a 0), .int k, .int v] (bMd E a book now week sights sight signs pad metAt metWho reason acts atp will fitting counts ring nxt wins ways nextWays image isKept) (some (.int ((f_stick book k v).1))) (bMd E a ((f_stick book k v).2) now week sights sight signs pad metAt metWho reason acts atp will fitting counts ring nxt wins ways nextWays image isKept) := by
  refine CT.intro (by decide) (Nat.le_of_ble_eq_true rfl) (fun K X Y => ?_)
  refine jv_iload_n 0 X dX10_stick_0 1 rfl ?_
  refine jv_fun 1 X (c_X10_isStick E _ k) ws_X10_66 ⟨Nat.le_of_ble_eq_true rfl, Nat.le_of_ble_eq_true rfl⟩ ⟨rfl, rfl⟩ ⟨Nat.zero_le _, Nat.zero_le _⟩ dX10_stick_1 rfl [] rfl (Nat.le_of_ble_eq_true rfl) ?_
  refine jv_z_ne 4 X dX10_stick_4 9 (by decide) (fun c_1 => ?_) (fun c_1 => ?_)
  · obtain ⟨jk, h1jk, h2jk, rfl⟩ := nx_in (a := 0) (b := 7) rfl rfl (by decide) (by decide) c_1
    have hcjk : (nI jk).toNatClampNeg = jk := nI_clamp (by omega)
    refine jv_iload_n 9 X dX10_stick_9 2 rfl ?_
    refine jv_iconst (v := 0) 10 X dX10_stick_10 rfl ?_
    refine jv_sipush (v := 1800) 11 X dX10_stick_11 (by decide) ?_
    refine jv_fun 14 X (c_X10_in E _ v 0 1800) ws_X10_57 ⟨Nat.le_of_ble_eq_true rfl, Nat.le_of_ble_eq_true rfl⟩ ⟨rfl, rfl⟩ ⟨Nat.zero_le _, Nat.zero_le _⟩ dX10_stick_14 rfl [] rfl (Nat.le_of_ble_eq_true rfl) ?_
    refine jv_z_ne 17 X dX10_stick_17 23 (by decide) (fun c_2 => ?_) (fun c_2 => ?_)
    · refine jv_aload_n 23 X dX10_stick_23 0 rfl ?_
      refine jv_get (v := .ref (a 1)) 24 X gf_X10_7 dX10_stick_24 0 rfl rfl ?_
      refine jv_bipush (v := 18) 27 X dX10_stick_27 (by decide) ?_
      refine jv_iload_n 29 X dX10_stick_29 1 rfl ?_
      refine jv_iadd 30 X dX10_stick_30 ?_
      refine jv_norm (x2 := nI (18 + jk)) (nx_add2 (a := 18) (b := jk) rfl rfl (by omega)) ?_
      refine jv_iald (f := book) 31 X dX10_stick_31 1 rfl (by decide) (18 + jk) rfl (by omega) ?_
      refine jv_istore_n (lv2 := [(3, .int (book (18 + jk))), (0, .ref (a 0)), (1, .int (nI jk)), (2, .int v)]) 32 X dX10_stick_32 (by decide) rfl ?_
      refine jv_aload_n 33 X dX10_stick_33 1 rfl ?_
      refine jv_get (v := .ref (a 1)) 34 X gf_X10_7 dX10_stick_34 0 rfl rfl ?_
      refine jv_bipush (v := 18) 37 X dX10_stick_37 (by decide) ?_
      refine jv_iload_n 39 X dX10_stick_39 2 rfl ?_
      refine jv_iadd 40 X dX10_stick_40 ?_
      refine jv_norm (x2 := nI (18 + jk)) (nx_add2 (a := 18) (b := jk) rfl rfl (by omega)) ?_
      refine jv_iload_n 41 X dX10_stick_41 3 rfl ?_
      refine jv_iast (ws2 := bMd E a (upd book (18 + jk) v) now week sights sight signs pad metAt metWho reason acts atp will fitting counts ring nxt wins ways nextWays image isKept) (f := book) 42 X dX10_stick_42 1 rfl (by decide) (18 + jk) rfl (by omega) rfl ?_
      refine jv_iload_n 43 X dX10_stick_43 0 rfl ?_
      have hq : f_stick book (nI jk) v = ((book (18 + jk)), (upd book (18 + jk) v)) := by simp [f_stick, lt_nle, -Int32.not_le, c_1, hcjk, c_2]
      exact jv_iret 44 X Y rfl dX10_stick_44 () (by rw [hq]; try rfl) (by rw [hq]; try rfl)
    · refine jv_bipush (v := (-2)) 20 X dX10_stick_20 (by decide) ?_
      have hq : f_stick book (nI jk) v = ((-2), book) := by simp [f_stick, lt_nle, -Int32.not_le, c_1, hcjk, c_2]
      exact jv_iret 22 X Y rfl dX10_stick_22 () (by rw [hq]; try rfl) (by rw [hq]; try rfl)
  · refine jv_iconst (v := (-1)) 7 X dX10_stick_7 rfl ?_
    have hq : f_stick book k v = ((-1), book) := by simp [f_stick, lt_nle, -Int32.not_le, c_1]
    exact jv_iret 8 X Y rfl dX10_stick_8 () (by rw [hq]; try rfl) (by rw [hq]; try rfl)
theorem c_X10_bridge (E : EE) (l : Launch) (a : Nat → Nat) (book : Nat → Int32) (now : Nat → Int32) (week : Nat → Int32) (sights : Int32) (sight : Nat → Int32) (signs : Int32) (pad : Nat → Int32) (metAt : Int32) (metWho : Int32) (reason : Int32) (acts : Int32) (atp : Int32) (will : Nat → Int32) (fitting : Nat → Int32) (counts : Nat → Int32) (ring : Nat → Int32) (nxt : Nat → Int32) (wins : Nat → Int32) (ways : Nat → Int64) (nextWays : Nat → Int64) (image : Nat → Int32) (isKept : Nat → Int32) (k : Int32) (v : Int32) : CT E l yX10_bridge cX10_bridge 4 (some .int) { frames := 2, cells := 0, slots := 0, locals := 42 } [.ref (a 0), .int k, .int v] (bMd E a book now week sights sight signs pad metAt metWho reason acts atp will fitting counts ring nxt wins ways nextWays image isKept) (some (.int ((f_bridge book k v).1))) (bMd E a ((f_bridge book k v).2) now week sights sight signs pad metAt metWho reason acts atp will fitting counts ring nxt wins ways nextWays image isKept) := by
  refine CT.intro (by decide) (Nat.le_of_ble_eq_true rfl) (fun K X Y => ?_)
  refine jv_iload_n 0 X dX10_bridge_0 1 rfl ?_
  refine jv_fun 1 X (c_X10_isBridge E _ k) ws_X10_69 ⟨Nat.le_of_ble_eq_true rfl, Nat.le_of_ble_eq_true rfl⟩ ⟨rfl, rfl⟩ ⟨Nat.zero_le _, Nat.zero_le _⟩ dX10_bridge_1 rfl [] rfl (Nat.le_of_ble_eq_true rfl) ?_
  refine jv_z_ne 4 X dX10_bridge_4 9 (by decide) (fun c_1 => ?_) (fun c_1 => ?_)
  · obtain ⟨jk, h1jk, h2jk, rfl⟩ := nx_in (a := 0) (b := 3) rfl rfl (by decide) (by decide) c_1
    have hcjk : (nI jk).toNatClampNeg = jk := nI_clamp (by omega)
    refine jv_iload_n 9 X dX10_bridge_9 2 rfl ?_
    refine jv_iconst (v := 1) 10 X dX10_bridge_10 rfl ?_
    refine jv_ldc (v := 99999) 11 X tm_k_X10_65 dX10_bridge_11 ?_
    refine jv_fun 13 X (c_X10_in E _ v 1 99999) ws_X10_57 ⟨Nat.le_of_ble_eq_true rfl, Nat.le_of_ble_eq_true rfl⟩ ⟨rfl, rfl⟩ ⟨Nat.zero_le _, Nat.zero_le _⟩ dX10_bridge_13 rfl [] rfl (Nat.le_of_ble_eq_true rfl) ?_
    refine jv_z_ne 16 X dX10_bridge_16 22 (by decide) (fun c_2 => ?_) (fun c_2 => ?_)
    · refine jv_aload_n 22 X dX10_bridge_22 0 rfl ?_
      refine jv_get (v := .ref (a 1)) 23 X gf_X10_7 dX10_bridge_23 0 rfl rfl ?_
      refine jv_bipush (v := 34) 26 X dX10_bridge_26 (by decide) ?_
      refine jv_iload_n 28 X dX10_bridge_28 1 rfl ?_
      refine jv_iadd 29 X dX10_bridge_29 ?_
      refine jv_norm (x2 := nI (34 + jk)) (nx_add2 (a := 34) (b := jk) rfl rfl (by omega)) ?_
      refine jv_iald (f := book) 30 X dX10_bridge_30 1 rfl (by decide) (34 + jk) rfl (by omega) ?_
      refine jv_istore_n (lv2 := [(3, .int (book (34 + jk))), (0, .ref (a 0)), (1, .int (nI jk)), (2, .int v)]) 31 X dX10_bridge_31 (by decide) rfl ?_
      refine jv_aload_n 32 X dX10_bridge_32 1 rfl ?_
      refine jv_get (v := .ref (a 1)) 33 X gf_X10_7 dX10_bridge_33 0 rfl rfl ?_
      refine jv_bipush (v := 34) 36 X dX10_bridge_36 (by decide) ?_
      refine jv_iload_n 38 X dX10_bridge_38 2 rfl ?_
      refine jv_iadd 39 X dX10_bridge_39 ?_
      refine jv_norm (x2 := nI (34 + jk)) (nx_add2 (a := 34) (b := jk) rfl rfl (by omega)) ?_
      refine jv_iload_n 40 X dX10_bridge_40 3 rfl ?_
      refine jv_iast (ws2 := bMd E a (upd book (34 + jk) v) now week sights sight signs pad metAt metWho reason acts atp will fitting counts ring nxt wins ways nextWays image isKept) (f := book) 41 X dX10_bridge_41 1 rfl (by decide) (34 + jk) rfl (by omega) rfl ?_
      refine jv_aload_n 42 X dX10_bridge_42 1 rfl ?_
      refine jv_get (v := .ref (a 1)) 43 X gf_X10_7 dX10_bridge_43 0 rfl rfl ?_
      refine jv_bipush (v := 26) 46 X dX10_bridge_46 (by decide) ?_
      refine jv_iload_n 48 X dX10_bridge_48 2 rfl ?_
      refine jv_iadd 49 X dX10_bridge_49 ?_
      refine jv_norm (x2 := nI (26 + jk)) (nx_add2 (a := 26) (b := jk) rfl rfl (by omega)) ?_
      refine jv_iconst (v := 0) 50 X dX10_bridge_50 rfl ?_
      refine jv_iast (ws2 := bMd E a (upd (upd book (34 + jk) v) (26 + jk) 0) now week sights sight signs pad metAt metWho reason acts atp will fitting counts ring nxt wins ways nextWays image isKept) (f := (upd book (34 + jk) v)) 51 X dX10_bridge_51 1 rfl (by decide) (26 + jk) rfl (by omega) rfl ?_
      refine jv_aload_n 52 X dX10_bridge_52 1 rfl ?_
      refine jv_get (v := .ref (a 1)) 53 X gf_X10_7 dX10_bridge_53 0 rfl rfl ?_
      refine jv_bipush (v := 30) 56 X dX10_bridge_56 (by decide) ?_
      refine jv_iload_n 58 X dX10_bridge_58 2 rfl ?_
      refine jv_iadd 59 X dX10_bridge_59 ?_
      refine jv_norm (x2 := nI (30 + jk)) (nx_add2 (a := 30) (b := jk) rfl rfl (by omega)) ?_
      refine jv_iconst (v := 0) 60 X dX10_bridge_60 rfl ?_
      refine jv_iast (ws2 := bMd E a (upd (upd (upd book (34 + jk) v) (26 + jk) 0) (30 + jk) 0) now week sights sight signs pad metAt metWho reason acts atp will fitting counts ring nxt wins ways nextWays image isKept) (f := (upd (upd book (34 + jk) v) (26 + jk) 0)) 61 X dX10_bridge_61 1 rfl (by decide) (30 + jk) rfl (by omega) rfl ?_
      refine jv_iload_n 62 X dX10_bridge_62 0 rfl ?_
      have hq : f_bridge book (nI jk) v = ((book (34 + jk)), (upd (upd (upd book (34 + jk) v) (26 + jk) 0) (30 + jk) 0)) := by simp [f_bridge, lt_nle, -Int32.not_le, c_1, hcjk, c_2]
      exact jv_iret 63 X Y rfl dX10_bridge_63 () (by rw [hq]; try rfl) (by rw [hq]; try rfl)
    · refine jv_bipush (v := (-2)) 19 X dX10_bridge_19 (by decide) ?_
      have hq : f_bridge book (nI jk) v = ((-2), book) := by simp [f_bridge, lt_nle, -Int32.not_le, c_1, hcjk, c_2]
      exact jv_iret 21 X Y rfl dX10_bridge_21 () (by rw [hq]; try rfl) (by rw [hq]; try rfl)
  · refine jv_iconst (v := (-1)) 7 X dX10_bridge_7 rfl ?_
    have hq : f_bridge book k v = ((-1), book) := by simp [f_bridge, lt_nle, -Int32.not_le, c_1]
    exact jv_iret 8 X Y rfl dX10_bridge_8 () (by rw [hq]; try rfl) (by rw [hq]; try rfl)
theorem c_X10_wipe (E : EE) (l : Launch) (a : Nat → Nat) (book : Nat → Int32) (now : Nat → Int32) (week : Nat → Int32) (sights : Int32) (sight : Nat → Int32) (signs : Int32) (pad : Nat → Int32) (metAt : Int32) (metWho : Int32) (reason : Int32) (acts : Int32) (atp : Int32) (will : Nat → Int32) (fitting : Nat → Int32) (counts : Nat → Int32) (ring : Nat → Int32) (nxt : Nat → Int32) (wins : Nat → Int32) (ways : Nat → Int64) (nextWays : Nat → Int64) (image : Nat → Int32) (isKept : Nat → Int32) : CT E l yX10_wipe cX10_wipe 2 (some .int) { frames := 0, cells := 0, slots := 0, locals := 0 } [.ref (a 0)] (bMd E a book now week sights sight signs pad metAt metWho reason acts atp will fitting counts ring nxt wins ways nextWays image isKept) (some (.int signs)) (bMd E a book now week sights sight 0 pad metAt metWho reason acts atp will fitting counts ring nxt wins ways nextWays image isKept) := by
  refine CT.intro (by decide) (Nat.le_of_ble_eq_true rfl) (fun K X Y => ?_)
  refine jv_aload_n 0 X dX10_wipe_0 0 rfl ?_
  refine jv_get (v := .int signs) 1 X gf_X10_72 dX10_wipe_1 0 rfl rfl ?_
  refine jv_istore_n (lv2 := [(1, .int signs), (0, .ref (a 0))]) 4 X dX10_wipe_4 (by decide) rfl ?_
  refine jv_aload_n 5 X dX10_wipe_5 1 rfl ?_
  refine jv_iconst (v := 0) 6 X dX10_wipe_6 rfl ?_
  refine jv_puti (ws2 := bMd E a book now week sights sight 0 pad metAt metWho reason acts atp will fitting counts ring nxt wins ways nextWays image isKept) 7 X gf_X10_72 tyX10_ok nmX10 rfl rfl dX10_wipe_7 0 rfl (Nat.le_of_ble_eq_true rfl) rfl ?_
  refine jv_iload_n 10 X dX10_wipe_10 0 rfl ?_
  exact jv_iret 11 X Y rfl dX10_wipe_11 () rfl rfl
theorem c_X10_forget (E : EE) (l : Launch) (a : Nat → Nat) (book : Nat → Int32) (now : Nat → Int32) (week : Nat → Int32) (sights : Int32) (sight : Nat → Int32) (signs : Int32) (pad : Nat → Int32) (metAt : Int32) (metWho : Int32) (reason : Int32) (acts : Int32) (atp : Int32) (will : Nat → Int32) (fitting : Nat → Int32) (counts : Nat → Int32) (ring : Nat → Int32) (nxt : Nat → Int32) (wins : Nat → Int32) (ways : Nat → Int64) (nextWays : Nat → Int64) (image : Nat → Int32) (isKept : Nat → Int32) : CT E l yX10_forget cX10_forget 2 (some .int) { frames := 0, cells := 0, slots := 0, locals := 0 } [.ref (a 0)] (bMd E a book now week sights sight signs pad metAt metWho reason acts atp will fitting counts ring nxt wins ways nextWays image isKept) (some (.int sights)) (bMd E a book now week 0 sight signs pad metAt metWho reason acts atp will fitting counts ring nxt wins ways nextWays image isKept) := by
  refine CT.intro (by decide) (Nat.le_of_ble_eq_true rfl) (fun K X Y => ?_)
  refine jv_aload_n 0 X dX10_forget_0 0 rfl ?_
  refine jv_get (v := .int sights) 1 X gf_X10_167 dX10_forget_1 0 rfl rfl ?_
  refine jv_istore_n (lv2 := [(1, .int sights), (0, .ref (a 0))]) 4 X dX10_forget_4 (by decide) rfl ?_
  refine jv_aload_n 5 X dX10_forget_5 1 rfl ?_
  refine jv_iconst (v := 0) 6 X dX10_forget_6 rfl ?_
  refine jv_puti (ws2 := bMd E a book now week 0 sight signs pad metAt metWho reason acts atp will fitting counts ring nxt wins ways nextWays image isKept) 7 X gf_X10_167 tyX10_ok nmX10 rfl rfl dX10_forget_7 0 rfl (Nat.le_of_ble_eq_true rfl) rfl ?_
  refine jv_iload_n 10 X dX10_forget_10 0 rfl ?_
  exact jv_iret 11 X Y rfl dX10_forget_11 () rfl rfl
