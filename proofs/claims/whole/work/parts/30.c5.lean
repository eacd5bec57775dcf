section WN2
variable {E : EE} {K : Ctx} {cells slots : Nat} {ws : va_W} {lv : List (Nat × Value)} {rest : List Value}
theorem jv_normr {pc : Nat} {x x2 : Nat} (h : x = x2) (k : JV E K cells slots ws lv pc (.ref x2 :: rest)) : JV E K cells slots ws lv pc (.ref x :: rest) := h ▸ k
end WN2
def k_inch (v : Int32) (r : Rl) : Int32 × Rl := match r with
  | (inch, day, sights, week, purse, cloth, ruler, stick, span, west, east, sightDay, sightInch) => if 1 ≤ v ∧ v ≤ 200 then (inch, (v, day, sights, week, purse, cloth, ruler, stick, span, west, east, sightDay, sightInch)) else (-2, (inch, day, sights, week, purse, cloth, ruler, stick, span, west, east, sightDay, sightInch))
def k_week (k : Int32) (v : Int32) (r : Rl) : Int32 × Rl := match r with
  | (inch, day, sights, week, purse, cloth, ruler, stick, span, west, east, sightDay, sightInch) => if (0 ≤ k ∧ k ≤ 6) ∧ (-9 ≤ v ∧ v ≤ 9) then (week k.toNatClampNeg + 9, (inch, day, sights, upd week k.toNatClampNeg v, purse, cloth, ruler, stick, span, west, east, sightDay, sightInch)) else (-2, (inch, day, sights, week, purse, cloth, ruler, stick, span, west, east, sightDay, sightInch))
def k_one (k : Int32) (p : Int32) (c : Int32) (u : Int32) (r : Rl) : Int32 × Rl := match r with
  | (inch, day, sights, week, purse, cloth, ruler, stick, span, west, east, sightDay, sightInch) => if 0 ≤ k ∧ k ≤ 5 then (if (0 ≤ p ∧ p ≤ 9999) ∧ (0 ≤ c ∧ c ≤ 99999) ∧ (0 ≤ u ∧ u ≤ 200) then (purse k.toNatClampNeg, (inch, day, sights, week, upd purse k.toNatClampNeg p, upd cloth k.toNatClampNeg c, upd ruler k.toNatClampNeg u, stick, span, west, east, sightDay, sightInch)) else (-2, (inch, day, sights, week, purse, cloth, ruler, stick, span, west, east, sightDay, sightInch))) else (-1, (inch, day, sights, week, purse, cloth, ruler, stick, span, west, east, sightDay, sightInch))
def k_stick (k : Int32) (v : Int32) (r : Rl) : Int32 × Rl := match r with
  | (inch, day, sights, week, purse, cloth, ruler, stick, span, west, east, sightDay, sightInch) => if 0 ≤ k ∧ k ≤ 7 then (if 0 ≤ v ∧ v ≤ 1800 then (stick k.toNatClampNeg, (inch, day, sights, week, purse, cloth, ruler, upd stick k.toNatClampNeg v, span, west, east, sightDay, sightInch)) else (-2, (inch, day, sights, week, purse, cloth, ruler, stick, span, west, east, sightDay, sightInch))) else (-1, (inch, day, sights, week, purse, cloth, ruler, stick, span, west, east, sightDay, sightInch))
def k_bridge (k : Int32) (v : Int32) (r : Rl) : Int32 × Rl := match r with
  | (inch, day, sights, week, purse, cloth, ruler, stick, span, west, east, sightDay, sightInch) => if 0 ≤ k ∧ k ≤ 3 then (if 1 ≤ v ∧ v ≤ 99999 then (span k.toNatClampNeg, (inch, day, sights, week, purse, cloth, ruler, stick, upd span k.toNatClampNeg v, upd west k.toNatClampNeg 0, upd east k.toNatClampNeg 0, sightDay, sightInch)) else (-2, (inch, day, sights, week, purse, cloth, ruler, stick, span, west, east, sightDay, sightInch))) else (-1, (inch, day, sights, week, purse, cloth, ruler, stick, span, west, east, sightDay, sightInch))
def k_seen (d : Int32) (v : Int32) (r : Rl) : Int32 × Rl := match r with
  | (inch, day, sights, week, purse, cloth, ruler, stick, span, west, east, sightDay, sightInch) => if (0 ≤ d ∧ d ≤ 60) ∧ (1 ≤ v ∧ v ≤ 200) then (if 8 ≤ sights.toNatClampNeg then (-4, (inch, day, sights, week, purse, cloth, ruler, stick, span, west, east, sightDay, sightInch)) else (nI (sights.toNatClampNeg + 1), (inch, day, nI (sights.toNatClampNeg + 1), week, purse, cloth, ruler, stick, span, west, east, upd sightDay sights.toNatClampNeg d, upd sightInch sights.toNatClampNeg v))) else (-2, (inch, day, sights, week, purse, cloth, ruler, stick, span, west, east, sightDay, sightInch))
def k_forget (r : Rl) : Int32 × Rl := match r with
  | (inch, day, sights, week, purse, cloth, ruler, stick, span, west, east, sightDay, sightInch) => (sights, (inch, day, 0, week, purse, cloth, ruler, stick, span, west, east, sightDay, sightInch))
def k_told (what : Int32) (sn : Nat) (r : Rl) : Int32 := if 0 ≤ what ∧ what ≤ 3 then (if what.toNatClampNeg = 0 then nI sn else if what.toNatClampNeg = 1 then r.1 else if what.toNatClampNeg = 2 then r.2.1 else r.2.2.1) else if 10 ≤ what ∧ what ≤ 16 then r.2.2.2.1 (what.toNatClampNeg - 10) + 9 else if 20 ≤ what ∧ what ≤ 27 then r.2.2.2.2.2.2.2.1 (what.toNatClampNeg - 20) else if 40 ≤ what ∧ what ≤ 99 then (if what.toNatClampNeg % 10 = 0 then r.2.2.2.2.1 ((what.toNatClampNeg - 40) / 10) else if what.toNatClampNeg % 10 = 1 then r.2.2.2.2.2.1 ((what.toNatClampNeg - 40) / 10) else if what.toNatClampNeg % 10 = 2 then r.2.2.2.2.2.2.1 ((what.toNatClampNeg - 40) / 10) else if what.toNatClampNeg % 10 = 3 then msC r ((what.toNatClampNeg - 40) / 10) else -2) else if 100 ≤ what ∧ what ≤ 139 then (if what.toNatClampNeg % 10 = 0 then r.2.2.2.2.2.2.2.2.1 ((what.toNatClampNeg - 100) / 10) else if what.toNatClampNeg % 10 = 1 then r.2.2.2.2.2.2.2.2.2.1 ((what.toNatClampNeg - 100) / 10) else if what.toNatClampNeg % 10 = 2 then r.2.2.2.2.2.2.2.2.2.2.1 ((what.toNatClampNeg - 100) / 10) else -2) else -2
theorem n01 {n : Int32} (h : ¬ (0 ≤ n ∧ n ≤ 1)) : ¬ n = 0 ∧ ¬ n = 1 := ⟨fun e => h (by rw [e]; decide), fun e => h (by rw [e]; decide)⟩
theorem nI_0e : (nI 0 = (0 : Int32)) = True := by decide
theorem nI_1e : (nI 1 = (1 : Int32)) = True := by decide
theorem nI_01e : (nI 0 = (1 : Int32)) = False := by decide
theorem nI_10e : (nI 1 = (0 : Int32)) = False := by decide
theorem c_X9_inch (E : EE) (l : Launch) (g : Nat → Nat → Nat) (r : Rl) (v : Int32) : CT E l yX9_inch cX9_inch 3 (some .int) { frames := 1, cells := 0, slots := 0, locals := 22 } [.ref (g 0 0), .int v] (wB [bLR g, tRl E (g 1) r]) (some (.int ((k_inch v r).1))) (wB [bLR g, tRl E (g 1) ((k_inch v r).2)]) := by
  obtain ⟨inch, day, sights, week, purse, cloth, ruler, stick, span, west, east, sightDay, sightInch⟩ := r
  refine CT.intro (by decide +kernel) (Nat.le_of_ble_eq_true rfl) (fun K X Y => ?_)
  refine jv_iload_n 0 X dX9_inch_0 1 rfl ?_
  refine jv_iconst (v := 1) 1 X dX9_inch_1 rfl ?_
  refine jv_sipush (v := 200) 2 X dX9_inch_2 (by decide) ?_
  refine jv_fun 5 X (c_X9_within E _ v 1 200) ws_X9_75 ⟨Nat.le_of_ble_eq_true rfl, Nat.le_of_ble_eq_true rfl⟩ ⟨rfl, rfl⟩ ⟨Nat.zero_le _, Nat.zero_le _⟩ dX9_inch_5 rfl [] rfl (Nat.le_of_ble_eq_true rfl) ?_
  refine jv_z_ne 8 X dX9_inch_8 14 (by decide) (fun c_1 => ?_) (fun c_1 => ?_)
  · refine jv_aload_n 14 X dX9_inch_14 0 rfl ?_
    refine jv_get (v := .ref (g 1 0)) 15 X gf_X9_10 dX9_inch_15 0 rfl rfl ?_
    refine jv_get (v := .int inch) 18 X gf_X9_79 dX9_inch_18 1 rfl rfl ?_
    refine jv_istore_n (lv2 := [(2, .int inch), (0, .ref (g 0 0)), (1, .int v)]) 21 X dX9_inch_21 (by decide) rfl ?_
    refine jv_aload_n 22 X dX9_inch_22 1 rfl ?_
    refine jv_get (v := .ref (g 1 0)) 23 X gf_X9_10 dX9_inch_23 0 rfl rfl ?_
    refine jv_iload_n 26 X dX9_inch_26 2 rfl ?_
    refine jv_puti (ws2 := wB [bLR g, bRl E (g 1) v day sights week purse cloth ruler stick span west east sightDay sightInch]) 27 X gf_X9_79 tyX5_ok nmX5 rfl rfl dX9_inch_27 1 rfl (Nat.le_of_ble_eq_true rfl) rfl ?_
    refine jv_iload_n 30 X dX9_inch_30 0 rfl ?_
    have hq : k_inch v (inch, day, sights, week, purse, cloth, ruler, stick, span, west, east, sightDay, sightInch) = (inch, (v, day, sights, week, purse, cloth, ruler, stick, span, west, east, sightDay, sightInch)) := by simp [k_inch, lt_nle, -Int32.not_le, c_1]
    exact jv_iret 31 X Y rfl dX9_inch_31 () (by rw [hq]; try rfl) (by rw [hq]; try rfl)
  · refine jv_bipush (v := (-2)) 11 X dX9_inch_11 (by decide) ?_
    have hq : k_inch v (inch, day, sights, week, purse, cloth, ruler, stick, span, west, east, sightDay, sightInch) = ((-2), (inch, day, sights, week, purse, cloth, ruler, stick, span, west, east, sightDay, sightInch)) := by simp [k_inch, lt_nle, -Int32.not_le, c_1]
    exact jv_iret 13 X Y rfl dX9_inch_13 () (by rw [hq]; try rfl) (by rw [hq]; try rfl)
theorem c_X9_week (E : EE) (l : Launch) (g : Nat → Nat → Nat) (r : Rl) (k : Int32) (v : Int32) : CT E l yX9_week cX9_week 4 (some .int) { frames := 1, cells := 0, slots := 0, locals := 22 } [.ref (g 0 0), .int k, .int v] (wB [bLR g, tRl E (g 1) r]) (some (.int ((k_week k v r).1))) (wB [bLR g, tRl E (g 1) ((k_week k v r).2)]) := by
  obtain ⟨inch, day, sights, week, purse, cloth, ruler, stick, span, west, east, sightDay, sightInch⟩ := r
  refine CT.intro (by decide +kernel) (Nat.le_of_ble_eq_true rfl) (fun K X Y => ?_)
  refine jv_iload_n 0 X dX9_week_0 1 rfl ?_
  refine jv_iconst (v := 0) 1 X dX9_week_1 rfl ?_
  refine jv_bipush (v := 6) 2 X dX9_week_2 (by decide) ?_
  refine jv_fun 4 X (c_X9_within E _ k 0 6) ws_X9_75 ⟨Nat.le_of_ble_eq_true rfl, Nat.le_of_ble_eq_true rfl⟩ ⟨rfl, rfl⟩ ⟨Nat.zero_le _, Nat.zero_le _⟩ dX9_week_4 rfl [] rfl (Nat.le_of_ble_eq_true rfl) ?_
  refine jv_z_eq 7 X dX9_week_7 21 (by decide) (fun c_1 => ?_) (fun c_1 => ?_)
  · refine jv_bipush (v := (-2)) 21 X dX9_week_21 (by decide) ?_
    have hq : k_week k v (inch, day, sights, week, purse, cloth, ruler, stick, span, west, east, sightDay, sightInch) = ((-2), (inch, day, sights, week, purse, cloth, ruler, stick, span, west, east, sightDay, sightInch)) := by simp [k_week, lt_nle, -Int32.not_le, c_1]
    exact jv_iret 23 X Y rfl dX9_week_23 () (by rw [hq]; try rfl) (by rw [hq]; try rfl)
  · obtain ⟨jk, h1jk, h2jk, rfl⟩ := nx_in (a := 0) (b := 6) rfl rfl (by decide) (by decide) c_1
    have hcjk : (nI jk).toNatClampNeg = jk := nI_clamp (by omega)
    refine jv_iload_n 10 X dX9_week_10 2 rfl ?_
    refine jv_bipush (v := (-9)) 11 X dX9_week_11 (by decide) ?_
    refine jv_bipush (v := 9) 13 X dX9_week_13 (by decide) ?_
    refine jv_fun 15 X (c_X9_within E _ v (-9) 9) ws_X9_75 ⟨Nat.le_of_ble_eq_true rfl, Nat.le_of_ble_eq_true rfl⟩ ⟨rfl, rfl⟩ ⟨Nat.zero_le _, Nat.zero_le _⟩ dX9_week_15 rfl [] rfl (Nat.le_of_ble_eq_true rfl) ?_
    refine jv_z_ne 18 X dX9_week_18 24 (by decide) (fun c_2 => ?_) (fun c_2 => ?_)
    · refine jv_aload_n 24 X dX9_week_24 0 rfl ?_
      refine jv_get (v := .ref (g 1 0)) 25 X gf_X9_10 dX9_week_25 0 rfl rfl ?_
      refine jv_get (v := .ref (g 1 1)) 28 X gf_X9_83 dX9_week_28 1 rfl rfl ?_
      refine jv_iload_n 31 X dX9_week_31 1 rfl ?_
      refine jv_iald (f := week) 32 X dX9_week_32 2 rfl (by decide) jk rfl (by omega) ?_
      refine jv_istore_n (lv2 := [(3, .int (week jk)), (0, .ref (g 0 0)), (1, .int (nI jk)), (2, .int v)]) 33 X dX9_week_33 (by decide) rfl ?_
      refine jv_aload_n 34 X dX9_week_34 1 rfl ?_
      refine jv_get (v := .ref (g 1 0)) 35 X gf_X9_10 dX9_week_35 0 rfl rfl ?_
      refine jv_get (v := .ref (g 1 1)) 38 X gf_X9_83 dX9_week_38 1 rfl rfl ?_
      refine jv_iload_n 41 X dX9_week_41 2 rfl ?_
      refine jv_iload_n 42 X dX9_week_42 3 rfl ?_
      refine jv_iast (ws2 := wB [bLR g, bRl E (g 1) inch day sights (upd week jk v) purse cloth ruler stick span west east sightDay sightInch]) (f := week) 43 X dX9_week_43 2 rfl (by decide) jk rfl (by omega) rfl ?_
      refine jv_iload_n 44 X dX9_week_44 0 rfl ?_
      refine jv_bipush (v := 9) 45 X dX9_week_45 (by decide) ?_
      refine jv_iadd 47 X dX9_week_47 ?_
      have hq : k_week (nI jk) v (inch, day, sights, week, purse, cloth, ruler, stick, span, west, east, sightDay, sightInch) = (((week jk) + 9), (inch, day, sights, (upd week jk v), purse, cloth, ruler, stick, span, west, east, sightDay, sightInch)) := by simp [k_week, lt_nle, -Int32.not_le, c_1, hcjk, c_2]
      exact jv_iret 48 X Y rfl dX9_week_48 () (by rw [hq]; try rfl) (by rw [hq]; try rfl)
    · refine jv_bipush (v := (-2)) 21 X dX9_week_21 (by decide) ?_
      have hq : k_week (nI jk) v (inch, day, sights, week, purse, cloth, ruler, stick, span, west, east, sightDay, sightInch) = ((-2), (inch, day, sights, week, purse, cloth, ruler, stick, span, west, east, sightDay, sightInch)) := by simp [k_week, lt_nle, -Int32.not_le, c_1, hcjk, c_2]
      exact jv_iret 23 X Y rfl dX9_week_23 () (by rw [hq]; try rfl) (by rw [hq]; try rfl)
theorem c_X9_one (E : EE) (l : Launch) (g : Nat → Nat → Nat) (r : Rl) (k : Int32) (p : Int32) (c : Int32) (u : Int32) : CT E l yX9_one cX9_one 6 (some .int) { frames := 2, cells := 0, slots := 0, locals := 42 } [.ref (g 0 0), .int k, .int p, .int c, .int u] (wB [bLR g, tRl E (g 1) r]) (some (.int ((k_one k p c u r).1))) (wB [bLR g, tRl E (g 1) ((k_one k p c u r).2)]) := by
  obtain ⟨inch, day, sights, week, purse, cloth, ruler, stick, span, west, east, sightDay, sightInch⟩ := r
  refine CT.intro (by decide +kernel) (Nat.le_of_ble_eq_true rfl) (fun K X Y => ?_)
  refine jv_iload_n 0 X dX9_one_0 1 rfl ?_
  refine jv_fun 1 X (c_X9_isOne E _ k) ws_X9_87 ⟨Nat.le_of_ble_eq_true rfl, Nat.le_of_ble_eq_true rfl⟩ ⟨rfl, rfl⟩ ⟨Nat.zero_le _, Nat.zero_le _⟩ dX9_one_1 rfl [] rfl (Nat.le_of_ble_eq_true rfl) ?_
  refine jv_z_ne 4 X dX9_one_4 9 (by decide) (fun c_1 => ?_) (fun c_1 => ?_)
  · obtain ⟨jk, h1jk, h2jk, rfl⟩ := nx_in (a := 0) (b := 5) rfl rfl (by decide) (by decide) c_1
    have hcjk : (nI jk).toNatClampNeg = jk := nI_clamp (by omega)
    refine jv_iload_n 9 X dX9_one_9 2 rfl ?_
    refine jv_iconst (v := 0) 10 X dX9_one_10 rfl ?_
    refine jv_sipush (v := 9999) 11 X dX9_one_11 (by decide) ?_
    refine jv_fun 14 X (c_X9_within E _ p 0 9999) ws_X9_75 ⟨Nat.le_of_ble_eq_true rfl, Nat.le_of_ble_eq_true rfl⟩ ⟨rfl, rfl⟩ ⟨Nat.zero_le _, Nat.zero_le _⟩ dX9_one_14 rfl [] rfl (Nat.le_of_ble_eq_true rfl) ?_
    refine jv_z_eq 17 X dX9_one_17 42 (by decide) (fun c_2 => ?_) (fun c_2 => ?_)
    · refine jv_bipush (v := (-2)) 42 X dX9_one_42 (by decide) ?_
      have hq : k_one (nI jk) p c u (inch, day, sights, week, purse, cloth, ruler, stick, span, west, east, sightDay, sightInch) = ((-2), (inch, day, sights, week, purse, cloth, ruler, stick, span, west, east, sightDay, sightInch)) := by simp [k_one, lt_nle, -Int32.not_le, c_1, hcjk, c_2]
      exact jv_iret 44 X Y rfl dX9_one_44 () (by rw [hq]; try rfl) (by rw [hq]; try rfl)
    · refine jv_iload_n 20 X dX9_one_20 3 rfl ?_
      refine jv_iconst (v := 0) 21 X dX9_one_21 rfl ?_
      refine jv_ldc (v := 99999) 22 X tm_k_X9_91 dX9_one_22 ?_
      refine jv_fun 24 X (c_X9_within E _ c 0 99999) ws_X9_75 ⟨Nat.le_of_ble_eq_true rfl, Nat.le_of_ble_eq_true rfl⟩ ⟨rfl, rfl⟩ ⟨Nat.zero_le _, Nat.zero_le _⟩ dX9_one_24 rfl [] rfl (Nat.le_of_ble_eq_true rfl) ?_
      refine jv_z_eq 27 X dX9_one_27 42 (by decide) (fun c_3 => ?_) (fun c_3 => ?_)
      · refine jv_bipush (v := (-2)) 42 X dX9_one_42 (by decide) ?_
        have hq : k_one (nI jk) p c u (inch, day, sights, week, purse, cloth, ruler, stick, span, west, east, sightDay, sightInch) = ((-2), (inch, day, sights, week, purse, cloth, ruler, stick, span, west, east, sightDay, sightInch)) := by simp [k_one, lt_nle, -Int32.not_le, c_1, hcjk, c_2, c_3]
        exact jv_iret 44 X Y rfl dX9_one_44 () (by rw [hq]; try rfl) (by rw [hq]; try rfl)
      · refine jv_iload 30 X dX9_one_30 4 rfl ?_
        refine jv_iconst (v := 0) 32 X dX9_one_32 rfl ?_
        refine jv_sipush (v := 200) 33 X dX9_one_33 (by decide) ?_
        refine jv_fun 36 X (c_X9_within E _ u 0 200) ws_X9_75 ⟨Nat.le_of_ble_eq_true rfl, Nat.le_of_ble_eq_true rfl⟩ ⟨rfl, rfl⟩ ⟨Nat.zero_le _, Nat.zero_le _⟩ dX9_one_36 rfl [] rfl (Nat.le_of_ble_eq_true rfl) ?_
        refine jv_z_ne 39 X dX9_one_39 45 (by decide) (fun c_4 => ?_) (fun c_4 => ?_)
        · refine jv_aload_n 45 X dX9_one_45 0 rfl ?_
          refine jv_get (v := .ref (g 1 0)) 46 X gf_X9_10 dX9_one_46 0 rfl rfl ?_
          refine jv_get (v := .ref (g 1 2)) 49 X gf_X9_92 dX9_one_49 1 rfl rfl ?_
          refine jv_iload_n 52 X dX9_one_52 1 rfl ?_
          refine jv_iald (f := purse) 53 X dX9_one_53 3 rfl (by decide) jk rfl (by omega) ?_
          refine jv_istore (lv2 := [(5, .int (purse jk)), (0, .ref (g 0 0)), (1, .int (nI jk)), (2, .int p), (3, .int c), (4, .int u)]) 54 X dX9_one_54 (by decide) rfl ?_
          refine jv_aload_n 56 X dX9_one_56 1 rfl ?_
          refine jv_get (v := .ref (g 1 0)) 57 X gf_X9_10 dX9_one_57 0 rfl rfl ?_
          refine jv_get (v := .ref (g 1 2)) 60 X gf_X9_92 dX9_one_60 1 rfl rfl ?_
          refine jv_iload_n 63 X dX9_one_63 2 rfl ?_
          refine jv_iload_n 64 X dX9_one_64 3 rfl ?_
          refine jv_iast (ws2 := wB [bLR g, bRl E (g 1) inch day sights week (upd purse jk p) cloth ruler stick span west east sightDay sightInch]) (f := purse) 65 X dX9_one_65 3 rfl (by decide) jk rfl (by omega) rfl ?_
          refine jv_aload_n 66 X dX9_one_66 1 rfl ?_
          refine jv_get (v := .ref (g 1 0)) 67 X gf_X9_10 dX9_one_67 0 rfl rfl ?_
          refine jv_get (v := .ref (g 1 3)) 70 X gf_X9_95 dX9_one_70 1 rfl rfl ?_
          refine jv_iload_n 73 X dX9_one_73 2 rfl ?_
          refine jv_iload_n 74 X dX9_one_74 4 rfl ?_
          refine jv_iast (ws2 := wB [bLR g, bRl E (g 1) inch day sights week (upd purse jk p) (upd cloth jk c) ruler stick span west east sightDay sightInch]) (f := cloth) 75 X dX9_one_75 4 rfl (by decide) jk rfl (by omega) rfl ?_
          refine jv_aload_n 76 X dX9_one_76 1 rfl ?_
          refine jv_get (v := .ref (g 1 0)) 77 X gf_X9_10 dX9_one_77 0 rfl rfl ?_
          refine jv_get (v := .ref (g 1 4)) 80 X gf_X9_98 dX9_one_80 1 rfl rfl ?_
          refine jv_iload_n 83 X dX9_one_83 2 rfl ?_
          refine jv_iload 84 X dX9_one_84 5 rfl ?_
          refine jv_iast (ws2 := wB [bLR g, bRl E (g 1) inch day sights week (upd purse jk p) (upd cloth jk c) (upd ruler jk u) stick span west east sightDay sightInch]) (f := ruler) 86 X dX9_one_86 5 rfl (by decide) jk rfl (by omega) rfl ?_
          refine jv_iload 87 X dX9_one_87 0 rfl ?_
          have hq : k_one (nI jk) p c u (inch, day, sights, week, purse, cloth, ruler, stick, span, west, east, sightDay, sightInch) = ((purse jk), (inch, day, sights, week, (upd purse jk p), (upd cloth jk c), (upd ruler jk u), stick, span, west, east, sightDay, sightInch)) := by simp [k_one, lt_nle, -Int32.not_le, c_1, hcjk, c_2, c_3, c_4]
          exact jv_iret 89 X Y rfl dX9_one_89 () (by rw [hq]; try rfl) (by rw [hq]; try rfl)
        · refine jv_bipush (v := (-2)) 42 X dX9_one_42 (by decide) ?_
          have hq : k_one (nI jk) p c u (inch, day, sights, week, purse, cloth, ruler, stick, span, west, east, sightDay, sightInch) = ((-2), (inch, day, sights, week, purse, cloth, ruler, stick, span, west, east, sightDay, sightInch)) := by simp [k_one, lt_nle, -Int32.not_le, c_1, hcjk, c_2, c_3, c_4]
          exact jv_iret 44 X Y rfl dX9_one_44 () (by rw [hq]; try rfl) (by rw [hq]; try rfl)
  · refine jv_iconst (v := (-1)) 7 X dX9_one_7 rfl ?_
    have hq : k_one k p c u (inch, day, sights, week, purse, cloth, ruler, stick, span, west, east, sightDay, sightInch) = ((-1), (inch, day, sights, week, purse, cloth, ruler, stick, span, west, east, sightDay, sightInch)) := by simp [k_one, lt_nle, -Int32.not_le, c_1]
    exact jv_iret 8 X Y rfl dX9_one_8 () (by rw [hq]; try rfl) (by rw [hq]; try rfl)
theorem c_X9_stick (E : EE) (l : Launch) (g : Nat → Nat → Nat) (r : Rl) (k : Int32) (v : Int32) : CT E l yX9_stick cX9_stick 4 (some .int) { frames := 2, cells := 0, slots := 0, locals := 42 } [.ref (g 0 0), .int k, .int v] (wB [bLR g, tRl E (g 1) r]) (some (.int ((k_stick k v r).1))) (wB [bLR g, tRl E (g 1) ((k_stick k v r).2)]) := by
  obtain ⟨inch, day, sights, week, purse, cloth, ruler, stick, span, west, east, sightDay, sightInch⟩ := r
  refine CT.intro (by decide +kernel) (Nat.le_of_ble_eq_true rfl) (fun K X Y => ?_)
  refine jv_iload_n 0 X dX9_stick_0 1 rfl ?_
  refine jv_fun 1 X (c_X9_isStick E _ k) ws_X9_101 ⟨Nat.le_of_ble_eq_true rfl, Nat.le_of_ble_eq_true rfl⟩ ⟨rfl, rfl⟩ ⟨Nat.zero_le _, Nat.zero_le _⟩ dX9_stick_1 rfl [] rfl (Nat.le_of_ble_eq_true rfl) ?_
  refine jv_z_ne 4 X dX9_stick_4 9 (by decide) (fun c_1 => ?_) (fun c_1 => ?_)
  · obtain ⟨jk, h1jk, h2jk, rfl⟩ := nx_in (a := 0) (b := 7) rfl rfl (by decide) (by decide) c_1
    have hcjk : (nI jk).toNatClampNeg = jk := nI_clamp (by omega)
    refine jv_iload_n 9 X dX9_stick_9 2 rfl ?_
    refine jv_iconst (v := 0) 10 X dX9_stick_10 rfl ?_
    refine jv_sipush (v := 1800) 11 X dX9_stick_11 (by decide) ?_
    refine jv_fun 14 X (c_X9_within E _ v 0 1800) ws_X9_75 ⟨Nat.le_of_ble_eq_true rfl, Nat.le_of_ble_eq_true rfl⟩ ⟨rfl, rfl⟩ ⟨Nat.zero_le _, Nat.zero_le _⟩ dX9_stick_14 rfl [] rfl (Nat.le_of_ble_eq_true rfl) ?_
    refine jv_z_ne 17 X dX9_stick_17 23 (by decide) (fun c_2 => ?_) (fun c_2 => ?_)
    · refine jv_aload_n 23 X dX9_stick_23 0 rfl ?_
      refine jv_get (v := .ref (g 1 0)) 24 X gf_X9_10 dX9_stick_24 0 rfl rfl ?_
      refine jv_get (v := .ref (g 1 5)) 27 X gf_X9_104 dX9_stick_27 1 rfl rfl ?_
      refine jv_iload_n 30 X dX9_stick_30 1 rfl ?_
      refine jv_iald (f := stick) 31 X dX9_stick_31 6 rfl (by decide) jk rfl (by omega) ?_
      refine jv_istore_n (lv2 := [(3, .int (stick jk)), (0, .ref (g 0 0)), (1, .int (nI jk)), (2, .int v)]) 32 X dX9_stick_32 (by decide) rfl ?_
      refine jv_aload_n 33 X dX9_stick_33 1 rfl ?_
      refine jv_get (v := .ref (g 1 0)) 34 X gf_X9_10 dX9_stick_34 0 rfl rfl ?_
      refine jv_get (v := .ref (g 1 5)) 37 X gf_X9_104 dX9_stick_37 1 rfl rfl ?_
      refine jv_iload_n 40 X dX9_stick_40 2 rfl ?_
      refine jv_iload_n 41 X dX9_stick_41 3 rfl ?_
      refine jv_iast (ws2 := wB [bLR g, bRl E (g 1) inch day sights week purse cloth ruler (upd stick jk v) span west east sightDay sightInch]) (f := stick) 42 X dX9_stick_42 6 rfl (by decide) jk rfl (by omega) rfl ?_
      refine jv_iload_n 43 X dX9_stick_43 0 rfl ?_
      have hq : k_stick (nI jk) v (inch, day, sights, week, purse, cloth, ruler, stick, span, west, east, sightDay, sightInch) = ((stick jk), (inch, day, sights, week, purse, cloth, ruler, (upd stick jk v), span, west, east, sightDay, sightInch)) := by simp [k_stick, lt_nle, -Int32.not_le, c_1, hcjk, c_2]
      exact jv_iret 44 X Y rfl dX9_stick_44 () (by rw [hq]; try rfl) (by rw [hq]; try rfl)
    · refine jv_bipush (v := (-2)) 20 X dX9_stick_20 (by decide) ?_
      have hq : k_stick (nI jk) v (inch, day, sights, week, purse, cloth, ruler, stick, span, west, east, sightDay, sightInch) = ((-2), (inch, day, sights, week, purse, cloth, ruler, stick, span, west, east, sightDay, sightInch)) := by simp [k_stick, lt_nle, -Int32.not_le, c_1, hcjk, c_2]
      exact jv_iret 22 X Y rfl dX9_stick_22 () (by rw [hq]; try rfl) (by rw [hq]; try rfl)
  · refine jv_iconst (v := (-1)) 7 X dX9_stick_7 rfl ?_
    have hq : k_stick k v (inch, day, sights, week, purse, cloth, ruler, stick, span, west, east, sightDay, sightInch) = ((-1), (inch, day, sights, week, purse, cloth, ruler, stick, span, west, east, sightDay, sightInch)) := by simp [k_stick, lt_nle, -Int32.not_le, c_1]
    exact jv_iret 8 X Y rfl dX9_stick_8 () (by rw [hq]; try rfl) (by rw [hq]; try rfl)
theorem c_X9_bridge (E : EE) (l : Launch) (g : Nat → Nat → Nat) (r : Rl) (k : Int32) (v : Int32) : CT E l yX9_bridge cX9_bridge 4 (some .int) { frames := 2, cells := 0, slots := 0, locals := 42 } [.ref (g 0 0), .int k, .int v] (wB [bLR g, tRl E (g 1) r]) (some (.int ((k_bridge k v r).1))) (wB [bLR g, tRl E (g 1) ((k_bridge k v r).2)]) := by
  obtain ⟨inch, day, sights, week, purse, cloth, ruler, stick, span, west, east, sightDay, sightInch⟩ := r
  refine CT.intro (by decide +kernel) (Nat.le_of_ble_eq_true rfl) (fun K X Y => ?_)
  refine jv_iload_n 0 X dX9_bridge_0 1 rfl ?_
  refine jv_fun 1 X (c_X9_isBridge E _ k) ws_X9_107 ⟨Nat.le_of_ble_eq_true rfl, Nat.le_of_ble_eq_true rfl⟩ ⟨rfl, rfl⟩ ⟨Nat.zero_le _, Nat.zero_le _⟩ dX9_bridge_1 rfl [] rfl (Nat.le_of_ble_eq_true rfl) ?_
  refine jv_z_ne 4 X dX9_bridge_4 9 (by decide) (fun c_1 => ?_) (fun c_1 => ?_)
  · obtain ⟨jk, h1jk, h2jk, rfl⟩ := nx_in (a := 0) (b := 3) rfl rfl (by decide) (by decide) c_1
    have hcjk : (nI jk).toNatClampNeg = jk := nI_clamp (by omega)
    refine jv_iload_n 9 X dX9_bridge_9 2 rfl ?_
    refine jv_iconst (v := 1) 10 X dX9_bridge_10 rfl ?_
    refine jv_ldc (v := 99999) 11 X tm_k_X9_91 dX9_bridge_11 ?_
    refine jv_fun 13 X (c_X9_within E _ v 1 99999) ws_X9_75 ⟨Nat.le_of_ble_eq_true rfl, Nat.le_of_ble_eq_true rfl⟩ ⟨rfl, rfl⟩ ⟨Nat.zero_le _, Nat.zero_le _⟩ dX9_bridge_13 rfl [] rfl (Nat.le_of_ble_eq_true rfl) ?_
    refine jv_z_ne 16 X dX9_bridge_16 22 (by decide) (fun c_2 => ?_) (fun c_2 => ?_)
    · refine jv_aload_n 22 X dX9_bridge_22 0 rfl ?_
      refine jv_get (v := .ref (g 1 0)) 23 X gf_X9_10 dX9_bridge_23 0 rfl rfl ?_
      refine jv_get (v := .ref (g 1 6)) 26 X gf_X9_110 dX9_bridge_26 1 rfl rfl ?_
      refine jv_iload_n 29 X dX9_bridge_29 1 rfl ?_
      refine jv_iald (f := span) 30 X dX9_bridge_30 7 rfl (by decide) jk rfl (by omega) ?_
      refine jv_istore_n (lv2 := [(3, .int (span jk)), (0, .ref (g 0 0)), (1, .int (nI jk)), (2, .int v)]) 31 X dX9_bridge_31 (by decide) rfl ?_
      refine jv_aload_n 32 X dX9_bridge_32 1 rfl ?_
      refine jv_get (v := .ref (g 1 0)) 33 X gf_X9_10 dX9_bridge_33 0 rfl rfl ?_
      refine jv_get (v := .ref (g 1 6)) 36 X gf_X9_110 dX9_bridge_36 1 rfl rfl ?_
      refine jv_iload_n 39 X dX9_bridge_39 2 rfl ?_
      refine jv_iload_n 40 X dX9_bridge_40 3 rfl ?_
      refine jv_iast (ws2 := wB [bLR g, bRl E (g 1) inch day sights week purse cloth ruler stick (upd span jk v) west east sightDay sightInch]) (f := span) 41 X dX9_bridge_41 7 rfl (by decide) jk rfl (by omega) rfl ?_
      refine jv_aload_n 42 X dX9_bridge_42 1 rfl ?_
      refine jv_get (v := .ref (g 1 0)) 43 X gf_X9_10 dX9_bridge_43 0 rfl rfl ?_
      refine jv_get (v := .ref (g 1 7)) 46 X gf_X9_113 dX9_bridge_46 1 rfl rfl ?_
      refine jv_iload_n 49 X dX9_bridge_49 2 rfl ?_
      refine jv_iconst (v := 0) 50 X dX9_bridge_50 rfl ?_
      refine jv_iast (ws2 := wB [bLR g, bRl E (g 1) inch day sights week purse cloth ruler stick (upd span jk v) (upd west jk 0) east sightDay sightInch]) (f := west) 51 X dX9_bridge_51 8 rfl (by decide) jk rfl (by omega) rfl ?_
      refine jv_aload_n 52 X dX9_bridge_52 1 rfl ?_
      refine jv_get (v := .ref (g 1 0)) 53 X gf_X9_10 dX9_bridge_53 0 rfl rfl ?_
      refine jv_get (v := .ref (g 1 8)) 56 X gf_X9_116 dX9_bridge_56 1 rfl rfl ?_
      refine jv_iload_n 59 X dX9_bridge_59 2 rfl ?_
      refine jv_iconst (v := 0) 60 X dX9_bridge_60 rfl ?_
      refine jv_iast (ws2 := wB [bLR g, bRl E (g 1) inch day sights week purse cloth ruler stick (upd span jk v) (upd west jk 0) (upd east jk 0) sightDay sightInch]) (f := east) 61 X dX9_bridge_61 9 rfl (by decide) jk rfl (by omega) rfl ?_
      refine jv_iload_n 62 X dX9_bridge_62 0 rfl ?_
      have hq : k_bridge (nI jk) v (inch, day, sights, week, purse, cloth, ruler, stick, span, west, east, sightDay, sightInch) = ((span jk), (inch, day, sights, week, purse, cloth, ruler, stick, (upd span jk v), (upd west jk 0), (upd east jk 0), sightDay, sightInch)) := by simp [k_bridge, lt_nle, -Int32.not_le, c_1, hcjk, c_2]
      exact jv_iret 63 X Y rfl dX9_bridge_63 () (by rw [hq]; try rfl) (by rw [hq]; try rfl)
    · refine jv_bipush (v := (-2)) 19 X dX9_bridge_19 (by decide) ?_
      have hq : k_bridge (nI jk) v (inch, day, sights, week, purse, cloth, ruler, stick, span, west, east, sightDay, sightInch) = ((-2), (inch, day, sights, week, purse, cloth, ruler, stick, span, west, east, sightDay, sightInch)) := by simp [k_bridge, lt_nle, -Int32.not_le, c_1, hcjk, c_2]
      exact jv_iret 21 X Y rfl dX9_bridge_21 () (by rw [hq]; try rfl) (by rw [hq]; try rfl)
  · refine jv_iconst (v := (-1)) 7 X dX9_bridge_7 rfl ?_
    have hq : k_bridge k v (inch, day, sights, week, purse, cloth, ruler, stick, span, west, east, sightDay, sightInch) = ((-1), (inch, day, sights, week, purse, cloth, ruler, stick, span, west, east, sightDay, sightInch)) := by simp [k_bridge, lt_nle, -Int32.not_le, c_1]
    exact jv_iret 8 X Y rfl dX9_bridge_8 () (by rw [hq]; try rfl) (by rw [hq]; try rfl)
theorem c_X9_seen (E : EE) (l : Launch) (g : Nat → Nat → Nat) (r : Rl) (d : Int32) (v : Int32) (hsk : r.2.2.1 = nI r.2.2.1.toNatClampNeg ∧ r.2.2.1.toNatClampNeg ≤ 8) : CT E l yX9_seen cX9_seen 3 (some .int) { frames := 1, cells := 0, slots := 0, locals := 22 } [.ref (g 0 0), .int d, .int v] (wB [bLR g, tRl E (g 1) r]) (some (.int ((k_seen d v r).1))) (wB [bLR g, tRl E (g 1) ((k_seen d v r).2)]) := by
  obtain ⟨inch, day, sights, week, purse, cloth, ruler, stick, span, west, east, sightDay, sightInch⟩ := r
  dsimp only at hsk
  refine CT.intro (by decide +kernel) (Nat.le_of_ble_eq_true rfl) (fun K X Y => ?_)
  refine jv_iload_n 0 X dX9_seen_0 1 rfl ?_
  refine jv_iconst (v := 0) 1 X dX9_seen_1 rfl ?_
  refine jv_bipush (v := 60) 2 X dX9_seen_2 (by decide) ?_
  refine jv_fun 4 X (c_X9_within E _ d 0 60) ws_X9_75 ⟨Nat.le_of_ble_eq_true rfl, Nat.le_of_ble_eq_true rfl⟩ ⟨rfl, rfl⟩ ⟨Nat.zero_le _, Nat.zero_le _⟩ dX9_seen_4 rfl [] rfl (Nat.le_of_ble_eq_true rfl) ?_
  refine jv_z_eq 7 X dX9_seen_7 21 (by decide) (fun c_1 => ?_) (fun c_1 => ?_)
  · refine jv_bipush (v := (-2)) 21 X dX9_seen_21 (by decide) ?_
    have hq : k_seen d v (inch, day, sights, week, purse, cloth, ruler, stick, span, west, east, sightDay, sightInch) = ((-2), (inch, day, sights, week, purse, cloth, ruler, stick, span, west, east, sightDay, sightInch)) := by simp [k_seen, lt_nle, -Int32.not_le, c_1]
    exact jv_iret 23 X Y rfl dX9_seen_23 () (by rw [hq]; try rfl) (by rw [hq]; try rfl)
  · refine jv_iload_n 10 X dX9_seen_10 2 rfl ?_
    refine jv_iconst (v := 1) 11 X dX9_seen_11 rfl ?_
    refine jv_sipush (v := 200) 12 X dX9_seen_12 (by decide) ?_
    refine jv_fun 15 X (c_X9_within E _ v 1 200) ws_X9_75 ⟨Nat.le_of_ble_eq_true rfl, Nat.le_of_ble_eq_true rfl⟩ ⟨rfl, rfl⟩ ⟨Nat.zero_le _, Nat.zero_le _⟩ dX9_seen_15 rfl [] rfl (Nat.le_of_ble_eq_true rfl) ?_
    refine jv_z_ne 18 X dX9_seen_18 24 (by decide) (fun c_2 => ?_) (fun c_2 => ?_)
    · refine jv_aload_n 24 X dX9_seen_24 0 rfl ?_
      refine jv_get (v := .ref (g 1 0)) 25 X gf_X9_10 dX9_seen_25 0 rfl rfl ?_
      refine jv_get (v := .int sights) 28 X gf_X9_219 dX9_seen_28 1 rfl rfl ?_
      refine jv_norm (x2 := nI sights.toNatClampNeg) hsk.1 ?_
      refine jv_bipush (v := 8) 31 X dX9_seen_31 (by decide) ?_
      refine jn_icmp_lt 33 X dX9_seen_33 39 (by decide) (fun c_3 => ?_) (fun c_3 => ?_)
      · have n_3 : ¬ 8 ≤ sights.toNatClampNeg := fun zq => c_3 ((nx_le (a := 8) (b := sights.toNatClampNeg) rfl rfl (by omega) (by omega)).mpr zq)
        refine jv_aload_n 39 X dX9_seen_39 0 rfl ?_
        refine jv_get (v := .ref (g 1 0)) 40 X gf_X9_10 dX9_seen_40 0 rfl rfl ?_
        refine jv_get (v := .ref (g 1 9)) 43 X gf_X9_222 dX9_seen_43 1 rfl rfl ?_
        refine jv_aload_n 46 X dX9_seen_46 0 rfl ?_
        refine jv_get (v := .ref (g 1 0)) 47 X gf_X9_10 dX9_seen_47 0 rfl rfl ?_
        refine jv_get (v := .int sights) 50 X gf_X9_219 dX9_seen_50 1 rfl rfl ?_
        refine jv_norm (x2 := nI sights.toNatClampNeg) hsk.1 ?_
        refine jv_iload_n 53 X dX9_seen_53 1 rfl ?_
        refine jv_iast (ws2 := wB [bLR g, bRl E (g 1) inch day sights week purse cloth ruler stick span west east (upd sightDay sights.toNatClampNeg d) sightInch]) (f := sightDay) 54 X dX9_seen_54 10 rfl (by decide) sights.toNatClampNeg rfl (by omega) rfl ?_
        refine jv_aload_n 55 X dX9_seen_55 0 rfl ?_
        refine jv_get (v := .ref (g 1 0)) 56 X gf_X9_10 dX9_seen_56 0 rfl rfl ?_
        refine jv_get (v := .ref (g 1 10)) 59 X gf_X9_225 dX9_seen_59 1 rfl rfl ?_
        refine jv_aload_n 62 X dX9_seen_62 0 rfl ?_
        refine jv_get (v := .ref (g 1 0)) 63 X gf_X9_10 dX9_seen_63 0 rfl rfl ?_
        refine jv_get (v := .int sights) 66 X gf_X9_219 dX9_seen_66 1 rfl rfl ?_
        refine jv_norm (x2 := nI sights.toNatClampNeg) hsk.1 ?_
        refine jv_iload_n 69 X dX9_seen_69 2 rfl ?_
        refine jv_iast (ws2 := wB [bLR g, bRl E (g 1) inch day sights week purse cloth ruler stick span west east (upd sightDay sights.toNatClampNeg d) (upd sightInch sights.toNatClampNeg v)]) (f := sightInch) 70 X dX9_seen_70 11 rfl (by decide) sights.toNatClampNeg rfl (by omega) rfl ?_
        refine jv_aload_n 71 X dX9_seen_71 0 rfl ?_
        refine jv_get (v := .ref (g 1 0)) 72 X gf_X9_10 dX9_seen_72 0 rfl rfl ?_
        refine jv_dup 75 X dX9_seen_75 rfl ?_
        refine jv_get (v := .int sights) 76 X gf_X9_219 dX9_seen_76 1 rfl rfl ?_
        refine jv_norm (x2 := nI sights.toNatClampNeg) hsk.1 ?_
        refine jv_iconst (v := 1) 79 X dX9_seen_79 rfl ?_
        refine jv_iadd 80 X dX9_seen_80 ?_
        refine jv_norm (x2 := nI (sights.toNatClampNeg + 1)) (nx_add2 (a := sights.toNatClampNeg) (b := 1) rfl rfl (by omega)) ?_
        refine jv_puti (ws2 := wB [bLR g, bRl E (g 1) inch day (nI (sights.toNatClampNeg + 1)) week purse cloth ruler stick span west east (upd sightDay sights.toNatClampNeg d) (upd sightInch sights.toNatClampNeg v)]) 81 X gf_X9_219 tyX5_ok nmX5 rfl rfl dX9_seen_81 1 rfl (Nat.le_of_ble_eq_true rfl) rfl ?_
        refine jv_aload_n 84 X dX9_seen_84 0 rfl ?_
        refine jv_get (v := .ref (g 1 0)) 85 X gf_X9_10 dX9_seen_85 0 rfl rfl ?_
        refine jv_get (v := .int (nI (sights.toNatClampNeg + 1))) 88 X gf_X9_219 dX9_seen_88 1 rfl rfl ?_
        have hq : k_seen d v (inch, day, sights, week, purse, cloth, ruler, stick, span, west, east, sightDay, sightInch) = ((nI (sights.toNatClampNeg + 1)), (inch, day, (nI (sights.toNatClampNeg + 1)), week, purse, cloth, ruler, stick, span, west, east, (upd sightDay sights.toNatClampNeg d), (upd sightInch sights.toNatClampNeg v))) := by simp [k_seen, lt_nle, -Int32.not_le, c_1, c_2, c_3, n_3]
        exact jv_iret 91 X Y rfl dX9_seen_91 () (by rw [hq]; try rfl) (by rw [hq]; try rfl)
      · have n_3 : 8 ≤ sights.toNatClampNeg := (nx_le (a := 8) (b := sights.toNatClampNeg) rfl rfl (by omega) (by omega)).mp c_3
        refine jv_bipush (v := (-4)) 36 X dX9_seen_36 (by decide) ?_
        have hq : k_seen d v (inch, day, sights, week, purse, cloth, ruler, stick, span, west, east, sightDay, sightInch) = ((-4), (inch, day, sights, week, purse, cloth, ruler, stick, span, west, east, sightDay, sightInch)) := by simp [k_seen, lt_nle, -Int32.not_le, c_1, c_2, c_3, n_3]
        exact jv_iret 38 X Y rfl dX9_seen_38 () (by rw [hq]; try rfl) (by rw [hq]; try rfl)
    · refine jv_bipush (v := (-2)) 21 X dX9_seen_21 (by decide) ?_
      have hq : k_seen d v (inch, day, sights, week, purse, cloth, ruler, stick, span, west, east, sightDay, sightInch) = ((-2), (inch, day, sights, week, purse, cloth, ruler, stick, span, west, east, sightDay, sightInch)) := by simp [k_seen, lt_nle, -Int32.not_le, c_1, c_2]
      exact jv_iret 23 X Y rfl dX9_seen_23 () (by rw [hq]; try rfl) (by rw [hq]; try rfl)
theorem c_X9_forget (E : EE) (l : Launch) (g : Nat → Nat → Nat) (r : Rl) : CT E l yX9_forget cX9_forget 2 (some .int) { frames := 0, cells := 0, slots := 0, locals := 0 } [.ref (g 0 0)] (wB [bLR g, tRl E (g 1) r]) (some (.int ((k_forget r).1))) (wB [bLR g, tRl E (g 1) ((k_forget r).2)]) := by
  obtain ⟨inch, day, sights, week, purse, cloth, ruler, stick, span, west, east, sightDay, sightInch⟩ := r
  refine CT.intro (by decide +kernel) (Nat.le_of_ble_eq_true rfl) (fun K X Y => ?_)
  refine jv_aload_n 0 X dX9_forget_0 0 rfl ?_
  refine jv_get (v := .ref (g 1 0)) 1 X gf_X9_10 dX9_forget_1 0 rfl rfl ?_
  refine jv_get (v := .int sights) 4 X gf_X9_219 dX9_forget_4 1 rfl rfl ?_
  refine jv_istore_n (lv2 := [(1, .int sights), (0, .ref (g 0 0))]) 7 X dX9_forget_7 (by decide) rfl ?_
  refine jv_aload_n 8 X dX9_forget_8 1 rfl ?_
  refine jv_get (v := .ref (g 1 0)) 9 X gf_X9_10 dX9_forget_9 0 rfl rfl ?_
  refine jv_iconst (v := 0) 12 X dX9_forget_12 rfl ?_
  refine jv_puti (ws2 := wB [bLR g, bRl E (g 1) inch day 0 week purse cloth ruler stick span west east sightDay sightInch]) 13 X gf_X9_219 tyX5_ok nmX5 rfl rfl dX9_forget_13 1 rfl (Nat.le_of_ble_eq_true rfl) rfl ?_
  refine jv_iload_n 16 X dX9_forget_16 0 rfl ?_
  have hq : k_forget (inch, day, sights, week, purse, cloth, ruler, stick, span, west, east, sightDay, sightInch) = (sights, (inch, day, 0, week, purse, cloth, ruler, stick, span, west, east, sightDay, sightInch)) := by simp [k_forget, lt_nle, -Int32.not_le]
  exact jv_iret 17 X Y rfl dX9_forget_17 () (by rw [hq]; try rfl) (by rw [hq]; try rfl)
theorem c_X9_say (E : EE) (l : Launch) (g : Nat → Nat → Nat) (sn : Nat) (acts : Int32) (signs : Nat → Int32) (kinds : Nat → Int32) (ones : Nat → Int32) (places : Nat → Int32) (numbers : Nat → Int32) (v : Int32) (hs : sn ≤ 60) : CT E l yX9_say cX9_say 2 (some .int) { frames := 1, cells := 0, slots := 0, locals := 22 } [.ref (g 0 0), .int v] (wB [bLR g, bPd E (g 6) (nI sn) acts signs kinds ones places numbers]) (some (.int (if 33 ≤ v ∧ v ≤ 126 then (if 60 ≤ sn then -4 else nI (sn + 1)) else -2))) (wB [bLR g, bPd E (g 6) (if 33 ≤ v ∧ v ≤ 126 then (if 60 ≤ sn then nI sn else nI (sn + 1)) else nI sn) acts (if 33 ≤ v ∧ v ≤ 126 then (if 60 ≤ sn then signs else upd signs sn v) else signs) kinds ones places numbers]) := by
  refine CT.intro (by decide +kernel) (Nat.le_of_ble_eq_true rfl) (fun K X Y => ?_)
  refine jv_iload_n 0 X dX9_say_0 1 rfl ?_
  refine jv_bipush (v := 33) 1 X dX9_say_1 (by decide) ?_
  refine jv_bipush (v := 126) 3 X dX9_say_3 (by decide) ?_
  refine jv_fun 5 X (c_X9_within E _ v 33 126) ws_X9_75 ⟨Nat.le_of_ble_eq_true rfl, Nat.le_of_ble_eq_true rfl⟩ ⟨rfl, rfl⟩ ⟨Nat.zero_le _, Nat.zero_le _⟩ dX9_say_5 rfl [] rfl (Nat.le_of_ble_eq_true rfl) ?_
  refine jv_z_ne 8 X dX9_say_8 14 (by decide) (fun c_1 => ?_) (fun c_1 => ?_)
  · refine jv_aload_n 14 X dX9_say_14 0 rfl ?_
    refine jv_get (v := .ref (g 6 0)) 15 X gf_X9_29 dX9_say_15 0 rfl rfl ?_
    refine jv_iload_n 18 X dX9_say_18 1 rfl ?_
    refine jv_callB1 (wl2 := [bLR g, bPd E (g 6) (if 60 ≤ sn then nI sn else nI (sn + 1)) acts (if 60 ≤ sn then signs else upd signs sn v) kinds ones places numbers]) 19 X (c_X4_write E _ (g 6) sn acts signs kinds ones places numbers v (by omega)) wv_X9_119 ⟨Nat.le_of_ble_eq_true rfl, Nat.le_of_ble_eq_true rfl⟩ ⟨rfl, rfl⟩ ⟨Nat.zero_le _, Nat.zero_le _⟩ dX9_say_19 rfl [] rfl (Nat.le_of_ble_eq_true rfl) 1 rfl [(g 6 0), (g 6 1), (g 6 2), (g 6 3), (g 6 4), (g 6 5)] rfl rfl rfl rfl rfl ?_
    refine jv_z_eq 22 X dX9_say_22 35 (by decide) (fun c_2 => ?_) (fun c_2 => ?_)
    · refine jv_bipush (v := (-4)) 35 X dX9_say_35 (by decide) ?_
      exact jv_iret 37 X Y rfl dX9_say_37 () (by simp [lt_nle, -Int32.not_le, c_1, c_2]) (by simp [lt_nle, -Int32.not_le, c_1, c_2])
    · refine jv_aload_n 25 X dX9_say_25 0 rfl ?_
      refine jv_get (v := .ref (g 6 0)) 26 X gf_X9_29 dX9_say_26 0 rfl rfl ?_
      refine jv_get (v := .int (if 60 ≤ sn then nI sn else nI (sn + 1))) 29 X gf_X9_122 dX9_say_29 1 rfl rfl ?_
      refine jv_goto 32 X dX9_say_32 37 (by decide) ?_
      exact jv_iret 37 X Y rfl dX9_say_37 () (by simp [lt_nle, -Int32.not_le, c_1, c_2]) (by simp [lt_nle, -Int32.not_le, c_1, c_2])
  · refine jv_bipush (v := (-2)) 11 X dX9_say_11 (by decide) ?_
    exact jv_iret 13 X Y rfl dX9_say_13 () (by simp [lt_nle, -Int32.not_le, c_1]) (by simp [lt_nle, -Int32.not_le, c_1])
theorem c_X9_wipe (E : EE) (l : Launch) (g : Nat → Nat → Nat) (count : Int32) (acts : Int32) (signs : Nat → Int32) (kinds : Nat → Int32) (ones : Nat → Int32) (places : Nat → Int32) (numbers : Nat → Int32) : CT E l yX9_wipe cX9_wipe 1 (some .int) { frames := 1, cells := 0, slots := 0, locals := 21 } [.ref (g 0 0)] (wB [bLR g, bPd E (g 6) count acts signs kinds ones places numbers]) (some (.int count)) (wB [bLR g, bPd E (g 6) 0 acts signs kinds ones places numbers]) := by
  refine CT.intro (by decide +kernel) (Nat.le_of_ble_eq_true rfl) (fun K X Y => ?_)
  refine jv_aload_n 0 X dX9_wipe_0 0 rfl ?_
  refine jv_get (v := .ref (g 6 0)) 1 X gf_X9_29 dX9_wipe_1 0 rfl rfl ?_
  refine jv_callB1 (wl2 := [bLR g, bPd E (g 6) 0 acts signs kinds ones places numbers]) 4 X (c_X4_clear E _ (g 6) count acts signs kinds ones places numbers) wv_X9_125 ⟨Nat.le_of_ble_eq_true rfl, Nat.le_of_ble_eq_true rfl⟩ ⟨rfl, rfl⟩ ⟨Nat.zero_le _, Nat.zero_le _⟩ dX9_wipe_4 rfl [] rfl (Nat.le_of_ble_eq_true rfl) 1 rfl [(g 6 0), (g 6 1), (g 6 2), (g 6 3), (g 6 4), (g 6 5)] rfl rfl rfl rfl rfl ?_
  exact jv_iret 7 X Y rfl dX9_wipe_7 () rfl rfl
theorem c_X9_fault (E : EE) (l : Launch) (g : Nat → Nat → Nat) (sn : Nat) (acts : Int32) (signs : Nat → Int32) (kinds : Nat → Int32) (ones : Nat → Int32) (places : Nat → Int32) (numbers : Nat → Int32) (hs : sn ≤ 60) : CG E l yX9_fault cX9_fault 1 (some .int) { frames := 4, cells := 0, slots := 0, locals := 88 } [.ref (g 0 0)] (wB [bLR g, bPd E (g 6) (nI sn) acts signs kinds ones places numbers]) noB (fun _ : (Int32 × (Nat → Int32) × (Nat → Int32) × (Nat → Int32) × (Nat → Int32)) => some (.int ((rdC signs sn kinds ones places numbers).1))) (fun u : (Int32 × (Nat → Int32) × (Nat → Int32) × (Nat → Int32) × (Nat → Int32)) => wB [bLR g, bPd E (g 6) (nI sn) u.1 signs u.2.1 u.2.2.1 u.2.2.2.1 u.2.2.2.2]) := by
  refine CG.intro (by decide) (Nat.le_of_ble_eq_true rfl) (fun K X Y _ _ _ => ?_)
  refine jv_aload_n 0 X dX9_fault_0 0 rfl ?_
  refine jv_get (v := .ref (g 6 0)) 1 X gf_X9_29 dX9_fault_1 0 rfl rfl ?_
  refine jv_callB1 (wl2 := [bLR g, bPd E (g 6) (nI sn) (nI (rdC signs sn kinds ones places numbers).2.2.1) signs ((rdC signs sn kinds ones places numbers).2.2.2.1) ((rdC signs sn kinds ones places numbers).2.2.2.2.1) ((rdC signs sn kinds ones places numbers).2.2.2.2.2.1) ((rdC signs sn kinds ones places numbers).2.2.2.2.2.2)]) 4 X (c_X4_read E _ (g 6) sn acts signs kinds ones places numbers (by omega)) wv_X9_129 ⟨Nat.le_of_ble_eq_true rfl, Nat.le_of_ble_eq_true rfl⟩ ⟨rfl, rfl⟩ ⟨Nat.zero_le _, Nat.zero_le _⟩ dX9_fault_4 rfl [] rfl (Nat.le_of_ble_eq_true rfl) 1 rfl [(g 6 0), (g 6 1), (g 6 2), (g 6 3), (g 6 4), (g 6 5)] rfl rfl rfl rfl rfl ?_
  exact jv_iret 7 X Y rfl dX9_fault_7 ((nI (rdC signs sn kinds ones places numbers).2.2.1), (rdC signs sn kinds ones places numbers).2.2.2.1, (rdC signs sn kinds ones places numbers).2.2.2.2.1, (rdC signs sn kinds ones places numbers).2.2.2.2.2.1, (rdC signs sn kinds ones places numbers).2.2.2.2.2.2) rfl rfl
theorem c_X9_toldOfAll (E : EE) (l : Launch) (g : Nat → Nat → Nat) (r : Rl) (sn : Nat) (acts : Int32) (signs : Nat → Int32) (kinds : Nat → Int32) (ones : Nat → Int32) (places : Nat → Int32) (numbers : Nat → Int32) (what : Nat) (hw : what < 4) : CT E l yX9_toldOfAll cX9_toldOfAll 2 (some .int) { frames := 0, cells := 0, slots := 0, locals := 0 } [.ref (g 0 0), .int (nI what)] (wB [bLR g, tRl E (g 1) r, bPd E (g 6) (nI sn) acts signs kinds ones places numbers]) (some (.int (if what = 0 then nI sn else if what = 1 then r.1 else if what = 2 then r.2.1 else r.2.2.1))) (wB [bLR g, tRl E (g 1) r, bPd E (g 6) (nI sn) acts signs kinds ones places numbers]) := by
  refine CT.intro (by decide +kernel) (Nat.le_of_ble_eq_true rfl) (fun K X Y => ?_)
  rcases (show what = 0 ∨ what = 1 ∨ what = 2 ∨ what = 3 by omega) with rfl | rfl | rfl | rfl
  · refine jv_iload_n 0 X dX9_toldOfAll_0 1 rfl ?_
    refine jv_tabIn 1 X dX9_toldOfAll_1 28 (by decide) (by decide) rfl (by decide) ?_
    refine jv_aload_n 28 X dX9_toldOfAll_28 0 rfl ?_
    refine jv_get (v := .ref (g 6 0)) 29 X gf_X9_29 dX9_toldOfAll_29 0 rfl rfl ?_
    refine jv_get (v := .int (nI sn)) 32 X gf_X9_122 dX9_toldOfAll_32 12 rfl rfl ?_
    exact jv_iret 35 X Y rfl dX9_toldOfAll_35 () (by simp [lt_nle, -Int32.not_le]) rfl
  · refine jv_iload_n 0 X dX9_toldOfAll_0 1 rfl ?_
    refine jv_tabIn 1 X dX9_toldOfAll_1 36 (by decide) (by decide) rfl (by decide) ?_
    refine jv_aload_n 36 X dX9_toldOfAll_36 0 rfl ?_
    refine jv_get (v := .ref (g 1 0)) 37 X gf_X9_10 dX9_toldOfAll_37 0 rfl rfl ?_
    refine jv_get (v := .int r.1) 40 X gf_X9_79 dX9_toldOfAll_40 1 rfl rfl ?_
    exact jv_iret 43 X Y rfl dX9_toldOfAll_43 () (by simp [lt_nle, -Int32.not_le]) rfl
  · refine jv_iload_n 0 X dX9_toldOfAll_0 1 rfl ?_
    refine jv_tabIn 1 X dX9_toldOfAll_1 44 (by decide) (by decide) rfl (by decide) ?_
    refine jv_aload_n 44 X dX9_toldOfAll_44 0 rfl ?_
    refine jv_get (v := .ref (g 1 0)) 45 X gf_X9_10 dX9_toldOfAll_45 0 rfl rfl ?_
    refine jv_get (v := .int r.2.1) 48 X gf_X9_164 dX9_toldOfAll_48 1 rfl rfl ?_
    exact jv_iret 51 X Y rfl dX9_toldOfAll_51 () (by simp [lt_nle, -Int32.not_le]) rfl
  · refine jv_iload_n 0 X dX9_toldOfAll_0 1 rfl ?_
    refine jv_tabOut 1 X dX9_toldOfAll_1 52 (by decide) (by decide) ?_
    refine jv_aload_n 52 X dX9_toldOfAll_52 0 rfl ?_
    refine jv_get (v := .ref (g 1 0)) 53 X gf_X9_10 dX9_toldOfAll_53 0 rfl rfl ?_
    refine jv_get (v := .int r.2.2.1) 56 X gf_X9_219 dX9_toldOfAll_56 1 rfl rfl ?_
    exact jv_iret 59 X Y rfl dX9_toldOfAll_59 () (by simp [lt_nle, -Int32.not_le]) rfl
theorem c_X9_told (E : EE) (l : Launch) (g : Nat → Nat → Nat) (r : Rl) (sn : Nat) (acts : Int32) (signs : Nat → Int32) (kinds : Nat → Int32) (ones : Nat → Int32) (places : Nat → Int32) (numbers : Nat → Int32) (what : Int32) : CT E l yX9_told cX9_told 2 (some .int) { frames := 2, cells := 0, slots := 0, locals := 43 } [.ref (g 0 0), .int what] (wB [bLR g, tRl E (g 1) r, bPd E (g 6) (nI sn) acts signs kinds ones places numbers]) (some (.int (k_told what sn r))) (wB [bLR g, tRl E (g 1) r, bPd E (g 6) (nI sn) acts signs kinds ones places numbers]) := by
  refine CT.intro (by decide +kernel) (Nat.le_of_ble_eq_true rfl) (fun K X Y => ?_)
  refine jv_iload_n 0 X dX9_told_0 1 rfl ?_
  refine jv_iconst (v := 0) 1 X dX9_told_1 rfl ?_
  refine jv_iconst (v := 3) 2 X dX9_told_2 rfl ?_
  refine jv_fun 3 X (c_X9_within E _ what 0 3) ws_X9_75 ⟨Nat.le_of_ble_eq_true rfl, Nat.le_of_ble_eq_true rfl⟩ ⟨rfl, rfl⟩ ⟨Nat.zero_le _, Nat.zero_le _⟩ dX9_told_3 rfl [] rfl (Nat.le_of_ble_eq_true rfl) ?_
  refine jv_z_eq 6 X dX9_told_6 15 (by decide) (fun c_1 => ?_) (fun c_1 => ?_)
  · refine jv_iload_n 15 X dX9_told_15 1 rfl ?_
    refine jv_bipush (v := 10) 16 X dX9_told_16 (by decide) ?_
    refine jv_bipush (v := 16) 18 X dX9_told_18 (by decide) ?_
    refine jv_fun 20 X (c_X9_within E _ what 10 16) ws_X9_75 ⟨Nat.le_of_ble_eq_true rfl, Nat.le_of_ble_eq_true rfl⟩ ⟨rfl, rfl⟩ ⟨Nat.zero_le _, Nat.zero_le _⟩ dX9_told_20 rfl [] rfl (Nat.le_of_ble_eq_true rfl) ?_
    refine jv_z_eq 23 X dX9_told_23 42 (by decide) (fun c_2 => ?_) (fun c_2 => ?_)
    · refine jv_iload_n 42 X dX9_told_42 1 rfl ?_
      refine jv_bipush (v := 20) 43 X dX9_told_43 (by decide) ?_
      refine jv_bipush (v := 27) 45 X dX9_told_45 (by decide) ?_
      refine jv_fun 47 X (c_X9_within E _ what 20 27) ws_X9_75 ⟨Nat.le_of_ble_eq_true rfl, Nat.le_of_ble_eq_true rfl⟩ ⟨rfl, rfl⟩ ⟨Nat.zero_le _, Nat.zero_le _⟩ dX9_told_47 rfl [] rfl (Nat.le_of_ble_eq_true rfl) ?_
      refine jv_z_eq 50 X dX9_told_50 66 (by decide) (fun c_3 => ?_) (fun c_3 => ?_)
      · refine jv_iload_n 66 X dX9_told_66 1 rfl ?_
        refine jv_bipush (v := 40) 67 X dX9_told_67 (by decide) ?_
        refine jv_bipush (v := 99) 69 X dX9_told_69 (by decide) ?_
        refine jv_fun 71 X (c_X9_within E _ what 40 99) ws_X9_75 ⟨Nat.le_of_ble_eq_true rfl, Nat.le_of_ble_eq_true rfl⟩ ⟨rfl, rfl⟩ ⟨Nat.zero_le _, Nat.zero_le _⟩ dX9_told_71 rfl [] rfl (Nat.le_of_ble_eq_true rfl) ?_
        refine jv_z_eq 74 X dX9_told_74 96 (by decide) (fun c_4 => ?_) (fun c_4 => ?_)
        · refine jv_iload_n 96 X dX9_told_96 1 rfl ?_
          refine jv_bipush (v := 100) 97 X dX9_told_97 (by decide) ?_
          refine jv_sipush (v := 139) 99 X dX9_told_99 (by decide) ?_
          refine jv_fun 102 X (c_X9_within E _ what 100 139) ws_X9_75 ⟨Nat.le_of_ble_eq_true rfl, Nat.le_of_ble_eq_true rfl⟩ ⟨rfl, rfl⟩ ⟨Nat.zero_le _, Nat.zero_le _⟩ dX9_told_102 rfl [] rfl (Nat.le_of_ble_eq_true rfl) ?_
          refine jv_z_eq 105 X dX9_told_105 127 (by decide) (fun c_5 => ?_) (fun c_5 => ?_)
          · refine jv_bipush (v := (-2)) 127 X dX9_told_127 (by decide) ?_
            exact jv_iret 129 X Y rfl dX9_told_129 () (by simp [k_told, lt_nle, -Int32.not_le, c_1, c_2, c_3, c_4, c_5]) rfl
          · obtain ⟨jwhat, h1jwhat, h2jwhat, rfl⟩ := nx_in (a := 100) (b := 139) rfl rfl (by decide) (by decide) c_5
            have hcjwhat : (nI jwhat).toNatClampNeg = jwhat := nI_clamp (by omega)
            refine jv_aload_n 108 X dX9_told_108 0 rfl ?_
            refine jv_get (v := .ref (g 1 0)) 109 X gf_X9_10 dX9_told_109 0 rfl rfl ?_
            refine jv_iload_n 112 X dX9_told_112 1 rfl ?_
            refine jv_bipush (v := 100) 113 X dX9_told_113 (by decide) ?_
            refine jv_isub 115 X dX9_told_115 ?_
            refine jv_norm (x2 := nI (jwhat - 100)) (nx_sub2 (a := jwhat) (b := 100) rfl rfl (by omega)) ?_
            refine jv_bipush (v := 10) 116 X dX9_told_116 (by decide) ?_
            refine jv_idiv 118 X dX9_told_118 (by decide) ?_
            refine jv_norm (x2 := nI ((jwhat - 100) / 10)) (nx_div (a := (jwhat - 100)) (b := 10) rfl rfl (by omega) (by omega) (by omega)) ?_
            refine jv_iload_n 119 X dX9_told_119 1 rfl ?_
            refine jv_bipush (v := 10) 120 X dX9_told_120 (by decide) ?_
            refine jv_irem 122 X dX9_told_122 (by decide) ?_
            refine jv_norm (x2 := nI (jwhat % 10)) (nx_rem (a := jwhat) (b := 10) rfl rfl (by omega) (by omega) (by omega)) ?_
            refine jv_callB1 (wl2 := [bLR g, tRl E (g 1) r, bPd E (g 6) (nI sn) acts signs kinds ones places numbers]) 123 X (c_X5_ofBridge E _ (g 1) r ((jwhat - 100) / 10) (jwhat % 10) (by omega) (by omega)) wv_X9_291 ⟨Nat.le_of_ble_eq_true rfl, Nat.le_of_ble_eq_true rfl⟩ ⟨rfl, rfl⟩ ⟨Nat.zero_le _, Nat.zero_le _⟩ dX9_told_123 rfl [] rfl (Nat.le_of_ble_eq_true rfl) 1 rfl [(g 1 0), (g 1 1), (g 1 2), (g 1 3), (g 1 4), (g 1 5), (g 1 6), (g 1 7), (g 1 8), (g 1 9), (g 1 10)] rfl rfl rfl rfl rfl ?_
            exact jv_iret 126 X Y rfl dX9_told_126 () (by simp [k_told, lt_nle, -Int32.not_le, c_1, c_2, c_3, c_4, c_5, hcjwhat]) rfl
        · obtain ⟨jwhat, h1jwhat, h2jwhat, rfl⟩ := nx_in (a := 40) (b := 99) rfl rfl (by decide) (by decide) c_4
          have hcjwhat : (nI jwhat).toNatClampNeg = jwhat := nI_clamp (by omega)
          refine jv_aload_n 77 X dX9_told_77 0 rfl ?_
          refine jv_get (v := .ref (g 1 0)) 78 X gf_X9_10 dX9_told_78 0 rfl rfl ?_
          refine jv_iload_n 81 X dX9_told_81 1 rfl ?_
          refine jv_bipush (v := 40) 82 X dX9_told_82 (by decide) ?_
          refine jv_isub 84 X dX9_told_84 ?_
          refine jv_norm (x2 := nI (jwhat - 40)) (nx_sub2 (a := jwhat) (b := 40) rfl rfl (by omega)) ?_
          refine jv_bipush (v := 10) 85 X dX9_told_85 (by decide) ?_
          refine jv_idiv 87 X dX9_told_87 (by decide) ?_
          refine jv_norm (x2 := nI ((jwhat - 40) / 10)) (nx_div (a := (jwhat - 40)) (b := 10) rfl rfl (by omega) (by omega) (by omega)) ?_
          refine jv_iload_n 88 X dX9_told_88 1 rfl ?_
          refine jv_bipush (v := 10) 89 X dX9_told_89 (by decide) ?_
          refine jv_irem 91 X dX9_told_91 (by decide) ?_
          refine jv_norm (x2 := nI (jwhat % 10)) (nx_rem (a := jwhat) (b := 10) rfl rfl (by omega) (by omega) (by omega)) ?_
          refine jv_callB1 (wl2 := [bLR g, tRl E (g 1) r, bPd E (g 6) (nI sn) acts signs kinds ones places numbers]) 92 X (c_X5_ofOne E _ (g 1) r ((jwhat - 40) / 10) (jwhat % 10) (by omega) (by omega)) wv_X9_156 ⟨Nat.le_of_ble_eq_true rfl, Nat.le_of_ble_eq_true rfl⟩ ⟨rfl, rfl⟩ ⟨Nat.zero_le _, Nat.zero_le _⟩ dX9_told_92 rfl [] rfl (Nat.le_of_ble_eq_true rfl) 1 rfl [(g 1 0), (g 1 1), (g 1 2), (g 1 3), (g 1 4), (g 1 5), (g 1 6), (g 1 7), (g 1 8), (g 1 9), (g 1 10)] rfl rfl rfl rfl rfl ?_
          exact jv_iret 95 X Y rfl dX9_told_95 () (by simp [k_told, lt_nle, -Int32.not_le, c_1, c_2, c_3, c_4, hcjwhat]) rfl
      · obtain ⟨jwhat, h1jwhat, h2jwhat, rfl⟩ := nx_in (a := 20) (b := 27) rfl rfl (by decide) (by decide) c_3
        have hcjwhat : (nI jwhat).toNatClampNeg = jwhat := nI_clamp (by omega)
        refine jv_aload_n 53 X dX9_told_53 0 rfl ?_
        refine jv_get (v := .ref (g 1 0)) 54 X gf_X9_10 dX9_told_54 0 rfl rfl ?_
        refine jv_get (v := .ref (g 1 5)) 57 X gf_X9_104 dX9_told_57 1 rfl rfl ?_
        refine jv_iload_n 60 X dX9_told_60 1 rfl ?_
        refine jv_bipush (v := 20) 61 X dX9_told_61 (by decide) ?_
        refine jv_isub 63 X dX9_told_63 ?_
        refine jv_norm (x2 := nI (jwhat - 20)) (nx_sub2 (a := jwhat) (b := 20) rfl rfl (by omega)) ?_
        refine jv_iald (f := r.2.2.2.2.2.2.2.1) 64 X dX9_told_64 6 rfl (by decide) (jwhat - 20) rfl (by omega) ?_
        exact jv_iret 65 X Y rfl dX9_told_65 () (by simp [k_told, lt_nle, -Int32.not_le, c_1, c_2, c_3, hcjwhat]) rfl
    · obtain ⟨jwhat, h1jwhat, h2jwhat, rfl⟩ := nx_in (a := 10) (b := 16) rfl rfl (by decide) (by decide) c_2
      have hcjwhat : (nI jwhat).toNatClampNeg = jwhat := nI_clamp (by omega)
      refine jv_aload_n 26 X dX9_told_26 0 rfl ?_
      refine jv_get (v := .ref (g 1 0)) 27 X gf_X9_10 dX9_told_27 0 rfl rfl ?_
      refine jv_get (v := .ref (g 1 1)) 30 X gf_X9_83 dX9_told_30 1 rfl rfl ?_
      refine jv_iload_n 33 X dX9_told_33 1 rfl ?_
      refine jv_bipush (v := 10) 34 X dX9_told_34 (by decide) ?_
      refine jv_isub 36 X dX9_told_36 ?_
      refine jv_norm (x2 := nI (jwhat - 10)) (nx_sub2 (a := jwhat) (b := 10) rfl rfl (by omega)) ?_
      refine jv_iald (f := r.2.2.2.1) 37 X dX9_told_37 2 rfl (by decide) (jwhat - 10) rfl (by omega) ?_
      refine jv_bipush (v := 9) 38 X dX9_told_38 (by decide) ?_
      refine jv_iadd 40 X dX9_told_40 ?_
      exact jv_iret 41 X Y rfl dX9_told_41 () (by simp [k_told, lt_nle, -Int32.not_le, c_1, c_2, hcjwhat]) rfl
  · obtain ⟨jwhat, h1jwhat, h2jwhat, rfl⟩ := nx_in (a := 0) (b := 3) rfl rfl (by decide) (by decide) c_1
    have hcjwhat : (nI jwhat).toNatClampNeg = jwhat := nI_clamp (by omega)
    refine jv_aload_n 9 X dX9_told_9 0 rfl ?_
    refine jv_iload_n 10 X dX9_told_10 1 rfl ?_
    refine jv_callW (w1 := wB [bLR g, tRl E (g 1) r, bPd E (g 6) (nI sn) acts signs kinds ones places numbers]) 11 X (c_X9_toldOfAll E _ g r sn acts signs kinds ones places numbers jwhat (by omega)) wv_X9_288 ⟨Nat.le_of_ble_eq_true rfl, Nat.le_of_ble_eq_true rfl⟩ ⟨rfl, rfl⟩ ⟨Nat.zero_le _, Nat.zero_le _⟩ dX9_told_11 rfl [] rfl (Nat.le_of_ble_eq_true rfl) 0 rfl rfl ?_
    exact jv_iret 14 X Y rfl dX9_told_14 () (by simp [k_told, lt_nle, -Int32.not_le, c_1, hcjwhat]) rfl
theorem c_X9_imageOf (E : EE) (l : Launch) (g : Nat → Nat → Nat) (n : Int32) : CT E l yX9_imageOf cX9_imageOf 2 (some (.object "LentRulers$Image")) { frames := 0, cells := 0, slots := 0, locals := 0 } [.ref (g 0 0), .int n] (bLR g) (some (.ref (if n = 0 then g 2 0 else g 4 0))) (bLR g) := by
  refine CT.intro (by decide +kernel) (Nat.le_of_ble_eq_true rfl) (fun K X Y => ?_)
  refine jv_iload_n 0 X dX9_imageOf_0 1 rfl ?_
  refine jn_if_ne 1 X dX9_imageOf_1 11 (by decide) (fun c_1 => ?_) (fun c_1 => ?_)
  · refine jv_aload_n 11 X dX9_imageOf_11 0 rfl ?_
    refine jv_get (v := .ref (g 4 0)) 12 X gf_X9_23 dX9_imageOf_12 0 rfl rfl ?_
    exact jv_aret 15 X Y rfl dX9_imageOf_15 () (by simp [lt_nle, -Int32.not_le, c_1]) rfl
  · refine jv_aload_n 4 X dX9_imageOf_4 0 rfl ?_
    refine jv_get (v := .ref (g 2 0)) 5 X gf_X9_19 dX9_imageOf_5 0 rfl rfl ?_
    refine jv_goto 8 X dX9_imageOf_8 15 (by decide) ?_
    exact jv_aret 15 X Y rfl dX9_imageOf_15 () (by simp [lt_nle, -Int32.not_le, c_1]) rfl
theorem c_X9_image (E : EE) (l : Launch) (g : Nat → Nat → Nat) (r : Rl) (k0 : Int32) (i0 : Rl) (k1 : Int32) (i1 : Rl) (n : Int32) : CT E l yX9_image cX9_image 3 (some .int) { frames := 2, cells := 0, slots := 0, locals := 61 } [.ref (g 0 0), .int n] (wB [bLR g, tRl E (g 1) r, bIm (g 2 0) (g 3 0) k0, tRl E (g 3) i0, bIm (g 4 0) (g 5 0) k1, tRl E (g 5) i1]) (some (.int (if 0 ≤ n ∧ n ≤ 1 then 1 else -2))) (wB [bLR g, tRl E (g 1) r, bIm (g 2 0) (g 3 0) (if n = 0 then 1 else k0), tRl E (g 3) (if n = 0 then r else i0), bIm (g 4 0) (g 5 0) (if n = 1 then 1 else k1), tRl E (g 5) (if n = 1 then r else i1)]) := by
  refine CT.intro (by decide +kernel) (Nat.le_of_ble_eq_true rfl) (fun K X Y => ?_)
  refine jv_iload_n 0 X dX9_image_0 1 rfl ?_
  refine jv_iconst (v := 0) 1 X dX9_image_1 rfl ?_
  refine jv_iconst (v := 1) 2 X dX9_image_2 rfl ?_
  refine jv_fun 3 X (c_X9_within E _ n 0 1) ws_X9_75 ⟨Nat.le_of_ble_eq_true rfl, Nat.le_of_ble_eq_true rfl⟩ ⟨rfl, rfl⟩ ⟨Nat.zero_le _, Nat.zero_le _⟩ dX9_image_3 rfl [] rfl (Nat.le_of_ble_eq_true rfl) ?_
  refine jv_z_ne 6 X dX9_image_6 12 (by decide) (fun c_1 => ?_) (fun c_1 => ?_)
  · obtain ⟨jn, h1jn, h2jn, rfl⟩ := nx_in (a := 0) (b := 1) rfl rfl (by decide) (by decide) c_1
    have hcjn : (nI jn).toNatClampNeg = jn := nI_clamp (by omega)
    refine jv_aload_n 12 X dX9_image_12 0 rfl ?_
    refine jv_iload_n 13 X dX9_image_13 1 rfl ?_
    refine jv_callB1 (wl2 := [bLR g, tRl E (g 1) r, bIm (g 2 0) (g 3 0) k0, tRl E (g 3) i0, bIm (g 4 0) (g 5 0) k1, tRl E (g 5) i1]) 14 X (c_X9_imageOf E _ g (nI jn)) wv_X9_279 ⟨Nat.le_of_ble_eq_true rfl, Nat.le_of_ble_eq_true rfl⟩ ⟨rfl, rfl⟩ ⟨Nat.zero_le _, Nat.zero_le _⟩ dX9_image_14 rfl [] rfl (Nat.le_of_ble_eq_true rfl) 0 rfl [(g 0 0)] rfl rfl rfl rfl rfl ?_
    rcases (show jn = 0 ∨ jn = 1 by omega) with rfl | rfl
    · refine jv_normr (x2 := (g 2 0)) (if_pos (by decide)) ?_
      refine jv_astore_n (lv2 := [(2, .ref (g 2 0)), (0, .ref (g 0 0)), (1, .int (nI 0))]) 17 X dX9_image_17 (by decide) rfl ?_
      refine jv_aload_n 18 X dX9_image_18 0 rfl ?_
      refine jv_get (v := .ref (g 3 0)) 19 X gf_X9_283 dX9_image_19 12 rfl rfl ?_
      refine jv_aload_n 22 X dX9_image_22 1 rfl ?_
      refine jv_get (v := .ref (g 1 0)) 23 X gf_X9_10 dX9_image_23 0 rfl rfl ?_
      refine jv_callB (wl2 := [bLR g, tRl E (g 1) r, bIm (g 2 0) (g 3 0) k0, tRl E (g 3) r, bIm (g 4 0) (g 5 0) k1, tRl E (g 5) i1]) 26 X (c_X5_become E _ (g 3) i0 (g 1) r) wv_X9_149 ⟨Nat.le_of_ble_eq_true rfl, Nat.le_of_ble_eq_true rfl⟩ ⟨rfl, rfl⟩ ⟨Nat.zero_le _, Nat.zero_le _⟩ dX9_image_26 rfl [] rfl (Nat.le_of_ble_eq_true rfl) [3, 1] rfl rfl [[(g 3 0), (g 3 1), (g 3 2), (g 3 3), (g 3 4), (g 3 5), (g 3 6), (g 3 7), (g 3 8), (g 3 9), (g 3 10)], [(g 1 0), (g 1 1), (g 1 2), (g 1 3), (g 1 4), (g 1 5), (g 1 6), (g 1 7), (g 1 8), (g 1 9), (g 1 10)]] rfl rfl 3 rfl rfl rfl rfl ?_
      refine jv_aload_n 29 X dX9_image_29 0 rfl ?_
      refine jv_iconst (v := 1) 30 X dX9_image_30 rfl ?_
      refine jv_put (ws2 := wB [bLR g, tRl E (g 1) r, bIm (g 2 0) (g 3 0) 1, tRl E (g 3) r, bIm (g 4 0) (g 5 0) k1, tRl E (g 5) i1]) 31 X gf_X9_284 tyX2_ok nmX2 rfl dX9_image_31 12 rfl rfl rfl (Nat.le_of_ble_eq_true rfl) rfl ?_
      refine jv_iconst (v := 1) 34 X dX9_image_34 rfl ?_
      exact jv_iret 35 X Y rfl dX9_image_35 () (by first | rfl | (simp [c_1, nI_0e, nI_1e, nI_01e, nI_10e]; done) | (simp [c_1, nI_0e, nI_1e, nI_01e, nI_10e]; rfl)) (by first | rfl | (simp [c_1, nI_0e, nI_1e, nI_01e, nI_10e]; done) | (simp [c_1, nI_0e, nI_1e, nI_01e, nI_10e]; rfl))
    · refine jv_normr (x2 := (g 4 0)) (if_neg (by decide)) ?_
      refine jv_astore_n (lv2 := [(2, .ref (g 4 0)), (0, .ref (g 0 0)), (1, .int (nI 1))]) 17 X dX9_image_17 (by decide) rfl ?_
      refine jv_aload_n 18 X dX9_image_18 0 rfl ?_
      refine jv_get (v := .ref (g 5 0)) 19 X gf_X9_283 dX9_image_19 24 rfl rfl ?_
      refine jv_aload_n 22 X dX9_image_22 1 rfl ?_
      refine jv_get (v := .ref (g 1 0)) 23 X gf_X9_10 dX9_image_23 0 rfl rfl ?_
      refine jv_callB (wl2 := [bLR g, tRl E (g 1) r, bIm (g 2 0) (g 3 0) k0, tRl E (g 3) i0, bIm (g 4 0) (g 5 0) k1, tRl E (g 5) r]) 26 X (c_X5_become E _ (g 5) i1 (g 1) r) wv_X9_149 ⟨Nat.le_of_ble_eq_true rfl, Nat.le_of_ble_eq_true rfl⟩ ⟨rfl, rfl⟩ ⟨Nat.zero_le _, Nat.zero_le _⟩ dX9_image_26 rfl [] rfl (Nat.le_of_ble_eq_true rfl) [5, 1] rfl rfl [[(g 5 0), (g 5 1), (g 5 2), (g 5 3), (g 5 4), (g 5 5), (g 5 6), (g 5 7), (g 5 8), (g 5 9), (g 5 10)], [(g 1 0), (g 1 1), (g 1 2), (g 1 3), (g 1 4), (g 1 5), (g 1 6), (g 1 7), (g 1 8), (g 1 9), (g 1 10)]] rfl rfl 5 rfl rfl rfl rfl ?_
      refine jv_aload_n 29 X dX9_image_29 0 rfl ?_
      refine jv_iconst (v := 1) 30 X dX9_image_30 rfl ?_
      refine jv_put (ws2 := wB [bLR g, tRl E (g 1) r, bIm (g 2 0) (g 3 0) k0, tRl E (g 3) i0, bIm (g 4 0) (g 5 0) 1, tRl E (g 5) r]) 31 X gf_X9_284 tyX2_ok nmX2 rfl dX9_image_31 24 rfl rfl rfl (Nat.le_of_ble_eq_true rfl) rfl ?_
      refine jv_iconst (v := 1) 34 X dX9_image_34 rfl ?_
      exact jv_iret 35 X Y rfl dX9_image_35 () (by first | rfl | (simp [c_1, nI_0e, nI_1e, nI_01e, nI_10e]; done) | (simp [c_1, nI_0e, nI_1e, nI_01e, nI_10e]; rfl)) (by first | rfl | (simp [c_1, nI_0e, nI_1e, nI_01e, nI_10e]; done) | (simp [c_1, nI_0e, nI_1e, nI_01e, nI_10e]; rfl))
  · refine jv_bipush (v := (-2)) 9 X dX9_image_9 (by decide) ?_
    exact jv_iret 11 X Y rfl dX9_image_11 () (by first | rfl | (simp [c_1, (n01 c_1).1, (n01 c_1).2]; done) | (simp [c_1, (n01 c_1).1, (n01 c_1).2]; rfl)) (by first | rfl | (simp [c_1, (n01 c_1).1, (n01 c_1).2]; done) | (simp [c_1, (n01 c_1).1, (n01 c_1).2]; rfl))
theorem c_X9_restore (E : EE) (l : Launch) (g : Nat → Nat → Nat) (r : Rl) (k0 : Int32) (i0 : Rl) (k1 : Int32) (i1 : Rl) (n : Int32) : CT E l yX9_restore cX9_restore 3 (some .int) { frames := 2, cells := 0, slots := 0, locals := 61 } [.ref (g 0 0), .int n] (wB [bLR g, tRl E (g 1) r, bIm (g 2 0) (g 3 0) k0, tRl E (g 3) i0, bIm (g 4 0) (g 5 0) k1, tRl E (g 5) i1]) (some (.int (if n = 0 then (if k0 = 0 then -3 else 1) else if n = 1 then (if k1 = 0 then -3 else 1) else -2))) (wB [bLR g, tRl E (g 1) (if n = 0 then (if k0 = 0 then r else i0) else if n = 1 then (if k1 = 0 then r else i1) else r), bIm (g 2 0) (g 3 0) k0, tRl E (g 3) i0, bIm (g 4 0) (g 5 0) k1, tRl E (g 5) i1]) := by
  refine CT.intro (by decide +kernel) (Nat.le_of_ble_eq_true rfl) (fun K X Y => ?_)
  refine jv_iload_n 0 X dX9_restore_0 1 rfl ?_
  refine jv_iconst (v := 0) 1 X dX9_restore_1 rfl ?_
  refine jv_iconst (v := 1) 2 X dX9_restore_2 rfl ?_
  refine jv_fun 3 X (c_X9_within E _ n 0 1) ws_X9_75 ⟨Nat.le_of_ble_eq_true rfl, Nat.le_of_ble_eq_true rfl⟩ ⟨rfl, rfl⟩ ⟨Nat.zero_le _, Nat.zero_le _⟩ dX9_restore_3 rfl [] rfl (Nat.le_of_ble_eq_true rfl) ?_
  refine jv_z_ne 6 X dX9_restore_6 12 (by decide) (fun c_1 => ?_) (fun c_1 => ?_)
  · obtain ⟨jn, h1jn, h2jn, rfl⟩ := nx_in (a := 0) (b := 1) rfl rfl (by decide) (by decide) c_1
    have hcjn : (nI jn).toNatClampNeg = jn := nI_clamp (by omega)
    refine jv_aload_n 12 X dX9_restore_12 0 rfl ?_
    refine jv_iload_n 13 X dX9_restore_13 1 rfl ?_
    refine jv_callB1 (wl2 := [bLR g, tRl E (g 1) r, bIm (g 2 0) (g 3 0) k0, tRl E (g 3) i0, bIm (g 4 0) (g 5 0) k1, tRl E (g 5) i1]) 14 X (c_X9_imageOf E _ g (nI jn)) wv_X9_279 ⟨Nat.le_of_ble_eq_true rfl, Nat.le_of_ble_eq_true rfl⟩ ⟨rfl, rfl⟩ ⟨Nat.zero_le _, Nat.zero_le _⟩ dX9_restore_14 rfl [] rfl (Nat.le_of_ble_eq_true rfl) 0 rfl [(g 0 0)] rfl rfl rfl rfl rfl ?_
    rcases (show jn = 0 ∨ jn = 1 by omega) with rfl | rfl
    · refine jv_normr (x2 := (g 2 0)) (if_pos (by decide)) ?_
      refine jv_astore_n (lv2 := [(2, .ref (g 2 0)), (0, .ref (g 0 0)), (1, .int (nI 0))]) 17 X dX9_restore_17 (by decide) rfl ?_
      refine jv_aload_n 18 X dX9_restore_18 0 rfl ?_
      refine jv_get (v := .int k0) 19 X gf_X9_284 dX9_restore_19 12 rfl rfl ?_
      refine jn_if_ne 22 X dX9_restore_22 28 (by decide) (fun c_2 => ?_) (fun c_2 => ?_)
      · refine jv_aload_n 28 X dX9_restore_28 1 rfl ?_
        refine jv_get (v := .ref (g 1 0)) 29 X gf_X9_10 dX9_restore_29 0 rfl rfl ?_
        refine jv_aload_n 32 X dX9_restore_32 0 rfl ?_
        refine jv_get (v := .ref (g 3 0)) 33 X gf_X9_283 dX9_restore_33 12 rfl rfl ?_
        refine jv_callB (wl2 := [bLR g, tRl E (g 1) i0, bIm (g 2 0) (g 3 0) k0, tRl E (g 3) i0, bIm (g 4 0) (g 5 0) k1, tRl E (g 5) i1]) 36 X (c_X5_become E _ (g 1) r (g 3) i0) wv_X9_149 ⟨Nat.le_of_ble_eq_true rfl, Nat.le_of_ble_eq_true rfl⟩ ⟨rfl, rfl⟩ ⟨Nat.zero_le _, Nat.zero_le _⟩ dX9_restore_36 rfl [] rfl (Nat.le_of_ble_eq_true rfl) [1, 3] rfl rfl [[(g 1 0), (g 1 1), (g 1 2), (g 1 3), (g 1 4), (g 1 5), (g 1 6), (g 1 7), (g 1 8), (g 1 9), (g 1 10)], [(g 3 0), (g 3 1), (g 3 2), (g 3 3), (g 3 4), (g 3 5), (g 3 6), (g 3 7), (g 3 8), (g 3 9), (g 3 10)]] rfl rfl 1 rfl rfl rfl rfl ?_
        refine jv_iconst (v := 1) 39 X dX9_restore_39 rfl ?_
        exact jv_iret 40 X Y rfl dX9_restore_40 () (by first | rfl | (simp [c_1, c_2, nI_0e, nI_1e, nI_01e, nI_10e]; done) | (simp [c_1, c_2, nI_0e, nI_1e, nI_01e, nI_10e]; rfl)) (by first | rfl | (simp [c_1, c_2, nI_0e, nI_1e, nI_01e, nI_10e]; done) | (simp [c_1, c_2, nI_0e, nI_1e, nI_01e, nI_10e]; rfl))
      · refine jv_bipush (v := (-3)) 25 X dX9_restore_25 (by decide) ?_
        exact jv_iret 27 X Y rfl dX9_restore_27 () (by first | rfl | (simp [c_1, c_2, nI_0e, nI_1e, nI_01e, nI_10e]; done) | (simp [c_1, c_2, nI_0e, nI_1e, nI_01e, nI_10e]; rfl)) (by first | rfl | (simp [c_1, c_2, nI_0e, nI_1e, nI_01e, nI_10e]; done) | (simp [c_1, c_2, nI_0e, nI_1e, nI_01e, nI_10e]; rfl))
    · refine jv_normr (x2 := (g 4 0)) (if_neg (by decide)) ?_
      refine jv_astore_n (lv2 := [(2, .ref (g 4 0)), (0, .ref (g 0 0)), (1, .int (nI 1))]) 17 X dX9_restore_17 (by decide) rfl ?_
      refine jv_aload_n 18 X dX9_restore_18 0 rfl ?_
      refine jv_get (v := .int k1) 19 X gf_X9_284 dX9_restore_19 24 rfl rfl ?_
      refine jn_if_ne 22 X dX9_restore_22 28 (by decide) (fun c_3 => ?_) (fun c_3 => ?_)
      · refine jv_aload_n 28 X dX9_restore_28 1 rfl ?_
        refine jv_get (v := .ref (g 1 0)) 29 X gf_X9_10 dX9_restore_29 0 rfl rfl ?_
        refine jv_aload_n 32 X dX9_restore_32 0 rfl ?_
        refine jv_get (v := .ref (g 5 0)) 33 X gf_X9_283 dX9_restore_33 24 rfl rfl ?_
        refine jv_callB (wl2 := [bLR g, tRl E (g 1) i1, bIm (g 2 0) (g 3 0) k0, tRl E (g 3) i0, bIm (g 4 0) (g 5 0) k1, tRl E (g 5) i1]) 36 X (c_X5_become E _ (g 1) r (g 5) i1) wv_X9_149 ⟨Nat.le_of_ble_eq_true rfl, Nat.le_of_ble_eq_true rfl⟩ ⟨rfl, rfl⟩ ⟨Nat.zero_le _, Nat.zero_le _⟩ dX9_restore_36 rfl [] rfl (Nat.le_of_ble_eq_true rfl) [1, 5] rfl rfl [[(g 1 0), (g 1 1), (g 1 2), (g 1 3), (g 1 4), (g 1 5), (g 1 6), (g 1 7), (g 1 8), (g 1 9), (g 1 10)], [(g 5 0), (g 5 1), (g 5 2), (g 5 3), (g 5 4), (g 5 5), (g 5 6), (g 5 7), (g 5 8), (g 5 9), (g 5 10)]] rfl rfl 1 rfl rfl rfl rfl ?_
        refine jv_iconst (v := 1) 39 X dX9_restore_39 rfl ?_
        exact jv_iret 40 X Y rfl dX9_restore_40 () (by first | rfl | (simp [c_1, c_3, nI_0e, nI_1e, nI_01e, nI_10e]; done) | (simp [c_1, c_3, nI_0e, nI_1e, nI_01e, nI_10e]; rfl)) (by first | rfl | (simp [c_1, c_3, nI_0e, nI_1e, nI_01e, nI_10e]; done) | (simp [c_1, c_3, nI_0e, nI_1e, nI_01e, nI_10e]; rfl))
      · refine jv_bipush (v := (-3)) 25 X dX9_restore_25 (by decide) ?_
        exact jv_iret 27 X Y rfl dX9_restore_27 () (by first | rfl | (simp [c_1, c_3, nI_0e, nI_1e, nI_01e, nI_10e]; done) | (simp [c_1, c_3, nI_0e, nI_1e, nI_01e, nI_10e]; rfl)) (by first | rfl | (simp [c_1, c_3, nI_0e, nI_1e, nI_01e, nI_10e]; done) | (simp [c_1, c_3, nI_0e, nI_1e, nI_01e, nI_10e]; rfl))
  · refine jv_bipush (v := (-2)) 9 X dX9_restore_9 (by decide) ?_
    exact jv_iret 11 X Y rfl dX9_restore_11 () (by first | rfl | (simp [c_1, (n01 c_1).1, (n01 c_1).2]; done) | (simp [c_1, (n01 c_1).1, (n01 c_1).2]; rfl)) (by first | rfl | (simp [c_1, (n01 c_1).1, (n01 c_1).2]; done) | (simp [c_1, (n01 c_1).1, (n01 c_1).2]; rfl))
