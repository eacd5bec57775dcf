abbrev PS : Type := Nat × Nat × (Nat → Int32) × (Nat → Int32) × (Nat → Int32) × (Nat → Int32)
def pdBegin (c : Nat) (kd on pl nm : Nat → Int32) (s : Int32) : PS := if 65 ≤ s ∧ s ≤ 70 then (1, c, upd kd c s, upd (upd on c 0) c (s - 65), upd pl c 0, upd nm c 0) else if s = 60 ∨ s = 62 then (3, c, upd kd c s, upd on c 0, upd pl c 0, upd nm c 0) else if s = 46 then (0, c + 1, upd kd c s, upd on c 0, upd pl c 0, upd nm c 0) else (4, c, upd kd c s, upd on c 0, upd pl c 0, upd nm c 0)
def pdVerb (c : Nat) (kd on pl nm : Nat → Int32) (s : Int32) : PS := if s = 40 ∨ s = 41 ∨ s = 47 then (2, c, upd kd c s, on, pl, nm) else if s = 43 ∨ s = 45 then (3, c, upd kd c s, on, pl, nm) else if s = 61 ∨ s = 120 then (0, c + 1, upd kd c s, on, pl, nm) else (4, c, upd kd c s, on, pl, nm)
def pdPlace (c : Nat) (kd on pl nm : Nat → Int32) (s : Int32) : PS := if 48 ≤ s ∧ s ≤ (if kd c = 47 then 55 else 51) then (3, c, kd, on, upd pl c (s - 48), nm) else (4, c, kd, on, pl, nm)
def pdNum (c : Nat) (kd on pl nm : Nat → Int32) (s : Int32) : PS := if 49 ≤ s ∧ s ≤ 57 then (0, c + 1, kd, on, pl, upd nm c (s - 48)) else (4, c, kd, on, pl, nm)
def pdStep (q c : Nat) (kd on pl nm : Nat → Int32) (s : Int32) : PS := if q = 0 then pdBegin c kd on pl nm s else if q = 1 then pdVerb c kd on pl nm s else if q = 2 then pdPlace c kd on pl nm s else pdNum c kd on pl nm s
def rdS (signs : Nat → Int32) (k : Nat) (x : PS) : (Int32 × PS) ⊕ PS := if (pdStep x.1 x.2.1 x.2.2.1 x.2.2.2.1 x.2.2.2.2.1 x.2.2.2.2.2 (signs k)).1 = 4 then .inl (nI k, pdStep x.1 x.2.1 x.2.2.1 x.2.2.2.1 x.2.2.2.2.1 x.2.2.2.2.2 (signs k)) else .inr (pdStep x.1 x.2.1 x.2.2.1 x.2.2.2.1 x.2.2.2.2.1 x.2.2.2.2.2 (signs k))
def rdR (n : Nat) (x : (Int32 × PS) ⊕ PS) : Int32 × PS := match x with
  | .inl r => r
  | .inr y => (if y.1 = 0 then -6 else nI n, y)
def rdC (signs : Nat → Int32) (n : Nat) (kd on pl nm : Nat → Int32) : Int32 × PS := rdR n (itE (rdS signs) n 0 (0, 0, kd, on, pl, nm))
theorem pdStep_le {q c : Nat} {kd on pl nm : Nat → Int32} {s : Int32} : (pdStep q c kd on pl nm s).1 ≤ 4 ∧ (pdStep q c kd on pl nm s).2.1 ≤ c + 1 := by
  unfold pdStep pdBegin pdVerb pdPlace pdNum
  (repeat' split) <;> exact ⟨by simp, by simp⟩
/-- an act tried: the realm, the stuck act, why, the act by which a bridge met, which -/
def taF (kd on pl nm : Nat → Int32) (i : Nat) (x : Rl × Int32 × Int32 × Int32 × Int32) : Rl × Int32 × Int32 × Int32 × Int32 := if hdF x.1 (kd i) (on i).toNatClampNeg (pl i).toNatClampNeg (nm i) = 0 then (acF x.1 (kd i) (on i).toNatClampNeg (pl i).toNatClampNeg (nm i), x.2.1, x.2.2.1, if (kd i = 40 ∨ kd i = 41) ∧ x.2.2.2.1 = -6 ∧ hmC (acF x.1 (kd i) (on i).toNatClampNeg (pl i).toNatClampNeg (nm i)) (pl i).toNatClampNeg = true then (nI i, nI (pl i).toNatClampNeg) else (x.2.2.2.1, x.2.2.2.2)) else (x.1, nI i, hdF x.1 (kd i) (on i).toNatClampNeg (pl i).toNatClampNeg (nm i), x.2.2.2.1, x.2.2.2.2)
theorem taF_0 {kd on pl nm : Nat → Int32} {i : Nat} {r : Rl} {sa wy ma mb : Int32} (h : ¬ hdF r (kd i) (on i).toNatClampNeg (pl i).toNatClampNeg (nm i) = 0) : taF kd on pl nm i (r, sa, wy, ma, mb) = (r, nI i, hdF r (kd i) (on i).toNatClampNeg (pl i).toNatClampNeg (nm i), ma, mb) := if_neg h
theorem taF_1 {kd on pl nm : Nat → Int32} {i : Nat} {r : Rl} {sa wy ma mb : Int32} (h : hdF r (kd i) (on i).toNatClampNeg (pl i).toNatClampNeg (nm i) = 0) (h2 : ¬ ((kd i = 40 ∨ kd i = 41) ∧ ma = -6 ∧ hmC (acF r (kd i) (on i).toNatClampNeg (pl i).toNatClampNeg (nm i)) (pl i).toNatClampNeg = true)) : taF kd on pl nm i (r, sa, wy, ma, mb) = (acF r (kd i) (on i).toNatClampNeg (pl i).toNatClampNeg (nm i), sa, wy, ma, mb) := by
  unfold taF
  dsimp only
  rw [if_pos h, if_neg h2]
theorem taF_2 {kd on pl nm : Nat → Int32} {i : Nat} {r : Rl} {sa wy ma mb : Int32} (h : hdF r (kd i) (on i).toNatClampNeg (pl i).toNatClampNeg (nm i) = 0) (h2 : (kd i = 40 ∨ kd i = 41) ∧ ma = -6 ∧ hmC (acF r (kd i) (on i).toNatClampNeg (pl i).toNatClampNeg (nm i)) (pl i).toNatClampNeg = true) : taF kd on pl nm i (r, sa, wy, ma, mb) = (acF r (kd i) (on i).toNatClampNeg (pl i).toNatClampNeg (nm i), sa, wy, nI i, nI (pl i).toNatClampNeg) := by
  unfold taF
  dsimp only
  rw [if_pos h, if_pos h2]
def toC (kd on pl nm : Nat → Int32) (c : Nat) : Nat → Nat → Rl × Int32 × Int32 × Int32 × Int32 → Rl × Int32 × Int32 × Int32 × Int32
  | 0, _, x => x
  | n + 1, i, x => if i < c ∧ x.2.1 = -6 then toC kd on pl nm c n (i + 1) (taF kd on pl nm i x) else x
theorem toC_s {kd on pl nm : Nat → Int32} {c n i : Nat} {x : Rl × Int32 × Int32 × Int32 × Int32} (h : i < c) (h2 : x.2.1 = -6) : toC kd on pl nm c (n + 1) i x = toC kd on pl nm c n (i + 1) (taF kd on pl nm i x) := if_pos ⟨h, h2⟩
theorem toC_e {kd on pl nm : Nat → Int32} {c n i : Nat} {x : Rl × Int32 × Int32 × Int32 × Int32} (h : ¬ (i < c ∧ x.2.1 = -6)) : toC kd on pl nm c (n + 1) i x = x := if_neg h
def okK (kd on pl : Nat → Int32) (i : Nat) : Prop := (on i = nI (on i).toNatClampNeg ∧ (on i).toNatClampNeg < 6) ∧ pl i = nI (pl i).toNatClampNeg ∧ ((kd i = 40 ∨ kd i = 41) → (pl i).toNatClampNeg < 4) ∧ (kd i = 47 → (pl i).toNatClampNeg < 8)
def dyC (r : Rl) : Prop := r.2.1 = nI r.2.1.toNatClampNeg ∧ r.2.1.toNatClampNeg ≤ 999
theorem c_X4_write (E : EE) (l : Launch) (a : Nat → Nat) (sn : Nat) (acts : Int32) (signs : Nat → Int32) (kinds : Nat → Int32) (ones : Nat → Int32) (places : Nat → Int32) (numbers : Nat → Int32) (v : Int32) (hs : sn ≤ 60) : CT E l yX4_write cX4_write 2 (some .boolean) { frames := 0, cells := 0, slots := 0, locals := 0 } [.ref (a 0), .int v] (bPd E a (nI sn) acts signs kinds ones places numbers) (some (.int (zI (¬ 60 ≤ sn)))) (bPd E a (if 60 ≤ sn then nI sn else nI (sn + 1)) acts (if 60 ≤ sn then signs else upd signs sn v) kinds ones places numbers) := by
  refine CT.intro (by decide +kernel) (Nat.le_of_ble_eq_true rfl) (fun K X Y => ?_)
  refine jv_aload_n 0 X dX4_write_0 0 rfl ?_
  refine jv_get (v := .int (nI sn)) 1 X gf_X4_27 dX4_write_1 0 rfl rfl ?_
  refine jv_bipush (v := 60) 4 X dX4_write_4 (by decide) ?_
  refine jn_icmp_lt 6 X dX4_write_6 11 (by decide) (fun c_1 => ?_) (fun c_1 => ?_)
  · have n_1 : ¬ 60 ≤ sn := fun zq => c_1 ((nx_le (a := 60) (b := sn) rfl rfl (by omega) (by omega)).mpr zq)
    refine jv_aload_n 11 X dX4_write_11 0 rfl ?_
    refine jv_get (v := .ref (a 1)) 12 X gf_X4_9 dX4_write_12 0 rfl rfl ?_
    refine jv_aload_n 15 X dX4_write_15 0 rfl ?_
    refine jv_get (v := .int (nI sn)) 16 X gf_X4_27 dX4_write_16 0 rfl rfl ?_
    refine jv_iload_n 19 X dX4_write_19 1 rfl ?_
    refine jv_iast (ws2 := bPd E a (nI sn) acts (upd signs sn v) kinds ones places numbers) (f := signs) 20 X dX4_write_20 1 rfl (by decide) sn rfl (by omega) rfl ?_
    refine jv_aload_n 21 X dX4_write_21 0 rfl ?_
    refine jv_dup 22 X dX4_write_22 rfl ?_
    refine jv_get (v := .int (nI sn)) 23 X gf_X4_27 dX4_write_23 0 rfl rfl ?_
    refine jv_iconst (v := 1) 26 X dX4_write_26 rfl ?_
    refine jv_iadd 27 X dX4_write_27 ?_
    refine jv_norm (x2 := nI (sn + 1)) (nx_add2 (a := sn) (b := 1) rfl rfl (by omega)) ?_
    refine jv_puti (ws2 := bPd E a (nI (sn + 1)) acts (upd signs sn v) kinds ones places numbers) 28 X gf_X4_27 tyX4_ok nmX4 rfl rfl dX4_write_28 0 rfl (Nat.le_of_ble_eq_true rfl) rfl ?_
    refine jv_iconst (v := 1) 31 X dX4_write_31 rfl ?_
    exact jv_zret 32 X Y rfl rfl dX4_write_32 () (by simp [zI, lt_nle, -Int32.not_le, c_1, n_1]) (by simp [zI, lt_nle, -Int32.not_le, c_1, n_1])
  · have n_1 : 60 ≤ sn := (nx_le (a := 60) (b := sn) rfl rfl (by omega) (by omega)).mp c_1
    refine jv_iconst (v := 0) 9 X dX4_write_9 rfl ?_
    exact jv_zret 10 X Y rfl rfl dX4_write_10 () (by simp [zI, lt_nle, -Int32.not_le, c_1, n_1]) (by simp [zI, lt_nle, -Int32.not_le, c_1, n_1])
theorem c_X4_clear (E : EE) (l : Launch) (a : Nat → Nat) (count : Int32) (acts : Int32) (signs : Nat → Int32) (kinds : Nat → Int32) (ones : Nat → Int32) (places : Nat → Int32) (numbers : Nat → Int32) : CT E l yX4_clear cX4_clear 2 (some .int) { frames := 0, cells := 0, slots := 0, locals := 0 } [.ref (a 0)] (bPd E a count acts signs kinds ones places numbers) (some (.int count)) (bPd E a 0 acts signs kinds ones places numbers) := by
  refine CT.intro (by decide +kernel) (Nat.le_of_ble_eq_true rfl) (fun K X Y => ?_)
  refine jv_aload_n 0 X dX4_clear_0 0 rfl ?_
  refine jv_get (v := .int count) 1 X gf_X4_27 dX4_clear_1 0 rfl rfl ?_
  refine jv_istore_n (lv2 := [(1, .int count), (0, .ref (a 0))]) 4 X dX4_clear_4 (by decide) rfl ?_
  refine jv_aload_n 5 X dX4_clear_5 1 rfl ?_
  refine jv_iconst (v := 0) 6 X dX4_clear_6 rfl ?_
  refine jv_puti (ws2 := bPd E a 0 acts signs kinds ones places numbers) 7 X gf_X4_27 tyX4_ok nmX4 rfl rfl dX4_clear_7 0 rfl (Nat.le_of_ble_eq_true rfl) rfl ?_
  refine jv_iload_n 10 X dX4_clear_10 0 rfl ?_
  exact jv_iret 11 X Y rfl dX4_clear_11 () rfl rfl
theorem c_X4_end (E : EE) (l : Launch) (a : Nat → Nat) (count : Int32) (c : Nat) (signs : Nat → Int32) (kinds : Nat → Int32) (ones : Nat → Int32) (places : Nat → Int32) (numbers : Nat → Int32) : CT E l yX4_end cX4_end 1 (some .int) { frames := 0, cells := 0, slots := 0, locals := 0 } [.ref (a 0)] (bPd E a count (nI c) signs kinds ones places numbers) (some (.int 0)) (bPd E a count (nI (c + 1)) signs kinds ones places numbers) := by
  refine CT.intro (by decide +kernel) (Nat.le_of_ble_eq_true rfl) (fun K X Y => ?_)
  refine jv_aload_n 0 X dX4_end_0 0 rfl ?_
  refine jv_dup 1 X dX4_end_1 rfl ?_
  refine jv_get (v := .int (nI c)) 2 X gf_X4_31 dX4_end_2 0 rfl rfl ?_
  refine jv_iconst (v := 1) 5 X dX4_end_5 rfl ?_
  refine jv_iadd 6 X dX4_end_6 ?_
  refine jv_norm (x2 := nI (c + 1)) (nx_add2 (a := c) (b := 1) rfl rfl (by omega)) ?_
  refine jv_puti (ws2 := bPd E a count (nI (c + 1)) signs kinds ones places numbers) 7 X gf_X4_31 tyX4_ok nmX4 rfl rfl dX4_end_7 0 rfl (Nat.le_of_ble_eq_true rfl) rfl ?_
  refine jv_iconst (v := 0) 10 X dX4_end_10 rfl ?_
  exact jv_iret 11 X Y rfl dX4_end_11 () rfl rfl
theorem c_X4_begin (E : EE) (l : Launch) (a : Nat → Nat) (count : Int32) (c : Nat) (signs : Nat → Int32) (kinds : Nat → Int32) (ones : Nat → Int32) (places : Nat → Int32) (numbers : Nat → Int32) (s : Int32) (hc : c < 60) : CT E l yX4_begin cX4_begin 2 (some .int) { frames := 1, cells := 0, slots := 0, locals := 22 } [.ref (a 0), .int s] (bPd E a count (nI c) signs kinds ones places numbers) (some (.int (nI (pdBegin c kinds ones places numbers s).1))) (bPd E a count (nI (pdBegin c kinds ones places numbers s).2.1) signs ((pdBegin c kinds ones places numbers s).2.2.1) ((pdBegin c kinds ones places numbers s).2.2.2.1) ((pdBegin c kinds ones places numbers s).2.2.2.2.1) ((pdBegin c kinds ones places numbers s).2.2.2.2.2)) := by
  refine CT.intro (by decide +kernel) (Nat.le_of_ble_eq_true rfl) (fun K X Y => ?_)
  refine jv_aload_n 0 X dX4_begin_0 0 rfl ?_
  refine jv_get (v := .ref (a 3)) 1 X gf_X4_18 dX4_begin_1 0 rfl rfl ?_
  refine jv_aload_n 4 X dX4_begin_4 0 rfl ?_
  refine jv_get (v := .int (nI c)) 5 X gf_X4_31 dX4_begin_5 0 rfl rfl ?_
  refine jv_iconst (v := 0) 8 X dX4_begin_8 rfl ?_
  refine jv_iast (ws2 := bPd E a count (nI c) signs kinds (upd ones c 0) places numbers) (f := ones) 9 X dX4_begin_9 3 rfl (by decide) c rfl (by omega) rfl ?_
  refine jv_aload_n 10 X dX4_begin_10 0 rfl ?_
  refine jv_get (v := .ref (a 4)) 11 X gf_X4_21 dX4_begin_11 0 rfl rfl ?_
  refine jv_aload_n 14 X dX4_begin_14 0 rfl ?_
  refine jv_get (v := .int (nI c)) 15 X gf_X4_31 dX4_begin_15 0 rfl rfl ?_
  refine jv_iconst (v := 0) 18 X dX4_begin_18 rfl ?_
  refine jv_iast (ws2 := bPd E a count (nI c) signs kinds (upd ones c 0) (upd places c 0) numbers) (f := places) 19 X dX4_begin_19 4 rfl (by decide) c rfl (by omega) rfl ?_
  refine jv_aload_n 20 X dX4_begin_20 0 rfl ?_
  refine jv_get (v := .ref (a 5)) 21 X gf_X4_24 dX4_begin_21 0 rfl rfl ?_
  refine jv_aload_n 24 X dX4_begin_24 0 rfl ?_
  refine jv_get (v := .int (nI c)) 25 X gf_X4_31 dX4_begin_25 0 rfl rfl ?_
  refine jv_iconst (v := 0) 28 X dX4_begin_28 rfl ?_
  refine jv_iast (ws2 := bPd E a count (nI c) signs kinds (upd ones c 0) (upd places c 0) (upd numbers c 0)) (f := numbers) 29 X dX4_begin_29 5 rfl (by decide) c rfl (by omega) rfl ?_
  refine jv_aload_n 30 X dX4_begin_30 0 rfl ?_
  refine jv_get (v := .ref (a 2)) 31 X gf_X4_15 dX4_begin_31 0 rfl rfl ?_
  refine jv_aload_n 34 X dX4_begin_34 0 rfl ?_
  refine jv_get (v := .int (nI c)) 35 X gf_X4_31 dX4_begin_35 0 rfl rfl ?_
  refine jv_iload_n 38 X dX4_begin_38 1 rfl ?_
  refine jv_iast (ws2 := bPd E a count (nI c) signs (upd kinds c s) (upd ones c 0) (upd places c 0) (upd numbers c 0)) (f := kinds) 39 X dX4_begin_39 2 rfl (by decide) c rfl (by omega) rfl ?_
  refine jv_iload_n 40 X dX4_begin_40 1 rfl ?_
  refine jv_bipush (v := 65) 41 X dX4_begin_41 (by decide) ?_
  refine jv_bipush (v := 70) 43 X dX4_begin_43 (by decide) ?_
  refine jv_funN 45 X (c_X9_within E _ s 65 70) wn_X4_51 ⟨Nat.le_of_ble_eq_true rfl, Nat.le_of_ble_eq_true rfl⟩ ⟨rfl, rfl⟩ ⟨Nat.zero_le _, Nat.zero_le _⟩ dX4_begin_45 rfl [] rfl (Nat.le_of_ble_eq_true rfl) ?_
  refine jv_z_eq 48 X dX4_begin_48 66 (by decide) (fun c_1 => ?_) (fun c_1 => ?_)
  · refine jv_iload_n 66 X dX4_begin_66 1 rfl ?_
    refine jv_bipush (v := 60) 67 X dX4_begin_67 (by decide) ?_
    refine jn_icmp_eq 69 X dX4_begin_69 78 (by decide) (fun c_2 => ?_) (fun c_2 => ?_)
    · refine jv_iconst (v := 3) 78 X dX4_begin_78 rfl ?_
      have hq : pdBegin c kinds ones places numbers s = (3, c, (upd kinds c s), (upd ones c 0), (upd places c 0), (upd numbers c 0)) := by simp [pdBegin, lt_nle, -Int32.not_le, c_1, c_2]
      exact jv_iret 79 X Y rfl dX4_begin_79 () (by rw [hq]; try rfl) (by rw [hq]; try rfl)
    · refine jv_iload_n 72 X dX4_begin_72 1 rfl ?_
      refine jv_bipush (v := 62) 73 X dX4_begin_73 (by decide) ?_
      refine jn_icmp_ne 75 X dX4_begin_75 80 (by decide) (fun c_3 => ?_) (fun c_3 => ?_)
      · refine jv_iload_n 80 X dX4_begin_80 1 rfl ?_
        refine jv_bipush (v := 46) 81 X dX4_begin_81 (by decide) ?_
        refine jn_icmp_ne 83 X dX4_begin_83 93 (by decide) (fun c_4 => ?_) (fun c_4 => ?_)
        · refine jv_iconst (v := 4) 93 X dX4_begin_93 rfl ?_
          have hq : pdBegin c kinds ones places numbers s = (4, c, (upd kinds c s), (upd ones c 0), (upd places c 0), (upd numbers c 0)) := by simp [pdBegin, lt_nle, -Int32.not_le, c_1, c_2, c_3, c_4]
          exact jv_iret 94 X Y rfl dX4_begin_94 () (by rw [hq]; try rfl) (by rw [hq]; try rfl)
        · refine jv_aload_n 86 X dX4_begin_86 0 rfl ?_
          refine jv_callW (w1 := bPd E a count (nI (c + 1)) signs (upd kinds c s) (upd ones c 0) (upd places c 0) (upd numbers c 0)) 87 X (c_X4_end E _ a count c signs (upd kinds c s) (upd ones c 0) (upd places c 0) (upd numbers c 0)) wv_X4_55 ⟨Nat.le_of_ble_eq_true rfl, Nat.le_of_ble_eq_true rfl⟩ ⟨rfl, rfl⟩ ⟨Nat.zero_le _, Nat.zero_le _⟩ dX4_begin_87 rfl [] rfl (Nat.le_of_ble_eq_true rfl) 0 rfl rfl ?_
          refine jv_goto 90 X dX4_begin_90 94 (by decide) ?_
          have hq : pdBegin c kinds ones places numbers s = (0, (c + 1), (upd kinds c s), (upd ones c 0), (upd places c 0), (upd numbers c 0)) := by simp [pdBegin, lt_nle, -Int32.not_le, c_1, c_2, c_3, c_4]
          exact jv_iret 94 X Y rfl dX4_begin_94 () (by rw [hq]; try rfl) (by rw [hq]; try rfl)
      · refine jv_iconst (v := 3) 78 X dX4_begin_78 rfl ?_
        have hq : pdBegin c kinds ones places numbers s = (3, c, (upd kinds c s), (upd ones c 0), (upd places c 0), (upd numbers c 0)) := by simp [pdBegin, lt_nle, -Int32.not_le, c_1, c_2, c_3]
        exact jv_iret 79 X Y rfl dX4_begin_79 () (by rw [hq]; try rfl) (by rw [hq]; try rfl)
  · refine jv_aload_n 51 X dX4_begin_51 0 rfl ?_
    refine jv_get (v := .ref (a 3)) 52 X gf_X4_18 dX4_begin_52 0 rfl rfl ?_
    refine jv_aload_n 55 X dX4_begin_55 0 rfl ?_
    refine jv_get (v := .int (nI c)) 56 X gf_X4_31 dX4_begin_56 0 rfl rfl ?_
    refine jv_iload_n 59 X dX4_begin_59 1 rfl ?_
    refine jv_bipush (v := 65) 60 X dX4_begin_60 (by decide) ?_
    refine jv_isub 62 X dX4_begin_62 ?_
    refine jv_iast (ws2 := bPd E a count (nI c) signs (upd kinds c s) (upd (upd ones c 0) c (s - 65)) (upd places c 0) (upd numbers c 0)) (f := (upd ones c 0)) 63 X dX4_begin_63 3 rfl (by decide) c rfl (by omega) rfl ?_
    refine jv_iconst (v := 1) 64 X dX4_begin_64 rfl ?_
    have hq : pdBegin c kinds ones places numbers s = (1, c, (upd kinds c s), (upd (upd ones c 0) c (s - 65)), (upd places c 0), (upd numbers c 0)) := by simp [pdBegin, lt_nle, -Int32.not_le, c_1]
    exact jv_iret 65 X Y rfl dX4_begin_65 () (by rw [hq]; try rfl) (by rw [hq]; try rfl)
theorem c_X4_readVerb (E : EE) (l : Launch) (a : Nat → Nat) (count : Int32) (c : Nat) (signs : Nat → Int32) (kinds : Nat → Int32) (ones : Nat → Int32) (places : Nat → Int32) (numbers : Nat → Int32) (s : Int32) (hc : c < 60) : CT E l yX4_readVerb cX4_readVerb 2 (some .int) { frames := 1, cells := 0, slots := 0, locals := 20 } [.ref (a 0), .int s] (bPd E a count (nI c) signs kinds ones places numbers) (some (.int (nI (pdVerb c kinds ones places numbers s).1))) (bPd E a count (nI (pdVerb c kinds ones places numbers s).2.1) signs ((pdVerb c kinds ones places numbers s).2.2.1) ((pdVerb c kinds ones places numbers s).2.2.2.1) ((pdVerb c kinds ones places numbers s).2.2.2.2.1) ((pdVerb c kinds ones places numbers s).2.2.2.2.2)) := by
  refine CT.intro (by decide +kernel) (Nat.le_of_ble_eq_true rfl) (fun K X Y => ?_)
  refine jv_aload_n 0 X dX4_readVerb_0 0 rfl ?_
  refine jv_get (v := .ref (a 2)) 1 X gf_X4_15 dX4_readVerb_1 0 rfl rfl ?_
  refine jv_aload_n 4 X dX4_readVerb_4 0 rfl ?_
  refine jv_get (v := .int (nI c)) 5 X gf_X4_31 dX4_readVerb_5 0 rfl rfl ?_
  refine jv_iload_n 8 X dX4_readVerb_8 1 rfl ?_
  refine jv_iast (ws2 := bPd E a count (nI c) signs (upd kinds c s) ones places numbers) (f := kinds) 9 X dX4_readVerb_9 2 rfl (by decide) c rfl (by omega) rfl ?_
  refine jv_iload_n 10 X dX4_readVerb_10 1 rfl ?_
  by_cases c_1 : s = 40
  · refine jv_look 11 X dX4_readVerb_11 78 (by decide) (by first | (rw [c_1]; done) | (rw [c_1]; decide)) (by decide) ?_
    refine jv_iconst (v := 2) 78 X dX4_readVerb_78 rfl ?_
    have hq : pdVerb c kinds ones places numbers s = (2, c, (upd kinds c s), ones, places, numbers) := by simp [pdVerb, lt_nle, -Int32.not_le, c_1]
    exact jv_iret 79 X Y rfl dX4_readVerb_79 () (by rw [hq]; try rfl) (by rw [hq]; try rfl)
  by_cases c_2 : s = 41
  · refine jv_look 11 X dX4_readVerb_11 78 (by decide) (by first | (rw [c_2]; done) | (rw [c_2]; decide)) (by decide) ?_
    refine jv_iconst (v := 2) 78 X dX4_readVerb_78 rfl ?_
    have hq : pdVerb c kinds ones places numbers s = (2, c, (upd kinds c s), ones, places, numbers) := by simp [pdVerb, lt_nle, -Int32.not_le, c_1, c_2]
    exact jv_iret 79 X Y rfl dX4_readVerb_79 () (by rw [hq]; try rfl) (by rw [hq]; try rfl)
  by_cases c_3 : s = 43
  · refine jv_look 11 X dX4_readVerb_11 76 (by decide) (by first | (rw [c_3]; done) | (rw [c_3]; decide)) (by decide) ?_
    refine jv_iconst (v := 3) 76 X dX4_readVerb_76 rfl ?_
    have hq : pdVerb c kinds ones places numbers s = (3, c, (upd kinds c s), ones, places, numbers) := by simp [pdVerb, lt_nle, -Int32.not_le, c_1, c_2, c_3]
    exact jv_iret 77 X Y rfl dX4_readVerb_77 () (by rw [hq]; try rfl) (by rw [hq]; try rfl)
  by_cases c_4 : s = 45
  · refine jv_look 11 X dX4_readVerb_11 76 (by decide) (by first | (rw [c_4]; done) | (rw [c_4]; decide)) (by decide) ?_
    refine jv_iconst (v := 3) 76 X dX4_readVerb_76 rfl ?_
    have hq : pdVerb c kinds ones places numbers s = (3, c, (upd kinds c s), ones, places, numbers) := by simp [pdVerb, lt_nle, -Int32.not_le, c_1, c_2, c_3, c_4]
    exact jv_iret 77 X Y rfl dX4_readVerb_77 () (by rw [hq]; try rfl) (by rw [hq]; try rfl)
  by_cases c_5 : s = 47
  · refine jv_look 11 X dX4_readVerb_11 78 (by decide) (by first | (rw [c_5]; done) | (rw [c_5]; decide)) (by decide) ?_
    refine jv_iconst (v := 2) 78 X dX4_readVerb_78 rfl ?_
    have hq : pdVerb c kinds ones places numbers s = (2, c, (upd kinds c s), ones, places, numbers) := by simp [pdVerb, lt_nle, -Int32.not_le, c_1, c_2, c_3, c_4, c_5]
    exact jv_iret 79 X Y rfl dX4_readVerb_79 () (by rw [hq]; try rfl) (by rw [hq]; try rfl)
  by_cases c_6 : s = 61
  · refine jv_look 11 X dX4_readVerb_11 80 (by decide) (by first | (rw [c_6]; done) | (rw [c_6]; decide)) (by decide) ?_
    refine jv_aload_n 80 X dX4_readVerb_80 0 rfl ?_
    refine jv_callW (w1 := bPd E a count (nI (c + 1)) signs (upd kinds c s) ones places numbers) 81 X (c_X4_end E _ a count c signs (upd kinds c s) ones places numbers) wv_X4_55 ⟨Nat.le_of_ble_eq_true rfl, Nat.le_of_ble_eq_true rfl⟩ ⟨rfl, rfl⟩ ⟨Nat.zero_le _, Nat.zero_le _⟩ dX4_readVerb_81 rfl [] rfl (Nat.le_of_ble_eq_true rfl) 0 rfl rfl ?_
    have hq : pdVerb c kinds ones places numbers s = (0, (c + 1), (upd kinds c s), ones, places, numbers) := by simp [pdVerb, lt_nle, -Int32.not_le, c_1, c_2, c_3, c_4, c_5, c_6]
    exact jv_iret 84 X Y rfl dX4_readVerb_84 () (by rw [hq]; try rfl) (by rw [hq]; try rfl)
  by_cases c_7 : s = 120
  · refine jv_look 11 X dX4_readVerb_11 80 (by decide) (by first | (rw [c_7]; done) | (rw [c_7]; decide)) (by decide) ?_
    refine jv_aload_n 80 X dX4_readVerb_80 0 rfl ?_
    refine jv_callW (w1 := bPd E a count (nI (c + 1)) signs (upd kinds c s) ones places numbers) 81 X (c_X4_end E _ a count c signs (upd kinds c s) ones places numbers) wv_X4_55 ⟨Nat.le_of_ble_eq_true rfl, Nat.le_of_ble_eq_true rfl⟩ ⟨rfl, rfl⟩ ⟨Nat.zero_le _, Nat.zero_le _⟩ dX4_readVerb_81 rfl [] rfl (Nat.le_of_ble_eq_true rfl) 0 rfl rfl ?_
    have hq : pdVerb c kinds ones places numbers s = (0, (c + 1), (upd kinds c s), ones, places, numbers) := by simp [pdVerb, lt_nle, -Int32.not_le, c_1, c_2, c_3, c_4, c_5, c_6, c_7]
    exact jv_iret 84 X Y rfl dX4_readVerb_84 () (by rw [hq]; try rfl) (by rw [hq]; try rfl)
  refine jv_look (off := 74) 11 X dX4_readVerb_11 85 (by decide) ((lv_osw (k := 40) c_1 (by decide)).trans ((lv_osw (k := 41) c_2 (by decide)).trans ((lv_osw (k := 43) c_3 (by decide)).trans ((lv_osw (k := 45) c_4 (by decide)).trans ((lv_osw (k := 47) c_5 (by decide)).trans ((lv_osw (k := 61) c_6 (by decide)).trans ((lv_osw (k := 120) c_7 (by decide)).trans rfl))))))) (by decide) ?_
  refine jv_iconst (v := 4) 85 X dX4_readVerb_85 rfl ?_
  have hq : pdVerb c kinds ones places numbers s = (4, c, (upd kinds c s), ones, places, numbers) := by simp [pdVerb, lt_nle, -Int32.not_le, c_1, c_2, c_3, c_4, c_5, c_6, c_7]
  exact jv_iret 86 X Y rfl dX4_readVerb_86 () (by rw [hq]; try rfl) (by rw [hq]; try rfl)
theorem c_X4_readPlace (E : EE) (l : Launch) (a : Nat → Nat) (count : Int32) (c : Nat) (signs : Nat → Int32) (kinds : Nat → Int32) (ones : Nat → Int32) (places : Nat → Int32) (numbers : Nat → Int32) (s : Int32) (hc : c < 60) : CT E l yX4_readPlace cX4_readPlace 3 (some .int) { frames := 1, cells := 0, slots := 0, locals := 22 } [.ref (a 0), .int s] (bPd E a count (nI c) signs kinds ones places numbers) (some (.int (nI (pdPlace c kinds ones places numbers s).1))) (bPd E a count (nI (pdPlace c kinds ones places numbers s).2.1) signs ((pdPlace c kinds ones places numbers s).2.2.1) ((pdPlace c kinds ones places numbers s).2.2.2.1) ((pdPlace c kinds ones places numbers s).2.2.2.2.1) ((pdPlace c kinds ones places numbers s).2.2.2.2.2)) := by
  refine CT.intro (by decide +kernel) (Nat.le_of_ble_eq_true rfl) (fun K X Y => ?_)
  refine jv_aload_n 0 X dX4_readPlace_0 0 rfl ?_
  refine jv_get (v := .ref (a 2)) 1 X gf_X4_15 dX4_readPlace_1 0 rfl rfl ?_
  refine jv_aload_n 4 X dX4_readPlace_4 0 rfl ?_
  refine jv_get (v := .int (nI c)) 5 X gf_X4_31 dX4_readPlace_5 0 rfl rfl ?_
  refine jv_iald (f := kinds) 8 X dX4_readPlace_8 2 rfl (by decide) c rfl (by omega) ?_
  refine jv_bipush (v := 47) 9 X dX4_readPlace_9 (by decide) ?_
  refine jn_icmp_ne 11 X dX4_readPlace_11 19 (by decide) (fun c_1 => ?_) (fun c_1 => ?_)
  · refine jv_iconst (v := 4) 19 X dX4_readPlace_19 rfl ?_
    refine jv_istore_n (lv2 := [(2, .int 4), (0, .ref (a 0)), (1, .int s)]) 20 X dX4_readPlace_20 (by decide) rfl ?_
    refine jv_iload_n 21 X dX4_readPlace_21 2 rfl ?_
    refine jv_bipush (v := 48) 22 X dX4_readPlace_22 (by decide) ?_
    refine jv_bipush (v := 48) 24 X dX4_readPlace_24 (by decide) ?_
    refine jv_iload_n 26 X dX4_readPlace_26 0 rfl ?_
    refine jv_iadd 27 X dX4_readPlace_27 ?_
    refine jv_iconst (v := 1) 28 X dX4_readPlace_28 rfl ?_
    refine jv_isub 29 X dX4_readPlace_29 ?_
    refine jv_norm (x2 := 51) (by decide) ?_
    refine jv_funN 30 X (c_X9_within E _ s 48 51) wn_X4_51 ⟨Nat.le_of_ble_eq_true rfl, Nat.le_of_ble_eq_true rfl⟩ ⟨rfl, rfl⟩ ⟨Nat.zero_le _, Nat.zero_le _⟩ dX4_readPlace_30 rfl [] rfl (Nat.le_of_ble_eq_true rfl) ?_
    refine jv_z_ne 33 X dX4_readPlace_33 38 (by decide) (fun c_2 => ?_) (fun c_2 => ?_)
    · refine jv_aload_n 38 X dX4_readPlace_38 1 rfl ?_
      refine jv_get (v := .ref (a 4)) 39 X gf_X4_21 dX4_readPlace_39 0 rfl rfl ?_
      refine jv_aload_n 42 X dX4_readPlace_42 1 rfl ?_
      refine jv_get (v := .int (nI c)) 43 X gf_X4_31 dX4_readPlace_43 0 rfl rfl ?_
      refine jv_iload_n 46 X dX4_readPlace_46 2 rfl ?_
      refine jv_bipush (v := 48) 47 X dX4_readPlace_47 (by decide) ?_
      refine jv_isub 49 X dX4_readPlace_49 ?_
      refine jv_iast (ws2 := bPd E a count (nI c) signs kinds ones (upd places c (s - 48)) numbers) (f := places) 50 X dX4_readPlace_50 4 rfl (by decide) c rfl (by omega) rfl ?_
      refine jv_iconst (v := 3) 51 X dX4_readPlace_51 rfl ?_
      have hq : pdPlace c kinds ones places numbers s = (3, c, kinds, ones, (upd places c (s - 48)), numbers) := by simp [pdPlace, lt_nle, -Int32.not_le, c_1, c_2]
      exact jv_iret 52 X Y rfl dX4_readPlace_52 () (by rw [hq]; try rfl) (by rw [hq]; try rfl)
    · refine jv_iconst (v := 4) 36 X dX4_readPlace_36 rfl ?_
      have hq : pdPlace c kinds ones places numbers s = (4, c, kinds, ones, places, numbers) := by simp [pdPlace, lt_nle, -Int32.not_le, c_1, c_2]
      exact jv_iret 37 X Y rfl dX4_readPlace_37 () (by rw [hq]; try rfl) (by rw [hq]; try rfl)
  · refine jv_bipush (v := 8) 14 X dX4_readPlace_14 (by decide) ?_
    refine jv_goto 16 X dX4_readPlace_16 20 (by decide) ?_
    refine jv_istore_n (lv2 := [(2, .int 8), (0, .ref (a 0)), (1, .int s)]) 20 X dX4_readPlace_20 (by decide) rfl ?_
    refine jv_iload_n 21 X dX4_readPlace_21 2 rfl ?_
    refine jv_bipush (v := 48) 22 X dX4_readPlace_22 (by decide) ?_
    refine jv_bipush (v := 48) 24 X dX4_readPlace_24 (by decide) ?_
    refine jv_iload_n 26 X dX4_readPlace_26 0 rfl ?_
    refine jv_iadd 27 X dX4_readPlace_27 ?_
    refine jv_iconst (v := 1) 28 X dX4_readPlace_28 rfl ?_
    refine jv_isub 29 X dX4_readPlace_29 ?_
    refine jv_norm (x2 := 55) (by decide) ?_
    refine jv_funN 30 X (c_X9_within E _ s 48 55) wn_X4_51 ⟨Nat.le_of_ble_eq_true rfl, Nat.le_of_ble_eq_true rfl⟩ ⟨rfl, rfl⟩ ⟨Nat.zero_le _, Nat.zero_le _⟩ dX4_readPlace_30 rfl [] rfl (Nat.le_of_ble_eq_true rfl) ?_
    refine jv_z_ne 33 X dX4_readPlace_33 38 (by decide) (fun c_3 => ?_) (fun c_3 => ?_)
    · refine jv_aload_n 38 X dX4_readPlace_38 1 rfl ?_
      refine jv_get (v := .ref (a 4)) 39 X gf_X4_21 dX4_readPlace_39 0 rfl rfl ?_
      refine jv_aload_n 42 X dX4_readPlace_42 1 rfl ?_
      refine jv_get (v := .int (nI c)) 43 X gf_X4_31 dX4_readPlace_43 0 rfl rfl ?_
      refine jv_iload_n 46 X dX4_readPlace_46 2 rfl ?_
      refine jv_bipush (v := 48) 47 X dX4_readPlace_47 (by decide) ?_
      refine jv_isub 49 X dX4_readPlace_49 ?_
      refine jv_iast (ws2 := bPd E a count (nI c) signs kinds ones (upd places c (s - 48)) numbers) (f := places) 50 X dX4_readPlace_50 4 rfl (by decide) c rfl (by omega) rfl ?_
      refine jv_iconst (v := 3) 51 X dX4_readPlace_51 rfl ?_
      have hq : pdPlace c kinds ones places numbers s = (3, c, kinds, ones, (upd places c (s - 48)), numbers) := by simp [pdPlace, lt_nle, -Int32.not_le, c_1, c_3]
      exact jv_iret 52 X Y rfl dX4_readPlace_52 () (by rw [hq]; try rfl) (by rw [hq]; try rfl)
    · refine jv_iconst (v := 4) 36 X dX4_readPlace_36 rfl ?_
      have hq : pdPlace c kinds ones places numbers s = (4, c, kinds, ones, places, numbers) := by simp [pdPlace, lt_nle, -Int32.not_le, c_1, c_3]
      exact jv_iret 37 X Y rfl dX4_readPlace_37 () (by rw [hq]; try rfl) (by rw [hq]; try rfl)
theorem c_X4_readNumber (E : EE) (l : Launch) (a : Nat → Nat) (count : Int32) (c : Nat) (signs : Nat → Int32) (kinds : Nat → Int32) (ones : Nat → Int32) (places : Nat → Int32) (numbers : Nat → Int32) (s : Int32) (hc : c < 60) : CT E l yX4_readNumber cX4_readNumber 2 (some .int) { frames := 1, cells := 0, slots := 0, locals := 22 } [.ref (a 0), .int s] (bPd E a count (nI c) signs kinds ones places numbers) (some (.int (nI (pdNum c kinds ones places numbers s).1))) (bPd E a count (nI (pdNum c kinds ones places numbers s).2.1) signs ((pdNum c kinds ones places numbers s).2.2.1) ((pdNum c kinds ones places numbers s).2.2.2.1) ((pdNum c kinds ones places numbers s).2.2.2.2.1) ((pdNum c kinds ones places numbers s).2.2.2.2.2)) := by
  refine CT.intro (by decide +kernel) (Nat.le_of_ble_eq_true rfl) (fun K X Y => ?_)
  refine jv_iload_n 0 X dX4_readNumber_0 1 rfl ?_
  refine jv_bipush (v := 49) 1 X dX4_readNumber_1 (by decide) ?_
  refine jv_bipush (v := 57) 3 X dX4_readNumber_3 (by decide) ?_
  refine jv_funN 5 X (c_X9_within E _ s 49 57) wn_X4_51 ⟨Nat.le_of_ble_eq_true rfl, Nat.le_of_ble_eq_true rfl⟩ ⟨rfl, rfl⟩ ⟨Nat.zero_le _, Nat.zero_le _⟩ dX4_readNumber_5 rfl [] rfl (Nat.le_of_ble_eq_true rfl) ?_
  refine jv_z_ne 8 X dX4_readNumber_8 13 (by decide) (fun c_1 => ?_) (fun c_1 => ?_)
  · refine jv_aload_n 13 X dX4_readNumber_13 0 rfl ?_
    refine jv_get (v := .ref (a 5)) 14 X gf_X4_24 dX4_readNumber_14 0 rfl rfl ?_
    refine jv_aload_n 17 X dX4_readNumber_17 0 rfl ?_
    refine jv_get (v := .int (nI c)) 18 X gf_X4_31 dX4_readNumber_18 0 rfl rfl ?_
    refine jv_iload_n 21 X dX4_readNumber_21 1 rfl ?_
    refine jv_bipush (v := 48) 22 X dX4_readNumber_22 (by decide) ?_
    refine jv_isub 24 X dX4_readNumber_24 ?_
    refine jv_iast (ws2 := bPd E a count (nI c) signs kinds ones places (upd numbers c (s - 48))) (f := numbers) 25 X dX4_readNumber_25 5 rfl (by decide) c rfl (by omega) rfl ?_
    refine jv_aload_n 26 X dX4_readNumber_26 0 rfl ?_
    refine jv_callW (w1 := bPd E a count (nI (c + 1)) signs kinds ones places (upd numbers c (s - 48))) 27 X (c_X4_end E _ a count c signs kinds ones places (upd numbers c (s - 48))) wv_X4_55 ⟨Nat.le_of_ble_eq_true rfl, Nat.le_of_ble_eq_true rfl⟩ ⟨rfl, rfl⟩ ⟨Nat.zero_le _, Nat.zero_le _⟩ dX4_readNumber_27 rfl [] rfl (Nat.le_of_ble_eq_true rfl) 0 rfl rfl ?_
    have hq : pdNum c kinds ones places numbers s = (0, (c + 1), kinds, ones, places, (upd numbers c (s - 48))) := by simp [pdNum, lt_nle, -Int32.not_le, c_1]
    exact jv_iret 30 X Y rfl dX4_readNumber_30 () (by rw [hq]; try rfl) (by rw [hq]; try rfl)
  · refine jv_iconst (v := 4) 11 X dX4_readNumber_11 rfl ?_
    have hq : pdNum c kinds ones places numbers s = (4, c, kinds, ones, places, numbers) := by simp [pdNum, lt_nle, -Int32.not_le, c_1]
    exact jv_iret 12 X Y rfl dX4_readNumber_12 () (by rw [hq]; try rfl) (by rw [hq]; try rfl)
theorem c_X4_afterSign (E : EE) (l : Launch) (a : Nat → Nat) (count : Int32) (c : Nat) (signs : Nat → Int32) (kinds : Nat → Int32) (ones : Nat → Int32) (places : Nat → Int32) (numbers : Nat → Int32) (q : Nat) (s : Int32) (hc : c < 60) (hq : q < 4) : CT E l yX4_afterSign cX4_afterSign 3 (some .int) { frames := 2, cells := 0, slots := 0, locals := 44 } [.ref (a 0), .int (nI q), .int s] (bPd E a count (nI c) signs kinds ones places numbers) (some (.int (nI (pdStep q c kinds ones places numbers s).1))) (bPd E a count (nI (pdStep q c kinds ones places numbers s).2.1) signs ((pdStep q c kinds ones places numbers s).2.2.1) ((pdStep q c kinds ones places numbers s).2.2.2.1) ((pdStep q c kinds ones places numbers s).2.2.2.2.1) ((pdStep q c kinds ones places numbers s).2.2.2.2.2)) := by
  refine CT.intro (by decide +kernel) (Nat.le_of_ble_eq_true rfl) (fun K X Y => ?_)
  rcases (show q = 0 ∨ q = 1 ∨ q = 2 ∨ q = 3 by omega) with rfl | rfl | rfl | rfl
  · refine jv_iload_n 0 X dX4_afterSign_0 1 rfl ?_
    refine jv_tabIn 1 X dX4_afterSign_1 28 (by decide) (by decide) rfl (by decide) ?_
    refine jv_aload_n 28 X dX4_afterSign_28 0 rfl ?_
    refine jv_iload_n 29 X dX4_afterSign_29 2 rfl ?_
    refine jv_callW (w1 := bPd E a count (nI (pdBegin c kinds ones places numbers s).2.1) signs ((pdBegin c kinds ones places numbers s).2.2.1) ((pdBegin c kinds ones places numbers s).2.2.2.1) ((pdBegin c kinds ones places numbers s).2.2.2.2.1) ((pdBegin c kinds ones places numbers s).2.2.2.2.2)) 30 X (c_X4_begin E _ a count c signs kinds ones places numbers s (by omega)) wv_X4_38 ⟨Nat.le_of_ble_eq_true rfl, Nat.le_of_ble_eq_true rfl⟩ ⟨rfl, rfl⟩ ⟨Nat.zero_le _, Nat.zero_le _⟩ dX4_afterSign_30 rfl [] rfl (Nat.le_of_ble_eq_true rfl) 0 rfl rfl ?_
    exact jv_iret 33 X Y rfl dX4_afterSign_33 () rfl rfl
  · refine jv_iload_n 0 X dX4_afterSign_0 1 rfl ?_
    refine jv_tabIn 1 X dX4_afterSign_1 34 (by decide) (by decide) rfl (by decide) ?_
    refine jv_aload_n 34 X dX4_afterSign_34 0 rfl ?_
    refine jv_iload_n 35 X dX4_afterSign_35 2 rfl ?_
    refine jv_callW (w1 := bPd E a count (nI (pdVerb c kinds ones places numbers s).2.1) signs ((pdVerb c kinds ones places numbers s).2.2.1) ((pdVerb c kinds ones places numbers s).2.2.2.1) ((pdVerb c kinds ones places numbers s).2.2.2.2.1) ((pdVerb c kinds ones places numbers s).2.2.2.2.2)) 36 X (c_X4_readVerb E _ a count c signs kinds ones places numbers s (by omega)) wv_X4_42 ⟨Nat.le_of_ble_eq_true rfl, Nat.le_of_ble_eq_true rfl⟩ ⟨rfl, rfl⟩ ⟨Nat.zero_le _, Nat.zero_le _⟩ dX4_afterSign_36 rfl [] rfl (Nat.le_of_ble_eq_true rfl) 0 rfl rfl ?_
    exact jv_iret 39 X Y rfl dX4_afterSign_39 () rfl rfl
  · refine jv_iload_n 0 X dX4_afterSign_0 1 rfl ?_
    refine jv_tabIn 1 X dX4_afterSign_1 40 (by decide) (by decide) rfl (by decide) ?_
    refine jv_aload_n 40 X dX4_afterSign_40 0 rfl ?_
    refine jv_iload_n 41 X dX4_afterSign_41 2 rfl ?_
    refine jv_callW (w1 := bPd E a count (nI (pdPlace c kinds ones places numbers s).2.1) signs ((pdPlace c kinds ones places numbers s).2.2.1) ((pdPlace c kinds ones places numbers s).2.2.2.1) ((pdPlace c kinds ones places numbers s).2.2.2.2.1) ((pdPlace c kinds ones places numbers s).2.2.2.2.2)) 42 X (c_X4_readPlace E _ a count c signs kinds ones places numbers s (by omega)) wv_X4_45 ⟨Nat.le_of_ble_eq_true rfl, Nat.le_of_ble_eq_true rfl⟩ ⟨rfl, rfl⟩ ⟨Nat.zero_le _, Nat.zero_le _⟩ dX4_afterSign_42 rfl [] rfl (Nat.le_of_ble_eq_true rfl) 0 rfl rfl ?_
    exact jv_iret 45 X Y rfl dX4_afterSign_45 () rfl rfl
  · refine jv_iload_n 0 X dX4_afterSign_0 1 rfl ?_
    refine jv_tabOut 1 X dX4_afterSign_1 46 (by decide) (by decide) ?_
    refine jv_aload_n 46 X dX4_afterSign_46 0 rfl ?_
    refine jv_iload_n 47 X dX4_afterSign_47 2 rfl ?_
    refine jv_callW (w1 := bPd E a count (nI (pdNum c kinds ones places numbers s).2.1) signs ((pdNum c kinds ones places numbers s).2.2.1) ((pdNum c kinds ones places numbers s).2.2.2.1) ((pdNum c kinds ones places numbers s).2.2.2.2.1) ((pdNum c kinds ones places numbers s).2.2.2.2.2)) 48 X (c_X4_readNumber E _ a count c signs kinds ones places numbers s (by omega)) wv_X4_48 ⟨Nat.le_of_ble_eq_true rfl, Nat.le_of_ble_eq_true rfl⟩ ⟨rfl, rfl⟩ ⟨Nat.zero_le _, Nat.zero_le _⟩ dX4_afterSign_48 rfl [] rfl (Nat.le_of_ble_eq_true rfl) 0 rfl rfl ?_
    exact jv_iret 51 X Y rfl dX4_afterSign_51 () rfl rfl
theorem c_X4_read (E : EE) (l : Launch) (a : Nat → Nat) (sn : Nat) (acts : Int32) (signs : Nat → Int32) (kinds : Nat → Int32) (ones : Nat → Int32) (places : Nat → Int32) (numbers : Nat → Int32) (hs : sn ≤ 60) : CT E l yX4_read cX4_read 3 (some .int) { frames := 3, cells := 0, slots := 0, locals := 66 } [.ref (a 0)] (bPd E a (nI sn) acts signs kinds ones places numbers) (some (.int ((rdC signs sn kinds ones places numbers).1))) (bPd E a (nI sn) (nI (rdC signs sn kinds ones places numbers).2.2.1) signs ((rdC signs sn kinds ones places numbers).2.2.2.1) ((rdC signs sn kinds ones places numbers).2.2.2.2.1) ((rdC signs sn kinds ones places numbers).2.2.2.2.2.1) ((rdC signs sn kinds ones places numbers).2.2.2.2.2.2)) := by
  refine CT.intro (by decide +kernel) (Nat.le_of_ble_eq_true rfl) (fun K X Y => ?_)
  refine jv_aload_n 0 X dX4_read_0 0 rfl ?_
  refine jv_iconst (v := 0) 1 X dX4_read_1 rfl ?_
  refine jv_puti (ws2 := bPd E a (nI sn) 0 signs kinds ones places numbers) 2 X gf_X4_31 tyX4_ok nmX4 rfl rfl dX4_read_2 0 rfl (Nat.le_of_ble_eq_true rfl) rfl ?_
  refine jv_iconst (v := 0) 5 X dX4_read_5 rfl ?_
  refine jv_istore_n (lv2 := [(1, .int 0), (0, .ref (a 0))]) 6 X dX4_read_6 (by decide) rfl ?_
  refine jv_iconst (v := 0) 7 X dX4_read_7 rfl ?_
  refine jv_istore_n (lv2 := [(2, .int 0), (1, .int 0), (0, .ref (a 0))]) 8 X dX4_read_8 (by decide) rfl ?_
  have lp9 : ∀ (n9 : Nat) (k q c : Nat) (kd on pl nm : Nat → Int32), (k ≤ sn) → (q < 4) → (c ≤ k) → (itE (rdS signs) sn 0 (0, 0, kinds, ones, places, numbers) = itE (rdS signs) (sn - k) k (q, c, kd, on, pl, nm)) → sn - k < n9 → JV E K 0 0 (bPd E a (nI sn) (nI c) signs kd on pl nm) [(0, .ref (a 0)), (1, .int (nI q)), (2, .int (nI k))] 9 [] := by
    intro n9
    induction n9 with
    | zero => intro k q c kd on pl nm hk hq hc hI hm; exact absurd hm (Nat.not_lt_zero _)
    | succ n9 ih9 =>
      intro k q c kd on pl nm hk hq hc hI hm
      refine jv_iload_n 9 X dX4_read_9 2 rfl ?_
      refine jv_aload_n 10 X dX4_read_10 0 rfl ?_
      refine jv_get (v := .int (nI sn)) 11 X gf_X4_27 dX4_read_11 0 rfl rfl ?_
      refine jn_icmp_ge 14 X dX4_read_14 51 (by decide) (fun c_1 => ?_) (fun c_1 => ?_)
      · have n_1 : sn ≤ k := (nx_le (a := sn) (b := k) rfl rfl (by omega) (by omega)).mp c_1
        refine jv_iload_n 51 X dX4_read_51 1 rfl ?_
        refine jn_if_ne 52 X dX4_read_52 60 (by decide) (fun c_2 => ?_) (fun c_2 => ?_)
        · have n_2 : ¬ q = 0 := fun zq => c_2 ((nx_eq (a := q) (b := 0) rfl rfl (by omega) (by omega)).mpr zq)
          refine jv_aload_n 60 X dX4_read_60 0 rfl ?_
          refine jv_get (v := .int (nI sn)) 61 X gf_X4_27 dX4_read_61 0 rfl rfl ?_
          have hq : rdC signs sn kinds ones places numbers = ((nI sn), q, c, kd, on, pl, nm) := by unfold rdC; rw [hI, show sn - k = 0 by omega, itE_0, rdR]; dsimp only; rw [if_neg n_2]
          exact jv_iret 64 X Y rfl dX4_read_64 () (by rw [hq]; try rfl) (by rw [hq]; try rfl)
        · have n_2 : q = 0 := (nx_eq (a := q) (b := 0) rfl rfl (by omega) (by omega)).mp c_2
          refine jv_bipush (v := (-6)) 55 X dX4_read_55 (by decide) ?_
          refine jv_goto 57 X dX4_read_57 64 (by decide) ?_
          have hq : rdC signs sn kinds ones places numbers = ((-6), q, c, kd, on, pl, nm) := by unfold rdC; rw [hI, show sn - k = 0 by omega, itE_0, rdR]; dsimp only; rw [if_pos n_2]
          exact jv_iret 64 X Y rfl dX4_read_64 () (by rw [hq]; try rfl) (by rw [hq]; try rfl)
      · have n_1 : ¬ sn ≤ k := fun zq => c_1 ((nx_le (a := sn) (b := k) rfl rfl (by omega) (by omega)).mpr zq)
        refine jv_aload_n 17 X dX4_read_17 0 rfl ?_
        refine jv_get (v := .int (nI c)) 18 X gf_X4_31 dX4_read_18 0 rfl rfl ?_
        refine jv_bipush (v := 60) 21 X dX4_read_21 (by decide) ?_
        refine jn_icmp_ge 23 X dX4_read_23 51 (by decide) (fun c_3 => absurd ((nx_le (a := 60) (b := c) rfl rfl (by omega) (by omega)).mp c_3) (by omega)) (fun c_3 => ?_)
        have n_3 : ¬ 60 ≤ c := fun zq => c_3 ((nx_le (a := 60) (b := c) rfl rfl (by omega) (by omega)).mpr zq)
        refine jv_aload_n 26 X dX4_read_26 0 rfl ?_
        refine jv_iload_n 27 X dX4_read_27 1 rfl ?_
        refine jv_aload_n 28 X dX4_read_28 0 rfl ?_
        refine jv_get (v := .ref (a 1)) 29 X gf_X4_9 dX4_read_29 0 rfl rfl ?_
        refine jv_iload_n 32 X dX4_read_32 2 rfl ?_
        refine jv_iald (f := signs) 33 X dX4_read_33 1 rfl (by decide) k rfl (by omega) ?_
        refine jv_callW (w1 := bPd E a (nI sn) (nI (pdStep q c kd on pl nm (signs k)).2.1) signs ((pdStep q c kd on pl nm (signs k)).2.2.1) ((pdStep q c kd on pl nm (signs k)).2.2.2.1) ((pdStep q c kd on pl nm (signs k)).2.2.2.2.1) ((pdStep q c kd on pl nm (signs k)).2.2.2.2.2)) 34 X (c_X4_afterSign E _ a (nI sn) c signs kd on pl nm q (signs k) (by omega) hq) wv_X4_34 ⟨Nat.le_of_ble_eq_true rfl, Nat.le_of_ble_eq_true rfl⟩ ⟨rfl, rfl⟩ ⟨Nat.zero_le _, Nat.zero_le _⟩ dX4_read_34 rfl [] rfl (Nat.le_of_ble_eq_true rfl) 0 rfl rfl ?_
        have hps := pdStep_le (q := q) (c := c) (kd := kd) (on := on) (pl := pl) (nm := nm) (s := signs k)
        refine jv_istore_n (lv2 := [(1, .int (nI ((pdStep q c kd on pl nm (signs k)).1))), (0, .ref (a 0)), (2, .int (nI k))]) 37 X dX4_read_37 (by decide) rfl ?_
        refine jv_iload_n 38 X dX4_read_38 0 rfl ?_
        refine jv_iconst (v := 4) 39 X dX4_read_39 rfl ?_
        refine jn_icmp_ne 40 X dX4_read_40 45 (by decide) (fun c_4 => ?_) (fun c_4 => ?_)
        · have n_4 : ¬ (pdStep q c kd on pl nm (signs k)).1 = 4 := fun zq => c_4 ((nx_eq (a := (pdStep q c kd on pl nm (signs k)).1) (b := 4) rfl rfl (by omega) (by omega)).mpr zq)
          have h4 : ¬ (pdStep q c kd on pl nm (signs k)).1 = 4 := n_4
          refine jv_iinc (v := (nI (k + 1))) (lv2 := [(2, .int (nI (k + 1))), (1, .int (nI ((pdStep q c kd on pl nm (signs k)).1))), (0, .ref (a 0))]) 45 X dX4_read_45 2 rfl (nx_inc _) (by decide) rfl ?_
          refine jv_goto 48 X dX4_read_48 9 (by decide) ?_
          exact jv_lv [2, 1, 0] rfl (ih9 (k + 1) ((pdStep q c kd on pl nm (signs k)).1) ((pdStep q c kd on pl nm (signs k)).2.1) ((pdStep q c kd on pl nm (signs k)).2.2.1) ((pdStep q c kd on pl nm (signs k)).2.2.2.1) ((pdStep q c kd on pl nm (signs k)).2.2.2.2.1) ((pdStep q c kd on pl nm (signs k)).2.2.2.2.2) (by omega) (by omega) (by omega) (by rw [hI, show sn - k = (sn - (k + 1)) + 1 by omega]; exact itE_r (if_neg h4)) (by omega))
        · have n_4 : (pdStep q c kd on pl nm (signs k)).1 = 4 := (nx_eq (a := (pdStep q c kd on pl nm (signs k)).1) (b := 4) rfl rfl (by omega) (by omega)).mp c_4
          have h4 : (pdStep q c kd on pl nm (signs k)).1 = 4 := n_4
          refine jv_iload_n 43 X dX4_read_43 2 rfl ?_
          have hq : rdC signs sn kinds ones places numbers = (nI k, pdStep q c kd on pl nm (signs k)) := by unfold rdC; rw [hI, show sn - k = (sn - (k + 1)) + 1 by omega, itE_l (if_pos h4)]; rfl
          exact jv_iret 44 X Y rfl dX4_read_44 () (by rw [hq]; try rfl) (by rw [hq]; try rfl)
  exact jv_lv [2, 1, 0] rfl (lp9 _ 0 0 0 kinds ones places numbers (by omega) (by omega) (by omega) rfl (Nat.lt_succ_self _))
theorem c_X8_tryAct (E : EE) (l : Launch) (w : Nat) (t : Nat → Nat) (wacts : Int32) (stuckAct : Int32) (why : Int32) (metAct : Int32) (metBridge : Int32) (r : Rl) (b : Nat → Nat) (count : Int32) (acts : Int32) (signs : Nat → Int32) (kinds : Nat → Int32) (ones : Nat → Int32) (places : Nat → Int32) (numbers : Nat → Int32) (i : Nat) (hi : i < 60) (hK : okK kinds ones places i) (hD : dyC r) : CT E l yX8_tryAct cX8_tryAct 7 none { frames := 4, cells := 0, slots := 0, locals := 87 } [.ref w, .ref (b 0), .int (nI i)] (wB [bWk w (t 0) wacts stuckAct why metAct metBridge, tRl E t r, bPd E b count acts signs kinds ones places numbers]) (none) (wB [bWk w (t 0) wacts ((taF kinds ones places numbers i (r, stuckAct, why, metAct, metBridge)).2.1) ((taF kinds ones places numbers i (r, stuckAct, why, metAct, metBridge)).2.2.1) ((taF kinds ones places numbers i (r, stuckAct, why, metAct, metBridge)).2.2.2.1) ((taF kinds ones places numbers i (r, stuckAct, why, metAct, metBridge)).2.2.2.2), tRl E t ((taF kinds ones places numbers i (r, stuckAct, why, metAct, metBridge)).1), bPd E b count acts signs kinds ones places numbers]) := by
  refine CT.intro (by decide +kernel) (Nat.le_of_ble_eq_true rfl) (fun K X Y => ?_)
  refine jv_aload_n 0 X dX8_tryAct_0 1 rfl ?_
  refine jv_get (v := .ref (b 2)) 1 X gf_X8_49 dX8_tryAct_1 12 rfl rfl ?_
  refine jv_iload_n 4 X dX8_tryAct_4 2 rfl ?_
  refine jv_iald (f := kinds) 5 X dX8_tryAct_5 14 rfl (by decide) i rfl (by omega) ?_
  refine jv_istore_n (lv2 := [(3, .int (kinds i)), (0, .ref w), (1, .ref (b 0)), (2, .int (nI i))]) 6 X dX8_tryAct_6 (by decide) rfl ?_
  refine jv_aload_n 7 X dX8_tryAct_7 2 rfl ?_
  refine jv_get (v := .ref (b 4)) 8 X gf_X8_53 dX8_tryAct_8 12 rfl rfl ?_
  refine jv_iload_n 11 X dX8_tryAct_11 3 rfl ?_
  refine jv_iald (f := places) 12 X dX8_tryAct_12 16 rfl (by decide) i rfl (by omega) ?_
  refine jv_norm (x2 := nI (places i).toNatClampNeg) hK.2.1 ?_
  refine jv_istore (lv2 := [(4, .int (nI ((places i).toNatClampNeg))), (3, .int (kinds i)), (0, .ref w), (1, .ref (b 0)), (2, .int (nI i))]) 13 X dX8_tryAct_13 (by decide) rfl ?_
  refine jv_aload_n 15 X dX8_tryAct_15 2 rfl ?_
  refine jv_get (v := .ref (t 0)) 16 X gf_X8_12 dX8_tryAct_16 0 rfl rfl ?_
  refine jv_iload_n 19 X dX8_tryAct_19 1 rfl ?_
  refine jv_aload_n 20 X dX8_tryAct_20 3 rfl ?_
  refine jv_get (v := .ref (b 3)) 21 X gf_X8_56 dX8_tryAct_21 12 rfl rfl ?_
  refine jv_iload_n 24 X dX8_tryAct_24 4 rfl ?_
  refine jv_iald (f := ones) 25 X dX8_tryAct_25 15 rfl (by decide) i rfl (by omega) ?_
  refine jv_norm (x2 := nI (ones i).toNatClampNeg) hK.1.1 ?_
  refine jv_iload 26 X dX8_tryAct_26 0 rfl ?_
  refine jv_aload_n 28 X dX8_tryAct_28 3 rfl ?_
  refine jv_get (v := .ref (b 5)) 29 X gf_X8_59 dX8_tryAct_29 12 rfl rfl ?_
  refine jv_iload_n 32 X dX8_tryAct_32 4 rfl ?_
  refine jv_iald (f := numbers) 33 X dX8_tryAct_33 17 rfl (by decide) i rfl (by omega) ?_
  refine jv_callB1 (wl2 := [bWk w (t 0) wacts stuckAct why metAct metBridge, tRl E t r, bPd E b count acts signs kinds ones places numbers]) 34 X (c_X5_hindrance E _ t r (kinds i) ((ones i).toNatClampNeg) ((places i).toNatClampNeg) (numbers i) hK.1.2 hK.2.2.1) wv_X8_62 ⟨Nat.le_of_ble_eq_true rfl, Nat.le_of_ble_eq_true rfl⟩ ⟨rfl, rfl⟩ ⟨Nat.zero_le _, Nat.zero_le _⟩ dX8_tryAct_34 rfl [] rfl (Nat.le_of_ble_eq_true rfl) 1 rfl [(t 0), (t 1), (t 2), (t 3), (t 4), (t 5), (t 6), (t 7), (t 8), (t 9), (t 10)] rfl rfl rfl rfl rfl ?_
  refine jv_istore (lv2 := [(5, .int (hdF r (kinds i) ((ones i).toNatClampNeg) ((places i).toNatClampNeg) (numbers i))), (4, .int (nI ((places i).toNatClampNeg))), (3, .int (kinds i)), (0, .ref w), (1, .ref (b 0)), (2, .int (nI i))]) 37 X dX8_tryAct_37 (by decide) rfl ?_
  refine jv_iload 39 X dX8_tryAct_39 0 rfl ?_
  refine jn_if_eq 41 X dX8_tryAct_41 56 (by decide) (fun c_1 => ?_) (fun c_1 => ?_)
  · refine jv_aload_n 56 X dX8_tryAct_56 3 rfl ?_
    refine jv_get (v := .ref (t 0)) 57 X gf_X8_12 dX8_tryAct_57 0 rfl rfl ?_
    refine jv_iload_n 60 X dX8_tryAct_60 2 rfl ?_
    refine jv_aload_n 61 X dX8_tryAct_61 4 rfl ?_
    refine jv_get (v := .ref (b 3)) 62 X gf_X8_56 dX8_tryAct_62 12 rfl rfl ?_
    refine jv_iload_n 65 X dX8_tryAct_65 5 rfl ?_
    refine jv_iald (f := ones) 66 X dX8_tryAct_66 15 rfl (by decide) i rfl (by omega) ?_
    refine jv_norm (x2 := nI (ones i).toNatClampNeg) hK.1.1 ?_
    refine jv_iload 67 X dX8_tryAct_67 1 rfl ?_
    refine jv_aload_n 69 X dX8_tryAct_69 4 rfl ?_
    refine jv_get (v := .ref (b 5)) 70 X gf_X8_59 dX8_tryAct_70 12 rfl rfl ?_
    refine jv_iload_n 73 X dX8_tryAct_73 5 rfl ?_
    refine jv_iald (f := numbers) 74 X dX8_tryAct_74 17 rfl (by decide) i rfl (by omega) ?_
    refine jv_callB1 (wl2 := [bWk w (t 0) wacts stuckAct why metAct metBridge, tRl E t (acF r (kinds i) ((ones i).toNatClampNeg) ((places i).toNatClampNeg) (numbers i)), bPd E b count acts signs kinds ones places numbers]) 75 X (c_X5_act E _ t r (kinds i) ((ones i).toNatClampNeg) ((places i).toNatClampNeg) (numbers i) hK.1.2 hK.2.2.1 hK.2.2.2 (fun _ => hD.1)) wv_X8_66 ⟨Nat.le_of_ble_eq_true rfl, Nat.le_of_ble_eq_true rfl⟩ ⟨rfl, rfl⟩ ⟨Nat.zero_le _, Nat.zero_le _⟩ dX8_tryAct_75 rfl [] rfl (Nat.le_of_ble_eq_true rfl) 1 rfl [(t 0), (t 1), (t 2), (t 3), (t 4), (t 5), (t 6), (t 7), (t 8), (t 9), (t 10)] rfl rfl rfl rfl rfl ?_
    refine jv_iload_n 78 X dX8_tryAct_78 2 rfl ?_
    refine jv_bipush (v := 40) 79 X dX8_tryAct_79 (by decide) ?_
    refine jn_icmp_eq 81 X dX8_tryAct_81 90 (by decide) (fun c_2 => ?_) (fun c_2 => ?_)
    · refine jv_iconst (v := 1) 90 X dX8_tryAct_90 rfl ?_
      refine jv_goto 91 X dX8_tryAct_91 95 (by decide) ?_
      refine jv_istore (lv2 := [(6, .int 1), (5, .int (hdF r (kinds i) ((ones i).toNatClampNeg) ((places i).toNatClampNeg) (numbers i))), (4, .int (nI ((places i).toNatClampNeg))), (3, .int (kinds i)), (0, .ref w), (1, .ref (b 0)), (2, .int (nI i))]) 95 X dX8_tryAct_95 (by decide) rfl ?_
      refine jv_iload 97 X dX8_tryAct_97 0 rfl ?_
      refine jn_if_eq 99 X dX8_tryAct_99 134 (by decide) (fun c_3 => absurd c_3 (by decide)) (fun _ => ?_)
      refine jv_aload_n 102 X dX8_tryAct_102 4 rfl ?_
      refine jv_get (v := .int metAct) 103 X gf_X8_25 dX8_tryAct_103 0 rfl rfl ?_
      refine jv_bipush (v := (-6)) 106 X dX8_tryAct_106 (by decide) ?_
      refine jn_icmp_ne 108 X dX8_tryAct_108 134 (by decide) (fun c_4 => ?_) (fun c_4 => ?_)
      · have hq : taF kinds ones places numbers i (r, stuckAct, why, metAct, metBridge) = ((acF r (kinds i) ((ones i).toNatClampNeg) ((places i).toNatClampNeg) (numbers i)), stuckAct, why, metAct, metBridge) := taF_1 c_1 (fun z => c_4 z.2.1)
        exact jv_vret 134 X Y rfl dX8_tryAct_134 () rfl (by rw [hq]; try rfl)
      · refine jv_aload_n 111 X dX8_tryAct_111 4 rfl ?_
        refine jv_get (v := .ref (t 0)) 112 X gf_X8_12 dX8_tryAct_112 0 rfl rfl ?_
        refine jv_iload 115 X dX8_tryAct_115 2 rfl ?_
        refine jv_callB1 (wl2 := [bWk w (t 0) wacts stuckAct why metAct metBridge, tRl E t (acF r (kinds i) ((ones i).toNatClampNeg) ((places i).toNatClampNeg) (numbers i)), bPd E b count acts signs kinds ones places numbers]) 117 X (c_X5_hasMet E _ t (acF r (kinds i) ((ones i).toNatClampNeg) ((places i).toNatClampNeg) (numbers i)) ((places i).toNatClampNeg) (hK.2.2.1 (by first | exact Or.inl (by assumption) | exact Or.inr (by assumption)))) wv_X8_70 ⟨Nat.le_of_ble_eq_true rfl, Nat.le_of_ble_eq_true rfl⟩ ⟨rfl, rfl⟩ ⟨Nat.zero_le _, Nat.zero_le _⟩ dX8_tryAct_117 rfl [] rfl (Nat.le_of_ble_eq_true rfl) 1 rfl [(t 0), (t 1), (t 2), (t 3), (t 4), (t 5), (t 6), (t 7), (t 8), (t 9), (t 10)] rfl rfl rfl rfl rfl ?_
        refine jv_z_eq 120 X dX8_tryAct_120 134 (by decide) (fun c_5 => ?_) (fun c_5 => ?_)
        · have hq : taF kinds ones places numbers i (r, stuckAct, why, metAct, metBridge) = ((acF r (kinds i) ((ones i).toNatClampNeg) ((places i).toNatClampNeg) (numbers i)), stuckAct, why, metAct, metBridge) := taF_1 c_1 (fun z => c_5 z.2.2)
          exact jv_vret 134 X Y rfl dX8_tryAct_134 () rfl (by rw [hq]; try rfl)
        · refine jv_aload_n 123 X dX8_tryAct_123 4 rfl ?_
          refine jv_iload_n 124 X dX8_tryAct_124 6 rfl ?_
          refine jv_puti (ws2 := wB [bWk w (t 0) wacts stuckAct why (nI i) metBridge, tRl E t (acF r (kinds i) ((ones i).toNatClampNeg) ((places i).toNatClampNeg) (numbers i)), bPd E b count acts signs kinds ones places numbers]) 125 X gf_X8_25 tyX8_ok nmX8 rfl rfl dX8_tryAct_125 0 rfl (Nat.le_of_ble_eq_true rfl) rfl ?_
          refine jv_aload_n 128 X dX8_tryAct_128 4 rfl ?_
          refine jv_iload 129 X dX8_tryAct_129 2 rfl ?_
          refine jv_puti (ws2 := wB [bWk w (t 0) wacts stuckAct why (nI i) (nI ((places i).toNatClampNeg)), tRl E t (acF r (kinds i) ((ones i).toNatClampNeg) ((places i).toNatClampNeg) (numbers i)), bPd E b count acts signs kinds ones places numbers]) 131 X gf_X8_28 tyX8_ok nmX8 rfl rfl dX8_tryAct_131 0 rfl (Nat.le_of_ble_eq_true rfl) rfl ?_
          have hq : taF kinds ones places numbers i (r, stuckAct, why, metAct, metBridge) = ((acF r (kinds i) ((ones i).toNatClampNeg) ((places i).toNatClampNeg) (numbers i)), stuckAct, why, (nI i), (nI ((places i).toNatClampNeg))) := taF_2 c_1 ⟨Or.inl c_2, c_4, c_5⟩
          exact jv_vret 134 X Y rfl dX8_tryAct_134 () rfl (by rw [hq]; try rfl)
    · refine jv_iload_n 84 X dX8_tryAct_84 2 rfl ?_
      refine jv_bipush (v := 41) 85 X dX8_tryAct_85 (by decide) ?_
      refine jn_icmp_ne 87 X dX8_tryAct_87 94 (by decide) (fun c_6 => ?_) (fun c_6 => ?_)
      · refine jv_iconst (v := 0) 94 X dX8_tryAct_94 rfl ?_
        refine jv_istore (lv2 := [(6, .int 0), (5, .int (hdF r (kinds i) ((ones i).toNatClampNeg) ((places i).toNatClampNeg) (numbers i))), (4, .int (nI ((places i).toNatClampNeg))), (3, .int (kinds i)), (0, .ref w), (1, .ref (b 0)), (2, .int (nI i))]) 95 X dX8_tryAct_95 (by decide) rfl ?_
        refine jv_iload 97 X dX8_tryAct_97 0 rfl ?_
        refine jn_if_eq 99 X dX8_tryAct_99 134 (by decide) (fun _ => ?_) (fun c_7 => absurd c_7 (by decide))
        have hq : taF kinds ones places numbers i (r, stuckAct, why, metAct, metBridge) = ((acF r (kinds i) ((ones i).toNatClampNeg) ((places i).toNatClampNeg) (numbers i)), stuckAct, why, metAct, metBridge) := taF_1 c_1 (fun z => by rcases z.1 with z | z; exact c_2 z; exact c_6 z)
        exact jv_vret 134 X Y rfl dX8_tryAct_134 () rfl (by rw [hq]; try rfl)
      · refine jv_iconst (v := 1) 90 X dX8_tryAct_90 rfl ?_
        refine jv_goto 91 X dX8_tryAct_91 95 (by decide) ?_
        refine jv_istore (lv2 := [(6, .int 1), (5, .int (hdF r (kinds i) ((ones i).toNatClampNeg) ((places i).toNatClampNeg) (numbers i))), (4, .int (nI ((places i).toNatClampNeg))), (3, .int (kinds i)), (0, .ref w), (1, .ref (b 0)), (2, .int (nI i))]) 95 X dX8_tryAct_95 (by decide) rfl ?_
        refine jv_iload 97 X dX8_tryAct_97 0 rfl ?_
        refine jn_if_eq 99 X dX8_tryAct_99 134 (by decide) (fun c_8 => absurd c_8 (by decide)) (fun _ => ?_)
        refine jv_aload_n 102 X dX8_tryAct_102 4 rfl ?_
        refine jv_get (v := .int metAct) 103 X gf_X8_25 dX8_tryAct_103 0 rfl rfl ?_
        refine jv_bipush (v := (-6)) 106 X dX8_tryAct_106 (by decide) ?_
        refine jn_icmp_ne 108 X dX8_tryAct_108 134 (by decide) (fun c_9 => ?_) (fun c_9 => ?_)
        · have hq : taF kinds ones places numbers i (r, stuckAct, why, metAct, metBridge) = ((acF r (kinds i) ((ones i).toNatClampNeg) ((places i).toNatClampNeg) (numbers i)), stuckAct, why, metAct, metBridge) := taF_1 c_1 (fun z => c_9 z.2.1)
          exact jv_vret 134 X Y rfl dX8_tryAct_134 () rfl (by rw [hq]; try rfl)
        · refine jv_aload_n 111 X dX8_tryAct_111 4 rfl ?_
          refine jv_get (v := .ref (t 0)) 112 X gf_X8_12 dX8_tryAct_112 0 rfl rfl ?_
          refine jv_iload 115 X dX8_tryAct_115 2 rfl ?_
          refine jv_callB1 (wl2 := [bWk w (t 0) wacts stuckAct why metAct metBridge, tRl E t (acF r (kinds i) ((ones i).toNatClampNeg) ((places i).toNatClampNeg) (numbers i)), bPd E b count acts signs kinds ones places numbers]) 117 X (c_X5_hasMet E _ t (acF r (kinds i) ((ones i).toNatClampNeg) ((places i).toNatClampNeg) (numbers i)) ((places i).toNatClampNeg) (hK.2.2.1 (by first | exact Or.inl (by assumption) | exact Or.inr (by assumption)))) wv_X8_70 ⟨Nat.le_of_ble_eq_true rfl, Nat.le_of_ble_eq_true rfl⟩ ⟨rfl, rfl⟩ ⟨Nat.zero_le _, Nat.zero_le _⟩ dX8_tryAct_117 rfl [] rfl (Nat.le_of_ble_eq_true rfl) 1 rfl [(t 0), (t 1), (t 2), (t 3), (t 4), (t 5), (t 6), (t 7), (t 8), (t 9), (t 10)] rfl rfl rfl rfl rfl ?_
          refine jv_z_eq 120 X dX8_tryAct_120 134 (by decide) (fun c_10 => ?_) (fun c_10 => ?_)
          · have hq : taF kinds ones places numbers i (r, stuckAct, why, metAct, metBridge) = ((acF r (kinds i) ((ones i).toNatClampNeg) ((places i).toNatClampNeg) (numbers i)), stuckAct, why, metAct, metBridge) := taF_1 c_1 (fun z => c_10 z.2.2)
            exact jv_vret 134 X Y rfl dX8_tryAct_134 () rfl (by rw [hq]; try rfl)
          · refine jv_aload_n 123 X dX8_tryAct_123 4 rfl ?_
            refine jv_iload_n 124 X dX8_tryAct_124 6 rfl ?_
            refine jv_puti (ws2 := wB [bWk w (t 0) wacts stuckAct why (nI i) metBridge, tRl E t (acF r (kinds i) ((ones i).toNatClampNeg) ((places i).toNatClampNeg) (numbers i)), bPd E b count acts signs kinds ones places numbers]) 125 X gf_X8_25 tyX8_ok nmX8 rfl rfl dX8_tryAct_125 0 rfl (Nat.le_of_ble_eq_true rfl) rfl ?_
            refine jv_aload_n 128 X dX8_tryAct_128 4 rfl ?_
            refine jv_iload 129 X dX8_tryAct_129 2 rfl ?_
            refine jv_puti (ws2 := wB [bWk w (t 0) wacts stuckAct why (nI i) (nI ((places i).toNatClampNeg)), tRl E t (acF r (kinds i) ((ones i).toNatClampNeg) ((places i).toNatClampNeg) (numbers i)), bPd E b count acts signs kinds ones places numbers]) 131 X gf_X8_28 tyX8_ok nmX8 rfl rfl dX8_tryAct_131 0 rfl (Nat.le_of_ble_eq_true rfl) rfl ?_
            have hq : taF kinds ones places numbers i (r, stuckAct, why, metAct, metBridge) = ((acF r (kinds i) ((ones i).toNatClampNeg) ((places i).toNatClampNeg) (numbers i)), stuckAct, why, (nI i), (nI ((places i).toNatClampNeg))) := taF_2 c_1 ⟨Or.inr c_6, c_9, c_10⟩
            exact jv_vret 134 X Y rfl dX8_tryAct_134 () rfl (by rw [hq]; try rfl)
  · refine jv_aload_n 44 X dX8_tryAct_44 3 rfl ?_
    refine jv_iload_n 45 X dX8_tryAct_45 5 rfl ?_
    refine jv_puti (ws2 := wB [bWk w (t 0) wacts (nI i) why metAct metBridge, tRl E t r, bPd E b count acts signs kinds ones places numbers]) 46 X gf_X8_18 tyX8_ok nmX8 rfl rfl dX8_tryAct_46 0 rfl (Nat.le_of_ble_eq_true rfl) rfl ?_
    refine jv_aload_n 49 X dX8_tryAct_49 3 rfl ?_
    refine jv_iload 50 X dX8_tryAct_50 0 rfl ?_
    refine jv_puti (ws2 := wB [bWk w (t 0) wacts (nI i) (hdF r (kinds i) ((ones i).toNatClampNeg) ((places i).toNatClampNeg) (numbers i)) metAct metBridge, tRl E t r, bPd E b count acts signs kinds ones places numbers]) 52 X gf_X8_22 tyX8_ok nmX8 rfl rfl dX8_tryAct_52 0 rfl (Nat.le_of_ble_eq_true rfl) rfl ?_
    have hq : taF kinds ones places numbers i (r, stuckAct, why, metAct, metBridge) = (r, (nI i), (hdF r (kinds i) ((ones i).toNatClampNeg) ((places i).toNatClampNeg) (numbers i)), metAct, metBridge) := taF_0 c_1
    exact jv_vret 55 X Y rfl dX8_tryAct_55 () rfl (by rw [hq]; try rfl)
