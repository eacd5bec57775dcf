def adr : List Nat → Nat → Nat
  | [], _ => 0
  | x :: _, 0 => x
  | _ :: l, j + 1 => adr l j
def bk0 (j : Nat) : Int32 := if j < 6 then 100 else if 34 ≤ j ∧ j < 38 then 600 else if j = 38 then 60 else 0
theorem c_X4_init (E : EE) (l : Launch) (b : Nat) : CG E l yX4_init cX4_init 1 none { frames := 1, cells := 5, slots := 300, locals := 20 } [.ref b] [(b, .inr (4, [.int 0, .int 0, .null, .null, .null, .null, .null]))] noB (fun _ : List Nat => none) (fun u : List Nat => bPd E (adr (b :: u)) 0 0 (fun _ => 0) (fun _ => 0) (fun _ => 0) (fun _ => 0) (fun _ => 0)) := by
  refine CG.intro (by decide) (Nat.le_of_ble_eq_true rfl) (fun K X Y _ _ hin => ?_)
  refine jv_aload_n 0 X dX4_init_0 0 rfl ?_
  refine jv_objInit 1 X tm_ml_X4_3 dX4_init_1 (Nat.le_of_ble_eq_true rfl) (Nat.le_of_ble_eq_true rfl) ?_
  refine jv_aload_n 4 X dX4_init_4 0 rfl ?_
  refine jv_bipush (v := 60) 5 X dX4_init_5 (by decide) ?_
  refine jv_newi (n := 60) 7 X dX4_init_7 rfl (by decide) ⟨by decide +kernel, by decide +kernel⟩ (fun q1 => ?_)
  refine jv_putF (ws2 := [(b, .inr (4, [.int 0, .int 0, .ref q1, .null, .null, .null, .null])), (q1, .inl (E.2.1, 60, .inl (fun _ => 0)))]) 9 X hin gf_X4_9 tyX4_ok nmX4 rfl rfl dX4_init_9 0 rfl rfl rfl (Nat.le_of_ble_eq_true rfl) rfl ?_
  refine jv_aload_n 12 X dX4_init_12 0 rfl ?_
  refine jv_bipush (v := 60) 13 X dX4_init_13 (by decide) ?_
  refine jv_newi (n := 60) 15 X dX4_init_15 rfl (by decide) ⟨by decide +kernel, by decide +kernel⟩ (fun q2 => ?_)
  refine jv_putF (ws2 := [(b, .inr (4, [.int 0, .int 0, .ref q1, .ref q2, .null, .null, .null])), (q1, .inl (E.2.1, 60, .inl (fun _ => 0))), (q2, .inl (E.2.1, 60, .inl (fun _ => 0)))]) 17 X hin gf_X4_15 tyX4_ok nmX4 rfl rfl dX4_init_17 0 rfl rfl rfl (Nat.le_of_ble_eq_true rfl) rfl ?_
  refine jv_aload_n 20 X dX4_init_20 0 rfl ?_
  refine jv_bipush (v := 60) 21 X dX4_init_21 (by decide) ?_
  refine jv_newi (n := 60) 23 X dX4_init_23 rfl (by decide) ⟨by decide +kernel, by decide +kernel⟩ (fun q3 => ?_)
  refine jv_putF (ws2 := [(b, .inr (4, [.int 0, .int 0, .ref q1, .ref q2, .ref q3, .null, .null])), (q1, .inl (E.2.1, 60, .inl (fun _ => 0))), (q2, .inl (E.2.1, 60, .inl (fun _ => 0))), (q3, .inl (E.2.1, 60, .inl (fun _ => 0)))]) 25 X hin gf_X4_18 tyX4_ok nmX4 rfl rfl dX4_init_25 0 rfl rfl rfl (Nat.le_of_ble_eq_true rfl) rfl ?_
  refine jv_aload_n 28 X dX4_init_28 0 rfl ?_
  refine jv_bipush (v := 60) 29 X dX4_init_29 (by decide) ?_
  refine jv_newi (n := 60) 31 X dX4_init_31 rfl (by decide) ⟨by decide +kernel, by decide +kernel⟩ (fun q4 => ?_)
  refine jv_putF (ws2 := [(b, .inr (4, [.int 0, .int 0, .ref q1, .ref q2, .ref q3, .ref q4, .null])), (q1, .inl (E.2.1, 60, .inl (fun _ => 0))), (q2, .inl (E.2.1, 60, .inl (fun _ => 0))), (q3, .inl (E.2.1, 60, .inl (fun _ => 0))), (q4, .inl (E.2.1, 60, .inl (fun _ => 0)))]) 33 X hin gf_X4_21 tyX4_ok nmX4 rfl rfl dX4_init_33 0 rfl rfl rfl (Nat.le_of_ble_eq_true rfl) rfl ?_
  refine jv_aload_n 36 X dX4_init_36 0 rfl ?_
  refine jv_bipush (v := 60) 37 X dX4_init_37 (by decide) ?_
  refine jv_newi (n := 60) 39 X dX4_init_39 rfl (by decide) ⟨by decide +kernel, by decide +kernel⟩ (fun q5 => ?_)
  refine jv_putF (ws2 := [(b, .inr (4, [.int 0, .int 0, .ref q1, .ref q2, .ref q3, .ref q4, .ref q5])), (q1, .inl (E.2.1, 60, .inl (fun _ => 0))), (q2, .inl (E.2.1, 60, .inl (fun _ => 0))), (q3, .inl (E.2.1, 60, .inl (fun _ => 0))), (q4, .inl (E.2.1, 60, .inl (fun _ => 0))), (q5, .inl (E.2.1, 60, .inl (fun _ => 0)))]) 41 X hin gf_X4_24 tyX4_ok nmX4 rfl rfl dX4_init_41 0 rfl rfl rfl (Nat.le_of_ble_eq_true rfl) rfl ?_
  exact jv_vret 44 X Y rfl dX4_init_44 [q1, q2, q3, q4, q5] rfl rfl
theorem c_X0_init (E : EE) (l : Launch) (b : Nat) : CG E l yX0_init cX0_init 1 none { frames := 1, cells := 2, slots := 161, locals := 20 } [.ref b] [(b, .inr (0, [.null, .null, .int 0, .int 0]))] noB (fun _ : List Nat => none) (fun u : List Nat => bAh E (adr (b :: u)) (fun _ => 0) (fun _ => 0) 0 0) := by
  refine CG.intro (by decide) (Nat.le_of_ble_eq_true rfl) (fun K X Y _ _ hin => ?_)
  refine jv_aload_n 0 X dX0_init_0 0 rfl ?_
  refine jv_objInit 1 X tm_ml_X0_3 dX0_init_1 (Nat.le_of_ble_eq_true rfl) (Nat.le_of_ble_eq_true rfl) ?_
  refine jv_aload_n 4 X dX0_init_4 0 rfl ?_
  refine jv_bipush (v := 100) 5 X dX0_init_5 (by decide) ?_
  refine jv_newi (n := 100) 7 X dX0_init_7 rfl (by decide) ⟨by decide +kernel, by decide +kernel⟩ (fun q1 => ?_)
  refine jv_putF (ws2 := [(b, .inr (0, [.ref q1, .null, .int 0, .int 0])), (q1, .inl (E.2.1, 100, .inl (fun _ => 0)))]) 9 X hin gf_X0_9 tyX0_ok nmX0 rfl rfl dX0_init_9 0 rfl rfl rfl (Nat.le_of_ble_eq_true rfl) rfl ?_
  refine jv_aload_n 12 X dX0_init_12 0 rfl ?_
  refine jv_bipush (v := 61) 13 X dX0_init_13 (by decide) ?_
  refine jv_newi (n := 61) 15 X dX0_init_15 rfl (by decide) ⟨by decide +kernel, by decide +kernel⟩ (fun q2 => ?_)
  refine jv_putF (ws2 := [(b, .inr (0, [.ref q1, .ref q2, .int 0, .int 0])), (q1, .inl (E.2.1, 100, .inl (fun _ => 0))), (q2, .inl (E.2.1, 61, .inl (fun _ => 0)))]) 17 X hin gf_X0_15 tyX0_ok nmX0 rfl rfl dX0_init_17 0 rfl rfl rfl (Nat.le_of_ble_eq_true rfl) rfl ?_
  exact jv_vret 20 X Y rfl dX0_init_20 [q1, q2] rfl rfl
theorem c_X3_init (E : EE) (l : Launch) (b : Nat) : CG E l yX3_init cX3_init 1 none { frames := 1, cells := 3, slots := 239, locals := 20 } [.ref b] [(b, .inr (3, [.null, .null, .null]))] noB (fun _ : List Nat => none) (fun u : List Nat => bLw E (adr (b :: u)) (fun _ => 0) (fun _ => 0) (fun _ => 0)) := by
  refine CG.intro (by decide) (Nat.le_of_ble_eq_true rfl) (fun K X Y _ _ hin => ?_)
  refine jv_aload_n 0 X dX3_init_0 0 rfl ?_
  refine jv_objInit 1 X tm_ml_X3_3 dX3_init_1 (Nat.le_of_ble_eq_true rfl) (Nat.le_of_ble_eq_true rfl) ?_
  refine jv_aload_n 4 X dX3_init_4 0 rfl ?_
  refine jv_bipush (v := 19) 5 X dX3_init_5 (by decide) ?_
  refine jv_newi (n := 19) 7 X dX3_init_7 rfl (by decide) ⟨by decide +kernel, by decide +kernel⟩ (fun q1 => ?_)
  refine jv_putF (ws2 := [(b, .inr (3, [.ref q1, .null, .null])), (q1, .inl (E.2.1, 19, .inl (fun _ => 0)))]) 9 X hin gf_X3_11 tyX3_ok nmX3 rfl rfl dX3_init_9 0 rfl rfl rfl (Nat.le_of_ble_eq_true rfl) rfl ?_
  refine jv_aload_n 12 X dX3_init_12 0 rfl ?_
  refine jv_bipush (v := 19) 13 X dX3_init_13 (by decide) ?_
  refine jv_newi (n := 19) 15 X dX3_init_15 rfl (by decide) ⟨by decide +kernel, by decide +kernel⟩ (fun q2 => ?_)
  refine jv_putF (ws2 := [(b, .inr (3, [.ref q1, .ref q2, .null])), (q1, .inl (E.2.1, 19, .inl (fun _ => 0))), (q2, .inl (E.2.1, 19, .inl (fun _ => 0)))]) 17 X hin gf_X3_15 tyX3_ok nmX3 rfl rfl dX3_init_17 0 rfl rfl rfl (Nat.le_of_ble_eq_true rfl) rfl ?_
  refine jv_aload_n 20 X dX3_init_20 0 rfl ?_
  refine jv_sipush (v := 201) 21 X dX3_init_21 (by decide) ?_
  refine jv_newi (n := 201) 24 X dX3_init_24 rfl (by decide) ⟨by decide +kernel, by decide +kernel⟩ (fun q3 => ?_)
  refine jv_putF (ws2 := [(b, .inr (3, [.ref q1, .ref q2, .ref q3])), (q1, .inl (E.2.1, 19, .inl (fun _ => 0))), (q2, .inl (E.2.1, 19, .inl (fun _ => 0))), (q3, .inl (E.2.1, 201, .inl (fun _ => 0)))]) 26 X hin gf_X3_18 tyX3_ok nmX3 rfl rfl dX3_init_26 0 rfl rfl rfl (Nat.le_of_ble_eq_true rfl) rfl ?_
  exact jv_vret 29 X Y rfl dX3_init_29 [q1, q2, q3] rfl rfl
theorem c_X6_init (E : EE) (l : Launch) (b : Nat) : CG E l yX6_init cX6_init 1 none { frames := 1, cells := 2, slots := 12, locals := 20 } [.ref b] [(b, .inr (6, [.null, .null]))] noB (fun _ : List Nat => none) (fun u : List Nat => bRg E (adr (b :: u)) (fun _ => 0) (fun _ => 0)) := by
  refine CG.intro (by decide) (Nat.le_of_ble_eq_true rfl) (fun K X Y _ _ hin => ?_)
  refine jv_aload_n 0 X dX6_init_0 0 rfl ?_
  refine jv_objInit 1 X tm_ml_X6_3 dX6_init_1 (Nat.le_of_ble_eq_true rfl) (Nat.le_of_ble_eq_true rfl) ?_
  refine jv_aload_n 4 X dX6_init_4 0 rfl ?_
  refine jv_bipush (v := 6) 5 X dX6_init_5 (by decide) ?_
  refine jv_newi (n := 6) 7 X dX6_init_7 rfl (by decide) ⟨by decide +kernel, by decide +kernel⟩ (fun q1 => ?_)
  refine jv_putF (ws2 := [(b, .inr (6, [.ref q1, .null])), (q1, .inl (E.2.1, 6, .inl (fun _ => 0)))]) 9 X hin gf_X6_9 tyX6_ok nmX6 rfl rfl dX6_init_9 0 rfl rfl rfl (Nat.le_of_ble_eq_true rfl) rfl ?_
  refine jv_aload_n 12 X dX6_init_12 0 rfl ?_
  refine jv_bipush (v := 6) 13 X dX6_init_13 (by decide) ?_
  refine jv_newi (n := 6) 15 X dX6_init_15 rfl (by decide) ⟨by decide +kernel, by decide +kernel⟩ (fun q2 => ?_)
  refine jv_putF (ws2 := [(b, .inr (6, [.ref q1, .ref q2])), (q1, .inl (E.2.1, 6, .inl (fun _ => 0))), (q2, .inl (E.2.1, 6, .inl (fun _ => 0)))]) 17 X hin gf_X6_15 tyX6_ok nmX6 rfl rfl dX6_init_17 0 rfl rfl rfl (Nat.le_of_ble_eq_true rfl) rfl ?_
  exact jv_vret 20 X Y rfl dX6_init_20 [q1, q2] rfl rfl
theorem c_X7_init (E : EE) (l : Launch) (b : Nat) : CG E l yX7_init cX7_init 1 none { frames := 1, cells := 1, slots := 201, locals := 20 } [.ref b] [(b, .inr (7, [.null]))] noB (fun _ : List Nat => none) (fun u : List Nat => bTu E (adr (b :: u)) (fun _ => 0)) := by
  refine CG.intro (by decide) (Nat.le_of_ble_eq_true rfl) (fun K X Y _ _ hin => ?_)
  refine jv_aload_n 0 X dX7_init_0 0 rfl ?_
  refine jv_objInit 1 X tm_ml_X7_3 dX7_init_1 (Nat.le_of_ble_eq_true rfl) (Nat.le_of_ble_eq_true rfl) ?_
  refine jv_aload_n 4 X dX7_init_4 0 rfl ?_
  refine jv_sipush (v := 201) 5 X dX7_init_5 (by decide) ?_
  refine jv_newi (n := 201) 8 X dX7_init_8 rfl (by decide) ⟨by decide +kernel, by decide +kernel⟩ (fun q1 => ?_)
  refine jv_putF (ws2 := [(b, .inr (7, [.ref q1])), (q1, .inl (E.2.1, 201, .inl (fun _ => 0)))]) 10 X hin gf_X7_9 tyX7_ok nmX7 rfl rfl dX7_init_10 0 rfl rfl rfl (Nat.le_of_ble_eq_true rfl) rfl ?_
  exact jv_vret 13 X Y rfl dX7_init_13 [q1] rfl rfl
theorem c_X1_init (E : EE) (l : Launch) (b : Nat) : CG E l yX1_init cX1_init 1 none { frames := 1, cells := 2, slots := 50, locals := 20 } [.ref b] [(b, .inr (1, [.null, .null]))] noB (fun _ : List Nat => none) (fun u : List Nat => bHd E (adr (b :: u)) (fun _ => 0) (fun _ => 0)) := by
  refine CG.intro (by decide) (Nat.le_of_ble_eq_true rfl) (fun K X Y _ _ hin => ?_)
  refine jv_aload_n 0 X dX1_init_0 0 rfl ?_
  refine jv_objInit 1 X tm_ml_X1_3 dX1_init_1 (Nat.le_of_ble_eq_true rfl) (Nat.le_of_ble_eq_true rfl) ?_
  refine jv_aload_n 4 X dX1_init_4 0 rfl ?_
  refine jv_bipush (v := 25) 5 X dX1_init_5 (by decide) ?_
  refine jv_newl (n := 25) 7 X dX1_init_7 rfl (by decide) ⟨by decide +kernel, by decide +kernel⟩ (fun q1 => ?_)
  refine jv_putF (ws2 := [(b, .inr (1, [.ref q1, .null])), (q1, .inl (E.2.2.1, 25, .inr (.inl (fun _ => 0))))]) 9 X hin gf_X1_11 tyX1_ok nmX1 rfl rfl dX1_init_9 0 rfl rfl rfl (Nat.le_of_ble_eq_true rfl) rfl ?_
  refine jv_aload_n 12 X dX1_init_12 0 rfl ?_
  refine jv_bipush (v := 25) 13 X dX1_init_13 (by decide) ?_
  refine jv_newl (n := 25) 15 X dX1_init_15 rfl (by decide) ⟨by decide +kernel, by decide +kernel⟩ (fun q2 => ?_)
  refine jv_putF (ws2 := [(b, .inr (1, [.ref q1, .ref q2])), (q1, .inl (E.2.2.1, 25, .inr (.inl (fun _ => 0)))), (q2, .inl (E.2.2.1, 25, .inr (.inl (fun _ => 0))))]) 17 X hin gf_X1_15 tyX1_ok nmX1 rfl rfl dX1_init_17 0 rfl rfl rfl (Nat.le_of_ble_eq_true rfl) rfl ?_
  exact jv_vret 20 X Y rfl dX1_init_20 [q1, q2] rfl rfl
theorem c_X5_init (E : EE) (l : Launch) (b : Nat) : CG E l yX5_init cX5_init 1 none { frames := 1, cells := 10, slots := 61, locals := 23 } [.ref b] [(b, .inr (5, [.int 0, .int 0, .int 0, .null, .null, .null, .null, .null, .null, .null, .null, .null, .null]))] noB (fun _ : List Nat => none) (fun u : List Nat => bRl E (adr (b :: u)) 60 0 0 (fun _ => 0) (fun _ => 100) (fun _ => 0) (fun _ => 0) (fun _ => 0) (fun _ => 600) (fun _ => 0) (fun _ => 0) (fun _ => 0) (fun _ => 0)) := by
  refine CG.intro (by decide) (Nat.le_of_ble_eq_true rfl) (fun K X Y _ _ hin => ?_)
  refine jv_aload_n 0 X dX5_init_0 0 rfl ?_
  refine jv_objInit 1 X tm_ml_X5_3 dX5_init_1 (Nat.le_of_ble_eq_true rfl) (Nat.le_of_ble_eq_true rfl) ?_
  refine jv_aload_n 4 X dX5_init_4 0 rfl ?_
  refine jv_bipush (v := 60) 5 X dX5_init_5 (by decide) ?_
  refine jv_puti (ws2 := [(b, .inr (5, [.int 60, .int 0, .int 0, .null, .null, .null, .null, .null, .null, .null, .null, .null, .null]))]) 7 X gf_X5_9 tyX5_ok nmX5 rfl rfl dX5_init_7 0 rfl (Nat.le_of_ble_eq_true rfl) rfl ?_
  refine jv_aload_n 10 X dX5_init_10 0 rfl ?_
  refine jv_bipush (v := 7) 11 X dX5_init_11 (by decide) ?_
  refine jv_newi (n := 7) 13 X dX5_init_13 rfl (by decide) ⟨by decide +kernel, by decide +kernel⟩ (fun q1 => ?_)
  refine jv_putF (ws2 := [(b, .inr (5, [.int 60, .int 0, .int 0, .ref q1, .null, .null, .null, .null, .null, .null, .null, .null, .null])), (q1, .inl (E.2.1, 7, .inl (fun _ => 0)))]) 15 X hin gf_X5_15 tyX5_ok nmX5 rfl rfl dX5_init_15 0 rfl rfl rfl (Nat.le_of_ble_eq_true rfl) rfl ?_
  refine jv_aload_n 18 X dX5_init_18 0 rfl ?_
  refine jv_bipush (v := 6) 19 X dX5_init_19 (by decide) ?_
  refine jv_newi (n := 6) 21 X dX5_init_21 rfl (by decide) ⟨by decide +kernel, by decide +kernel⟩ (fun q2 => ?_)
  refine jv_putF (ws2 := [(b, .inr (5, [.int 60, .int 0, .int 0, .ref q1, .ref q2, .null, .null, .null, .null, .null, .null, .null, .null])), (q1, .inl (E.2.1, 7, .inl (fun _ => 0))), (q2, .inl (E.2.1, 6, .inl (fun _ => 0)))]) 23 X hin gf_X5_19 tyX5_ok nmX5 rfl rfl dX5_init_23 0 rfl rfl rfl (Nat.le_of_ble_eq_true rfl) rfl ?_
  refine jv_aload_n 26 X dX5_init_26 0 rfl ?_
  refine jv_bipush (v := 6) 27 X dX5_init_27 (by decide) ?_
  refine jv_newi (n := 6) 29 X dX5_init_29 rfl (by decide) ⟨by decide +kernel, by decide +kernel⟩ (fun q3 => ?_)
  refine jv_putF (ws2 := [(b, .inr (5, [.int 60, .int 0, .int 0, .ref q1, .ref q2, .ref q3, .null, .null, .null, .null, .null, .null, .null])), (q1, .inl (E.2.1, 7, .inl (fun _ => 0))), (q2, .inl (E.2.1, 6, .inl (fun _ => 0))), (q3, .inl (E.2.1, 6, .inl (fun _ => 0)))]) 31 X hin gf_X5_22 tyX5_ok nmX5 rfl rfl dX5_init_31 0 rfl rfl rfl (Nat.le_of_ble_eq_true rfl) rfl ?_
  refine jv_aload_n 34 X dX5_init_34 0 rfl ?_
  refine jv_bipush (v := 6) 35 X dX5_init_35 (by decide) ?_
  refine jv_newi (n := 6) 37 X dX5_init_37 rfl (by decide) ⟨by decide +kernel, by decide +kernel⟩ (fun q4 => ?_)
  refine jv_putF (ws2 := [(b, .inr (5, [.int 60, .int 0, .int 0, .ref q1, .ref q2, .ref q3, .ref q4, .null, .null, .null, .null, .null, .null])), (q1, .inl (E.2.1, 7, .inl (fun _ => 0))), (q2, .inl (E.2.1, 6, .inl (fun _ => 0))), (q3, .inl (E.2.1, 6, .inl (fun _ => 0))), (q4, .inl (E.2.1, 6, .inl (fun _ => 0)))]) 39 X hin gf_X5_25 tyX5_ok nmX5 rfl rfl dX5_init_39 0 rfl rfl rfl (Nat.le_of_ble_eq_true rfl) rfl ?_
  refine jv_aload_n 42 X dX5_init_42 0 rfl ?_
  refine jv_bipush (v := 8) 43 X dX5_init_43 (by decide) ?_
  refine jv_newi (n := 8) 45 X dX5_init_45 rfl (by decide) ⟨by decide +kernel, by decide +kernel⟩ (fun q5 => ?_)
  refine jv_putF (ws2 := [(b, .inr (5, [.int 60, .int 0, .int 0, .ref q1, .ref q2, .ref q3, .ref q4, .ref q5, .null, .null, .null, .null, .null])), (q1, .inl (E.2.1, 7, .inl (fun _ => 0))), (q2, .inl (E.2.1, 6, .inl (fun _ => 0))), (q3, .inl (E.2.1, 6, .inl (fun _ => 0))), (q4, .inl (E.2.1, 6, .inl (fun _ => 0))), (q5, .inl (E.2.1, 8, .inl (fun _ => 0)))]) 47 X hin gf_X5_28 tyX5_ok nmX5 rfl rfl dX5_init_47 0 rfl rfl rfl (Nat.le_of_ble_eq_true rfl) rfl ?_
  refine jv_aload_n 50 X dX5_init_50 0 rfl ?_
  refine jv_iconst (v := 4) 51 X dX5_init_51 rfl ?_
  refine jv_newi (n := 4) 52 X dX5_init_52 rfl (by decide) ⟨by decide +kernel, by decide +kernel⟩ (fun q6 => ?_)
  refine jv_putF (ws2 := [(b, .inr (5, [.int 60, .int 0, .int 0, .ref q1, .ref q2, .ref q3, .ref q4, .ref q5, .ref q6, .null, .null, .null, .null])), (q1, .inl (E.2.1, 7, .inl (fun _ => 0))), (q2, .inl (E.2.1, 6, .inl (fun _ => 0))), (q3, .inl (E.2.1, 6, .inl (fun _ => 0))), (q4, .inl (E.2.1, 6, .inl (fun _ => 0))), (q5, .inl (E.2.1, 8, .inl (fun _ => 0))), (q6, .inl (E.2.1, 4, .inl (fun _ => 0)))]) 54 X hin gf_X5_31 tyX5_ok nmX5 rfl rfl dX5_init_54 0 rfl rfl rfl (Nat.le_of_ble_eq_true rfl) rfl ?_
  refine jv_aload_n 57 X dX5_init_57 0 rfl ?_
  refine jv_iconst (v := 4) 58 X dX5_init_58 rfl ?_
  refine jv_newi (n := 4) 59 X dX5_init_59 rfl (by decide) ⟨by decide +kernel, by decide +kernel⟩ (fun q7 => ?_)
  refine jv_putF (ws2 := [(b, .inr (5, [.int 60, .int 0, .int 0, .ref q1, .ref q2, .ref q3, .ref q4, .ref q5, .ref q6, .ref q7, .null, .null, .null])), (q1, .inl (E.2.1, 7, .inl (fun _ => 0))), (q2, .inl (E.2.1, 6, .inl (fun _ => 0))), (q3, .inl (E.2.1, 6, .inl (fun _ => 0))), (q4, .inl (E.2.1, 6, .inl (fun _ => 0))), (q5, .inl (E.2.1, 8, .inl (fun _ => 0))), (q6, .inl (E.2.1, 4, .inl (fun _ => 0))), (q7, .inl (E.2.1, 4, .inl (fun _ => 0)))]) 61 X hin gf_X5_34 tyX5_ok nmX5 rfl rfl dX5_init_61 0 rfl rfl rfl (Nat.le_of_ble_eq_true rfl) rfl ?_
  refine jv_aload_n 64 X dX5_init_64 0 rfl ?_
  refine jv_iconst (v := 4) 65 X dX5_init_65 rfl ?_
  refine jv_newi (n := 4) 66 X dX5_init_66 rfl (by decide) ⟨by decide +kernel, by decide +kernel⟩ (fun q8 => ?_)
  refine jv_putF (ws2 := [(b, .inr (5, [.int 60, .int 0, .int 0, .ref q1, .ref q2, .ref q3, .ref q4, .ref q5, .ref q6, .ref q7, .ref q8, .null, .null])), (q1, .inl (E.2.1, 7, .inl (fun _ => 0))), (q2, .inl (E.2.1, 6, .inl (fun _ => 0))), (q3, .inl (E.2.1, 6, .inl (fun _ => 0))), (q4, .inl (E.2.1, 6, .inl (fun _ => 0))), (q5, .inl (E.2.1, 8, .inl (fun _ => 0))), (q6, .inl (E.2.1, 4, .inl (fun _ => 0))), (q7, .inl (E.2.1, 4, .inl (fun _ => 0))), (q8, .inl (E.2.1, 4, .inl (fun _ => 0)))]) 68 X hin gf_X5_37 tyX5_ok nmX5 rfl rfl dX5_init_68 0 rfl rfl rfl (Nat.le_of_ble_eq_true rfl) rfl ?_
  refine jv_aload_n 71 X dX5_init_71 0 rfl ?_
  refine jv_bipush (v := 8) 72 X dX5_init_72 (by decide) ?_
  refine jv_newi (n := 8) 74 X dX5_init_74 rfl (by decide) ⟨by decide +kernel, by decide +kernel⟩ (fun q9 => ?_)
  refine jv_putF (ws2 := [(b, .inr (5, [.int 60, .int 0, .int 0, .ref q1, .ref q2, .ref q3, .ref q4, .ref q5, .ref q6, .ref q7, .ref q8, .ref q9, .null])), (q1, .inl (E.2.1, 7, .inl (fun _ => 0))), (q2, .inl (E.2.1, 6, .inl (fun _ => 0))), (q3, .inl (E.2.1, 6, .inl (fun _ => 0))), (q4, .inl (E.2.1, 6, .inl (fun _ => 0))), (q5, .inl (E.2.1, 8, .inl (fun _ => 0))), (q6, .inl (E.2.1, 4, .inl (fun _ => 0))), (q7, .inl (E.2.1, 4, .inl (fun _ => 0))), (q8, .inl (E.2.1, 4, .inl (fun _ => 0))), (q9, .inl (E.2.1, 8, .inl (fun _ => 0)))]) 76 X hin gf_X5_40 tyX5_ok nmX5 rfl rfl dX5_init_76 0 rfl rfl rfl (Nat.le_of_ble_eq_true rfl) rfl ?_
  refine jv_aload_n 79 X dX5_init_79 0 rfl ?_
  refine jv_bipush (v := 8) 80 X dX5_init_80 (by decide) ?_
  refine jv_newi (n := 8) 82 X dX5_init_82 rfl (by decide) ⟨by decide +kernel, by decide +kernel⟩ (fun q10 => ?_)
  refine jv_putF (ws2 := [(b, .inr (5, [.int 60, .int 0, .int 0, .ref q1, .ref q2, .ref q3, .ref q4, .ref q5, .ref q6, .ref q7, .ref q8, .ref q9, .ref q10])), (q1, .inl (E.2.1, 7, .inl (fun _ => 0))), (q2, .inl (E.2.1, 6, .inl (fun _ => 0))), (q3, .inl (E.2.1, 6, .inl (fun _ => 0))), (q4, .inl (E.2.1, 6, .inl (fun _ => 0))), (q5, .inl (E.2.1, 8, .inl (fun _ => 0))), (q6, .inl (E.2.1, 4, .inl (fun _ => 0))), (q7, .inl (E.2.1, 4, .inl (fun _ => 0))), (q8, .inl (E.2.1, 4, .inl (fun _ => 0))), (q9, .inl (E.2.1, 8, .inl (fun _ => 0))), (q10, .inl (E.2.1, 8, .inl (fun _ => 0)))]) 84 X hin gf_X5_43 tyX5_ok nmX5 rfl rfl dX5_init_84 0 rfl rfl rfl (Nat.le_of_ble_eq_true rfl) rfl ?_
  refine jv_aload_n 87 X dX5_init_87 0 rfl ?_
  refine jv_get (v := .ref q2) 88 X gf_X5_19 dX5_init_88 0 rfl rfl ?_
  refine jv_bipush (v := 100) 91 X dX5_init_91 (by decide) ?_
  refine jv_callS (ws2 := [(b, .inr (5, [.int 60, .int 0, .int 0, .ref q1, .ref q2, .ref q3, .ref q4, .ref q5, .ref q6, .ref q7, .ref q8, .ref q9, .ref q10])), (q1, .inl (E.2.1, 7, .inl (fun _ => 0))), (q2, .inl (E.2.1, 6, .inl (fun _ => 100))), (q3, .inl (E.2.1, 6, .inl (fun _ => 0))), (q4, .inl (E.2.1, 6, .inl (fun _ => 0))), (q5, .inl (E.2.1, 8, .inl (fun _ => 0))), (q6, .inl (E.2.1, 4, .inl (fun _ => 0))), (q7, .inl (E.2.1, 4, .inl (fun _ => 0))), (q8, .inl (E.2.1, 4, .inl (fun _ => 0))), (q9, .inl (E.2.1, 8, .inl (fun _ => 0))), (q10, .inl (E.2.1, 8, .inl (fun _ => 0)))]) 93 X (c_J7_fill_53178 E _ q2 6 (fun _ => 0) 100 (by omega)) ws_X5_46 ⟨Nat.le_of_ble_eq_true rfl, Nat.le_of_ble_eq_true rfl⟩ ⟨rfl, rfl⟩ ⟨by decide +kernel, by decide +kernel⟩ dX5_init_93 rfl [] rfl (Nat.le_of_ble_eq_true rfl) [2] rfl rfl rfl rfl ?_
  refine jv_aload_n 96 X dX5_init_96 0 rfl ?_
  refine jv_get (v := .ref q6) 97 X gf_X5_31 dX5_init_97 0 rfl rfl ?_
  refine jv_sipush (v := 600) 100 X dX5_init_100 (by decide) ?_
  refine jv_callS (ws2 := [(b, .inr (5, [.int 60, .int 0, .int 0, .ref q1, .ref q2, .ref q3, .ref q4, .ref q5, .ref q6, .ref q7, .ref q8, .ref q9, .ref q10])), (q1, .inl (E.2.1, 7, .inl (fun _ => 0))), (q2, .inl (E.2.1, 6, .inl (fun _ => 100))), (q3, .inl (E.2.1, 6, .inl (fun _ => 0))), (q4, .inl (E.2.1, 6, .inl (fun _ => 0))), (q5, .inl (E.2.1, 8, .inl (fun _ => 0))), (q6, .inl (E.2.1, 4, .inl (fun _ => 600))), (q7, .inl (E.2.1, 4, .inl (fun _ => 0))), (q8, .inl (E.2.1, 4, .inl (fun _ => 0))), (q9, .inl (E.2.1, 8, .inl (fun _ => 0))), (q10, .inl (E.2.1, 8, .inl (fun _ => 0)))]) 103 X (c_J7_fill_53178 E _ q6 4 (fun _ => 0) 600 (by omega)) ws_X5_46 ⟨Nat.le_of_ble_eq_true rfl, Nat.le_of_ble_eq_true rfl⟩ ⟨rfl, rfl⟩ ⟨by decide +kernel, by decide +kernel⟩ dX5_init_103 rfl [] rfl (Nat.le_of_ble_eq_true rfl) [6] rfl rfl rfl rfl ?_
  exact jv_vret 106 X Y rfl dX5_init_106 [q1, q2, q3, q4, q5, q6, q7, q8, q9, q10] rfl rfl
theorem c_X10_init (E : EE) (l : Launch) (b : Nat) : CG E l yX10_init cX10_init 2 none { frames := 1, cells := 15, slots := 4673, locals := 20 } [.ref b] [(b, .inr (10, [.null, .null, .null, .int 0, .null, .int 0, .null, .int 0, .int 0, .int 0, .int 0, .int 0, .null, .null, .null, .null, .null, .null, .null, .null, .null, .null]))] noB (fun _ : List Nat => none) (fun u : List Nat => bMd E (adr (b :: u)) bk0 (fun _ => 0) (fun _ => 0) 0 (fun _ => 0) 0 (fun _ => 0) 0 0 0 0 0 (fun _ => 0) (fun _ => 0) (fun _ => 0) (fun _ => 0) (fun _ => 0) (fun _ => 0) (fun _ => 0) (fun _ => 0) (fun _ => 0) (fun _ => 0)) := by
  refine CG.intro (by decide) (Nat.le_of_ble_eq_true rfl) (fun K X Y _ _ hin => ?_)
  refine jv_aload_n 0 X dX10_init_0 0 rfl ?_
  refine jv_objInit 1 X tm_ml_X10_1 dX10_init_1 (Nat.le_of_ble_eq_true rfl) (Nat.le_of_ble_eq_true rfl) ?_
  refine jv_aload_n 4 X dX10_init_4 0 rfl ?_
  refine jv_bipush (v := 40) 5 X dX10_init_5 (by decide) ?_
  refine jv_newi (n := 40) 7 X dX10_init_7 rfl (by decide) ⟨by decide +kernel, by decide +kernel⟩ (fun q1 => ?_)
  refine jv_putF (ws2 := [(b, .inr (10, [.ref q1, .null, .null, .int 0, .null, .int 0, .null, .int 0, .int 0, .int 0, .int 0, .int 0, .null, .null, .null, .null, .null, .null, .null, .null, .null, .null])), (q1, .inl (E.2.1, 40, .inl (fun _ => 0)))]) 9 X hin gf_X10_7 tyX10_ok nmX10 rfl rfl dX10_init_9 0 rfl rfl rfl (Nat.le_of_ble_eq_true rfl) rfl ?_
  refine jv_aload_n 12 X dX10_init_12 0 rfl ?_
  refine jv_bipush (v := 40) 13 X dX10_init_13 (by decide) ?_
  refine jv_newi (n := 40) 15 X dX10_init_15 rfl (by decide) ⟨by decide +kernel, by decide +kernel⟩ (fun q2 => ?_)
  refine jv_putF (ws2 := [(b, .inr (10, [.ref q1, .ref q2, .null, .int 0, .null, .int 0, .null, .int 0, .int 0, .int 0, .int 0, .int 0, .null, .null, .null, .null, .null, .null, .null, .null, .null, .null])), (q1, .inl (E.2.1, 40, .inl (fun _ => 0))), (q2, .inl (E.2.1, 40, .inl (fun _ => 0)))]) 17 X hin gf_X10_13 tyX10_ok nmX10 rfl rfl dX10_init_17 0 rfl rfl rfl (Nat.le_of_ble_eq_true rfl) rfl ?_
  refine jv_aload_n 20 X dX10_init_20 0 rfl ?_
  refine jv_bipush (v := 7) 21 X dX10_init_21 (by decide) ?_
  refine jv_newi (n := 7) 23 X dX10_init_23 rfl (by decide) ⟨by decide +kernel, by decide +kernel⟩ (fun q3 => ?_)
  refine jv_putF (ws2 := [(b, .inr (10, [.ref q1, .ref q2, .ref q3, .int 0, .null, .int 0, .null, .int 0, .int 0, .int 0, .int 0, .int 0, .null, .null, .null, .null, .null, .null, .null, .null, .null, .null])), (q1, .inl (E.2.1, 40, .inl (fun _ => 0))), (q2, .inl (E.2.1, 40, .inl (fun _ => 0))), (q3, .inl (E.2.1, 7, .inl (fun _ => 0)))]) 25 X hin gf_X10_16 tyX10_ok nmX10 rfl rfl dX10_init_25 0 rfl rfl rfl (Nat.le_of_ble_eq_true rfl) rfl ?_
  refine jv_aload_n 28 X dX10_init_28 0 rfl ?_
  refine jv_bipush (v := 16) 29 X dX10_init_29 (by decide) ?_
  refine jv_newi (n := 16) 31 X dX10_init_31 rfl (by decide) ⟨by decide +kernel, by decide +kernel⟩ (fun q4 => ?_)
  refine jv_putF (ws2 := [(b, .inr (10, [.ref q1, .ref q2, .ref q3, .int 0, .ref q4, .int 0, .null, .int 0, .int 0, .int 0, .int 0, .int 0, .null, .null, .null, .null, .null, .null, .null, .null, .null, .null])), (q1, .inl (E.2.1, 40, .inl (fun _ => 0))), (q2, .inl (E.2.1, 40, .inl (fun _ => 0))), (q3, .inl (E.2.1, 7, .inl (fun _ => 0))), (q4, .inl (E.2.1, 16, .inl (fun _ => 0)))]) 33 X hin gf_X10_19 tyX10_ok nmX10 rfl rfl dX10_init_33 0 rfl rfl rfl (Nat.le_of_ble_eq_true rfl) rfl ?_
  refine jv_aload_n 36 X dX10_init_36 0 rfl ?_
  refine jv_bipush (v := 60) 37 X dX10_init_37 (by decide) ?_
  refine jv_newi (n := 60) 39 X dX10_init_39 rfl (by decide) ⟨by decide +kernel, by decide +kernel⟩ (fun q5 => ?_)
  refine jv_putF (ws2 := [(b, .inr (10, [.ref q1, .ref q2, .ref q3, .int 0, .ref q4, .int 0, .ref q5, .int 0, .int 0, .int 0, .int 0, .int 0, .null, .null, .null, .null, .null, .null, .null, .null, .null, .null])), (q1, .inl (E.2.1, 40, .inl (fun _ => 0))), (q2, .inl (E.2.1, 40, .inl (fun _ => 0))), (q3, .inl (E.2.1, 7, .inl (fun _ => 0))), (q4, .inl (E.2.1, 16, .inl (fun _ => 0))), (q5, .inl (E.2.1, 60, .inl (fun _ => 0)))]) 41 X hin gf_X10_22 tyX10_ok nmX10 rfl rfl dX10_init_41 0 rfl rfl rfl (Nat.le_of_ble_eq_true rfl) rfl ?_
  refine jv_aload_n 44 X dX10_init_44 0 rfl ?_
  refine jv_bipush (v := 100) 45 X dX10_init_45 (by decide) ?_
  refine jv_newi (n := 100) 47 X dX10_init_47 rfl (by decide) ⟨by decide +kernel, by decide +kernel⟩ (fun q6 => ?_)
  refine jv_putF (ws2 := [(b, .inr (10, [.ref q1, .ref q2, .ref q3, .int 0, .ref q4, .int 0, .ref q5, .int 0, .int 0, .int 0, .int 0, .int 0, .ref q6, .null, .null, .null, .null, .null, .null, .null, .null, .null])), (q1, .inl (E.2.1, 40, .inl (fun _ => 0))), (q2, .inl (E.2.1, 40, .inl (fun _ => 0))), (q3, .inl (E.2.1, 7, .inl (fun _ => 0))), (q4, .inl (E.2.1, 16, .inl (fun _ => 0))), (q5, .inl (E.2.1, 60, .inl (fun _ => 0))), (q6, .inl (E.2.1, 100, .inl (fun _ => 0)))]) 49 X hin gf_X10_25 tyX10_ok nmX10 rfl rfl dX10_init_49 0 rfl rfl rfl (Nat.le_of_ble_eq_true rfl) rfl ?_
  refine jv_aload_n 52 X dX10_init_52 0 rfl ?_
  refine jv_sipush (v := 3800) 53 X dX10_init_53 (by decide) ?_
  refine jv_newi (n := 3800) 56 X dX10_init_56 rfl (by decide) ⟨by decide +kernel, by decide +kernel⟩ (fun q7 => ?_)
  refine jv_putF (ws2 := [(b, .inr (10, [.ref q1, .ref q2, .ref q3, .int 0, .ref q4, .int 0, .ref q5, .int 0, .int 0, .int 0, .int 0, .int 0, .ref q6, .ref q7, .null, .null, .null, .null, .null, .null, .null, .null])), (q1, .inl (E.2.1, 40, .inl (fun _ => 0))), (q2, .inl (E.2.1, 40, .inl (fun _ => 0))), (q3, .inl (E.2.1, 7, .inl (fun _ => 0))), (q4, .inl (E.2.1, 16, .inl (fun _ => 0))), (q5, .inl (E.2.1, 60, .inl (fun _ => 0))), (q6, .inl (E.2.1, 100, .inl (fun _ => 0))), (q7, .inl (E.2.1, 3800, .inl (fun _ => 0)))]) 58 X hin gf_X10_28 tyX10_ok nmX10 rfl rfl dX10_init_58 0 rfl rfl rfl (Nat.le_of_ble_eq_true rfl) rfl ?_
  refine jv_aload_n 61 X dX10_init_61 0 rfl ?_
  refine jv_sipush (v := 201) 62 X dX10_init_62 (by decide) ?_
  refine jv_newi (n := 201) 65 X dX10_init_65 rfl (by decide) ⟨by decide +kernel, by decide +kernel⟩ (fun q8 => ?_)
  refine jv_putF (ws2 := [(b, .inr (10, [.ref q1, .ref q2, .ref q3, .int 0, .ref q4, .int 0, .ref q5, .int 0, .int 0, .int 0, .int 0, .int 0, .ref q6, .ref q7, .ref q8, .null, .null, .null, .null, .null, .null, .null])), (q1, .inl (E.2.1, 40, .inl (fun _ => 0))), (q2, .inl (E.2.1, 40, .inl (fun _ => 0))), (q3, .inl (E.2.1, 7, .inl (fun _ => 0))), (q4, .inl (E.2.1, 16, .inl (fun _ => 0))), (q5, .inl (E.2.1, 60, .inl (fun _ => 0))), (q6, .inl (E.2.1, 100, .inl (fun _ => 0))), (q7, .inl (E.2.1, 3800, .inl (fun _ => 0))), (q8, .inl (E.2.1, 201, .inl (fun _ => 0)))]) 67 X hin gf_X10_31 tyX10_ok nmX10 rfl rfl dX10_init_67 0 rfl rfl rfl (Nat.le_of_ble_eq_true rfl) rfl ?_
  refine jv_aload_n 70 X dX10_init_70 0 rfl ?_
  refine jv_bipush (v := 6) 71 X dX10_init_71 (by decide) ?_
  refine jv_newi (n := 6) 73 X dX10_init_73 rfl (by decide) ⟨by decide +kernel, by decide +kernel⟩ (fun q9 => ?_)
  refine jv_putF (ws2 := [(b, .inr (10, [.ref q1, .ref q2, .ref q3, .int 0, .ref q4, .int 0, .ref q5, .int 0, .int 0, .int 0, .int 0, .int 0, .ref q6, .ref q7, .ref q8, .ref q9, .null, .null, .null, .null, .null, .null])), (q1, .inl (E.2.1, 40, .inl (fun _ => 0))), (q2, .inl (E.2.1, 40, .inl (fun _ => 0))), (q3, .inl (E.2.1, 7, .inl (fun _ => 0))), (q4, .inl (E.2.1, 16, .inl (fun _ => 0))), (q5, .inl (E.2.1, 60, .inl (fun _ => 0))), (q6, .inl (E.2.1, 100, .inl (fun _ => 0))), (q7, .inl (E.2.1, 3800, .inl (fun _ => 0))), (q8, .inl (E.2.1, 201, .inl (fun _ => 0))), (q9, .inl (E.2.1, 6, .inl (fun _ => 0)))]) 75 X hin gf_X10_34 tyX10_ok nmX10 rfl rfl dX10_init_75 0 rfl rfl rfl (Nat.le_of_ble_eq_true rfl) rfl ?_
  refine jv_aload_n 78 X dX10_init_78 0 rfl ?_
  refine jv_bipush (v := 6) 79 X dX10_init_79 (by decide) ?_
  refine jv_newi (n := 6) 81 X dX10_init_81 rfl (by decide) ⟨by decide +kernel, by decide +kernel⟩ (fun q10 => ?_)
  refine jv_putF (ws2 := [(b, .inr (10, [.ref q1, .ref q2, .ref q3, .int 0, .ref q4, .int 0, .ref q5, .int 0, .int 0, .int 0, .int 0, .int 0, .ref q6, .ref q7, .ref q8, .ref q9, .ref q10, .null, .null, .null, .null, .null])), (q1, .inl (E.2.1, 40, .inl (fun _ => 0))), (q2, .inl (E.2.1, 40, .inl (fun _ => 0))), (q3, .inl (E.2.1, 7, .inl (fun _ => 0))), (q4, .inl (E.2.1, 16, .inl (fun _ => 0))), (q5, .inl (E.2.1, 60, .inl (fun _ => 0))), (q6, .inl (E.2.1, 100, .inl (fun _ => 0))), (q7, .inl (E.2.1, 3800, .inl (fun _ => 0))), (q8, .inl (E.2.1, 201, .inl (fun _ => 0))), (q9, .inl (E.2.1, 6, .inl (fun _ => 0))), (q10, .inl (E.2.1, 6, .inl (fun _ => 0)))]) 83 X hin gf_X10_37 tyX10_ok nmX10 rfl rfl dX10_init_83 0 rfl rfl rfl (Nat.le_of_ble_eq_true rfl) rfl ?_
  refine jv_aload_n 86 X dX10_init_86 0 rfl ?_
  refine jv_sipush (v := 201) 87 X dX10_init_87 (by decide) ?_
  refine jv_newz (n := 201) 90 X dX10_init_90 rfl (by decide) ⟨by decide +kernel, by decide +kernel⟩ (fun q11 => ?_)
  refine jv_putF (ws2 := [(b, .inr (10, [.ref q1, .ref q2, .ref q3, .int 0, .ref q4, .int 0, .ref q5, .int 0, .int 0, .int 0, .int 0, .int 0, .ref q6, .ref q7, .ref q8, .ref q9, .ref q10, .ref q11, .null, .null, .null, .null])), (q1, .inl (E.2.1, 40, .inl (fun _ => 0))), (q2, .inl (E.2.1, 40, .inl (fun _ => 0))), (q3, .inl (E.2.1, 7, .inl (fun _ => 0))), (q4, .inl (E.2.1, 16, .inl (fun _ => 0))), (q5, .inl (E.2.1, 60, .inl (fun _ => 0))), (q6, .inl (E.2.1, 100, .inl (fun _ => 0))), (q7, .inl (E.2.1, 3800, .inl (fun _ => 0))), (q8, .inl (E.2.1, 201, .inl (fun _ => 0))), (q9, .inl (E.2.1, 6, .inl (fun _ => 0))), (q10, .inl (E.2.1, 6, .inl (fun _ => 0))), (q11, .inl (E.2.2.2, 201, .inl (fun _ => 0)))]) 92 X hin gf_X10_40 tyX10_ok nmX10 rfl rfl dX10_init_92 0 rfl rfl rfl (Nat.le_of_ble_eq_true rfl) rfl ?_
  refine jv_aload_n 95 X dX10_init_95 0 rfl ?_
  refine jv_bipush (v := 27) 96 X dX10_init_96 (by decide) ?_
  refine jv_newl (n := 27) 98 X dX10_init_98 rfl (by decide) ⟨by decide +kernel, by decide +kernel⟩ (fun q12 => ?_)
  refine jv_putF (ws2 := [(b, .inr (10, [.ref q1, .ref q2, .ref q3, .int 0, .ref q4, .int 0, .ref q5, .int 0, .int 0, .int 0, .int 0, .int 0, .ref q6, .ref q7, .ref q8, .ref q9, .ref q10, .ref q11, .ref q12, .null, .null, .null])), (q1, .inl (E.2.1, 40, .inl (fun _ => 0))), (q2, .inl (E.2.1, 40, .inl (fun _ => 0))), (q3, .inl (E.2.1, 7, .inl (fun _ => 0))), (q4, .inl (E.2.1, 16, .inl (fun _ => 0))), (q5, .inl (E.2.1, 60, .inl (fun _ => 0))), (q6, .inl (E.2.1, 100, .inl (fun _ => 0))), (q7, .inl (E.2.1, 3800, .inl (fun _ => 0))), (q8, .inl (E.2.1, 201, .inl (fun _ => 0))), (q9, .inl (E.2.1, 6, .inl (fun _ => 0))), (q10, .inl (E.2.1, 6, .inl (fun _ => 0))), (q11, .inl (E.2.2.2, 201, .inl (fun _ => 0))), (q12, .inl (E.2.2.1, 27, .inr (.inl (fun _ => 0))))]) 100 X hin gf_X10_44 tyX10_ok nmX10 rfl rfl dX10_init_100 0 rfl rfl rfl (Nat.le_of_ble_eq_true rfl) rfl ?_
  refine jv_aload_n 103 X dX10_init_103 0 rfl ?_
  refine jv_bipush (v := 27) 104 X dX10_init_104 (by decide) ?_
  refine jv_newl (n := 27) 106 X dX10_init_106 rfl (by decide) ⟨by decide +kernel, by decide +kernel⟩ (fun q13 => ?_)
  refine jv_putF (ws2 := [(b, .inr (10, [.ref q1, .ref q2, .ref q3, .int 0, .ref q4, .int 0, .ref q5, .int 0, .int 0, .int 0, .int 0, .int 0, .ref q6, .ref q7, .ref q8, .ref q9, .ref q10, .ref q11, .ref q12, .ref q13, .null, .null])), (q1, .inl (E.2.1, 40, .inl (fun _ => 0))), (q2, .inl (E.2.1, 40, .inl (fun _ => 0))), (q3, .inl (E.2.1, 7, .inl (fun _ => 0))), (q4, .inl (E.2.1, 16, .inl (fun _ => 0))), (q5, .inl (E.2.1, 60, .inl (fun _ => 0))), (q6, .inl (E.2.1, 100, .inl (fun _ => 0))), (q7, .inl (E.2.1, 3800, .inl (fun _ => 0))), (q8, .inl (E.2.1, 201, .inl (fun _ => 0))), (q9, .inl (E.2.1, 6, .inl (fun _ => 0))), (q10, .inl (E.2.1, 6, .inl (fun _ => 0))), (q11, .inl (E.2.2.2, 201, .inl (fun _ => 0))), (q12, .inl (E.2.2.1, 27, .inr (.inl (fun _ => 0)))), (q13, .inl (E.2.2.1, 27, .inr (.inl (fun _ => 0))))]) 108 X hin gf_X10_48 tyX10_ok nmX10 rfl rfl dX10_init_108 0 rfl rfl rfl (Nat.le_of_ble_eq_true rfl) rfl ?_
  refine jv_aload_n 111 X dX10_init_111 0 rfl ?_
  refine jv_sipush (v := 140) 112 X dX10_init_112 (by decide) ?_
  refine jv_newi (n := 140) 115 X dX10_init_115 rfl (by decide) ⟨by decide +kernel, by decide +kernel⟩ (fun q14 => ?_)
  refine jv_putF (ws2 := [(b, .inr (10, [.ref q1, .ref q2, .ref q3, .int 0, .ref q4, .int 0, .ref q5, .int 0, .int 0, .int 0, .int 0, .int 0, .ref q6, .ref q7, .ref q8, .ref q9, .ref q10, .ref q11, .ref q12, .ref q13, .ref q14, .null])), (q1, .inl (E.2.1, 40, .inl (fun _ => 0))), (q2, .inl (E.2.1, 40, .inl (fun _ => 0))), (q3, .inl (E.2.1, 7, .inl (fun _ => 0))), (q4, .inl (E.2.1, 16, .inl (fun _ => 0))), (q5, .inl (E.2.1, 60, .inl (fun _ => 0))), (q6, .inl (E.2.1, 100, .inl (fun _ => 0))), (q7, .inl (E.2.1, 3800, .inl (fun _ => 0))), (q8, .inl (E.2.1, 201, .inl (fun _ => 0))), (q9, .inl (E.2.1, 6, .inl (fun _ => 0))), (q10, .inl (E.2.1, 6, .inl (fun _ => 0))), (q11, .inl (E.2.2.2, 201, .inl (fun _ => 0))), (q12, .inl (E.2.2.1, 27, .inr (.inl (fun _ => 0)))), (q13, .inl (E.2.2.1, 27, .inr (.inl (fun _ => 0)))), (q14, .inl (E.2.1, 140, .inl (fun _ => 0)))]) 117 X hin gf_X10_51 tyX10_ok nmX10 rfl rfl dX10_init_117 0 rfl rfl rfl (Nat.le_of_ble_eq_true rfl) rfl ?_
  refine jv_aload_n 120 X dX10_init_120 0 rfl ?_
  refine jv_iconst (v := 2) 121 X dX10_init_121 rfl ?_
  refine jv_newz (n := 2) 122 X dX10_init_122 rfl (by decide) ⟨by decide +kernel, by decide +kernel⟩ (fun q15 => ?_)
  refine jv_putF (ws2 := [(b, .inr (10, [.ref q1, .ref q2, .ref q3, .int 0, .ref q4, .int 0, .ref q5, .int 0, .int 0, .int 0, .int 0, .int 0, .ref q6, .ref q7, .ref q8, .ref q9, .ref q10, .ref q11, .ref q12, .ref q13, .ref q14, .ref q15])), (q1, .inl (E.2.1, 40, .inl (fun _ => 0))), (q2, .inl (E.2.1, 40, .inl (fun _ => 0))), (q3, .inl (E.2.1, 7, .inl (fun _ => 0))), (q4, .inl (E.2.1, 16, .inl (fun _ => 0))), (q5, .inl (E.2.1, 60, .inl (fun _ => 0))), (q6, .inl (E.2.1, 100, .inl (fun _ => 0))), (q7, .inl (E.2.1, 3800, .inl (fun _ => 0))), (q8, .inl (E.2.1, 201, .inl (fun _ => 0))), (q9, .inl (E.2.1, 6, .inl (fun _ => 0))), (q10, .inl (E.2.1, 6, .inl (fun _ => 0))), (q11, .inl (E.2.2.2, 201, .inl (fun _ => 0))), (q12, .inl (E.2.2.1, 27, .inr (.inl (fun _ => 0)))), (q13, .inl (E.2.2.1, 27, .inr (.inl (fun _ => 0)))), (q14, .inl (E.2.1, 140, .inl (fun _ => 0))), (q15, .inl (E.2.2.2, 2, .inl (fun _ => 0)))]) 124 X hin gf_X10_54 tyX10_ok nmX10 rfl rfl dX10_init_124 0 rfl rfl rfl (Nat.le_of_ble_eq_true rfl) rfl ?_
  have lp151 : ∀ (n i : Nat) (f : Nat → Int32), i ≤ 4 → (∀ j, j < 40 → f j = if j < 6 then 100 else if 34 ≤ j ∧ j < 34 + i then 600 else 0) → 4 - i < n → JV E K 15 4673 [(b, .inr (10, [.ref q1, .ref q2, .ref q3, .int 0, .ref q4, .int 0, .ref q5, .int 0, .int 0, .int 0, .int 0, .int 0, .ref q6, .ref q7, .ref q8, .ref q9, .ref q10, .ref q11, .ref q12, .ref q13, .ref q14, .ref q15])), (q1, .inl (E.2.1, 40, .inl f)), (q2, .inl (E.2.1, 40, .inl (fun _ => 0))), (q3, .inl (E.2.1, 7, .inl (fun _ => 0))), (q4, .inl (E.2.1, 16, .inl (fun _ => 0))), (q5, .inl (E.2.1, 60, .inl (fun _ => 0))), (q6, .inl (E.2.1, 100, .inl (fun _ => 0))), (q7, .inl (E.2.1, 3800, .inl (fun _ => 0))), (q8, .inl (E.2.1, 201, .inl (fun _ => 0))), (q9, .inl (E.2.1, 6, .inl (fun _ => 0))), (q10, .inl (E.2.1, 6, .inl (fun _ => 0))), (q11, .inl (E.2.2.2, 201, .inl (fun _ => 0))), (q12, .inl (E.2.2.1, 27, .inr (.inl (fun _ => 0)))), (q13, .inl (E.2.2.1, 27, .inr (.inl (fun _ => 0)))), (q14, .inl (E.2.1, 140, .inl (fun _ => 0))), (q15, .inl (E.2.2.2, 2, .inl (fun _ => 0)))] [(0, .ref b), (1, .int (nI i))] 151 [] := by
    intro n
    induction n with
    | zero => intro i f hi hI hm; exact absurd hm (Nat.not_lt_zero _)
    | succ n ih =>
      intro i f hi hI hm
      refine jv_iload_n 151 X dX10_init_151 1 rfl ?_
      refine jv_iconst (v := 4) 152 X dX10_init_152 rfl ?_
      refine jn_icmp_ge 153 X dX10_init_153 174 (by decide) (fun c_1 => ?_) (fun c_1 => ?_)
      · have n_1 : 4 ≤ i := (nx_le (a := 4) (b := i) rfl rfl (by omega) (by omega)).mp c_1
        refine jv_aload_n 174 X dX10_init_174 0 rfl ?_
        refine jv_get (v := .ref q1) 175 X gf_X10_7 dX10_init_175 0 rfl rfl ?_
        refine jv_bipush (v := 38) 178 X dX10_init_178 (by decide) ?_
        refine jv_bipush (v := 60) 180 X dX10_init_180 (by decide) ?_
        refine jv_iast (ws2 := [(b, .inr (10, [.ref q1, .ref q2, .ref q3, .int 0, .ref q4, .int 0, .ref q5, .int 0, .int 0, .int 0, .int 0, .int 0, .ref q6, .ref q7, .ref q8, .ref q9, .ref q10, .ref q11, .ref q12, .ref q13, .ref q14, .ref q15])), (q1, .inl (E.2.1, 40, .inl (upd f 38 60))), (q2, .inl (E.2.1, 40, .inl (fun _ => 0))), (q3, .inl (E.2.1, 7, .inl (fun _ => 0))), (q4, .inl (E.2.1, 16, .inl (fun _ => 0))), (q5, .inl (E.2.1, 60, .inl (fun _ => 0))), (q6, .inl (E.2.1, 100, .inl (fun _ => 0))), (q7, .inl (E.2.1, 3800, .inl (fun _ => 0))), (q8, .inl (E.2.1, 201, .inl (fun _ => 0))), (q9, .inl (E.2.1, 6, .inl (fun _ => 0))), (q10, .inl (E.2.1, 6, .inl (fun _ => 0))), (q11, .inl (E.2.2.2, 201, .inl (fun _ => 0))), (q12, .inl (E.2.2.1, 27, .inr (.inl (fun _ => 0)))), (q13, .inl (E.2.2.1, 27, .inr (.inl (fun _ => 0)))), (q14, .inl (E.2.1, 140, .inl (fun _ => 0))), (q15, .inl (E.2.2.2, 2, .inl (fun _ => 0)))]) (f := f) 182 X dX10_init_182 1 rfl (by decide) 38 rfl (by omega) rfl ?_
        refine jv_ext (ws2 := [(b, .inr (10, [.ref q1, .ref q2, .ref q3, .int 0, .ref q4, .int 0, .ref q5, .int 0, .int 0, .int 0, .int 0, .int 0, .ref q6, .ref q7, .ref q8, .ref q9, .ref q10, .ref q11, .ref q12, .ref q13, .ref q14, .ref q15])), (q1, .inl (E.2.1, 40, .inl bk0)), (q2, .inl (E.2.1, 40, .inl (fun _ => 0))), (q3, .inl (E.2.1, 7, .inl (fun _ => 0))), (q4, .inl (E.2.1, 16, .inl (fun _ => 0))), (q5, .inl (E.2.1, 60, .inl (fun _ => 0))), (q6, .inl (E.2.1, 100, .inl (fun _ => 0))), (q7, .inl (E.2.1, 3800, .inl (fun _ => 0))), (q8, .inl (E.2.1, 201, .inl (fun _ => 0))), (q9, .inl (E.2.1, 6, .inl (fun _ => 0))), (q10, .inl (E.2.1, 6, .inl (fun _ => 0))), (q11, .inl (E.2.2.2, 201, .inl (fun _ => 0))), (q12, .inl (E.2.2.1, 27, .inr (.inl (fun _ => 0)))), (q13, .inl (E.2.2.1, 27, .inr (.inl (fun _ => 0)))), (q14, .inl (E.2.1, 140, .inl (fun _ => 0))), (q15, .inl (E.2.2.2, 2, .inl (fun _ => 0)))]) 1 bk0 rfl (fun j hj => ?_) rfl ?_
        · unfold bk0
          by_cases z : j = 38
          · rw [z, pk_us]; rfl
          · rw [pk_un z, hI j hj, show i = 4 by omega, if_neg z]
        · exact jv_vret 183 X Y rfl dX10_init_183 [q1, q2, q3, q4, q5, q6, q7, q8, q9, q10, q11, q12, q13, q14, q15] rfl rfl
      · have n_1 : ¬ 4 ≤ i := fun zq => c_1 ((nx_le (a := 4) (b := i) rfl rfl (by omega) (by omega)).mpr zq)
        refine jv_aload_n 156 X dX10_init_156 0 rfl ?_
        refine jv_get (v := .ref q1) 157 X gf_X10_7 dX10_init_157 0 rfl rfl ?_
        refine jv_bipush (v := 34) 160 X dX10_init_160 (by decide) ?_
        refine jv_iload_n 162 X dX10_init_162 1 rfl ?_
        refine jv_iadd 163 X dX10_init_163 ?_
        refine jv_norm (x2 := nI (34 + i)) (nx_add rfl rfl) ?_
        refine jv_sipush (v := 600) 164 X dX10_init_164 (by decide) ?_
        refine jv_iast (ws2 := [(b, .inr (10, [.ref q1, .ref q2, .ref q3, .int 0, .ref q4, .int 0, .ref q5, .int 0, .int 0, .int 0, .int 0, .int 0, .ref q6, .ref q7, .ref q8, .ref q9, .ref q10, .ref q11, .ref q12, .ref q13, .ref q14, .ref q15])), (q1, .inl (E.2.1, 40, .inl (upd f (34 + i) 600))), (q2, .inl (E.2.1, 40, .inl (fun _ => 0))), (q3, .inl (E.2.1, 7, .inl (fun _ => 0))), (q4, .inl (E.2.1, 16, .inl (fun _ => 0))), (q5, .inl (E.2.1, 60, .inl (fun _ => 0))), (q6, .inl (E.2.1, 100, .inl (fun _ => 0))), (q7, .inl (E.2.1, 3800, .inl (fun _ => 0))), (q8, .inl (E.2.1, 201, .inl (fun _ => 0))), (q9, .inl (E.2.1, 6, .inl (fun _ => 0))), (q10, .inl (E.2.1, 6, .inl (fun _ => 0))), (q11, .inl (E.2.2.2, 201, .inl (fun _ => 0))), (q12, .inl (E.2.2.1, 27, .inr (.inl (fun _ => 0)))), (q13, .inl (E.2.2.1, 27, .inr (.inl (fun _ => 0)))), (q14, .inl (E.2.1, 140, .inl (fun _ => 0))), (q15, .inl (E.2.2.2, 2, .inl (fun _ => 0)))]) (f := f) 167 X dX10_init_167 1 rfl (by decide) (34 + i) rfl (by omega) rfl ?_
        refine jv_iinc (v := nI (i + 1)) (lv2 := [(1, .int (nI (i + 1))), (0, .ref b)]) 168 X dX10_init_168 1 rfl (nx_inc _) (by decide) rfl ?_
        refine jv_goto 171 X dX10_init_171 151 (by decide) ?_
        exact jv_lv [1, 0] rfl (ih (i + 1) (upd f (34 + i) 600) (by omega) (fun j hj => by by_cases z : j = 34 + i; rw [z, pk_us, if_neg (by omega), if_pos (by omega)]; rw [pk_un z, hI j hj]; by_cases y : j < 6; rw [if_pos y, if_pos y]; rw [if_neg y, if_neg y]; by_cases x : 34 ≤ j ∧ j < 34 + i; rw [if_pos x, if_pos (by omega)]; rw [if_neg x, if_neg (by omega)]) (by omega))
  have lp129 : ∀ (n i : Nat) (f : Nat → Int32), i ≤ 6 → (∀ j, j < 40 → f j = if j < i then 100 else 0) → 6 - i < n → JV E K 15 4673 [(b, .inr (10, [.ref q1, .ref q2, .ref q3, .int 0, .ref q4, .int 0, .ref q5, .int 0, .int 0, .int 0, .int 0, .int 0, .ref q6, .ref q7, .ref q8, .ref q9, .ref q10, .ref q11, .ref q12, .ref q13, .ref q14, .ref q15])), (q1, .inl (E.2.1, 40, .inl f)), (q2, .inl (E.2.1, 40, .inl (fun _ => 0))), (q3, .inl (E.2.1, 7, .inl (fun _ => 0))), (q4, .inl (E.2.1, 16, .inl (fun _ => 0))), (q5, .inl (E.2.1, 60, .inl (fun _ => 0))), (q6, .inl (E.2.1, 100, .inl (fun _ => 0))), (q7, .inl (E.2.1, 3800, .inl (fun _ => 0))), (q8, .inl (E.2.1, 201, .inl (fun _ => 0))), (q9, .inl (E.2.1, 6, .inl (fun _ => 0))), (q10, .inl (E.2.1, 6, .inl (fun _ => 0))), (q11, .inl (E.2.2.2, 201, .inl (fun _ => 0))), (q12, .inl (E.2.2.1, 27, .inr (.inl (fun _ => 0)))), (q13, .inl (E.2.2.1, 27, .inr (.inl (fun _ => 0)))), (q14, .inl (E.2.1, 140, .inl (fun _ => 0))), (q15, .inl (E.2.2.2, 2, .inl (fun _ => 0)))] [(0, .ref b), (1, .int (nI i))] 129 [] := by
    intro n
    induction n with
    | zero => intro i f hi hI hm; exact absurd hm (Nat.not_lt_zero _)
    | succ n ih =>
      intro i f hi hI hm
      refine jv_iload_n 129 X dX10_init_129 1 rfl ?_
      refine jv_bipush (v := 6) 130 X dX10_init_130 (by decide) ?_
      refine jn_icmp_ge 132 X dX10_init_132 149 (by decide) (fun c_1 => ?_) (fun c_1 => ?_)
      · have n_1 : 6 ≤ i := (nx_le (a := 6) (b := i) rfl rfl (by omega) (by omega)).mp c_1
        refine jv_iconst (v := 0) 149 X dX10_init_149 rfl ?_
        refine jv_istore_n (lv2 := [(1, .int 0), (0, .ref b)]) 150 X dX10_init_150 (by decide) rfl ?_
        exact jv_lv [1, 0] rfl (lp151 _ 0 f (by omega) (fun j hj => by rw [hI j hj, show i = 6 by omega]; by_cases y : j < 6; rw [if_pos y, if_pos y]; rw [if_neg y, if_neg y, if_neg (by omega)]) (Nat.lt_succ_self _))
      · have n_1 : ¬ 6 ≤ i := fun zq => c_1 ((nx_le (a := 6) (b := i) rfl rfl (by omega) (by omega)).mpr zq)
        refine jv_aload_n 135 X dX10_init_135 0 rfl ?_
        refine jv_get (v := .ref q1) 136 X gf_X10_7 dX10_init_136 0 rfl rfl ?_
        refine jv_iload_n 139 X dX10_init_139 1 rfl ?_
        refine jv_bipush (v := 100) 140 X dX10_init_140 (by decide) ?_
        refine jv_iast (ws2 := [(b, .inr (10, [.ref q1, .ref q2, .ref q3, .int 0, .ref q4, .int 0, .ref q5, .int 0, .int 0, .int 0, .int 0, .int 0, .ref q6, .ref q7, .ref q8, .ref q9, .ref q10, .ref q11, .ref q12, .ref q13, .ref q14, .ref q15])), (q1, .inl (E.2.1, 40, .inl (upd f i 100))), (q2, .inl (E.2.1, 40, .inl (fun _ => 0))), (q3, .inl (E.2.1, 7, .inl (fun _ => 0))), (q4, .inl (E.2.1, 16, .inl (fun _ => 0))), (q5, .inl (E.2.1, 60, .inl (fun _ => 0))), (q6, .inl (E.2.1, 100, .inl (fun _ => 0))), (q7, .inl (E.2.1, 3800, .inl (fun _ => 0))), (q8, .inl (E.2.1, 201, .inl (fun _ => 0))), (q9, .inl (E.2.1, 6, .inl (fun _ => 0))), (q10, .inl (E.2.1, 6, .inl (fun _ => 0))), (q11, .inl (E.2.2.2, 201, .inl (fun _ => 0))), (q12, .inl (E.2.2.1, 27, .inr (.inl (fun _ => 0)))), (q13, .inl (E.2.2.1, 27, .inr (.inl (fun _ => 0)))), (q14, .inl (E.2.1, 140, .inl (fun _ => 0))), (q15, .inl (E.2.2.2, 2, .inl (fun _ => 0)))]) (f := f) 142 X dX10_init_142 1 rfl (by decide) i rfl (by omega) rfl ?_
        refine jv_iinc (v := nI (i + 1)) (lv2 := [(1, .int (nI (i + 1))), (0, .ref b)]) 143 X dX10_init_143 1 rfl (nx_inc _) (by decide) rfl ?_
        refine jv_goto 146 X dX10_init_146 129 (by decide) ?_
        exact jv_lv [1, 0] rfl (ih (i + 1) (upd f i 100) (by omega) (fun j hj => by by_cases z : j = i; rw [z, pk_us, if_pos (by omega)]; rw [pk_un z, hI j hj]; by_cases y : j < i; rw [if_pos y, if_pos (by omega)]; rw [if_neg y, if_neg (by omega)]) (by omega))
  refine jv_iconst (v := 0) 127 X dX10_init_127 rfl ?_
  refine jv_istore_n (lv2 := [(1, .int 0), (0, .ref b)]) 128 X dX10_init_128 (by decide) rfl ?_
  exact jv_lv [1, 0] rfl (lp129 _ 0 (fun _ => 0) (by omega) (fun j _ => by rw [if_neg (by omega)]) (Nat.lt_succ_self _))
