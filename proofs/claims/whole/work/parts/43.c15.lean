theorem mn_and {q y : Int32} : (1 ≤ q ∧ q ≤ (if y < 10 then y else 10)) ↔ ((1 ≤ q ∧ q ≤ 10) ∧ q ≤ y) := by
  by_cases z : y < 10
  · rw [if_pos z]
    exact ⟨fun h => ⟨⟨h.1, Int32.le_trans h.2 (Int32.le_of_lt z)⟩, h.2⟩, fun h => ⟨h.1.1, h.2⟩⟩
  · rw [if_neg z]
    exact ⟨fun h => ⟨h, Int32.le_trans h.2 (Int32.not_lt.mp z)⟩, fun h => h.1⟩
theorem c_X9_days (E : EE) (l : Launch) (g : Nat → Nat → Nat) (r : Rl) (ah : Ah) (m : Int32) (q : Int32) (what : Int32) (hD : dyC r) (hin : inOK r.1) : CG E l yX9_days cX9_days 5 (some .int) { frames := 4, cells := 0, slots := 0, locals := 98 } [.ref (g 0 0), .int m, .int q, .int what] (wB [bLR g, tRl E (g 1) r, tAh E (g 9) ah]) noB (fun _ : Ah => some (.int (if (0 ≤ m ∧ m ≤ 60) ∧ (1 ≤ q ∧ q ≤ 10) ∧ q ≤ m + 1 ∧ (0 ≤ what ∧ what ≤ 1) then (if what = 0 then nI (dyW (wlF r.2.2.2.1 r.1 r.2.1.toNatClampNeg) m.toNatClampNeg q.toNatClampNeg) else ddM (wlF r.2.2.2.1 r.1 r.2.1.toNatClampNeg) m.toNatClampNeg q.toNatClampNeg (dyW (wlF r.2.2.2.1 r.1 r.2.1.toNatClampNeg) m.toNatClampNeg q.toNatClampNeg)) else -2))) (fun u : Ah => wB [bLR g, tRl E (g 1) r, tAh E (g 9) u]) := by
  obtain ⟨inches, sorted, buyDay, sellDay⟩ := ah
  refine CG.intro (by decide) (Nat.le_of_ble_eq_true rfl) (fun K X Y _ _ _ => ?_)
  refine jv_iload_n 0 X dX9_days_0 1 rfl ?_
  refine jv_iconst (v := 0) 1 X dX9_days_1 rfl ?_
  refine jv_bipush (v := 60) 2 X dX9_days_2 (by decide) ?_
  refine jv_fun 4 X (c_X9_within E _ m 0 60) ws_X9_75 ⟨Nat.le_of_ble_eq_true rfl, Nat.le_of_ble_eq_true rfl⟩ ⟨rfl, rfl⟩ ⟨Nat.zero_le _, Nat.zero_le _⟩ dX9_days_4 rfl [] rfl (Nat.le_of_ble_eq_true rfl) ?_
  refine jv_z_eq 7 X dX9_days_7 35 (by decide) (fun c_1 => ?_) (fun c_1 => ?_)
  · refine jv_bipush (v := (-2)) 35 X dX9_days_35 (by decide) ?_
    exact jv_iret 37 X Y rfl dX9_days_37 (inches, sorted, buyDay, sellDay) (by simp [nI_1, c_1]) rfl
  · obtain ⟨jm, h1jm, h2jm, rfl⟩ := nx_in (a := 0) (b := 60) rfl rfl (by decide) (by decide) c_1
    have hcjm : (nI jm).toNatClampNeg = jm := nI_clamp (by omega)
    refine jv_iload_n 10 X dX9_days_10 2 rfl ?_
    refine jv_iconst (v := 1) 11 X dX9_days_11 rfl ?_
    refine jv_bipush (v := 10) 12 X dX9_days_12 (by decide) ?_
    refine jv_iload_n 14 X dX9_days_14 1 rfl ?_
    refine jv_iconst (v := 1) 15 X dX9_days_15 rfl ?_
    refine jv_iadd 16 X dX9_days_16 ?_
    refine jv_norm (x2 := nI (jm + 1)) (nx_add2 (a := jm) (b := 1) rfl rfl (by omega)) ?_
    refine jv_mmin 17 X wm_X9_208 dX9_days_17 (Nat.le_of_ble_eq_true rfl) (Nat.le_of_ble_eq_true rfl) ⟨Nat.zero_le _, Nat.zero_le _⟩ ?_
    refine jv_fun 20 X (c_X9_within E _ q 1 (if (nI (jm + 1)) < 10 then (nI (jm + 1)) else 10)) ws_X9_75 ⟨Nat.le_of_ble_eq_true rfl, Nat.le_of_ble_eq_true rfl⟩ ⟨rfl, rfl⟩ ⟨Nat.zero_le _, Nat.zero_le _⟩ dX9_days_20 rfl [] rfl (Nat.le_of_ble_eq_true rfl) ?_
    refine jv_z_eq 23 X dX9_days_23 35 (by decide) (fun c_2 => ?_) (fun c_2 => ?_)
    · have hR := fun z => c_2 (mn_and.mpr z)
      refine jv_bipush (v := (-2)) 35 X dX9_days_35 (by decide) ?_
      exact jv_iret 37 X Y rfl dX9_days_37 (inches, sorted, buyDay, sellDay) (by rw [nI_1, if_neg (fun z => hR ⟨z.2.1, z.2.2.1⟩)]) rfl
    · have hR := mn_and.mp c_2
      obtain ⟨jq, h1jq, h2jq, rfl⟩ := nx_in (a := 1) (b := 10) rfl rfl (by decide) (by decide) hR.1
      have hcjq : (nI jq).toNatClampNeg = jq := nI_clamp (by omega)
      have hq2 : jq ≤ jm + 1 := (nx_le (a := jq) (b := jm + 1) rfl rfl (by omega) (by omega)).mp hR.2
      refine jv_iload_n 26 X dX9_days_26 3 rfl ?_
      refine jv_iconst (v := 0) 27 X dX9_days_27 rfl ?_
      refine jv_iconst (v := 1) 28 X dX9_days_28 rfl ?_
      refine jv_fun 29 X (c_X9_within E _ what 0 1) ws_X9_75 ⟨Nat.le_of_ble_eq_true rfl, Nat.le_of_ble_eq_true rfl⟩ ⟨rfl, rfl⟩ ⟨Nat.zero_le _, Nat.zero_le _⟩ dX9_days_29 rfl [] rfl (Nat.le_of_ble_eq_true rfl) ?_
      refine jv_z_ne 32 X dX9_days_32 38 (by decide) (fun c_3 => ?_) (fun c_3 => ?_)
      · refine jv_aload_n 38 X dX9_days_38 0 rfl ?_
        refine jv_get (v := .ref (g 9 0)) 39 X gf_X9_43 dX9_days_39 0 rfl rfl ?_
        refine jv_aload_n 42 X dX9_days_42 0 rfl ?_
        refine jv_get (v := .ref (g 1 0)) 43 X gf_X9_10 dX9_days_43 0 rfl rfl ?_
        refine jv_iload_n 46 X dX9_days_46 1 rfl ?_
        refine jv_callB (wl2 := [bLR g, tRl E (g 1) r, bAh E (g 9) (lkF (wlF r.2.2.2.1 r.1 r.2.1.toNatClampNeg) inches jm) sorted buyDay sellDay]) 47 X (c_X0_look E _ (g 9) inches sorted buyDay sellDay (g 1) r jm (by omega) hD) wv_X9_184 ⟨Nat.le_of_ble_eq_true rfl, Nat.le_of_ble_eq_true rfl⟩ ⟨rfl, rfl⟩ ⟨Nat.zero_le _, Nat.zero_le _⟩ dX9_days_47 rfl [] rfl (Nat.le_of_ble_eq_true rfl) [2, 1] rfl rfl [[(g 9 0), (g 9 1), (g 9 2)], [(g 1 0), (g 1 1), (g 1 2), (g 1 3), (g 1 4), (g 1 5), (g 1 6), (g 1 7), (g 1 8), (g 1 9), (g 1 10)]] rfl rfl 2 rfl rfl rfl rfl ?_
        refine jv_aload_n 50 X dX9_days_50 0 rfl ?_
        refine jv_get (v := .ref (g 9 0)) 51 X gf_X9_43 dX9_days_51 0 rfl rfl ?_
        refine jv_iload_n 54 X dX9_days_54 1 rfl ?_
        refine jv_iload_n 55 X dX9_days_55 2 rfl ?_
        refine jv_callB1 (wl2 := [bLR g, tRl E (g 1) r, bAh E (g 9) (lkF (wlF r.2.2.2.1 r.1 r.2.1.toNatClampNeg) inches jm) (srF (wlF r.2.2.2.1 r.1 r.2.1.toNatClampNeg) (jm + 1) sorted) buyDay sellDay]) 56 X (c_X0_leastSpread E _ (g 9) (lkF (wlF r.2.2.2.1 r.1 r.2.1.toNatClampNeg) inches jm) sorted buyDay sellDay jm jq (wlF r.2.2.2.1 r.1 r.2.1.toNatClampNeg) (by omega) (by omega) (by omega) (fun j hj => lk_le hj)) wv_X9_213 ⟨Nat.le_of_ble_eq_true rfl, Nat.le_of_ble_eq_true rfl⟩ ⟨rfl, rfl⟩ ⟨Nat.zero_le _, Nat.zero_le _⟩ dX9_days_56 rfl [] rfl (Nat.le_of_ble_eq_true rfl) 2 rfl [(g 9 0), (g 9 1), (g 9 2)] rfl rfl rfl rfl rfl ?_
        obtain ⟨hl1, hl2⟩ := ls_dy (W := (wlF r.2.2.2.1 r.1 r.2.1.toNatClampNeg)) (s0 := sorted) (m := jm) (r := jq) (fun j => wlF_in hin j) (by omega) (by omega) hq2
        refine jv_norm (x2 := nI (dyW (wlF r.2.2.2.1 r.1 r.2.1.toNatClampNeg) jm jq)) hl1 ?_
        refine jv_istore (lv2 := [(4, .int (nI (dyW (wlF r.2.2.2.1 r.1 r.2.1.toNatClampNeg) jm jq))), (0, .ref (g 0 0)), (1, .int (nI jm)), (2, .int (nI jq)), (3, .int what)]) 59 X dX9_days_59 (by decide) rfl ?_
        refine jv_iload_n 61 X dX9_days_61 4 rfl ?_
        refine jn_if_ne 62 X dX9_days_62 70 (by decide) (fun c_4 => ?_) (fun c_4 => ?_)
        · refine jv_aload_n 70 X dX9_days_70 1 rfl ?_
          refine jv_get (v := .ref (g 9 0)) 71 X gf_X9_43 dX9_days_71 0 rfl rfl ?_
          refine jv_iload_n 74 X dX9_days_74 2 rfl ?_
          refine jv_iload_n 75 X dX9_days_75 3 rfl ?_
          refine jv_iload 76 X dX9_days_76 0 rfl ?_
          refine jv_callB1 (wl2 := [bLR g, tRl E (g 1) r, bAh E (g 9) (lkF (wlF r.2.2.2.1 r.1 r.2.1.toNatClampNeg) inches jm) (srF (wlF r.2.2.2.1 r.1 r.2.1.toNatClampNeg) (jm + 1) sorted) buyDay sellDay]) 78 X (c_X0_firstDay E _ (g 9) (lkF (wlF r.2.2.2.1 r.1 r.2.1.toNatClampNeg) inches jm) (srF (wlF r.2.2.2.1 r.1 r.2.1.toNatClampNeg) (jm + 1) sorted) buyDay sellDay jm jq (dyW (wlF r.2.2.2.1 r.1 r.2.1.toNatClampNeg) jm jq) (wlF r.2.2.2.1 r.1 r.2.1.toNatClampNeg) (by omega) (by omega) (fun j hj => lk_le hj)) wv_X9_216 ⟨Nat.le_of_ble_eq_true rfl, Nat.le_of_ble_eq_true rfl⟩ ⟨rfl, rfl⟩ ⟨Nat.zero_le _, Nat.zero_le _⟩ dX9_days_78 rfl [] rfl (Nat.le_of_ble_eq_true rfl) 2 rfl [(g 9 0), (g 9 1), (g 9 2)] rfl rfl rfl rfl rfl ?_
          refine jv_norm (x2 := (ddM (wlF r.2.2.2.1 r.1 r.2.1.toNatClampNeg) jm jq (dyW (wlF r.2.2.2.1 r.1 r.2.1.toNatClampNeg) jm jq))) (fd_dd (fun j => wlF_in hin j) (by omega) hl2) ?_
          exact jv_iret 81 X Y rfl dX9_days_81 ((lkF (wlF r.2.2.2.1 r.1 r.2.1.toNatClampNeg) inches jm), (srF (wlF r.2.2.2.1 r.1 r.2.1.toNatClampNeg) (jm + 1) sorted), buyDay, sellDay) (by simp [nI_1, c_1, hcjm, hcjq, hR, c_3, c_4]) rfl
        · refine jv_iload 65 X dX9_days_65 0 rfl ?_
          refine jv_goto 67 X dX9_days_67 81 (by decide) ?_
          exact jv_iret 81 X Y rfl dX9_days_81 ((lkF (wlF r.2.2.2.1 r.1 r.2.1.toNatClampNeg) inches jm), (srF (wlF r.2.2.2.1 r.1 r.2.1.toNatClampNeg) (jm + 1) sorted), buyDay, sellDay) (by simp [nI_1, c_1, hcjm, hcjq, hR, c_3, c_4]) rfl
      · refine jv_bipush (v := (-2)) 35 X dX9_days_35 (by decide) ?_
        exact jv_iret 37 X Y rfl dX9_days_37 (inches, sorted, buyDay, sellDay) (by simp [nI_1, c_1, hcjm, hcjq, hR, c_3]) rfl
