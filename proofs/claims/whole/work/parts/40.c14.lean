def ydA (r : Rl) (x : Nat) : Rl := if hdF r (ykF (x / 6 % 8)) (x % 6) (x / 432 % 4) (nI (1 + x / 48 % 9)) = 0 then acF r (ykF (x / 6 % 8)) (x % 6) (x / 432 % 4) (nI (1 + x / 48 % 9)) else r
def ydS (_ : Nat) (s : Nat × Rl) : Nat × Rl := (yrX s.1, ydA s.2 (yrX s.1))
theorem yrX_lt (x : Nat) : yrX x < 65537 := Nat.mod_lt _ (by decide)
theorem dy_yd {r : Rl} {x : Nat} (h : dyC r) : dyC (ydA r x) := by
  unfold ydA
  split
  · rename_i h0; exact dy_ac h h0
  · exact h
theorem c_X8_drawYear (E : EE) (l : Launch) (w : Nat) (t : Nat → Nat) (wacts : Int32) (stuckAct : Int32) (why : Int32) (metAct : Int32) (metBridge : Int32) (r : Rl) (v : Nat → Nat) (o : Rl) (seed : Nat) (m : Nat) (yk : Nat) (hsd : seed ≤ 9999) (hm9 : m ≤ 99) (hDo : dyC o) : CG E l yX8_drawYear cX8_drawYear 9 none { frames := 4, cells := 0, slots := 0, locals := 87 } [.ref w, .ref (v 0), .int (nI seed), .int (nI m)] (wB [bWk w (t 0) wacts stuckAct why metAct metBridge, tRl E t r, tRl E v o]) (YB yk (wB [bWk w (t 0) wacts stuckAct why metAct metBridge, tRl E t r, tRl E v o])) (fun _ : Unit => none) (fun _ : Unit => wB [bWk w (t 0) wacts stuckAct why metAct metBridge, tRl E t ((itr ydS m (seed, o)).2), tRl E v o]) := by
  refine CG.intro (by decide) (Nat.le_of_ble_eq_true rfl) (fun K X Y hk hB _ => ?_)
  have hY : YK K yk := YK_of hk hB
  refine jv_aload_n 0 X dX8_drawYear_0 0 rfl ?_
  refine jv_get (v := .ref (t 0)) 1 X gf_X8_12 dX8_drawYear_1 0 rfl rfl ?_
  refine jv_aload_n 4 X dX8_drawYear_4 1 rfl ?_
  refine jv_callB (wl2 := [bWk w (t 0) wacts stuckAct why metAct metBridge, tRl E t o, tRl E v o]) 5 X (c_X5_become E _ t r v o) wv_X8_37 ⟨Nat.le_of_ble_eq_true rfl, Nat.le_of_ble_eq_true rfl⟩ ⟨rfl, rfl⟩ ⟨Nat.zero_le _, Nat.zero_le _⟩ dX8_drawYear_5 rfl [] rfl (Nat.le_of_ble_eq_true rfl) [1, 2] rfl rfl [[(t 0), (t 1), (t 2), (t 3), (t 4), (t 5), (t 6), (t 7), (t 8), (t 9), (t 10)], [(v 0), (v 1), (v 2), (v 3), (v 4), (v 5), (v 6), (v 7), (v 8), (v 9), (v 10)]] rfl rfl 1 rfl rfl rfl rfl ?_
  refine jv_iload_n 8 X dX8_drawYear_8 2 rfl ?_
  refine jv_istore (lv2 := [(4, .int (nI seed)), (0, .ref w), (1, .ref (v 0)), (2, .int (nI seed)), (3, .int (nI m))]) 9 X dX8_drawYear_9 (by decide) rfl ?_
  refine jv_iconst (v := 0) 11 X dX8_drawYear_11 rfl ?_
  refine jv_istore (lv2 := [(5, .int 0), (4, .int (nI seed)), (0, .ref w), (1, .ref (v 0)), (2, .int (nI seed)), (3, .int (nI m))]) 12 X dX8_drawYear_12 (by decide) rfl ?_
  have lp14 : ∀ (n14 : Nat) (i x : Nat) (r2 : Rl), (i ≤ m) → (x < 65537) → (dyC r2) → (itr ydS i (seed, o) = (x, r2)) → m - i < n14 → JV E K 0 0 (wB [bWk w (t 0) wacts stuckAct why metAct metBridge, tRl E t r2, tRl E v o]) [(0, .ref w), (1, .ref (v 0)), (2, .int (nI seed)), (3, .int (nI m)), (4, .int (nI x)), (5, .int (nI i))] 14 [] := by
    intro n14
    induction n14 with
    | zero => intro i x r2 hi hx hD2 hI hm; exact absurd hm (Nat.not_lt_zero _)
    | succ n14 ih14 =>
      intro i x r2 hi hx hD2 hI hm
      refine jv_iload 14 X dX8_drawYear_14 5 rfl ?_
      refine jv_iload_n 16 X dX8_drawYear_16 3 rfl ?_
      refine jn_icmp_ge 17 X dX8_drawYear_17 114 (by decide) (fun c_1 => ?_) (fun c_1 => ?_)
      · have n_1 : m ≤ i := (nx_le (a := m) (b := i) rfl rfl (by omega) (by omega)).mp c_1
        rw [show i = m by omega] at hI
        exact jv_vret 114 X Y rfl dX8_drawYear_114 () rfl (by rw [hI])
      · have n_1 : ¬ m ≤ i := fun zq => c_1 ((nx_le (a := m) (b := i) rfl rfl (by omega) (by omega)).mpr zq)
        refine jv_bipush (v := 75) 20 X dX8_drawYear_20 (by decide) ?_
        refine jv_iload 22 X dX8_drawYear_22 4 rfl ?_
        refine jv_imul 24 X dX8_drawYear_24 ?_
        refine jv_norm (x2 := nI (75 * x)) (nx_mul (a := 75) (b := x) rfl rfl) ?_
        refine jv_bipush (v := 74) 25 X dX8_drawYear_25 (by decide) ?_
        refine jv_iadd 27 X dX8_drawYear_27 ?_
        refine jv_norm (x2 := nI ((75 * x) + 74)) (nx_add2 (a := (75 * x)) (b := 74) rfl rfl (by omega)) ?_
        refine jv_ldc (v := 65537) 28 X tm_k_X8_74 dX8_drawYear_28 ?_
        refine jv_irem 30 X dX8_drawYear_30 (by decide) ?_
        refine jv_norm (x2 := nI (((75 * x) + 74) % 65537)) (nx_rem (a := ((75 * x) + 74)) (b := 65537) rfl rfl (by omega) (by omega) (by omega)) ?_
        refine jv_norm (x2 := nI (yrX x)) rfl ?_
        have hyx := yrX_lt x
        refine jv_istore (lv2 := [(4, .int (nI (yrX x))), (0, .ref w), (1, .ref (v 0)), (2, .int (nI seed)), (3, .int (nI m)), (5, .int (nI i))]) 31 X dX8_drawYear_31 (by decide) rfl ?_
        refine jv_yk 33 X hY dX8_drawYear_33 ?_
        refine jv_iload 36 X dX8_drawYear_36 0 rfl ?_
        refine jv_bipush (v := 6) 38 X dX8_drawYear_38 (by decide) ?_
        refine jv_idiv 40 X dX8_drawYear_40 (by decide) ?_
        refine jv_norm (x2 := nI ((yrX x) / 6)) (nx_div (a := (yrX x)) (b := 6) rfl rfl (by omega) (by omega) (by omega)) ?_
        refine jv_bipush (v := 8) 41 X dX8_drawYear_41 (by decide) ?_
        refine jv_irem 43 X dX8_drawYear_43 (by decide) ?_
        refine jv_norm (x2 := nI (((yrX x) / 6) % 8)) (nx_rem (a := ((yrX x) / 6)) (b := 8) rfl rfl (by omega) (by omega) (by omega)) ?_
        refine jv_yt 44 X hY (((yrX x) / 6) % 8) rfl (by omega) dX8_drawYear_44 ?_
        refine jv_istore (lv2 := [(6, .int (ykF (((yrX x) / 6) % 8))), (4, .int (nI (yrX x))), (0, .ref w), (1, .ref (v 0)), (2, .int (nI seed)), (3, .int (nI m)), (5, .int (nI i))]) 45 X dX8_drawYear_45 (by decide) rfl ?_
        refine jv_iconst (v := 1) 47 X dX8_drawYear_47 rfl ?_
        refine jv_iload 48 X dX8_drawYear_48 1 rfl ?_
        refine jv_bipush (v := 48) 50 X dX8_drawYear_50 (by decide) ?_
        refine jv_idiv 52 X dX8_drawYear_52 (by decide) ?_
        refine jv_norm (x2 := nI ((yrX x) / 48)) (nx_div (a := (yrX x)) (b := 48) rfl rfl (by omega) (by omega) (by omega)) ?_
        refine jv_bipush (v := 9) 53 X dX8_drawYear_53 (by decide) ?_
        refine jv_irem 55 X dX8_drawYear_55 (by decide) ?_
        refine jv_norm (x2 := nI (((yrX x) / 48) % 9)) (nx_rem (a := ((yrX x) / 48)) (b := 9) rfl rfl (by omega) (by omega) (by omega)) ?_
        refine jv_iadd 56 X dX8_drawYear_56 ?_
        refine jv_norm (x2 := nI (1 + (((yrX x) / 48) % 9))) (nx_add2 (a := 1) (b := (((yrX x) / 48) % 9)) rfl rfl (by omega)) ?_
        refine jv_istore (lv2 := [(7, .int (nI (1 + (((yrX x) / 48) % 9)))), (6, .int (ykF (((yrX x) / 6) % 8))), (4, .int (nI (yrX x))), (0, .ref w), (1, .ref (v 0)), (2, .int (nI seed)), (3, .int (nI m)), (5, .int (nI i))]) 57 X dX8_drawYear_57 (by decide) rfl ?_
        refine jv_iload 59 X dX8_drawYear_59 2 rfl ?_
        refine jv_sipush (v := 432) 61 X dX8_drawYear_61 (by decide) ?_
        refine jv_idiv 64 X dX8_drawYear_64 (by decide) ?_
        refine jv_norm (x2 := nI ((yrX x) / 432)) (nx_div (a := (yrX x)) (b := 432) rfl rfl (by omega) (by omega) (by omega)) ?_
        refine jv_iconst (v := 4) 65 X dX8_drawYear_65 rfl ?_
        refine jv_irem 66 X dX8_drawYear_66 (by decide) ?_
        refine jv_norm (x2 := nI (((yrX x) / 432) % 4)) (nx_rem (a := ((yrX x) / 432)) (b := 4) rfl rfl (by omega) (by omega) (by omega)) ?_
        refine jv_istore (lv2 := [(8, .int (nI (((yrX x) / 432) % 4))), (7, .int (nI (1 + (((yrX x) / 48) % 9)))), (6, .int (ykF (((yrX x) / 6) % 8))), (4, .int (nI (yrX x))), (0, .ref w), (1, .ref (v 0)), (2, .int (nI seed)), (3, .int (nI m)), (5, .int (nI i))]) 67 X dX8_drawYear_67 (by decide) rfl ?_
        refine jv_aload_n 69 X dX8_drawYear_69 4 rfl ?_
        refine jv_get (v := .ref (t 0)) 70 X gf_X8_12 dX8_drawYear_70 0 rfl rfl ?_
        refine jv_iload 73 X dX8_drawYear_73 2 rfl ?_
        refine jv_iload 75 X dX8_drawYear_75 3 rfl ?_
        refine jv_bipush (v := 6) 77 X dX8_drawYear_77 (by decide) ?_
        refine jv_irem 79 X dX8_drawYear_79 (by decide) ?_
        refine jv_norm (x2 := nI ((yrX x) % 6)) (nx_rem (a := (yrX x)) (b := 6) rfl rfl (by omega) (by omega) (by omega)) ?_
        refine jv_iload 80 X dX8_drawYear_80 0 rfl ?_
        refine jv_iload 82 X dX8_drawYear_82 1 rfl ?_
        refine jv_callB1 (wl2 := [bWk w (t 0) wacts stuckAct why metAct metBridge, tRl E t r2, tRl E v o]) 84 X (c_X5_hindrance E _ t r2 (ykF (((yrX x) / 6) % 8)) ((yrX x) % 6) (((yrX x) / 432) % 4) (nI (1 + (((yrX x) / 48) % 9))) (by omega) (fun _ => by omega)) wv_X8_62 ⟨Nat.le_of_ble_eq_true rfl, Nat.le_of_ble_eq_true rfl⟩ ⟨rfl, rfl⟩ ⟨Nat.zero_le _, Nat.zero_le _⟩ dX8_drawYear_84 rfl [] rfl (Nat.le_of_ble_eq_true rfl) 1 rfl [(t 0), (t 1), (t 2), (t 3), (t 4), (t 5), (t 6), (t 7), (t 8), (t 9), (t 10)] rfl rfl rfl rfl rfl ?_
        refine jn_if_ne 87 X dX8_drawYear_87 108 (by decide) (fun c_2 => ?_) (fun c_2 => ?_)
        · have hq : ydA r2 (yrX x) = r2 := if_neg c_2
          refine jv_wn (ws2 := wB [bWk w (t 0) wacts stuckAct why metAct metBridge, tRl E t (ydA r2 (yrX x)), tRl E v o]) (by rw [hq]) ?_
          refine jv_iinc (v := (nI (i + 1))) (lv2 := [(5, .int (nI (i + 1))), (8, .int (nI (((yrX x) / 432) % 4))), (7, .int (nI (1 + (((yrX x) / 48) % 9)))), (6, .int (ykF (((yrX x) / 6) % 8))), (4, .int (nI (yrX x))), (0, .ref w), (1, .ref (v 0)), (2, .int (nI seed)), (3, .int (nI m))]) 108 X dX8_drawYear_108 8 rfl (nx_inc _) (by decide) rfl ?_
          refine jv_goto 111 X dX8_drawYear_111 14 (by decide) ?_
          exact jv_lv [5, 6, 7, 8, 4, 0] rfl (ih14 (i + 1) (yrX x) (ydA r2 (yrX x)) (by omega) hyx (dy_yd hD2) (by rw [itr_s, hI]; rfl) (by omega))
        · refine jv_aload_n 90 X dX8_drawYear_90 4 rfl ?_
          refine jv_get (v := .ref (t 0)) 91 X gf_X8_12 dX8_drawYear_91 0 rfl rfl ?_
          refine jv_iload 94 X dX8_drawYear_94 2 rfl ?_
          refine jv_iload 96 X dX8_drawYear_96 3 rfl ?_
          refine jv_bipush (v := 6) 98 X dX8_drawYear_98 (by decide) ?_
          refine jv_irem 100 X dX8_drawYear_100 (by decide) ?_
          refine jv_norm (x2 := nI ((yrX x) % 6)) (nx_rem (a := (yrX x)) (b := 6) rfl rfl (by omega) (by omega) (by omega)) ?_
          refine jv_iload 101 X dX8_drawYear_101 0 rfl ?_
          refine jv_iload 103 X dX8_drawYear_103 1 rfl ?_
          refine jv_callB1 (wl2 := [bWk w (t 0) wacts stuckAct why metAct metBridge, tRl E t (acF r2 (ykF (((yrX x) / 6) % 8)) ((yrX x) % 6) (((yrX x) / 432) % 4) (nI (1 + (((yrX x) / 48) % 9)))), tRl E v o]) 105 X (c_X5_act E _ t r2 (ykF (((yrX x) / 6) % 8)) ((yrX x) % 6) (((yrX x) / 432) % 4) (nI (1 + (((yrX x) / 48) % 9))) (by omega) (fun _ => by omega) (fun _ => by omega) (fun _ => hD2.1)) wv_X8_66 ⟨Nat.le_of_ble_eq_true rfl, Nat.le_of_ble_eq_true rfl⟩ ⟨rfl, rfl⟩ ⟨Nat.zero_le _, Nat.zero_le _⟩ dX8_drawYear_105 rfl [] rfl (Nat.le_of_ble_eq_true rfl) 1 rfl [(t 0), (t 1), (t 2), (t 3), (t 4), (t 5), (t 6), (t 7), (t 8), (t 9), (t 10)] rfl rfl rfl rfl rfl ?_
          have hq : ydA r2 (yrX x) = (acF r2 (ykF (((yrX x) / 6) % 8)) ((yrX x) % 6) (((yrX x) / 432) % 4) (nI (1 + (((yrX x) / 48) % 9)))) := if_pos c_2
          refine jv_wn (ws2 := wB [bWk w (t 0) wacts stuckAct why metAct metBridge, tRl E t (ydA r2 (yrX x)), tRl E v o]) (by rw [hq]) ?_
          refine jv_iinc (v := (nI (i + 1))) (lv2 := [(5, .int (nI (i + 1))), (8, .int (nI (((yrX x) / 432) % 4))), (7, .int (nI (1 + (((yrX x) / 48) % 9)))), (6, .int (ykF (((yrX x) / 6) % 8))), (4, .int (nI (yrX x))), (0, .ref w), (1, .ref (v 0)), (2, .int (nI seed)), (3, .int (nI m))]) 108 X dX8_drawYear_108 8 rfl (nx_inc _) (by decide) rfl ?_
          refine jv_goto 111 X dX8_drawYear_111 14 (by decide) ?_
          exact jv_lv [5, 6, 7, 8, 4, 0] rfl (ih14 (i + 1) (yrX x) (ydA r2 (yrX x)) (by omega) hyx (dy_yd hD2) (by rw [itr_s, hI]; rfl) (by omega))
  exact jv_lv [2, 3, 4, 5, 1, 0] rfl (lp14 _ 0 seed o (by omega) (by omega) hDo rfl (Nat.lt_succ_self _))
theorem c_X9_year (E : EE) (l : Launch) (g : Nat → Nat → Nat) (r : Rl) (wacts : Int32) (stuckAct : Int32) (why : Int32) (metAct : Int32) (metBridge : Int32) (tr : Rl) (seed : Int32) (m : Int32) (what : Int32) (yk : Nat) (hDo : dyC r) : CG E l yX9_year cX9_year 4 (some .int) { frames := 5, cells := 0, slots := 0, locals := 115 } [.ref (g 0 0), .int seed, .int m, .int what] (wB [bLR g, tRl E (g 1) r, bWk (g 7 0) (g 8 0) wacts stuckAct why metAct metBridge, tRl E (g 8) tr]) (YB yk (wB [bLR g, tRl E (g 1) r, bWk (g 7 0) (g 8 0) wacts stuckAct why metAct metBridge, tRl E (g 8) tr])) (fun _ : Rl => some (.int (if (0 ≤ seed ∧ seed ≤ 9999) ∧ (1 ≤ m ∧ m ≤ 99) ∧ (0 ≤ what ∧ what ≤ 2) then (if what = 0 then (itr ydS m.toNatClampNeg (seed.toNatClampNeg, r)).2.1 else if what = 1 then coM (itr ydS m.toNatClampNeg (seed.toNatClampNeg, r)).2.2.2.2.2.1 else mbC (itr ydS m.toNatClampNeg (seed.toNatClampNeg, r)).2) else -2))) (fun u : Rl => wB [bLR g, tRl E (g 1) r, bWk (g 7 0) (g 8 0) wacts stuckAct why metAct metBridge, tRl E (g 8) u]) := by
  refine CG.intro (by decide) (Nat.le_of_ble_eq_true rfl) (fun K X Y hk hB _ => ?_)
  have hY : YK K yk := YK_of hk hB
  refine jv_iload_n 0 X dX9_year_0 1 rfl ?_
  refine jv_iconst (v := 0) 1 X dX9_year_1 rfl ?_
  refine jv_sipush (v := 9999) 2 X dX9_year_2 (by decide) ?_
  refine jv_fun 5 X (c_X9_within E _ seed 0 9999) ws_X9_75 ⟨Nat.le_of_ble_eq_true rfl, Nat.le_of_ble_eq_true rfl⟩ ⟨rfl, rfl⟩ ⟨Nat.zero_le _, Nat.zero_le _⟩ dX9_year_5 rfl [] rfl (Nat.le_of_ble_eq_true rfl) ?_
  refine jv_z_eq 8 X dX9_year_8 30 (by decide) (fun c_1 => ?_) (fun c_1 => ?_)
  · refine jv_bipush (v := (-2)) 30 X dX9_year_30 (by decide) ?_
    exact jv_iret 32 X Y rfl dX9_year_32 tr (by simp [lt_nle, -Int32.not_le, c_1]) rfl
  · obtain ⟨jseed, h1jseed, h2jseed, rfl⟩ := nx_in (a := 0) (b := 9999) rfl rfl (by decide) (by decide) c_1
    have hcjseed : (nI jseed).toNatClampNeg = jseed := nI_clamp (by omega)
    refine jv_iload_n 11 X dX9_year_11 2 rfl ?_
    refine jv_iconst (v := 1) 12 X dX9_year_12 rfl ?_
    refine jv_bipush (v := 99) 13 X dX9_year_13 (by decide) ?_
    refine jv_fun 15 X (c_X9_within E _ m 1 99) ws_X9_75 ⟨Nat.le_of_ble_eq_true rfl, Nat.le_of_ble_eq_true rfl⟩ ⟨rfl, rfl⟩ ⟨Nat.zero_le _, Nat.zero_le _⟩ dX9_year_15 rfl [] rfl (Nat.le_of_ble_eq_true rfl) ?_
    refine jv_z_eq 18 X dX9_year_18 30 (by decide) (fun c_2 => ?_) (fun c_2 => ?_)
    · refine jv_bipush (v := (-2)) 30 X dX9_year_30 (by decide) ?_
      exact jv_iret 32 X Y rfl dX9_year_32 tr (by simp [lt_nle, -Int32.not_le, c_1, hcjseed, c_2]) rfl
    · obtain ⟨jm, h1jm, h2jm, rfl⟩ := nx_in (a := 1) (b := 99) rfl rfl (by decide) (by decide) c_2
      have hcjm : (nI jm).toNatClampNeg = jm := nI_clamp (by omega)
      refine jv_iload_n 21 X dX9_year_21 3 rfl ?_
      refine jv_iconst (v := 0) 22 X dX9_year_22 rfl ?_
      refine jv_iconst (v := 2) 23 X dX9_year_23 rfl ?_
      refine jv_fun 24 X (c_X9_within E _ what 0 2) ws_X9_75 ⟨Nat.le_of_ble_eq_true rfl, Nat.le_of_ble_eq_true rfl⟩ ⟨rfl, rfl⟩ ⟨Nat.zero_le _, Nat.zero_le _⟩ dX9_year_24 rfl [] rfl (Nat.le_of_ble_eq_true rfl) ?_
      refine jv_z_ne 27 X dX9_year_27 33 (by decide) (fun c_3 => ?_) (fun c_3 => ?_)
      · refine jv_aload_n 33 X dX9_year_33 0 rfl ?_
        refine jv_get (v := .ref (g 7 0)) 34 X gf_X9_36 dX9_year_34 0 rfl rfl ?_
        refine jv_aload_n 37 X dX9_year_37 0 rfl ?_
        refine jv_get (v := .ref (g 1 0)) 38 X gf_X9_10 dX9_year_38 0 rfl rfl ?_
        refine jv_iload_n 41 X dX9_year_41 1 rfl ?_
        refine jv_iload_n 42 X dX9_year_42 2 rfl ?_
        refine jv_callBG (wl2 := fun _ => [bLR g, tRl E (g 1) r, bWk (g 7 0) (g 8 0) wacts stuckAct why metAct metBridge, tRl E (g 8) ((itr ydS jm (jseed, r)).2)]) 43 X (c_X8_drawYear E _ (g 7 0) (g 8) wacts stuckAct why metAct metBridge tr (g 1) r jseed jm yk (by omega) (by omega) hDo) wv_X9_269 (YB_call _ _) (YB_sub hY) ⟨Nat.le_of_ble_eq_true rfl, Nat.le_of_ble_eq_true rfl⟩ ⟨rfl, rfl⟩ ⟨Nat.zero_le _, Nat.zero_le _⟩ dX9_year_43 rfl [] rfl (Nat.le_of_ble_eq_true rfl) [2, 3, 1] rfl rfl [[(g 7 0)], [(g 8 0), (g 8 1), (g 8 2), (g 8 3), (g 8 4), (g 8 5), (g 8 6), (g 8 7), (g 8 8), (g 8 9), (g 8 10)], [(g 1 0), (g 1 1), (g 1 2), (g 1 3), (g 1 4), (g 1 5), (g 1 6), (g 1 7), (g 1 8), (g 1 9), (g 1 10)]] rfl (fun _ => rfl) 2 rfl rfl rfl (fun _ => rfl) (fun _ => ?_)
        refine jv_iload_n 46 X dX9_year_46 3 rfl ?_
        refine jn_if_ne 47 X dX9_year_47 61 (by decide) (fun c_4 => ?_) (fun c_4 => ?_)
        · refine jv_iload_n 61 X dX9_year_61 3 rfl ?_
          refine jv_iconst (v := 1) 62 X dX9_year_62 rfl ?_
          refine jn_icmp_ne 63 X dX9_year_63 79 (by decide) (fun c_5 => ?_) (fun c_5 => ?_)
          · refine jv_aload_n 79 X dX9_year_79 0 rfl ?_
            refine jv_get (v := .ref (g 7 0)) 80 X gf_X9_36 dX9_year_80 0 rfl rfl ?_
            refine jv_get (v := .ref (g 8 0)) 83 X gf_X9_146 dX9_year_83 12 rfl rfl ?_
            refine jv_callB1 (wl2 := [bLR g, tRl E (g 1) r, bWk (g 7 0) (g 8 0) wacts stuckAct why metAct metBridge, tRl E (g 8) ((itr ydS jm (jseed, r)).2)]) 86 X (c_X5_metBridges E _ (g 8) ((itr ydS jm (jseed, r)).2)) wv_X9_276 ⟨Nat.le_of_ble_eq_true rfl, Nat.le_of_ble_eq_true rfl⟩ ⟨rfl, rfl⟩ ⟨Nat.zero_le _, Nat.zero_le _⟩ dX9_year_86 rfl [] rfl (Nat.le_of_ble_eq_true rfl) 3 rfl [(g 8 0), (g 8 1), (g 8 2), (g 8 3), (g 8 4), (g 8 5), (g 8 6), (g 8 7), (g 8 8), (g 8 9), (g 8 10)] rfl rfl rfl rfl rfl ?_
            exact jv_iret 89 X Y rfl dX9_year_89 ((itr ydS jm (jseed, r)).2) (by simp [lt_nle, -Int32.not_le, c_1, hcjseed, c_2, hcjm, c_3, c_4, c_5]) rfl
          · refine jv_aload_n 66 X dX9_year_66 0 rfl ?_
            refine jv_get (v := .ref (g 7 0)) 67 X gf_X9_36 dX9_year_67 0 rfl rfl ?_
            refine jv_get (v := .ref (g 8 0)) 70 X gf_X9_146 dX9_year_70 12 rfl rfl ?_
            refine jv_callB1 (wl2 := [bLR g, tRl E (g 1) r, bWk (g 7 0) (g 8 0) wacts stuckAct why metAct metBridge, tRl E (g 8) ((itr ydS jm (jseed, r)).2)]) 73 X (c_X5_coins E _ (g 8) ((itr ydS jm (jseed, r)).2)) wv_X9_273 ⟨Nat.le_of_ble_eq_true rfl, Nat.le_of_ble_eq_true rfl⟩ ⟨rfl, rfl⟩ ⟨Nat.zero_le _, Nat.zero_le _⟩ dX9_year_73 rfl [] rfl (Nat.le_of_ble_eq_true rfl) 3 rfl [(g 8 0), (g 8 1), (g 8 2), (g 8 3), (g 8 4), (g 8 5), (g 8 6), (g 8 7), (g 8 8), (g 8 9), (g 8 10)] rfl rfl rfl rfl rfl ?_
            refine jv_goto 76 X dX9_year_76 89 (by decide) ?_
            exact jv_iret 89 X Y rfl dX9_year_89 ((itr ydS jm (jseed, r)).2) (by simp [lt_nle, -Int32.not_le, c_1, hcjseed, c_2, hcjm, c_3, c_4, c_5]) rfl
        · refine jv_aload_n 50 X dX9_year_50 0 rfl ?_
          refine jv_get (v := .ref (g 7 0)) 51 X gf_X9_36 dX9_year_51 0 rfl rfl ?_
          refine jv_get (v := .ref (g 8 0)) 54 X gf_X9_146 dX9_year_54 12 rfl rfl ?_
          refine jv_get (v := .int (((itr ydS jm (jseed, r)).2).1)) 57 X gf_X9_79 dX9_year_57 13 rfl rfl ?_
          exact jv_iret 60 X Y rfl dX9_year_60 ((itr ydS jm (jseed, r)).2) (by simp [lt_nle, -Int32.not_le, c_1, hcjseed, c_2, hcjm, c_3, c_4]) rfl
      · refine jv_bipush (v := (-2)) 30 X dX9_year_30 (by decide) ?_
        exact jv_iret 32 X Y rfl dX9_year_32 tr (by simp [lt_nle, -Int32.not_le, c_1, hcjseed, c_2, hcjm, c_3]) rfl
