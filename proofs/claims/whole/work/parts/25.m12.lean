def yrX (x : Nat) : Nat := (75 * x + 74) % 65537
def yrA (week now : Nat → Int32) (x : Nat) : Int32 × (Nat → Int32) := if nI (x / 6 % 8) = 0 then f_buy now (x % 6) (nI (1 + x / 48 % 9)) else if nI (x / 6 % 8) = 1 then f_sell now (x % 6) (nI (1 + x / 48 % 9)) else if nI (x / 6 % 8) = 2 then f_build now (x % 6) (x / 432 % 4) 26 (nI (1 + x / 48 % 9)) else if nI (x / 6 % 8) = 3 then f_build now (x % 6) (x / 432 % 4) 30 (nI (1 + x / 48 % 9)) else if nI (x / 6 % 8) = 4 then f_change now (-nI (1 + x / 48 % 9)) else if nI (x / 6 % 8) = 5 then f_change now (nI (1 + x / 48 % 9)) else if nI (x / 6 % 8) = 6 then f_copy now (x % 6) else f_endDay now week (now 39).toNatClampNeg
def yrS (week : Nat → Int32) (_ : Nat) (x : Nat × (Nat → Int32)) : Nat × (Nat → Int32) := (yrX x.1, (yrA week x.2 (yrX x.1)).2)
def yrM (week book : Nat → Int32) (x m : Nat) : Nat × (Nat → Int32) := itr (yrS week) m (x, book)
def coM (now : Nat → Int32) : Int32 := (((((0 + now 0) + now 1) + now 2) + now 3) + now 4) + now 5
def btM (s : Int32) : Int32 := (((s &&& 1) + (((s : Int32) >>> ((1 : Int32) &&& 31)) &&& 1)) + (((s : Int32) >>> ((2 : Int32) &&& 31)) &&& 1)) + (((s : Int32) >>> ((3 : Int32) &&& 31)) &&& 1)
theorem dy_yr {week now : Nat → Int32} {x : Nat} (h : dyOK now) : dyOK (yrA week now x).2 := by
  unfold yrA
  split
  · exact dy_buy h (by omega)
  split
  · exact dy_sell h (by omega)
  split
  · exact dy_build h (by omega) (Or.inl rfl)
  split
  · exact dy_build h (by omega) (Or.inr rfl)
  split
  · exact dy_change h
  split
  · exact dy_change h
  split
  · exact dy_copy h (by omega)
  · exact dy_endDay h
def imF (image book week sight : Nat → Int32) (sk : Int32) (n i : Nat) : Int32 := if 70 * n ≤ i ∧ i < 70 * n + 40 then book (i - 70 * n) else if 70 * n + 40 ≤ i ∧ i < 70 * n + 47 then week (i - (70 * n + 40)) else if 70 * n + 47 ≤ i ∧ i < 70 * n + 63 then sight (i - (70 * n + 47)) else if i = 70 * n + 64 then sk else image i
def toM (book week : Nat → Int32) (sg sk what : Int32) : Int32 := if 100 ≤ what then (if what.toNatClampNeg / 10 - 10 ≤ 3 ∧ what.toNatClampNeg % 10 ≤ 2 then (if what.toNatClampNeg % 10 = 0 then book (34 + (what.toNatClampNeg / 10 - 10)) else book (22 + 4 * (what.toNatClampNeg % 10) + (what.toNatClampNeg / 10 - 10))) else -2) else if 40 ≤ what then (if what.toNatClampNeg % 10 ≤ 3 then (if what.toNatClampNeg % 10 = 3 then msM book (what.toNatClampNeg / 10 - 4) else book (6 * (what.toNatClampNeg % 10) + (what.toNatClampNeg / 10 - 4))) else -2) else if 20 ≤ what then (if what.toNatClampNeg - 20 ≤ 7 then book (18 + what.toNatClampNeg - 20) else -2) else if 10 ≤ what then (if what.toNatClampNeg ≤ 16 then week (what.toNatClampNeg - 10) + 9 else -2) else if what = 0 then sg else if what = 1 ∨ what = 2 then book (37 + what.toNatClampNeg) else if what = 3 then sk else -2
theorem cl_1 : (1 : Int32).toNatClampNeg = 1 := rfl
theorem cl_2 : (2 : Int32).toNatClampNeg = 2 := rfl
theorem ge_nI {x : Int32} {a : Nat} (ha : a < 2147483648) (h : nI a ≤ x) : ∃ j : Nat, a ≤ j ∧ j < 2147483648 ∧ x = nI j := by
  obtain ⟨j, h1, rfl⟩ := nI_of (Int32.not_lt.mpr (Int32.le_trans (nI_pos' ha) h))
  exact ⟨j, (nI_leI ha h1).mp h, h1, rfl⟩
theorem im_up {im src prev : Nat → Int32} {o k : Nat} (h : ∀ i, im i = if o ≤ i ∧ i < o + k then src (i - o) else prev i) : ∀ i, upd im (o + k) (src k) i = if o ≤ i ∧ i < o + (k + 1) then src (i - o) else prev i := by
  intro i
  by_cases e : i = o + k
  · rw [e, pk_us, if_pos ⟨by omega, by omega⟩, show o + k - o = k by omega]
  · rw [pk_un e, h i]
    by_cases z : o ≤ i ∧ i < o + k
    · rw [if_pos z, if_pos ⟨z.1, by omega⟩]
    · rw [if_neg z, if_neg (fun y => z ⟨y.1, by omega⟩)]
theorem c_X10_year (E : EE) (l : Launch) (a : Nat → Nat) (book : Nat → Int32) (now : Nat → Int32) (week : Nat → Int32) (sights : Int32) (sight : Nat → Int32) (signs : Int32) (pad : Nat → Int32) (metAt : Int32) (metWho : Int32) (reason : Int32) (acts : Int32) (atp : Int32) (will : Nat → Int32) (fitting : Nat → Int32) (counts : Nat → Int32) (ring : Nat → Int32) (nxt : Nat → Int32) (wins : Nat → Int32) (ways : Nat → Int64) (nextWays : Nat → Int64) (image : Nat → Int32) (isKept : Nat → Int32) (seed : Int32) (m : Int32) (what : Int32) (hD : dyOK book) : CG E l yX10_year cX10_year 9 (some .int) { frames := 2, cells := 0, slots := 0, locals := 45 } [.ref (a 0), .int seed, .int m, .int what] (bMd E a book now week sights sight signs pad metAt metWho reason acts atp will fitting counts ring nxt wins ways nextWays image isKept) noB (fun _ : ScrM => some (.int (if (0 ≤ seed ∧ seed ≤ 9999) ∧ (1 ≤ m ∧ m ≤ 99) ∧ (0 ≤ what ∧ what ≤ 2) then (if what = 0 then (yrM week book seed.toNatClampNeg m.toNatClampNeg).2 38 else if what = 1 then coM (yrM week book seed.toNatClampNeg m.toNatClampNeg).2 else btM (metS (yrM week book seed.toNatClampNeg m.toNatClampNeg).2)) else -2))) (fun u : ScrM => bMd E a book u.1 week sights sight signs pad u.2.1 u.2.2.1 u.2.2.2.1 u.2.2.2.2.1 u.2.2.2.2.2.1 u.2.2.2.2.2.2.1 u.2.2.2.2.2.2.2.1 u.2.2.2.2.2.2.2.2.1 u.2.2.2.2.2.2.2.2.2.1 u.2.2.2.2.2.2.2.2.2.2.1 u.2.2.2.2.2.2.2.2.2.2.2.1 u.2.2.2.2.2.2.2.2.2.2.2.2.1 u.2.2.2.2.2.2.2.2.2.2.2.2.2 image isKept) := by
  refine CG.intro (by decide) (Nat.le_of_ble_eq_true rfl) (fun K X Y _ _ _ => ?_)
  refine jv_iload_n 0 X dX10_year_0 1 rfl ?_
  refine jv_iconst (v := 0) 1 X dX10_year_1 rfl ?_
  refine jv_sipush (v := 9999) 2 X dX10_year_2 (by decide) ?_
  refine jv_fun 5 X (c_X10_in E _ seed 0 9999) ws_X10_57 ⟨Nat.le_of_ble_eq_true rfl, Nat.le_of_ble_eq_true rfl⟩ ⟨rfl, rfl⟩ ⟨Nat.zero_le _, Nat.zero_le _⟩ dX10_year_5 rfl [] rfl (Nat.le_of_ble_eq_true rfl) ?_
  refine jv_z_eq 8 X dX10_year_8 30 (by decide) (fun c_1 => ?_) (fun c_1 => ?_)
  · refine jv_bipush (v := (-2)) 30 X dX10_year_30 (by decide) ?_
    exact jv_iret 32 X Y rfl dX10_year_32 (now, metAt, metWho, reason, acts, atp, will, fitting, counts, ring, nxt, wins, ways, nextWays) (by simp [lt_nle, -Int32.not_le, c_1]) rfl
  · obtain ⟨jseed, h1jseed, h2jseed, rfl⟩ := nx_in (a := 0) (b := 9999) rfl rfl (by decide) (by decide) c_1
    have hcjseed : (nI jseed).toNatClampNeg = jseed := nI_clamp (by omega)
    refine jv_iload_n 11 X dX10_year_11 2 rfl ?_
    refine jv_iconst (v := 1) 12 X dX10_year_12 rfl ?_
    refine jv_bipush (v := 99) 13 X dX10_year_13 (by decide) ?_
    refine jv_fun 15 X (c_X10_in E _ m 1 99) ws_X10_57 ⟨Nat.le_of_ble_eq_true rfl, Nat.le_of_ble_eq_true rfl⟩ ⟨rfl, rfl⟩ ⟨Nat.zero_le _, Nat.zero_le _⟩ dX10_year_15 rfl [] rfl (Nat.le_of_ble_eq_true rfl) ?_
    refine jv_z_eq 18 X dX10_year_18 30 (by decide) (fun c_2 => ?_) (fun c_2 => ?_)
    · refine jv_bipush (v := (-2)) 30 X dX10_year_30 (by decide) ?_
      exact jv_iret 32 X Y rfl dX10_year_32 (now, metAt, metWho, reason, acts, atp, will, fitting, counts, ring, nxt, wins, ways, nextWays) (by simp [lt_nle, -Int32.not_le, c_1, hcjseed, c_2]) rfl
    · obtain ⟨jm, h1jm, h2jm, rfl⟩ := nx_in (a := 1) (b := 99) rfl rfl (by decide) (by decide) c_2
      have hcjm : (nI jm).toNatClampNeg = jm := nI_clamp (by omega)
      refine jv_iload_n 21 X dX10_year_21 3 rfl ?_
      refine jv_iconst (v := 0) 22 X dX10_year_22 rfl ?_
      refine jv_iconst (v := 2) 23 X dX10_year_23 rfl ?_
      refine jv_fun 24 X (c_X10_in E _ what 0 2) ws_X10_57 ⟨Nat.le_of_ble_eq_true rfl, Nat.le_of_ble_eq_true rfl⟩ ⟨rfl, rfl⟩ ⟨Nat.zero_le _, Nat.zero_le _⟩ dX10_year_24 rfl [] rfl (Nat.le_of_ble_eq_true rfl) ?_
      refine jv_z_ne 27 X dX10_year_27 33 (by decide) (fun c_3 => ?_) (fun c_3 => ?_)
      · refine jv_aload_n 33 X dX10_year_33 0 rfl ?_
        refine jv_callW (w1 := bMd E a book book week sights sight signs pad (-6) (-6) reason acts atp will fitting counts ring nxt wins ways nextWays image isKept) 34 X (c_X10_asNow E _ a book now week sights sight signs pad metAt metWho reason acts atp will fitting counts ring nxt wins ways nextWays image isKept) wv_X10_122 ⟨Nat.le_of_ble_eq_true rfl, Nat.le_of_ble_eq_true rfl⟩ ⟨rfl, rfl⟩ ⟨Nat.zero_le _, Nat.zero_le _⟩ dX10_year_34 rfl [] rfl (Nat.le_of_ble_eq_true rfl) 0 rfl rfl ?_
        refine jv_iload_n 37 X dX10_year_37 1 rfl ?_
        refine jv_istore (lv2 := [(4, .int (nI jseed)), (0, .ref (a 0)), (1, .int (nI jseed)), (2, .int (nI jm)), (3, .int what)]) 38 X dX10_year_38 (by decide) rfl ?_
        refine jv_iconst (v := 0) 40 X dX10_year_40 rfl ?_
        refine jv_istore (lv2 := [(5, .int 0), (4, .int (nI jseed)), (0, .ref (a 0)), (1, .int (nI jseed)), (2, .int (nI jm)), (3, .int what)]) 41 X dX10_year_41 (by decide) rfl ?_
        have lp43 : ∀ (n43 : Nat) (i x : Nat) (nw : Nat → Int32) (rs : Int32), (i ≤ jm) → (x < 65537) → (dyOK nw) → ((x, nw) = itr (yrS week) i (jseed, book)) → jm - i < n43 → JV E K 0 0 (bMd E a book nw week sights sight signs pad (-6) (-6) rs acts atp will fitting counts ring nxt wins ways nextWays image isKept) [(0, .ref (a 0)), (1, .int (nI jseed)), (2, .int (nI jm)), (3, .int what), (4, .int (nI x)), (5, .int (nI i))] 43 [] := by
          intro n43
          induction n43 with
          | zero => intro i x nw rs hi hx hd hI hm; exact absurd hm (Nat.not_lt_zero _)
          | succ n43 ih43 =>
            intro i x nw rs hi hx hd hI hm
            refine jv_iload 43 X dX10_year_43 5 rfl ?_
            refine jv_iload_n 45 X dX10_year_45 2 rfl ?_
            refine jn_icmp_ge 46 X dX10_year_46 262 (by decide) (fun c_4 => ?_) (fun c_4 => ?_)
            · have n_4 : jm ≤ i := (nx_le (a := jm) (b := i) rfl rfl (by omega) (by omega)).mp c_4
              have hy : (yrM week book jseed jm).2 = nw := by rw [yrM, show jm = i by omega, ← hI]
              refine jv_iconst (v := 0) 262 X dX10_year_262 rfl ?_
              refine jv_istore (lv2 := [(5, .int 0), (0, .ref (a 0)), (1, .int (nI jseed)), (2, .int (nI jm)), (3, .int what), (4, .int (nI x))]) 263 X dX10_year_263 (by decide) rfl ?_
              refine jv_iconst (v := 0) 265 X dX10_year_265 rfl ?_
              refine jv_istore (lv2 := [(6, .int 0), (5, .int 0), (0, .ref (a 0)), (1, .int (nI jseed)), (2, .int (nI jm)), (3, .int what), (4, .int (nI x))]) 266 X dX10_year_266 (by decide) rfl ?_
              refine jv_iload 268 X dX10_year_268 0 rfl ?_
              refine jv_bipush (v := 6) 270 X dX10_year_270 (by decide) ?_
              refine jn_icmp_ge 272 X dX10_year_272 293 (by decide) (fun c_5 => absurd c_5 (by decide)) (fun _ => ?_)
              refine jv_iload 275 X dX10_year_275 1 rfl ?_
              refine jv_aload_n 277 X dX10_year_277 2 rfl ?_
              refine jv_get (v := .ref (a 2)) 278 X gf_X10_13 dX10_year_278 0 rfl rfl ?_
              refine jv_iload 281 X dX10_year_281 0 rfl ?_
              refine jv_iald (f := nw) 283 X dX10_year_283 2 rfl (by decide) 0 rfl (by omega) ?_
              refine jv_iadd 284 X dX10_year_284 ?_
              refine jv_istore (lv2 := [(5, .int (0 + (nw 0))), (6, .int 0), (0, .ref (a 0)), (1, .int (nI jseed)), (2, .int (nI jm)), (3, .int what), (4, .int (nI x))]) 285 X dX10_year_285 (by decide) rfl ?_
              refine jv_iinc (v := 1) (lv2 := [(6, .int 1), (5, .int (0 + (nw 0))), (0, .ref (a 0)), (1, .int (nI jseed)), (2, .int (nI jm)), (3, .int what), (4, .int (nI x))]) 287 X dX10_year_287 1 rfl (by decide) (by decide) rfl ?_
              refine jv_goto 290 X dX10_year_290 268 (by decide) ?_
              refine jv_iload 268 X dX10_year_268 0 rfl ?_
              refine jv_bipush (v := 6) 270 X dX10_year_270 (by decide) ?_
              refine jn_icmp_ge 272 X dX10_year_272 293 (by decide) (fun c_6 => absurd c_6 (by decide)) (fun _ => ?_)
              refine jv_iload 275 X dX10_year_275 1 rfl ?_
              refine jv_aload_n 277 X dX10_year_277 2 rfl ?_
              refine jv_get (v := .ref (a 2)) 278 X gf_X10_13 dX10_year_278 0 rfl rfl ?_
              refine jv_iload 281 X dX10_year_281 0 rfl ?_
              refine jv_iald (f := nw) 283 X dX10_year_283 2 rfl (by decide) 1 rfl (by omega) ?_
              refine jv_iadd 284 X dX10_year_284 ?_
              refine jv_istore (lv2 := [(5, .int ((0 + (nw 0)) + (nw 1))), (6, .int 1), (0, .ref (a 0)), (1, .int (nI jseed)), (2, .int (nI jm)), (3, .int what), (4, .int (nI x))]) 285 X dX10_year_285 (by decide) rfl ?_
              refine jv_iinc (v := 2) (lv2 := [(6, .int 2), (5, .int ((0 + (nw 0)) + (nw 1))), (0, .ref (a 0)), (1, .int (nI jseed)), (2, .int (nI jm)), (3, .int what), (4, .int (nI x))]) 287 X dX10_year_287 1 rfl (by decide) (by decide) rfl ?_
              refine jv_goto 290 X dX10_year_290 268 (by decide) ?_
              refine jv_iload 268 X dX10_year_268 0 rfl ?_
              refine jv_bipush (v := 6) 270 X dX10_year_270 (by decide) ?_
              refine jn_icmp_ge 272 X dX10_year_272 293 (by decide) (fun c_7 => absurd c_7 (by decide)) (fun _ => ?_)
              refine jv_iload 275 X dX10_year_275 1 rfl ?_
              refine jv_aload_n 277 X dX10_year_277 2 rfl ?_
              refine jv_get (v := .ref (a 2)) 278 X gf_X10_13 dX10_year_278 0 rfl rfl ?_
              refine jv_iload 281 X dX10_year_281 0 rfl ?_
              refine jv_iald (f := nw) 283 X dX10_year_283 2 rfl (by decide) 2 rfl (by omega) ?_
              refine jv_iadd 284 X dX10_year_284 ?_
              refine jv_istore (lv2 := [(5, .int (((0 + (nw 0)) + (nw 1)) + (nw 2))), (6, .int 2), (0, .ref (a 0)), (1, .int (nI jseed)), (2, .int (nI jm)), (3, .int what), (4, .int (nI x))]) 285 X dX10_year_285 (by decide) rfl ?_
              refine jv_iinc (v := 3) (lv2 := [(6, .int 3), (5, .int (((0 + (nw 0)) + (nw 1)) + (nw 2))), (0, .ref (a 0)), (1, .int (nI jseed)), (2, .int (nI jm)), (3, .int what), (4, .int (nI x))]) 287 X dX10_year_287 1 rfl (by decide) (by decide) rfl ?_
              refine jv_goto 290 X dX10_year_290 268 (by decide) ?_
              refine jv_iload 268 X dX10_year_268 0 rfl ?_
              refine jv_bipush (v := 6) 270 X dX10_year_270 (by decide) ?_
              refine jn_icmp_ge 272 X dX10_year_272 293 (by decide) (fun c_8 => absurd c_8 (by decide)) (fun _ => ?_)
              refine jv_iload 275 X dX10_year_275 1 rfl ?_
              refine jv_aload_n 277 X dX10_year_277 2 rfl ?_
              refine jv_get (v := .ref (a 2)) 278 X gf_X10_13 dX10_year_278 0 rfl rfl ?_
              refine jv_iload 281 X dX10_year_281 0 rfl ?_
              refine jv_iald (f := nw) 283 X dX10_year_283 2 rfl (by decide) 3 rfl (by omega) ?_
              refine jv_iadd 284 X dX10_year_284 ?_
              refine jv_istore (lv2 := [(5, .int ((((0 + (nw 0)) + (nw 1)) + (nw 2)) + (nw 3))), (6, .int 3), (0, .ref (a 0)), (1, .int (nI jseed)), (2, .int (nI jm)), (3, .int what), (4, .int (nI x))]) 285 X dX10_year_285 (by decide) rfl ?_
              refine jv_iinc (v := 4) (lv2 := [(6, .int 4), (5, .int ((((0 + (nw 0)) + (nw 1)) + (nw 2)) + (nw 3))), (0, .ref (a 0)), (1, .int (nI jseed)), (2, .int (nI jm)), (3, .int what), (4, .int (nI x))]) 287 X dX10_year_287 1 rfl (by decide) (by decide) rfl ?_
              refine jv_goto 290 X dX10_year_290 268 (by decide) ?_
              refine jv_iload 268 X dX10_year_268 0 rfl ?_
              refine jv_bipush (v := 6) 270 X dX10_year_270 (by decide) ?_
              refine jn_icmp_ge 272 X dX10_year_272 293 (by decide) (fun c_9 => absurd c_9 (by decide)) (fun _ => ?_)
              refine jv_iload 275 X dX10_year_275 1 rfl ?_
              refine jv_aload_n 277 X dX10_year_277 2 rfl ?_
              refine jv_get (v := .ref (a 2)) 278 X gf_X10_13 dX10_year_278 0 rfl rfl ?_
              refine jv_iload 281 X dX10_year_281 0 rfl ?_
              refine jv_iald (f := nw) 283 X dX10_year_283 2 rfl (by decide) 4 rfl (by omega) ?_
              refine jv_iadd 284 X dX10_year_284 ?_
              refine jv_istore (lv2 := [(5, .int (((((0 + (nw 0)) + (nw 1)) + (nw 2)) + (nw 3)) + (nw 4))), (6, .int 4), (0, .ref (a 0)), (1, .int (nI jseed)), (2, .int (nI jm)), (3, .int what), (4, .int (nI x))]) 285 X dX10_year_285 (by decide) rfl ?_
              refine jv_iinc (v := 5) (lv2 := [(6, .int 5), (5, .int (((((0 + (nw 0)) + (nw 1)) + (nw 2)) + (nw 3)) + (nw 4))), (0, .ref (a 0)), (1, .int (nI jseed)), (2, .int (nI jm)), (3, .int what), (4, .int (nI x))]) 287 X dX10_year_287 1 rfl (by decide) (by decide) rfl ?_
              refine jv_goto 290 X dX10_year_290 268 (by decide) ?_
              refine jv_iload 268 X dX10_year_268 0 rfl ?_
              refine jv_bipush (v := 6) 270 X dX10_year_270 (by decide) ?_
              refine jn_icmp_ge 272 X dX10_year_272 293 (by decide) (fun c_10 => absurd c_10 (by decide)) (fun _ => ?_)
              refine jv_iload 275 X dX10_year_275 1 rfl ?_
              refine jv_aload_n 277 X dX10_year_277 2 rfl ?_
              refine jv_get (v := .ref (a 2)) 278 X gf_X10_13 dX10_year_278 0 rfl rfl ?_
              refine jv_iload 281 X dX10_year_281 0 rfl ?_
              refine jv_iald (f := nw) 283 X dX10_year_283 2 rfl (by decide) 5 rfl (by omega) ?_
              refine jv_iadd 284 X dX10_year_284 ?_
              refine jv_istore (lv2 := [(5, .int ((((((0 + (nw 0)) + (nw 1)) + (nw 2)) + (nw 3)) + (nw 4)) + (nw 5))), (6, .int 5), (0, .ref (a 0)), (1, .int (nI jseed)), (2, .int (nI jm)), (3, .int what), (4, .int (nI x))]) 285 X dX10_year_285 (by decide) rfl ?_
              refine jv_iinc (v := 6) (lv2 := [(6, .int 6), (5, .int ((((((0 + (nw 0)) + (nw 1)) + (nw 2)) + (nw 3)) + (nw 4)) + (nw 5))), (0, .ref (a 0)), (1, .int (nI jseed)), (2, .int (nI jm)), (3, .int what), (4, .int (nI x))]) 287 X dX10_year_287 1 rfl (by decide) (by decide) rfl ?_
              refine jv_goto 290 X dX10_year_290 268 (by decide) ?_
              refine jv_iload 268 X dX10_year_268 0 rfl ?_
              refine jv_bipush (v := 6) 270 X dX10_year_270 (by decide) ?_
              refine jn_icmp_ge 272 X dX10_year_272 293 (by decide) (fun _ => ?_) (fun c_11 => absurd c_11 (by decide))
              refine jv_aload_n 293 X dX10_year_293 2 rfl ?_
              refine jv_callW (w1 := bMd E a book nw week sights sight signs pad (-6) (-6) rs acts atp will fitting counts ring nxt wins ways nextWays image isKept) 294 X (c_X10_met E _ a book nw week sights sight signs pad (-6) (-6) rs acts atp will fitting counts ring nxt wins ways nextWays image isKept) wv_X10_128 ⟨Nat.le_of_ble_eq_true rfl, Nat.le_of_ble_eq_true rfl⟩ ⟨rfl, rfl⟩ ⟨Nat.zero_le _, Nat.zero_le _⟩ dX10_year_294 rfl [] rfl (Nat.le_of_ble_eq_true rfl) 0 rfl rfl ?_
              refine jv_istore (lv2 := [(6, .int (metS nw)), (5, .int ((((((0 + (nw 0)) + (nw 1)) + (nw 2)) + (nw 3)) + (nw 4)) + (nw 5))), (0, .ref (a 0)), (1, .int (nI jseed)), (2, .int (nI jm)), (3, .int what), (4, .int (nI x))]) 297 X dX10_year_297 (by decide) rfl ?_
              refine jv_iload_n 299 X dX10_year_299 5 rfl ?_
              refine jn_if_ne 300 X dX10_year_300 313 (by decide) (fun c_12 => ?_) (fun c_12 => ?_)
              · refine jv_iload_n 313 X dX10_year_313 5 rfl ?_
                refine jv_iconst (v := 1) 314 X dX10_year_314 rfl ?_
                refine jn_icmp_ne 315 X dX10_year_315 323 (by decide) (fun c_13 => ?_) (fun c_13 => ?_)
                · refine jv_iload 323 X dX10_year_323 0 rfl ?_
                  refine jv_iconst (v := 1) 325 X dX10_year_325 rfl ?_
                  refine jv_iand 326 X dX10_year_326 ?_
                  refine jv_iload 327 X dX10_year_327 0 rfl ?_
                  refine jv_iconst (v := 1) 329 X dX10_year_329 rfl ?_
                  refine jv_ishr 330 X dX10_year_330 ?_
                  refine jv_iconst (v := 1) 331 X dX10_year_331 rfl ?_
                  refine jv_iand 332 X dX10_year_332 ?_
                  refine jv_iadd 333 X dX10_year_333 ?_
                  refine jv_iload 334 X dX10_year_334 0 rfl ?_
                  refine jv_iconst (v := 2) 336 X dX10_year_336 rfl ?_
                  refine jv_ishr 337 X dX10_year_337 ?_
                  refine jv_iconst (v := 1) 338 X dX10_year_338 rfl ?_
                  refine jv_iand 339 X dX10_year_339 ?_
                  refine jv_iadd 340 X dX10_year_340 ?_
                  refine jv_iload 341 X dX10_year_341 0 rfl ?_
                  refine jv_iconst (v := 3) 343 X dX10_year_343 rfl ?_
                  refine jv_ishr 344 X dX10_year_344 ?_
                  refine jv_iconst (v := 1) 345 X dX10_year_345 rfl ?_
                  refine jv_iand 346 X dX10_year_346 ?_
                  refine jv_iadd 347 X dX10_year_347 ?_
                  exact jv_iret 348 X Y rfl dX10_year_348 (nw, (-6), (-6), rs, acts, atp, will, fitting, counts, ring, nxt, wins, ways, nextWays) (by first | (simp only [hy, btM, coM, and_self, if_true, if_false, c_1, hcjseed, c_2, hcjm, c_3, c_12, c_13]; done) | (simp only [hy, btM, coM, and_self, if_true, if_false, c_1, hcjseed, c_2, hcjm, c_3, c_12, c_13]; simp; done)) rfl
                · refine jv_iload 318 X dX10_year_318 1 rfl ?_
                  refine jv_goto 320 X dX10_year_320 348 (by decide) ?_
                  exact jv_iret 348 X Y rfl dX10_year_348 (nw, (-6), (-6), rs, acts, atp, will, fitting, counts, ring, nxt, wins, ways, nextWays) (by first | (simp only [hy, btM, coM, and_self, if_true, if_false, c_1, hcjseed, c_2, hcjm, c_3, c_12, c_13]; done) | (simp only [hy, btM, coM, and_self, if_true, if_false, c_1, hcjseed, c_2, hcjm, c_3, c_12, c_13]; simp; done)) rfl
              · refine jv_aload_n 303 X dX10_year_303 2 rfl ?_
                refine jv_get (v := .ref (a 2)) 304 X gf_X10_13 dX10_year_304 0 rfl rfl ?_
                refine jv_bipush (v := 38) 307 X dX10_year_307 (by decide) ?_
                refine jv_iald (f := nw) 309 X dX10_year_309 2 rfl (by decide) 38 rfl (by omega) ?_
                refine jv_goto 310 X dX10_year_310 348 (by decide) ?_
                exact jv_iret 348 X Y rfl dX10_year_348 (nw, (-6), (-6), rs, acts, atp, will, fitting, counts, ring, nxt, wins, ways, nextWays) (by first | (simp only [hy, btM, coM, and_self, if_true, if_false, c_1, hcjseed, c_2, hcjm, c_3, c_12]; done) | (simp only [hy, btM, coM, and_self, if_true, if_false, c_1, hcjseed, c_2, hcjm, c_3, c_12]; simp; done)) rfl
            · have n_4 : ¬ jm ≤ i := fun zq => c_4 ((nx_le (a := jm) (b := i) rfl rfl (by omega) (by omega)).mpr zq)
              refine jv_bipush (v := 75) 49 X dX10_year_49 (by decide) ?_
              refine jv_iload 51 X dX10_year_51 4 rfl ?_
              refine jv_imul 53 X dX10_year_53 ?_
              refine jv_norm (x2 := nI (75 * x)) (nx_mul (a := 75) (b := x) rfl rfl) ?_
              refine jv_bipush (v := 74) 54 X dX10_year_54 (by decide) ?_
              refine jv_iadd 56 X dX10_year_56 ?_
              refine jv_norm (x2 := nI ((75 * x) + 74)) (nx_add2 (a := (75 * x)) (b := 74) rfl rfl (by omega)) ?_
              refine jv_ldc (v := 65537) 57 X tm_k_X10_185 dX10_year_57 ?_
              refine jv_irem 59 X dX10_year_59 (by decide) ?_
              refine jv_norm (x2 := nI (((75 * x) + 74) % 65537)) (nx_rem (a := ((75 * x) + 74)) (b := 65537) rfl rfl (by omega) (by omega) (by omega)) ?_
              refine jv_istore (lv2 := [(4, .int (nI (((75 * x) + 74) % 65537))), (0, .ref (a 0)), (1, .int (nI jseed)), (2, .int (nI jm)), (3, .int what), (5, .int (nI i))]) 60 X dX10_year_60 (by decide) rfl ?_
              refine jv_iload 62 X dX10_year_62 0 rfl ?_
              refine jv_bipush (v := 6) 64 X dX10_year_64 (by decide) ?_
              refine jv_irem 66 X dX10_year_66 (by decide) ?_
              refine jv_norm (x2 := nI ((((75 * x) + 74) % 65537) % 6)) (nx_rem (a := (((75 * x) + 74) % 65537)) (b := 6) rfl rfl (by omega) (by omega) (by omega)) ?_
              refine jv_istore (lv2 := [(6, .int (nI ((((75 * x) + 74) % 65537) % 6))), (4, .int (nI (((75 * x) + 74) % 65537))), (0, .ref (a 0)), (1, .int (nI jseed)), (2, .int (nI jm)), (3, .int what), (5, .int (nI i))]) 67 X dX10_year_67 (by decide) rfl ?_
              refine jv_iconst (v := 1) 69 X dX10_year_69 rfl ?_
              refine jv_iload 70 X dX10_year_70 1 rfl ?_
              refine jv_bipush (v := 48) 72 X dX10_year_72 (by decide) ?_
              refine jv_idiv 74 X dX10_year_74 (by decide) ?_
              refine jv_norm (x2 := nI ((((75 * x) + 74) % 65537) / 48)) (nx_div (a := (((75 * x) + 74) % 65537)) (b := 48) rfl rfl (by omega) (by omega) (by omega)) ?_
              refine jv_bipush (v := 9) 75 X dX10_year_75 (by decide) ?_
              refine jv_irem 77 X dX10_year_77 (by decide) ?_
              refine jv_norm (x2 := nI (((((75 * x) + 74) % 65537) / 48) % 9)) (nx_rem (a := ((((75 * x) + 74) % 65537) / 48)) (b := 9) rfl rfl (by omega) (by omega) (by omega)) ?_
              refine jv_iadd 78 X dX10_year_78 ?_
              refine jv_norm (x2 := nI (1 + (((((75 * x) + 74) % 65537) / 48) % 9))) (nx_add2 (a := 1) (b := (((((75 * x) + 74) % 65537) / 48) % 9)) rfl rfl (by omega)) ?_
              refine jv_istore (lv2 := [(7, .int (nI (1 + (((((75 * x) + 74) % 65537) / 48) % 9)))), (6, .int (nI ((((75 * x) + 74) % 65537) % 6))), (4, .int (nI (((75 * x) + 74) % 65537))), (0, .ref (a 0)), (1, .int (nI jseed)), (2, .int (nI jm)), (3, .int what), (5, .int (nI i))]) 79 X dX10_year_79 (by decide) rfl ?_
              refine jv_iload 81 X dX10_year_81 2 rfl ?_
              refine jv_sipush (v := 432) 83 X dX10_year_83 (by decide) ?_
              refine jv_idiv 86 X dX10_year_86 (by decide) ?_
              refine jv_norm (x2 := nI ((((75 * x) + 74) % 65537) / 432)) (nx_div (a := (((75 * x) + 74) % 65537)) (b := 432) rfl rfl (by omega) (by omega) (by omega)) ?_
              refine jv_iconst (v := 4) 87 X dX10_year_87 rfl ?_
              refine jv_irem 88 X dX10_year_88 (by decide) ?_
              refine jv_norm (x2 := nI (((((75 * x) + 74) % 65537) / 432) % 4)) (nx_rem (a := ((((75 * x) + 74) % 65537) / 432)) (b := 4) rfl rfl (by omega) (by omega) (by omega)) ?_
              refine jv_istore (lv2 := [(8, .int (nI (((((75 * x) + 74) % 65537) / 432) % 4))), (7, .int (nI (1 + (((((75 * x) + 74) % 65537) / 48) % 9)))), (6, .int (nI ((((75 * x) + 74) % 65537) % 6))), (4, .int (nI (((75 * x) + 74) % 65537))), (0, .ref (a 0)), (1, .int (nI jseed)), (2, .int (nI jm)), (3, .int what), (5, .int (nI i))]) 89 X dX10_year_89 (by decide) rfl ?_
              refine jv_iload 91 X dX10_year_91 3 rfl ?_
              refine jv_bipush (v := 6) 93 X dX10_year_93 (by decide) ?_
              refine jv_idiv 95 X dX10_year_95 (by decide) ?_
              refine jv_norm (x2 := nI ((((75 * x) + 74) % 65537) / 6)) (nx_div (a := (((75 * x) + 74) % 65537)) (b := 6) rfl rfl (by omega) (by omega) (by omega)) ?_
              refine jv_bipush (v := 8) 96 X dX10_year_96 (by decide) ?_
              refine jv_irem 98 X dX10_year_98 (by decide) ?_
              refine jv_norm (x2 := nI (((((75 * x) + 74) % 65537) / 6) % 8)) (nx_rem (a := ((((75 * x) + 74) % 65537) / 6)) (b := 8) rfl rfl (by omega) (by omega) (by omega)) ?_
              by_cases c_14 : (nI (((((75 * x) + 74) % 65537) / 6) % 8)) = 0
              · refine jv_tabIn 99 X dX10_year_99 140 (by rw [c_14]; decide) (by rw [c_14]; decide) (by rw [c_14]; rfl) (by decide) ?_
                refine jv_aload_n 140 X dX10_year_140 4 rfl ?_
                refine jv_aload_n 141 X dX10_year_141 4 rfl ?_
                refine jv_iload 142 X dX10_year_142 2 rfl ?_
                refine jv_iload 144 X dX10_year_144 1 rfl ?_
                refine jv_callW (w1 := bMd E a book ((f_buy nw ((((75 * x) + 74) % 65537) % 6) (nI (1 + (((((75 * x) + 74) % 65537) / 48) % 9)))).2) week sights sight signs pad (-6) (-6) rs acts atp will fitting counts ring nxt wins ways nextWays image isKept) 146 X (c_X10_buy E _ a book nw week sights sight signs pad (-6) (-6) rs acts atp will fitting counts ring nxt wins ways nextWays image isKept ((((75 * x) + 74) % 65537) % 6) (nI (1 + (((((75 * x) + 74) % 65537) / 48) % 9))) (by omega)) wv_X10_112 ⟨Nat.le_of_ble_eq_true rfl, Nat.le_of_ble_eq_true rfl⟩ ⟨rfl, rfl⟩ ⟨Nat.zero_le _, Nat.zero_le _⟩ dX10_year_146 rfl [.ref (a 0)] rfl (Nat.le_of_ble_eq_true rfl) 0 rfl rfl ?_
                refine jv_puti (ws2 := bMd E a book ((f_buy nw ((((75 * x) + 74) % 65537) % 6) (nI (1 + (((((75 * x) + 74) % 65537) / 48) % 9)))).2) week sights sight signs pad (-6) (-6) ((f_buy nw ((((75 * x) + 74) % 65537) % 6) (nI (1 + (((((75 * x) + 74) % 65537) / 48) % 9)))).1) acts atp will fitting counts ring nxt wins ways nextWays image isKept) 149 X gf_X10_134 tyX10_ok nmX10 rfl rfl dX10_year_149 0 rfl (Nat.le_of_ble_eq_true rfl) rfl ?_
                refine jv_goto 152 X dX10_year_152 256 (by decide) ?_
                refine jv_iinc (v := (nI (i + 1))) (lv2 := [(5, .int (nI (i + 1))), (8, .int (nI (((((75 * x) + 74) % 65537) / 432) % 4))), (7, .int (nI (1 + (((((75 * x) + 74) % 65537) / 48) % 9)))), (6, .int (nI ((((75 * x) + 74) % 65537) % 6))), (4, .int (nI (((75 * x) + 74) % 65537))), (0, .ref (a 0)), (1, .int (nI jseed)), (2, .int (nI jm)), (3, .int what)]) 256 X dX10_year_256 8 rfl (nx_inc _) (by decide) rfl ?_
                refine jv_goto 259 X dX10_year_259 43 (by decide) ?_
                exact jv_lv [5, 6, 7, 8, 4, 0] rfl (ih43 (i + 1) ((75 * x + 74) % 65537) ((f_buy nw ((((75 * x) + 74) % 65537) % 6) (nI (1 + (((((75 * x) + 74) % 65537) / 48) % 9)))).2) ((f_buy nw ((((75 * x) + 74) % 65537) % 6) (nI (1 + (((((75 * x) + 74) % 65537) / 48) % 9)))).1) (by omega) (by omega) (by have h9 := dy_yr (week := week) (x := ((75 * x + 74) % 65537)) hd; rw [yrA, if_pos c_14] at h9; exact h9) (by rw [itr_s, ← hI]; show _ = (yrX x, (yrA week nw (yrX x)).2); rw [yrA, yrX, if_pos c_14]) (by omega))
              by_cases c_15 : (nI (((((75 * x) + 74) % 65537) / 6) % 8)) = 1
              · refine jv_tabIn 99 X dX10_year_99 155 (by rw [c_15]; decide) (by rw [c_15]; decide) (by rw [c_15]; rfl) (by decide) ?_
                refine jv_aload_n 155 X dX10_year_155 4 rfl ?_
                refine jv_aload_n 156 X dX10_year_156 4 rfl ?_
                refine jv_iload 157 X dX10_year_157 2 rfl ?_
                refine jv_iload 159 X dX10_year_159 1 rfl ?_
                refine jv_callW (w1 := bMd E a book ((f_sell nw ((((75 * x) + 74) % 65537) % 6) (nI (1 + (((((75 * x) + 74) % 65537) / 48) % 9)))).2) week sights sight signs pad (-6) (-6) rs acts atp will fitting counts ring nxt wins ways nextWays image isKept) 161 X (c_X10_sell E _ a book nw week sights sight signs pad (-6) (-6) rs acts atp will fitting counts ring nxt wins ways nextWays image isKept ((((75 * x) + 74) % 65537) % 6) (nI (1 + (((((75 * x) + 74) % 65537) / 48) % 9))) (by omega)) wv_X10_115 ⟨Nat.le_of_ble_eq_true rfl, Nat.le_of_ble_eq_true rfl⟩ ⟨rfl, rfl⟩ ⟨Nat.zero_le _, Nat.zero_le _⟩ dX10_year_161 rfl [.ref (a 0)] rfl (Nat.le_of_ble_eq_true rfl) 0 rfl rfl ?_
                refine jv_puti (ws2 := bMd E a book ((f_sell nw ((((75 * x) + 74) % 65537) % 6) (nI (1 + (((((75 * x) + 74) % 65537) / 48) % 9)))).2) week sights sight signs pad (-6) (-6) ((f_sell nw ((((75 * x) + 74) % 65537) % 6) (nI (1 + (((((75 * x) + 74) % 65537) / 48) % 9)))).1) acts atp will fitting counts ring nxt wins ways nextWays image isKept) 164 X gf_X10_134 tyX10_ok nmX10 rfl rfl dX10_year_164 0 rfl (Nat.le_of_ble_eq_true rfl) rfl ?_
                refine jv_goto 167 X dX10_year_167 256 (by decide) ?_
                refine jv_iinc (v := (nI (i + 1))) (lv2 := [(5, .int (nI (i + 1))), (8, .int (nI (((((75 * x) + 74) % 65537) / 432) % 4))), (7, .int (nI (1 + (((((75 * x) + 74) % 65537) / 48) % 9)))), (6, .int (nI ((((75 * x) + 74) % 65537) % 6))), (4, .int (nI (((75 * x) + 74) % 65537))), (0, .ref (a 0)), (1, .int (nI jseed)), (2, .int (nI jm)), (3, .int what)]) 256 X dX10_year_256 8 rfl (nx_inc _) (by decide) rfl ?_
                refine jv_goto 259 X dX10_year_259 43 (by decide) ?_
                exact jv_lv [5, 6, 7, 8, 4, 0] rfl (ih43 (i + 1) ((75 * x + 74) % 65537) ((f_sell nw ((((75 * x) + 74) % 65537) % 6) (nI (1 + (((((75 * x) + 74) % 65537) / 48) % 9)))).2) ((f_sell nw ((((75 * x) + 74) % 65537) % 6) (nI (1 + (((((75 * x) + 74) % 65537) / 48) % 9)))).1) (by omega) (by omega) (by have h9 := dy_yr (week := week) (x := ((75 * x + 74) % 65537)) hd; rw [yrA, if_neg c_14, if_pos c_15] at h9; exact h9) (by rw [itr_s, ← hI]; show _ = (yrX x, (yrA week nw (yrX x)).2); rw [yrA, yrX, if_neg c_14, if_pos c_15]) (by omega))
              by_cases c_16 : (nI (((((75 * x) + 74) % 65537) / 6) % 8)) = 2
              · refine jv_tabIn 99 X dX10_year_99 170 (by rw [c_16]; decide) (by rw [c_16]; decide) (by rw [c_16]; rfl) (by decide) ?_
                refine jv_aload_n 170 X dX10_year_170 4 rfl ?_
                refine jv_aload_n 171 X dX10_year_171 4 rfl ?_
                refine jv_iload 172 X dX10_year_172 2 rfl ?_
                refine jv_iload 174 X dX10_year_174 0 rfl ?_
                refine jv_bipush (v := 26) 176 X dX10_year_176 (by decide) ?_
                refine jv_iload 178 X dX10_year_178 1 rfl ?_
                refine jv_callW (w1 := bMd E a book ((f_build nw ((((75 * x) + 74) % 65537) % 6) (((((75 * x) + 74) % 65537) / 432) % 4) 26 (nI (1 + (((((75 * x) + 74) % 65537) / 48) % 9)))).2) week sights sight signs pad (-6) (-6) rs acts atp will fitting counts ring nxt wins ways nextWays image isKept) 180 X (c_X10_build E _ a book nw week sights sight signs pad (-6) (-6) rs acts atp will fitting counts ring nxt wins ways nextWays image isKept ((((75 * x) + 74) % 65537) % 6) (((((75 * x) + 74) % 65537) / 432) % 4) 26 (nI (1 + (((((75 * x) + 74) % 65537) / 48) % 9))) (by omega) (by omega) (Or.inl rfl)) wv_X10_118 ⟨Nat.le_of_ble_eq_true rfl, Nat.le_of_ble_eq_true rfl⟩ ⟨rfl, rfl⟩ ⟨Nat.zero_le _, Nat.zero_le _⟩ dX10_year_180 rfl [.ref (a 0)] rfl (Nat.le_of_ble_eq_true rfl) 0 rfl rfl ?_
                refine jv_puti (ws2 := bMd E a book ((f_build nw ((((75 * x) + 74) % 65537) % 6) (((((75 * x) + 74) % 65537) / 432) % 4) 26 (nI (1 + (((((75 * x) + 74) % 65537) / 48) % 9)))).2) week sights sight signs pad (-6) (-6) ((f_build nw ((((75 * x) + 74) % 65537) % 6) (((((75 * x) + 74) % 65537) / 432) % 4) 26 (nI (1 + (((((75 * x) + 74) % 65537) / 48) % 9)))).1) acts atp will fitting counts ring nxt wins ways nextWays image isKept) 183 X gf_X10_134 tyX10_ok nmX10 rfl rfl dX10_year_183 0 rfl (Nat.le_of_ble_eq_true rfl) rfl ?_
                refine jv_goto 186 X dX10_year_186 256 (by decide) ?_
                refine jv_iinc (v := (nI (i + 1))) (lv2 := [(5, .int (nI (i + 1))), (8, .int (nI (((((75 * x) + 74) % 65537) / 432) % 4))), (7, .int (nI (1 + (((((75 * x) + 74) % 65537) / 48) % 9)))), (6, .int (nI ((((75 * x) + 74) % 65537) % 6))), (4, .int (nI (((75 * x) + 74) % 65537))), (0, .ref (a 0)), (1, .int (nI jseed)), (2, .int (nI jm)), (3, .int what)]) 256 X dX10_year_256 8 rfl (nx_inc _) (by decide) rfl ?_
                refine jv_goto 259 X dX10_year_259 43 (by decide) ?_
                exact jv_lv [5, 6, 7, 8, 4, 0] rfl (ih43 (i + 1) ((75 * x + 74) % 65537) ((f_build nw ((((75 * x) + 74) % 65537) % 6) (((((75 * x) + 74) % 65537) / 432) % 4) 26 (nI (1 + (((((75 * x) + 74) % 65537) / 48) % 9)))).2) ((f_build nw ((((75 * x) + 74) % 65537) % 6) (((((75 * x) + 74) % 65537) / 432) % 4) 26 (nI (1 + (((((75 * x) + 74) % 65537) / 48) % 9)))).1) (by omega) (by omega) (by have h9 := dy_yr (week := week) (x := ((75 * x + 74) % 65537)) hd; rw [yrA, if_neg c_14, if_neg c_15, if_pos c_16] at h9; exact h9) (by rw [itr_s, ← hI]; show _ = (yrX x, (yrA week nw (yrX x)).2); rw [yrA, yrX, if_neg c_14, if_neg c_15, if_pos c_16]) (by omega))
              by_cases c_17 : (nI (((((75 * x) + 74) % 65537) / 6) % 8)) = 3
              · refine jv_tabIn 99 X dX10_year_99 189 (by rw [c_17]; decide) (by rw [c_17]; decide) (by rw [c_17]; rfl) (by decide) ?_
                refine jv_aload_n 189 X dX10_year_189 4 rfl ?_
                refine jv_aload_n 190 X dX10_year_190 4 rfl ?_
                refine jv_iload 191 X dX10_year_191 2 rfl ?_
                refine jv_iload 193 X dX10_year_193 0 rfl ?_
                refine jv_bipush (v := 30) 195 X dX10_year_195 (by decide) ?_
                refine jv_iload 197 X dX10_year_197 1 rfl ?_
                refine jv_callW (w1 := bMd E a book ((f_build nw ((((75 * x) + 74) % 65537) % 6) (((((75 * x) + 74) % 65537) / 432) % 4) 30 (nI (1 + (((((75 * x) + 74) % 65537) / 48) % 9)))).2) week sights sight signs pad (-6) (-6) rs acts atp will fitting counts ring nxt wins ways nextWays image isKept) 199 X (c_X10_build E _ a book nw week sights sight signs pad (-6) (-6) rs acts atp will fitting counts ring nxt wins ways nextWays image isKept ((((75 * x) + 74) % 65537) % 6) (((((75 * x) + 74) % 65537) / 432) % 4) 30 (nI (1 + (((((75 * x) + 74) % 65537) / 48) % 9))) (by omega) (by omega) (Or.inr rfl)) wv_X10_118 ⟨Nat.le_of_ble_eq_true rfl, Nat.le_of_ble_eq_true rfl⟩ ⟨rfl, rfl⟩ ⟨Nat.zero_le _, Nat.zero_le _⟩ dX10_year_199 rfl [.ref (a 0)] rfl (Nat.le_of_ble_eq_true rfl) 0 rfl rfl ?_
                refine jv_puti (ws2 := bMd E a book ((f_build nw ((((75 * x) + 74) % 65537) % 6) (((((75 * x) + 74) % 65537) / 432) % 4) 30 (nI (1 + (((((75 * x) + 74) % 65537) / 48) % 9)))).2) week sights sight signs pad (-6) (-6) ((f_build nw ((((75 * x) + 74) % 65537) % 6) (((((75 * x) + 74) % 65537) / 432) % 4) 30 (nI (1 + (((((75 * x) + 74) % 65537) / 48) % 9)))).1) acts atp will fitting counts ring nxt wins ways nextWays image isKept) 202 X gf_X10_134 tyX10_ok nmX10 rfl rfl dX10_year_202 0 rfl (Nat.le_of_ble_eq_true rfl) rfl ?_
                refine jv_goto 205 X dX10_year_205 256 (by decide) ?_
                refine jv_iinc (v := (nI (i + 1))) (lv2 := [(5, .int (nI (i + 1))), (8, .int (nI (((((75 * x) + 74) % 65537) / 432) % 4))), (7, .int (nI (1 + (((((75 * x) + 74) % 65537) / 48) % 9)))), (6, .int (nI ((((75 * x) + 74) % 65537) % 6))), (4, .int (nI (((75 * x) + 74) % 65537))), (0, .ref (a 0)), (1, .int (nI jseed)), (2, .int (nI jm)), (3, .int what)]) 256 X dX10_year_256 8 rfl (nx_inc _) (by decide) rfl ?_
                refine jv_goto 259 X dX10_year_259 43 (by decide) ?_
                exact jv_lv [5, 6, 7, 8, 4, 0] rfl (ih43 (i + 1) ((75 * x + 74) % 65537) ((f_build nw ((((75 * x) + 74) % 65537) % 6) (((((75 * x) + 74) % 65537) / 432) % 4) 30 (nI (1 + (((((75 * x) + 74) % 65537) / 48) % 9)))).2) ((f_build nw ((((75 * x) + 74) % 65537) % 6) (((((75 * x) + 74) % 65537) / 432) % 4) 30 (nI (1 + (((((75 * x) + 74) % 65537) / 48) % 9)))).1) (by omega) (by omega) (by have h9 := dy_yr (week := week) (x := ((75 * x + 74) % 65537)) hd; rw [yrA, if_neg c_14, if_neg c_15, if_neg c_16, if_pos c_17] at h9; exact h9) (by rw [itr_s, ← hI]; show _ = (yrX x, (yrA week nw (yrX x)).2); rw [yrA, yrX, if_neg c_14, if_neg c_15, if_neg c_16, if_pos c_17]) (by omega))
              by_cases c_18 : (nI (((((75 * x) + 74) % 65537) / 6) % 8)) = 4
              · refine jv_tabIn 99 X dX10_year_99 208 (by rw [c_18]; decide) (by rw [c_18]; decide) (by rw [c_18]; rfl) (by decide) ?_
                refine jv_aload_n 208 X dX10_year_208 4 rfl ?_
                refine jv_aload_n 209 X dX10_year_209 4 rfl ?_
                refine jv_iload 210 X dX10_year_210 1 rfl ?_
                refine jv_ineg 212 X dX10_year_212 ?_
                refine jv_callW (w1 := bMd E a book ((f_change nw (-(nI (1 + (((((75 * x) + 74) % 65537) / 48) % 9))))).2) week sights sight signs pad (-6) (-6) rs acts atp will fitting counts ring nxt wins ways nextWays image isKept) 213 X (c_X10_change E _ a book nw week sights sight signs pad (-6) (-6) rs acts atp will fitting counts ring nxt wins ways nextWays image isKept (-(nI (1 + (((((75 * x) + 74) % 65537) / 48) % 9))))) wv_X10_137 ⟨Nat.le_of_ble_eq_true rfl, Nat.le_of_ble_eq_true rfl⟩ ⟨rfl, rfl⟩ ⟨Nat.zero_le _, Nat.zero_le _⟩ dX10_year_213 rfl [.ref (a 0)] rfl (Nat.le_of_ble_eq_true rfl) 0 rfl rfl ?_
                refine jv_puti (ws2 := bMd E a book ((f_change nw (-(nI (1 + (((((75 * x) + 74) % 65537) / 48) % 9))))).2) week sights sight signs pad (-6) (-6) ((f_change nw (-(nI (1 + (((((75 * x) + 74) % 65537) / 48) % 9))))).1) acts atp will fitting counts ring nxt wins ways nextWays image isKept) 216 X gf_X10_134 tyX10_ok nmX10 rfl rfl dX10_year_216 0 rfl (Nat.le_of_ble_eq_true rfl) rfl ?_
                refine jv_goto 219 X dX10_year_219 256 (by decide) ?_
                refine jv_iinc (v := (nI (i + 1))) (lv2 := [(5, .int (nI (i + 1))), (8, .int (nI (((((75 * x) + 74) % 65537) / 432) % 4))), (7, .int (nI (1 + (((((75 * x) + 74) % 65537) / 48) % 9)))), (6, .int (nI ((((75 * x) + 74) % 65537) % 6))), (4, .int (nI (((75 * x) + 74) % 65537))), (0, .ref (a 0)), (1, .int (nI jseed)), (2, .int (nI jm)), (3, .int what)]) 256 X dX10_year_256 8 rfl (nx_inc _) (by decide) rfl ?_
                refine jv_goto 259 X dX10_year_259 43 (by decide) ?_
                exact jv_lv [5, 6, 7, 8, 4, 0] rfl (ih43 (i + 1) ((75 * x + 74) % 65537) ((f_change nw (-(nI (1 + (((((75 * x) + 74) % 65537) / 48) % 9))))).2) ((f_change nw (-(nI (1 + (((((75 * x) + 74) % 65537) / 48) % 9))))).1) (by omega) (by omega) (by have h9 := dy_yr (week := week) (x := ((75 * x + 74) % 65537)) hd; rw [yrA, if_neg c_14, if_neg c_15, if_neg c_16, if_neg c_17, if_pos c_18] at h9; exact h9) (by rw [itr_s, ← hI]; show _ = (yrX x, (yrA week nw (yrX x)).2); rw [yrA, yrX, if_neg c_14, if_neg c_15, if_neg c_16, if_neg c_17, if_pos c_18]) (by omega))
              by_cases c_19 : (nI (((((75 * x) + 74) % 65537) / 6) % 8)) = 5
              · refine jv_tabIn 99 X dX10_year_99 222 (by rw [c_19]; decide) (by rw [c_19]; decide) (by rw [c_19]; rfl) (by decide) ?_
                refine jv_aload_n 222 X dX10_year_222 4 rfl ?_
                refine jv_aload_n 223 X dX10_year_223 4 rfl ?_
                refine jv_iload 224 X dX10_year_224 1 rfl ?_
                refine jv_callW (w1 := bMd E a book ((f_change nw (nI (1 + (((((75 * x) + 74) % 65537) / 48) % 9)))).2) week sights sight signs pad (-6) (-6) rs acts atp will fitting counts ring nxt wins ways nextWays image isKept) 226 X (c_X10_change E _ a book nw week sights sight signs pad (-6) (-6) rs acts atp will fitting counts ring nxt wins ways nextWays image isKept (nI (1 + (((((75 * x) + 74) % 65537) / 48) % 9)))) wv_X10_137 ⟨Nat.le_of_ble_eq_true rfl, Nat.le_of_ble_eq_true rfl⟩ ⟨rfl, rfl⟩ ⟨Nat.zero_le _, Nat.zero_le _⟩ dX10_year_226 rfl [.ref (a 0)] rfl (Nat.le_of_ble_eq_true rfl) 0 rfl rfl ?_
                refine jv_puti (ws2 := bMd E a book ((f_change nw (nI (1 + (((((75 * x) + 74) % 65537) / 48) % 9)))).2) week sights sight signs pad (-6) (-6) ((f_change nw (nI (1 + (((((75 * x) + 74) % 65537) / 48) % 9)))).1) acts atp will fitting counts ring nxt wins ways nextWays image isKept) 229 X gf_X10_134 tyX10_ok nmX10 rfl rfl dX10_year_229 0 rfl (Nat.le_of_ble_eq_true rfl) rfl ?_
                refine jv_goto 232 X dX10_year_232 256 (by decide) ?_
                refine jv_iinc (v := (nI (i + 1))) (lv2 := [(5, .int (nI (i + 1))), (8, .int (nI (((((75 * x) + 74) % 65537) / 432) % 4))), (7, .int (nI (1 + (((((75 * x) + 74) % 65537) / 48) % 9)))), (6, .int (nI ((((75 * x) + 74) % 65537) % 6))), (4, .int (nI (((75 * x) + 74) % 65537))), (0, .ref (a 0)), (1, .int (nI jseed)), (2, .int (nI jm)), (3, .int what)]) 256 X dX10_year_256 8 rfl (nx_inc _) (by decide) rfl ?_
                refine jv_goto 259 X dX10_year_259 43 (by decide) ?_
                exact jv_lv [5, 6, 7, 8, 4, 0] rfl (ih43 (i + 1) ((75 * x + 74) % 65537) ((f_change nw (nI (1 + (((((75 * x) + 74) % 65537) / 48) % 9)))).2) ((f_change nw (nI (1 + (((((75 * x) + 74) % 65537) / 48) % 9)))).1) (by omega) (by omega) (by have h9 := dy_yr (week := week) (x := ((75 * x + 74) % 65537)) hd; rw [yrA, if_neg c_14, if_neg c_15, if_neg c_16, if_neg c_17, if_neg c_18, if_pos c_19] at h9; exact h9) (by rw [itr_s, ← hI]; show _ = (yrX x, (yrA week nw (yrX x)).2); rw [yrA, yrX, if_neg c_14, if_neg c_15, if_neg c_16, if_neg c_17, if_neg c_18, if_pos c_19]) (by omega))
              by_cases c_20 : (nI (((((75 * x) + 74) % 65537) / 6) % 8)) = 6
              · refine jv_tabIn 99 X dX10_year_99 235 (by rw [c_20]; decide) (by rw [c_20]; decide) (by rw [c_20]; rfl) (by decide) ?_
                refine jv_aload_n 235 X dX10_year_235 4 rfl ?_
                refine jv_aload_n 236 X dX10_year_236 4 rfl ?_
                refine jv_iload 237 X dX10_year_237 2 rfl ?_
                refine jv_callW (w1 := bMd E a book ((f_copy nw ((((75 * x) + 74) % 65537) % 6)).2) week sights sight signs pad (-6) (-6) rs acts atp will fitting counts ring nxt wins ways nextWays image isKept) 239 X (c_X10_copy E _ a book nw week sights sight signs pad (-6) (-6) rs acts atp will fitting counts ring nxt wins ways nextWays image isKept ((((75 * x) + 74) % 65537) % 6) (by omega)) wv_X10_103 ⟨Nat.le_of_ble_eq_true rfl, Nat.le_of_ble_eq_true rfl⟩ ⟨rfl, rfl⟩ ⟨Nat.zero_le _, Nat.zero_le _⟩ dX10_year_239 rfl [.ref (a 0)] rfl (Nat.le_of_ble_eq_true rfl) 0 rfl rfl ?_
                refine jv_puti (ws2 := bMd E a book ((f_copy nw ((((75 * x) + 74) % 65537) % 6)).2) week sights sight signs pad (-6) (-6) ((f_copy nw ((((75 * x) + 74) % 65537) % 6)).1) acts atp will fitting counts ring nxt wins ways nextWays image isKept) 242 X gf_X10_134 tyX10_ok nmX10 rfl rfl dX10_year_242 0 rfl (Nat.le_of_ble_eq_true rfl) rfl ?_
                refine jv_goto 245 X dX10_year_245 256 (by decide) ?_
                refine jv_iinc (v := (nI (i + 1))) (lv2 := [(5, .int (nI (i + 1))), (8, .int (nI (((((75 * x) + 74) % 65537) / 432) % 4))), (7, .int (nI (1 + (((((75 * x) + 74) % 65537) / 48) % 9)))), (6, .int (nI ((((75 * x) + 74) % 65537) % 6))), (4, .int (nI (((75 * x) + 74) % 65537))), (0, .ref (a 0)), (1, .int (nI jseed)), (2, .int (nI jm)), (3, .int what)]) 256 X dX10_year_256 8 rfl (nx_inc _) (by decide) rfl ?_
                refine jv_goto 259 X dX10_year_259 43 (by decide) ?_
                exact jv_lv [5, 6, 7, 8, 4, 0] rfl (ih43 (i + 1) ((75 * x + 74) % 65537) ((f_copy nw ((((75 * x) + 74) % 65537) % 6)).2) ((f_copy nw ((((75 * x) + 74) % 65537) % 6)).1) (by omega) (by omega) (by have h9 := dy_yr (week := week) (x := ((75 * x + 74) % 65537)) hd; rw [yrA, if_neg c_14, if_neg c_15, if_neg c_16, if_neg c_17, if_neg c_18, if_neg c_19, if_pos c_20] at h9; exact h9) (by rw [itr_s, ← hI]; show _ = (yrX x, (yrA week nw (yrX x)).2); rw [yrA, yrX, if_neg c_14, if_neg c_15, if_neg c_16, if_neg c_17, if_neg c_18, if_neg c_19, if_pos c_20]) (by omega))
              refine jv_tabOut 99 X dX10_year_99 248 (tab_out 6 (fun j hj => by rcases (show j = 0 ∨ j = 1 ∨ j = 2 ∨ j = 3 ∨ j = 4 ∨ j = 5 ∨ j = 6 by omega) with rfl | rfl | rfl | rfl | rfl | rfl | rfl <;> assumption)) (by decide) ?_
              refine jv_aload_n 248 X dX10_year_248 4 rfl ?_
              refine jv_aload_n 249 X dX10_year_249 4 rfl ?_
              refine jv_callW (w1 := bMd E a book ((f_endDay nw week ((nw 39).toNatClampNeg)).2) week sights sight signs pad (-6) (-6) rs acts atp will fitting counts ring nxt wins ways nextWays image isKept) 250 X (c_X10_endDay E _ a book nw week sights sight signs pad (-6) (-6) rs acts atp will fitting counts ring nxt wins ways nextWays image isKept ((nw 39).toNatClampNeg) hd.1 hd.2) wv_X10_131 ⟨Nat.le_of_ble_eq_true rfl, Nat.le_of_ble_eq_true rfl⟩ ⟨rfl, rfl⟩ ⟨Nat.zero_le _, Nat.zero_le _⟩ dX10_year_250 rfl [.ref (a 0)] rfl (Nat.le_of_ble_eq_true rfl) 0 rfl rfl ?_
              refine jv_puti (ws2 := bMd E a book ((f_endDay nw week ((nw 39).toNatClampNeg)).2) week sights sight signs pad (-6) (-6) ((f_endDay nw week ((nw 39).toNatClampNeg)).1) acts atp will fitting counts ring nxt wins ways nextWays image isKept) 253 X gf_X10_134 tyX10_ok nmX10 rfl rfl dX10_year_253 0 rfl (Nat.le_of_ble_eq_true rfl) rfl ?_
              refine jv_iinc (v := (nI (i + 1))) (lv2 := [(5, .int (nI (i + 1))), (8, .int (nI (((((75 * x) + 74) % 65537) / 432) % 4))), (7, .int (nI (1 + (((((75 * x) + 74) % 65537) / 48) % 9)))), (6, .int (nI ((((75 * x) + 74) % 65537) % 6))), (4, .int (nI (((75 * x) + 74) % 65537))), (0, .ref (a 0)), (1, .int (nI jseed)), (2, .int (nI jm)), (3, .int what)]) 256 X dX10_year_256 8 rfl (nx_inc _) (by decide) rfl ?_
              refine jv_goto 259 X dX10_year_259 43 (by decide) ?_
              exact jv_lv [5, 6, 7, 8, 4, 0] rfl (ih43 (i + 1) ((75 * x + 74) % 65537) ((f_endDay nw week ((nw 39).toNatClampNeg)).2) ((f_endDay nw week ((nw 39).toNatClampNeg)).1) (by omega) (by omega) (by have h9 := dy_yr (week := week) (x := ((75 * x + 74) % 65537)) hd; rw [yrA, if_neg c_14, if_neg c_15, if_neg c_16, if_neg c_17, if_neg c_18, if_neg c_19, if_neg c_20] at h9; exact h9) (by rw [itr_s, ← hI]; show _ = (yrX x, (yrA week nw (yrX x)).2); rw [yrA, yrX, if_neg c_14, if_neg c_15, if_neg c_16, if_neg c_17, if_neg c_18, if_neg c_19, if_neg c_20]) (by omega))
        exact jv_lv [2, 3, 4, 5, 1, 0] rfl (lp43 _ 0 jseed book reason (by omega) (by omega) hD rfl (Nat.lt_succ_self _))
      · refine jv_bipush (v := (-2)) 30 X dX10_year_30 (by decide) ?_
        exact jv_iret 32 X Y rfl dX10_year_32 (now, metAt, metWho, reason, acts, atp, will, fitting, counts, ring, nxt, wins, ways, nextWays) (by simp [lt_nle, -Int32.not_le, c_1, hcjseed, c_2, hcjm, c_3]) rfl
theorem c_X10_image (E : EE) (l : Launch) (a : Nat → Nat) (book : Nat → Int32) (now : Nat → Int32) (week : Nat → Int32) (sights : Int32) (sight : Nat → Int32) (signs : Int32) (pad : Nat → Int32) (metAt : Int32) (metWho : Int32) (reason : Int32) (acts : Int32) (atp : Int32) (will : Nat → Int32) (fitting : Nat → Int32) (counts : Nat → Int32) (ring : Nat → Int32) (nxt : Nat → Int32) (wins : Nat → Int32) (ways : Nat → Int64) (nextWays : Nat → Int64) (image : Nat → Int32) (isKept : Nat → Int32) (n : Int32) : CG E l yX10_image cX10_image 4 (some .int) { frames := 1, cells := 0, slots := 0, locals := 22 } [.ref (a 0), .int n] (bMd E a book now week sights sight signs pad metAt metWho reason acts atp will fitting counts ring nxt wins ways nextWays image isKept) noB (fun _ : ScrM => some (.int (if 0 ≤ n ∧ n ≤ 1 then 1 else -2))) (fun u : ScrM => bMd E a book u.1 week sights sight signs pad u.2.1 u.2.2.1 u.2.2.2.1 u.2.2.2.2.1 u.2.2.2.2.2.1 u.2.2.2.2.2.2.1 u.2.2.2.2.2.2.2.1 u.2.2.2.2.2.2.2.2.1 u.2.2.2.2.2.2.2.2.2.1 u.2.2.2.2.2.2.2.2.2.2.1 u.2.2.2.2.2.2.2.2.2.2.2.1 u.2.2.2.2.2.2.2.2.2.2.2.2.1 u.2.2.2.2.2.2.2.2.2.2.2.2.2 (if 0 ≤ n ∧ n ≤ 1 then imF image book week sight sights n.toNatClampNeg else image) (if 0 ≤ n ∧ n ≤ 1 then upd isKept n.toNatClampNeg 1 else isKept)) := by
  refine CG.intro (by decide) (Nat.le_of_ble_eq_true rfl) (fun K X Y _ _ _ => ?_)
  refine jv_iload_n 0 X dX10_image_0 1 rfl ?_
  refine jv_iconst (v := 0) 1 X dX10_image_1 rfl ?_
  refine jv_iconst (v := 1) 2 X dX10_image_2 rfl ?_
  refine jv_fun 3 X (c_X10_in E _ n 0 1) ws_X10_57 ⟨Nat.le_of_ble_eq_true rfl, Nat.le_of_ble_eq_true rfl⟩ ⟨rfl, rfl⟩ ⟨Nat.zero_le _, Nat.zero_le _⟩ dX10_image_3 rfl [] rfl (Nat.le_of_ble_eq_true rfl) ?_
  refine jv_z_ne 6 X dX10_image_6 12 (by decide) (fun c_1 => ?_) (fun c_1 => ?_)
  · obtain ⟨jn, h1jn, h2jn, rfl⟩ := nx_in (a := 0) (b := 1) rfl rfl (by decide) (by decide) c_1
    have hcjn : (nI jn).toNatClampNeg = jn := nI_clamp (by omega)
    refine jv_bipush (v := 70) 12 X dX10_image_12 (by decide) ?_
    refine jv_iload_n 14 X dX10_image_14 1 rfl ?_
    refine jv_imul 15 X dX10_image_15 ?_
    refine jv_norm (x2 := nI (70 * jn)) (nx_mul (a := 70) (b := jn) rfl rfl) ?_
    refine jv_istore_n (lv2 := [(2, .int (nI (70 * jn))), (0, .ref (a 0)), (1, .int (nI jn))]) 16 X dX10_image_16 (by decide) rfl ?_
    refine jv_iconst (v := 0) 17 X dX10_image_17 rfl ?_
    refine jv_istore_n (lv2 := [(3, .int 0), (2, .int (nI (70 * jn))), (0, .ref (a 0)), (1, .int (nI jn))]) 18 X dX10_image_18 (by decide) rfl ?_
    have lp19 : ∀ (n19 : Nat) (k1 : Nat) (i1 : Nat → Int32), (k1 ≤ 40) → (∀ i, i1 i = if (70 * jn + 0) ≤ i ∧ i < (70 * jn + 0) + k1 then book (i - (70 * jn + 0)) else image i) → 40 - k1 < n19 → JV E K 0 0 (bMd E a book now week sights sight signs pad metAt metWho reason acts atp will fitting counts ring nxt wins ways nextWays i1 isKept) [(0, .ref (a 0)), (1, .int (nI jn)), (2, .int (nI (70 * jn))), (3, .int (nI k1))] 19 [] := by
      intro n19
      induction n19 with
      | zero => intro k1 i1 hk1 hI1 hm; exact absurd hm (Nat.not_lt_zero _)
      | succ n19 ih19 =>
        intro k1 i1 hk1 hI1 hm
        refine jv_iload_n 19 X dX10_image_19 3 rfl ?_
        refine jv_bipush (v := 40) 20 X dX10_image_20 (by decide) ?_
        refine jn_icmp_ge 22 X dX10_image_22 45 (by decide) (fun c_2 => ?_) (fun c_2 => ?_)
        · have n_2 : 40 ≤ k1 := (nx_le (a := 40) (b := k1) rfl rfl (by omega) (by omega)).mp c_2
          refine jv_iconst (v := 0) 45 X dX10_image_45 rfl ?_
          refine jv_istore_n (lv2 := [(3, .int 0), (0, .ref (a 0)), (1, .int (nI jn)), (2, .int (nI (70 * jn)))]) 46 X dX10_image_46 (by decide) rfl ?_
          have lp47 : ∀ (n47 : Nat) (k2 : Nat) (i2 : Nat → Int32), (k2 ≤ 7) → (∀ i, i2 i = if (70 * jn + 40) ≤ i ∧ i < (70 * jn + 40) + k2 then week (i - (70 * jn + 40)) else i1 i) → 7 - k2 < n47 → JV E K 0 0 (bMd E a book now week sights sight signs pad metAt metWho reason acts atp will fitting counts ring nxt wins ways nextWays i2 isKept) [(0, .ref (a 0)), (1, .int (nI jn)), (2, .int (nI (70 * jn))), (3, .int (nI k2))] 47 [] := by
            intro n47
            induction n47 with
            | zero => intro k2 i2 hk2 hI2 hm; exact absurd hm (Nat.not_lt_zero _)
            | succ n47 ih47 =>
              intro k2 i2 hk2 hI2 hm
              refine jv_iload_n 47 X dX10_image_47 3 rfl ?_
              refine jv_bipush (v := 7) 48 X dX10_image_48 (by decide) ?_
              refine jn_icmp_ge 50 X dX10_image_50 76 (by decide) (fun c_3 => ?_) (fun c_3 => ?_)
              · have n_3 : 7 ≤ k2 := (nx_le (a := 7) (b := k2) rfl rfl (by omega) (by omega)).mp c_3
                refine jv_iconst (v := 0) 76 X dX10_image_76 rfl ?_
                refine jv_istore_n (lv2 := [(3, .int 0), (0, .ref (a 0)), (1, .int (nI jn)), (2, .int (nI (70 * jn)))]) 77 X dX10_image_77 (by decide) rfl ?_
                have lp78 : ∀ (n78 : Nat) (k3 : Nat) (i3 : Nat → Int32), (k3 ≤ 16) → (∀ i, i3 i = if (70 * jn + 47) ≤ i ∧ i < (70 * jn + 47) + k3 then sight (i - (70 * jn + 47)) else i2 i) → 16 - k3 < n78 → JV E K 0 0 (bMd E a book now week sights sight signs pad metAt metWho reason acts atp will fitting counts ring nxt wins ways nextWays i3 isKept) [(0, .ref (a 0)), (1, .int (nI jn)), (2, .int (nI (70 * jn))), (3, .int (nI k3))] 78 [] := by
                  intro n78
                  induction n78 with
                  | zero => intro k3 i3 hk3 hI3 hm; exact absurd hm (Nat.not_lt_zero _)
                  | succ n78 ih78 =>
                    intro k3 i3 hk3 hI3 hm
                    refine jv_iload_n 78 X dX10_image_78 3 rfl ?_
                    refine jv_bipush (v := 16) 79 X dX10_image_79 (by decide) ?_
                    refine jn_icmp_ge 81 X dX10_image_81 107 (by decide) (fun c_4 => ?_) (fun c_4 => ?_)
                    · have n_4 : 16 ≤ k3 := (nx_le (a := 16) (b := k3) rfl rfl (by omega) (by omega)).mp c_4
                      refine jv_aload_n 107 X dX10_image_107 0 rfl ?_
                      refine jv_get (v := .ref (a 14)) 108 X gf_X10_51 dX10_image_108 0 rfl rfl ?_
                      refine jv_iload_n 111 X dX10_image_111 2 rfl ?_
                      refine jv_bipush (v := 64) 112 X dX10_image_112 (by decide) ?_
                      refine jv_iadd 114 X dX10_image_114 ?_
                      refine jv_norm (x2 := nI ((70 * jn) + 64)) (nx_add2 (a := (70 * jn)) (b := 64) rfl rfl (by omega)) ?_
                      refine jv_aload_n 115 X dX10_image_115 0 rfl ?_
                      refine jv_get (v := .int sights) 116 X gf_X10_167 dX10_image_116 0 rfl rfl ?_
                      refine jv_iast (ws2 := bMd E a book now week sights sight signs pad metAt metWho reason acts atp will fitting counts ring nxt wins ways nextWays (upd i3 ((70 * jn) + 64) sights) isKept) (f := i3) 119 X dX10_image_119 14 rfl (by decide) ((70 * jn) + 64) rfl (by omega) rfl ?_
                      refine jv_ext (ws2 := bMd E a book now week sights sight signs pad metAt metWho reason acts atp will fitting counts ring nxt wins ways nextWays (imF image book week sight sights jn) isKept) 14 (imF image book week sight sights jn) rfl (fun i _ => by by_cases e : i = 70 * jn + 64; rw [e, pk_us, imF, if_neg (by omega), if_neg (by omega), if_neg (by omega), if_pos rfl]; rw [pk_un e, hI3, hI2, hI1, imF]; rw [show k3 = 16 by omega, show k2 = 7 by omega, show k1 = 40 by omega]; simp only [if_neg e, Nat.add_zero]; (repeat' split) <;> first | rfl | omega) rfl ?_
                      refine jv_aload_n 120 X dX10_image_120 0 rfl ?_
                      refine jv_get (v := .ref (a 15)) 121 X gf_X10_54 dX10_image_121 0 rfl rfl ?_
                      refine jv_iload_n 124 X dX10_image_124 1 rfl ?_
                      refine jv_iconst (v := 1) 125 X dX10_image_125 rfl ?_
                      refine jv_zast (ws2 := bMd E a book now week sights sight signs pad metAt metWho reason acts atp will fitting counts ring nxt wins ways nextWays (imF image book week sight sights jn) (upd isKept jn 1)) (f := isKept) 126 X dX10_image_126 15 rfl (by decide) jn rfl (by omega) rfl rfl ?_
                      refine jv_iconst (v := 1) 127 X dX10_image_127 rfl ?_
                      exact jv_iret 128 X Y rfl dX10_image_128 (now, metAt, metWho, reason, acts, atp, will, fitting, counts, ring, nxt, wins, ways, nextWays) (by simp [c_1, hcjn]) (by simp [c_1, hcjn])
                    · have n_4 : ¬ 16 ≤ k3 := fun zq => c_4 ((nx_le (a := 16) (b := k3) rfl rfl (by omega) (by omega)).mpr zq)
                      refine jv_aload_n 84 X dX10_image_84 0 rfl ?_
                      refine jv_get (v := .ref (a 14)) 85 X gf_X10_51 dX10_image_85 0 rfl rfl ?_
                      refine jv_iload_n 88 X dX10_image_88 2 rfl ?_
                      refine jv_bipush (v := 47) 89 X dX10_image_89 (by decide) ?_
                      refine jv_iadd 91 X dX10_image_91 ?_
                      refine jv_norm (x2 := nI ((70 * jn) + 47)) (nx_add2 (a := (70 * jn)) (b := 47) rfl rfl (by omega)) ?_
                      refine jv_iload_n 92 X dX10_image_92 3 rfl ?_
                      refine jv_iadd 93 X dX10_image_93 ?_
                      refine jv_norm (x2 := nI (((70 * jn) + 47) + k3)) (nx_add2 (a := ((70 * jn) + 47)) (b := k3) rfl rfl (by omega)) ?_
                      refine jv_aload_n 94 X dX10_image_94 0 rfl ?_
                      refine jv_get (v := .ref (a 4)) 95 X gf_X10_19 dX10_image_95 0 rfl rfl ?_
                      refine jv_iload_n 98 X dX10_image_98 3 rfl ?_
                      refine jv_iald (f := sight) 99 X dX10_image_99 4 rfl (by decide) k3 rfl (by omega) ?_
                      refine jv_iast (ws2 := bMd E a book now week sights sight signs pad metAt metWho reason acts atp will fitting counts ring nxt wins ways nextWays (upd i3 (((70 * jn) + 47) + k3) (sight k3)) isKept) (f := i3) 100 X dX10_image_100 14 rfl (by decide) (((70 * jn) + 47) + k3) rfl (by omega) rfl ?_
                      refine jv_iinc (v := (nI (k3 + 1))) (lv2 := [(3, .int (nI (k3 + 1))), (0, .ref (a 0)), (1, .int (nI jn)), (2, .int (nI (70 * jn)))]) 101 X dX10_image_101 3 rfl (nx_inc _) (by decide) rfl ?_
                      refine jv_goto 104 X dX10_image_104 78 (by decide) ?_
                      exact jv_lv [1, 2, 3, 0] rfl (ih78 (k3 + 1) (upd i3 (((70 * jn) + 47) + k3) (sight k3)) (by omega) (im_up hI3) (by omega))
                exact jv_lv [1, 2, 3, 0] rfl (lp78 _ 0 i2 (by omega) (fun i => (if_neg (by omega)).symm) (Nat.lt_succ_self _))
              · have n_3 : ¬ 7 ≤ k2 := fun zq => c_3 ((nx_le (a := 7) (b := k2) rfl rfl (by omega) (by omega)).mpr zq)
                refine jv_aload_n 53 X dX10_image_53 0 rfl ?_
                refine jv_get (v := .ref (a 14)) 54 X gf_X10_51 dX10_image_54 0 rfl rfl ?_
                refine jv_iload_n 57 X dX10_image_57 2 rfl ?_
                refine jv_bipush (v := 40) 58 X dX10_image_58 (by decide) ?_
                refine jv_iadd 60 X dX10_image_60 ?_
                refine jv_norm (x2 := nI ((70 * jn) + 40)) (nx_add2 (a := (70 * jn)) (b := 40) rfl rfl (by omega)) ?_
                refine jv_iload_n 61 X dX10_image_61 3 rfl ?_
                refine jv_iadd 62 X dX10_image_62 ?_
                refine jv_norm (x2 := nI (((70 * jn) + 40) + k2)) (nx_add2 (a := ((70 * jn) + 40)) (b := k2) rfl rfl (by omega)) ?_
                refine jv_aload_n 63 X dX10_image_63 0 rfl ?_
                refine jv_get (v := .ref (a 3)) 64 X gf_X10_16 dX10_image_64 0 rfl rfl ?_
                refine jv_iload_n 67 X dX10_image_67 3 rfl ?_
                refine jv_iald (f := week) 68 X dX10_image_68 3 rfl (by decide) k2 rfl (by omega) ?_
                refine jv_iast (ws2 := bMd E a book now week sights sight signs pad metAt metWho reason acts atp will fitting counts ring nxt wins ways nextWays (upd i2 (((70 * jn) + 40) + k2) (week k2)) isKept) (f := i2) 69 X dX10_image_69 14 rfl (by decide) (((70 * jn) + 40) + k2) rfl (by omega) rfl ?_
                refine jv_iinc (v := (nI (k2 + 1))) (lv2 := [(3, .int (nI (k2 + 1))), (0, .ref (a 0)), (1, .int (nI jn)), (2, .int (nI (70 * jn)))]) 70 X dX10_image_70 3 rfl (nx_inc _) (by decide) rfl ?_
                refine jv_goto 73 X dX10_image_73 47 (by decide) ?_
                exact jv_lv [1, 2, 3, 0] rfl (ih47 (k2 + 1) (upd i2 (((70 * jn) + 40) + k2) (week k2)) (by omega) (im_up hI2) (by omega))
          exact jv_lv [1, 2, 3, 0] rfl (lp47 _ 0 i1 (by omega) (fun i => (if_neg (by omega)).symm) (Nat.lt_succ_self _))
        · have n_2 : ¬ 40 ≤ k1 := fun zq => c_2 ((nx_le (a := 40) (b := k1) rfl rfl (by omega) (by omega)).mpr zq)
          refine jv_aload_n 25 X dX10_image_25 0 rfl ?_
          refine jv_get (v := .ref (a 14)) 26 X gf_X10_51 dX10_image_26 0 rfl rfl ?_
          refine jv_iload_n 29 X dX10_image_29 2 rfl ?_
          refine jv_iload_n 30 X dX10_image_30 3 rfl ?_
          refine jv_iadd 31 X dX10_image_31 ?_
          refine jv_norm (x2 := nI ((70 * jn) + k1)) (nx_add2 (a := (70 * jn)) (b := k1) rfl rfl (by omega)) ?_
          refine jv_aload_n 32 X dX10_image_32 0 rfl ?_
          refine jv_get (v := .ref (a 1)) 33 X gf_X10_7 dX10_image_33 0 rfl rfl ?_
          refine jv_iload_n 36 X dX10_image_36 3 rfl ?_
          refine jv_iald (f := book) 37 X dX10_image_37 1 rfl (by decide) k1 rfl (by omega) ?_
          refine jv_iast (ws2 := bMd E a book now week sights sight signs pad metAt metWho reason acts atp will fitting counts ring nxt wins ways nextWays (upd i1 ((70 * jn) + k1) (book k1)) isKept) (f := i1) 38 X dX10_image_38 14 rfl (by decide) ((70 * jn) + k1) rfl (by omega) rfl ?_
          refine jv_iinc (v := (nI (k1 + 1))) (lv2 := [(3, .int (nI (k1 + 1))), (0, .ref (a 0)), (1, .int (nI jn)), (2, .int (nI (70 * jn)))]) 39 X dX10_image_39 3 rfl (nx_inc _) (by decide) rfl ?_
          refine jv_goto 42 X dX10_image_42 19 (by decide) ?_
          exact jv_lv [1, 2, 3, 0] rfl (ih19 (k1 + 1) (upd i1 ((70 * jn) + k1) (book k1)) (by omega) (im_up hI1) (by omega))
    exact jv_lv [2, 3, 1, 0] rfl (lp19 _ 0 image (by omega) (fun i => (if_neg (by omega)).symm) (Nat.lt_succ_self _))
  · refine jv_bipush (v := (-2)) 9 X dX10_image_9 (by decide) ?_
    exact jv_iret 11 X Y rfl dX10_image_11 (now, metAt, metWho, reason, acts, atp, will, fitting, counts, ring, nxt, wins, ways, nextWays) (by simp [lt_nle, -Int32.not_le, c_1]) (by simp [lt_nle, -Int32.not_le, c_1])
theorem c_X10_restore (E : EE) (l : Launch) (a : Nat → Nat) (book : Nat → Int32) (now : Nat → Int32) (week : Nat → Int32) (sights : Int32) (sight : Nat → Int32) (signs : Int32) (pad : Nat → Int32) (metAt : Int32) (metWho : Int32) (reason : Int32) (acts : Int32) (atp : Int32) (will : Nat → Int32) (fitting : Nat → Int32) (counts : Nat → Int32) (ring : Nat → Int32) (nxt : Nat → Int32) (wins : Nat → Int32) (ways : Nat → Int64) (nextWays : Nat → Int64) (image : Nat → Int32) (isKept : Nat → Int32) (n : Int32) : CG E l yX10_restore cX10_restore 4 (some .int) { frames := 1, cells := 0, slots := 0, locals := 22 } [.ref (a 0), .int n] (bMd E a book now week sights sight signs pad metAt metWho reason acts atp will fitting counts ring nxt wins ways nextWays image isKept) noB (fun _ : ScrM => some (.int (if ¬ (0 ≤ n ∧ n ≤ 1) then -2 else if isKept n.toNatClampNeg = 0 then -3 else 1))) (fun u : ScrM => bMd E a (if (0 ≤ n ∧ n ≤ 1) ∧ ¬ isKept n.toNatClampNeg = 0 then (fun j => image (70 * n.toNatClampNeg + 0 + j)) else book) u.1 (if (0 ≤ n ∧ n ≤ 1) ∧ ¬ isKept n.toNatClampNeg = 0 then (fun j => image (70 * n.toNatClampNeg + 40 + j)) else week) (if (0 ≤ n ∧ n ≤ 1) ∧ ¬ isKept n.toNatClampNeg = 0 then image (70 * n.toNatClampNeg + 64) else sights) (if (0 ≤ n ∧ n ≤ 1) ∧ ¬ isKept n.toNatClampNeg = 0 then (fun j => image (70 * n.toNatClampNeg + 47 + j)) else sight) signs pad u.2.1 u.2.2.1 u.2.2.2.1 u.2.2.2.2.1 u.2.2.2.2.2.1 u.2.2.2.2.2.2.1 u.2.2.2.2.2.2.2.1 u.2.2.2.2.2.2.2.2.1 u.2.2.2.2.2.2.2.2.2.1 u.2.2.2.2.2.2.2.2.2.2.1 u.2.2.2.2.2.2.2.2.2.2.2.1 u.2.2.2.2.2.2.2.2.2.2.2.2.1 u.2.2.2.2.2.2.2.2.2.2.2.2.2 image isKept) := by
  refine CG.intro (by decide) (Nat.le_of_ble_eq_true rfl) (fun K X Y _ _ _ => ?_)
  refine jv_iload_n 0 X dX10_restore_0 1 rfl ?_
  refine jv_iconst (v := 0) 1 X dX10_restore_1 rfl ?_
  refine jv_iconst (v := 1) 2 X dX10_restore_2 rfl ?_
  refine jv_fun 3 X (c_X10_in E _ n 0 1) ws_X10_57 ⟨Nat.le_of_ble_eq_true rfl, Nat.le_of_ble_eq_true rfl⟩ ⟨rfl, rfl⟩ ⟨Nat.zero_le _, Nat.zero_le _⟩ dX10_restore_3 rfl [] rfl (Nat.le_of_ble_eq_true rfl) ?_
  refine jv_z_ne 6 X dX10_restore_6 12 (by decide) (fun c_1 => ?_) (fun c_1 => ?_)
  · obtain ⟨jn, h1jn, h2jn, rfl⟩ := nx_in (a := 0) (b := 1) rfl rfl (by decide) (by decide) c_1
    have hcjn : (nI jn).toNatClampNeg = jn := nI_clamp (by omega)
    refine jv_aload_n 12 X dX10_restore_12 0 rfl ?_
    refine jv_get (v := .ref (a 15)) 13 X gf_X10_54 dX10_restore_13 0 rfl rfl ?_
    refine jv_iload_n 16 X dX10_restore_16 1 rfl ?_
    refine jv_zald (f := isKept) 17 X dX10_restore_17 15 rfl (by decide) jn rfl (by omega) ?_
    refine jn_if_ne 18 X dX10_restore_18 24 (by decide) (fun c_2 => ?_) (fun c_2 => ?_)
    · refine jv_bipush (v := 70) 24 X dX10_restore_24 (by decide) ?_
      refine jv_iload_n 26 X dX10_restore_26 1 rfl ?_
      refine jv_imul 27 X dX10_restore_27 ?_
      refine jv_norm (x2 := nI (70 * jn)) (nx_mul (a := 70) (b := jn) rfl rfl) ?_
      refine jv_istore_n (lv2 := [(2, .int (nI (70 * jn))), (0, .ref (a 0)), (1, .int (nI jn))]) 28 X dX10_restore_28 (by decide) rfl ?_
      refine jv_iconst (v := 0) 29 X dX10_restore_29 rfl ?_
      refine jv_istore_n (lv2 := [(3, .int 0), (2, .int (nI (70 * jn))), (0, .ref (a 0)), (1, .int (nI jn))]) 30 X dX10_restore_30 (by decide) rfl ?_
      have lp31 : ∀ (n31 : Nat) (k1 : Nat) (i1 : Nat → Int32), (k1 ≤ 40) → (∀ j, j < k1 → i1 j = image (70 * jn + 0 + j)) → 40 - k1 < n31 → JV E K 0 0 (bMd E a i1 now week sights sight signs pad metAt metWho reason acts atp will fitting counts ring nxt wins ways nextWays image isKept) [(0, .ref (a 0)), (1, .int (nI jn)), (2, .int (nI (70 * jn))), (3, .int (nI k1))] 31 [] := by
        intro n31
        induction n31 with
        | zero => intro k1 i1 hk1 hI1 hm; exact absurd hm (Nat.not_lt_zero _)
        | succ n31 ih31 =>
          intro k1 i1 hk1 hI1 hm
          refine jv_iload_n 31 X dX10_restore_31 3 rfl ?_
          refine jv_bipush (v := 40) 32 X dX10_restore_32 (by decide) ?_
          refine jn_icmp_ge 34 X dX10_restore_34 57 (by decide) (fun c_3 => ?_) (fun c_3 => ?_)
          · have n_3 : 40 ≤ k1 := (nx_le (a := 40) (b := k1) rfl rfl (by omega) (by omega)).mp c_3
            refine jv_ext (ws2 := bMd E a (fun j => image (70 * jn + 0 + j)) now week sights sight signs pad metAt metWho reason acts atp will fitting counts ring nxt wins ways nextWays image isKept) 1 (fun j => image (70 * jn + 0 + j)) rfl (fun j hj => hI1 j (by omega)) rfl ?_
            refine jv_iconst (v := 0) 57 X dX10_restore_57 rfl ?_
            refine jv_istore_n (lv2 := [(3, .int 0), (0, .ref (a 0)), (1, .int (nI jn)), (2, .int (nI (70 * jn)))]) 58 X dX10_restore_58 (by decide) rfl ?_
            have lp59 : ∀ (n59 : Nat) (k2 : Nat) (i2 : Nat → Int32), (k2 ≤ 7) → (∀ j, j < k2 → i2 j = image (70 * jn + 40 + j)) → 7 - k2 < n59 → JV E K 0 0 (bMd E a (fun j => image (70 * jn + 0 + j)) now i2 sights sight signs pad metAt metWho reason acts atp will fitting counts ring nxt wins ways nextWays image isKept) [(0, .ref (a 0)), (1, .int (nI jn)), (2, .int (nI (70 * jn))), (3, .int (nI k2))] 59 [] := by
              intro n59
              induction n59 with
              | zero => intro k2 i2 hk2 hI2 hm; exact absurd hm (Nat.not_lt_zero _)
              | succ n59 ih59 =>
                intro k2 i2 hk2 hI2 hm
                refine jv_iload_n 59 X dX10_restore_59 3 rfl ?_
                refine jv_bipush (v := 7) 60 X dX10_restore_60 (by decide) ?_
                refine jn_icmp_ge 62 X dX10_restore_62 88 (by decide) (fun c_4 => ?_) (fun c_4 => ?_)
                · have n_4 : 7 ≤ k2 := (nx_le (a := 7) (b := k2) rfl rfl (by omega) (by omega)).mp c_4
                  refine jv_ext (ws2 := bMd E a (fun j => image (70 * jn + 0 + j)) now (fun j => image (70 * jn + 40 + j)) sights sight signs pad metAt metWho reason acts atp will fitting counts ring nxt wins ways nextWays image isKept) 3 (fun j => image (70 * jn + 40 + j)) rfl (fun j hj => hI2 j (by omega)) rfl ?_
                  refine jv_iconst (v := 0) 88 X dX10_restore_88 rfl ?_
                  refine jv_istore_n (lv2 := [(3, .int 0), (0, .ref (a 0)), (1, .int (nI jn)), (2, .int (nI (70 * jn)))]) 89 X dX10_restore_89 (by decide) rfl ?_
                  have lp90 : ∀ (n90 : Nat) (k3 : Nat) (i3 : Nat → Int32), (k3 ≤ 16) → (∀ j, j < k3 → i3 j = image (70 * jn + 47 + j)) → 16 - k3 < n90 → JV E K 0 0 (bMd E a (fun j => image (70 * jn + 0 + j)) now (fun j => image (70 * jn + 40 + j)) sights i3 signs pad metAt metWho reason acts atp will fitting counts ring nxt wins ways nextWays image isKept) [(0, .ref (a 0)), (1, .int (nI jn)), (2, .int (nI (70 * jn))), (3, .int (nI k3))] 90 [] := by
                    intro n90
                    induction n90 with
                    | zero => intro k3 i3 hk3 hI3 hm; exact absurd hm (Nat.not_lt_zero _)
                    | succ n90 ih90 =>
                      intro k3 i3 hk3 hI3 hm
                      refine jv_iload_n 90 X dX10_restore_90 3 rfl ?_
                      refine jv_bipush (v := 16) 91 X dX10_restore_91 (by decide) ?_
                      refine jn_icmp_ge 93 X dX10_restore_93 119 (by decide) (fun c_5 => ?_) (fun c_5 => ?_)
                      · have n_5 : 16 ≤ k3 := (nx_le (a := 16) (b := k3) rfl rfl (by omega) (by omega)).mp c_5
                        refine jv_ext (ws2 := bMd E a (fun j => image (70 * jn + 0 + j)) now (fun j => image (70 * jn + 40 + j)) sights (fun j => image (70 * jn + 47 + j)) signs pad metAt metWho reason acts atp will fitting counts ring nxt wins ways nextWays image isKept) 4 (fun j => image (70 * jn + 47 + j)) rfl (fun j hj => hI3 j (by omega)) rfl ?_
                        refine jv_aload_n 119 X dX10_restore_119 0 rfl ?_
                        refine jv_aload_n 120 X dX10_restore_120 0 rfl ?_
                        refine jv_get (v := .ref (a 14)) 121 X gf_X10_51 dX10_restore_121 0 rfl rfl ?_
                        refine jv_iload_n 124 X dX10_restore_124 2 rfl ?_
                        refine jv_bipush (v := 64) 125 X dX10_restore_125 (by decide) ?_
                        refine jv_iadd 127 X dX10_restore_127 ?_
                        refine jv_norm (x2 := nI ((70 * jn) + 64)) (nx_add2 (a := (70 * jn)) (b := 64) rfl rfl (by omega)) ?_
                        refine jv_iald (f := image) 128 X dX10_restore_128 14 rfl (by decide) ((70 * jn) + 64) rfl (by omega) ?_
                        refine jv_puti (ws2 := bMd E a (fun j => image (70 * jn + 0 + j)) now (fun j => image (70 * jn + 40 + j)) (image ((70 * jn) + 64)) (fun j => image (70 * jn + 47 + j)) signs pad metAt metWho reason acts atp will fitting counts ring nxt wins ways nextWays image isKept) 129 X gf_X10_167 tyX10_ok nmX10 rfl rfl dX10_restore_129 0 rfl (Nat.le_of_ble_eq_true rfl) rfl ?_
                        refine jv_iconst (v := 1) 132 X dX10_restore_132 rfl ?_
                        exact jv_iret 133 X Y rfl dX10_restore_133 (now, metAt, metWho, reason, acts, atp, will, fitting, counts, ring, nxt, wins, ways, nextWays) (by simp [c_1, hcjn, c_2]) (by simp [c_1, hcjn, c_2])
                      · have n_5 : ¬ 16 ≤ k3 := fun zq => c_5 ((nx_le (a := 16) (b := k3) rfl rfl (by omega) (by omega)).mpr zq)
                        refine jv_aload_n 96 X dX10_restore_96 0 rfl ?_
                        refine jv_get (v := .ref (a 4)) 97 X gf_X10_19 dX10_restore_97 0 rfl rfl ?_
                        refine jv_iload_n 100 X dX10_restore_100 3 rfl ?_
                        refine jv_aload_n 101 X dX10_restore_101 0 rfl ?_
                        refine jv_get (v := .ref (a 14)) 102 X gf_X10_51 dX10_restore_102 0 rfl rfl ?_
                        refine jv_iload_n 105 X dX10_restore_105 2 rfl ?_
                        refine jv_bipush (v := 47) 106 X dX10_restore_106 (by decide) ?_
                        refine jv_iadd 108 X dX10_restore_108 ?_
                        refine jv_norm (x2 := nI ((70 * jn) + 47)) (nx_add2 (a := (70 * jn)) (b := 47) rfl rfl (by omega)) ?_
                        refine jv_iload_n 109 X dX10_restore_109 3 rfl ?_
                        refine jv_iadd 110 X dX10_restore_110 ?_
                        refine jv_norm (x2 := nI (((70 * jn) + 47) + k3)) (nx_add2 (a := ((70 * jn) + 47)) (b := k3) rfl rfl (by omega)) ?_
                        refine jv_iald (f := image) 111 X dX10_restore_111 14 rfl (by decide) (((70 * jn) + 47) + k3) rfl (by omega) ?_
                        refine jv_iast (ws2 := bMd E a (fun j => image (70 * jn + 0 + j)) now (fun j => image (70 * jn + 40 + j)) sights (upd i3 k3 (image (((70 * jn) + 47) + k3))) signs pad metAt metWho reason acts atp will fitting counts ring nxt wins ways nextWays image isKept) (f := i3) 112 X dX10_restore_112 4 rfl (by decide) k3 rfl (by omega) rfl ?_
                        refine jv_iinc (v := (nI (k3 + 1))) (lv2 := [(3, .int (nI (k3 + 1))), (0, .ref (a 0)), (1, .int (nI jn)), (2, .int (nI (70 * jn)))]) 113 X dX10_restore_113 3 rfl (nx_inc _) (by decide) rfl ?_
                        refine jv_goto 116 X dX10_restore_116 90 (by decide) ?_
                        exact jv_lv [1, 2, 3, 0] rfl (ih90 (k3 + 1) (upd i3 k3 (image (((70 * jn) + 47) + k3))) (by omega) (fun j hj => by rcases Nat.lt_succ_iff_lt_or_eq.mp hj with h | h; rw [pk_un (by omega)]; exact hI3 j h; rw [h, pk_us]; try rfl) (by omega))
                  exact jv_lv [1, 2, 3, 0] rfl (lp90 _ 0 sight (by omega) (fun j hj => absurd hj (Nat.not_lt_zero j)) (Nat.lt_succ_self _))
                · have n_4 : ¬ 7 ≤ k2 := fun zq => c_4 ((nx_le (a := 7) (b := k2) rfl rfl (by omega) (by omega)).mpr zq)
                  refine jv_aload_n 65 X dX10_restore_65 0 rfl ?_
                  refine jv_get (v := .ref (a 3)) 66 X gf_X10_16 dX10_restore_66 0 rfl rfl ?_
                  refine jv_iload_n 69 X dX10_restore_69 3 rfl ?_
                  refine jv_aload_n 70 X dX10_restore_70 0 rfl ?_
                  refine jv_get (v := .ref (a 14)) 71 X gf_X10_51 dX10_restore_71 0 rfl rfl ?_
                  refine jv_iload_n 74 X dX10_restore_74 2 rfl ?_
                  refine jv_bipush (v := 40) 75 X dX10_restore_75 (by decide) ?_
                  refine jv_iadd 77 X dX10_restore_77 ?_
                  refine jv_norm (x2 := nI ((70 * jn) + 40)) (nx_add2 (a := (70 * jn)) (b := 40) rfl rfl (by omega)) ?_
                  refine jv_iload_n 78 X dX10_restore_78 3 rfl ?_
                  refine jv_iadd 79 X dX10_restore_79 ?_
                  refine jv_norm (x2 := nI (((70 * jn) + 40) + k2)) (nx_add2 (a := ((70 * jn) + 40)) (b := k2) rfl rfl (by omega)) ?_
                  refine jv_iald (f := image) 80 X dX10_restore_80 14 rfl (by decide) (((70 * jn) + 40) + k2) rfl (by omega) ?_
                  refine jv_iast (ws2 := bMd E a (fun j => image (70 * jn + 0 + j)) now (upd i2 k2 (image (((70 * jn) + 40) + k2))) sights sight signs pad metAt metWho reason acts atp will fitting counts ring nxt wins ways nextWays image isKept) (f := i2) 81 X dX10_restore_81 3 rfl (by decide) k2 rfl (by omega) rfl ?_
                  refine jv_iinc (v := (nI (k2 + 1))) (lv2 := [(3, .int (nI (k2 + 1))), (0, .ref (a 0)), (1, .int (nI jn)), (2, .int (nI (70 * jn)))]) 82 X dX10_restore_82 3 rfl (nx_inc _) (by decide) rfl ?_
                  refine jv_goto 85 X dX10_restore_85 59 (by decide) ?_
                  exact jv_lv [1, 2, 3, 0] rfl (ih59 (k2 + 1) (upd i2 k2 (image (((70 * jn) + 40) + k2))) (by omega) (fun j hj => by rcases Nat.lt_succ_iff_lt_or_eq.mp hj with h | h; rw [pk_un (by omega)]; exact hI2 j h; rw [h, pk_us]; try rfl) (by omega))
            exact jv_lv [1, 2, 3, 0] rfl (lp59 _ 0 week (by omega) (fun j hj => absurd hj (Nat.not_lt_zero j)) (Nat.lt_succ_self _))
          · have n_3 : ¬ 40 ≤ k1 := fun zq => c_3 ((nx_le (a := 40) (b := k1) rfl rfl (by omega) (by omega)).mpr zq)
            refine jv_aload_n 37 X dX10_restore_37 0 rfl ?_
            refine jv_get (v := .ref (a 1)) 38 X gf_X10_7 dX10_restore_38 0 rfl rfl ?_
            refine jv_iload_n 41 X dX10_restore_41 3 rfl ?_
            refine jv_aload_n 42 X dX10_restore_42 0 rfl ?_
            refine jv_get (v := .ref (a 14)) 43 X gf_X10_51 dX10_restore_43 0 rfl rfl ?_
            refine jv_iload_n 46 X dX10_restore_46 2 rfl ?_
            refine jv_iload_n 47 X dX10_restore_47 3 rfl ?_
            refine jv_iadd 48 X dX10_restore_48 ?_
            refine jv_norm (x2 := nI ((70 * jn) + k1)) (nx_add2 (a := (70 * jn)) (b := k1) rfl rfl (by omega)) ?_
            refine jv_iald (f := image) 49 X dX10_restore_49 14 rfl (by decide) ((70 * jn) + k1) rfl (by omega) ?_
            refine jv_iast (ws2 := bMd E a (upd i1 k1 (image ((70 * jn) + k1))) now week sights sight signs pad metAt metWho reason acts atp will fitting counts ring nxt wins ways nextWays image isKept) (f := i1) 50 X dX10_restore_50 1 rfl (by decide) k1 rfl (by omega) rfl ?_
            refine jv_iinc (v := (nI (k1 + 1))) (lv2 := [(3, .int (nI (k1 + 1))), (0, .ref (a 0)), (1, .int (nI jn)), (2, .int (nI (70 * jn)))]) 51 X dX10_restore_51 3 rfl (nx_inc _) (by decide) rfl ?_
            refine jv_goto 54 X dX10_restore_54 31 (by decide) ?_
            exact jv_lv [1, 2, 3, 0] rfl (ih31 (k1 + 1) (upd i1 k1 (image ((70 * jn) + k1))) (by omega) (fun j hj => by rcases Nat.lt_succ_iff_lt_or_eq.mp hj with h | h; rw [pk_un (by omega)]; exact hI1 j h; rw [h, pk_us]; try rfl) (by omega))
      exact jv_lv [2, 3, 1, 0] rfl (lp31 _ 0 book (by omega) (fun j hj => absurd hj (Nat.not_lt_zero j)) (Nat.lt_succ_self _))
    · refine jv_bipush (v := (-3)) 21 X dX10_restore_21 (by decide) ?_
      exact jv_iret 23 X Y rfl dX10_restore_23 (now, metAt, metWho, reason, acts, atp, will, fitting, counts, ring, nxt, wins, ways, nextWays) (by simp [c_1, hcjn, c_2]) (by simp [c_1, hcjn, c_2])
  · refine jv_bipush (v := (-2)) 9 X dX10_restore_9 (by decide) ?_
    exact jv_iret 11 X Y rfl dX10_restore_11 (now, metAt, metWho, reason, acts, atp, will, fitting, counts, ring, nxt, wins, ways, nextWays) (by simp [lt_nle, -Int32.not_le, c_1]) (by simp [lt_nle, -Int32.not_le, c_1])
theorem c_X10_told (E : EE) (l : Launch) (a : Nat → Nat) (book : Nat → Int32) (now : Nat → Int32) (week : Nat → Int32) (sights : Int32) (sight : Nat → Int32) (signs : Int32) (pad : Nat → Int32) (metAt : Int32) (metWho : Int32) (reason : Int32) (acts : Int32) (atp : Int32) (will : Nat → Int32) (fitting : Nat → Int32) (counts : Nat → Int32) (ring : Nat → Int32) (nxt : Nat → Int32) (wins : Nat → Int32) (ways : Nat → Int64) (nextWays : Nat → Int64) (image : Nat → Int32) (isKept : Nat → Int32) (what : Int32) : CG E l yX10_told cX10_told 4 (some .int) { frames := 2, cells := 0, slots := 0, locals := 42 } [.ref (a 0), .int what] (bMd E a book now week sights sight signs pad metAt metWho reason acts atp will fitting counts ring nxt wins ways nextWays image isKept) noB (fun _ : ScrM => some (.int (toM book week signs sights what))) (fun u : ScrM => bMd E a book u.1 week sights sight signs pad u.2.1 u.2.2.1 u.2.2.2.1 u.2.2.2.2.1 u.2.2.2.2.2.1 u.2.2.2.2.2.2.1 u.2.2.2.2.2.2.2.1 u.2.2.2.2.2.2.2.2.1 u.2.2.2.2.2.2.2.2.2.1 u.2.2.2.2.2.2.2.2.2.2.1 u.2.2.2.2.2.2.2.2.2.2.2.1 u.2.2.2.2.2.2.2.2.2.2.2.2.1 u.2.2.2.2.2.2.2.2.2.2.2.2.2 image isKept) := by
  refine CG.intro (by decide) (Nat.le_of_ble_eq_true rfl) (fun K X Y _ _ _ => ?_)
  refine jv_iload_n 0 X dX10_told_0 1 rfl ?_
  refine jv_bipush (v := 100) 1 X dX10_told_1 (by decide) ?_
  refine jn_icmp_lt 3 X dX10_told_3 66 (by decide) (fun c_1 => ?_) (fun c_1 => ?_)
  · refine jv_iload_n 66 X dX10_told_66 1 rfl ?_
    refine jv_bipush (v := 40) 67 X dX10_told_67 (by decide) ?_
    refine jn_icmp_lt 69 X dX10_told_69 123 (by decide) (fun c_2 => ?_) (fun c_2 => ?_)
    · refine jv_iload_n 123 X dX10_told_123 1 rfl ?_
      refine jv_bipush (v := 20) 124 X dX10_told_124 (by decide) ?_
      refine jn_icmp_lt 126 X dX10_told_126 157 (by decide) (fun c_3 => ?_) (fun c_3 => ?_)
      · refine jv_iload_n 157 X dX10_told_157 1 rfl ?_
        refine jv_bipush (v := 10) 158 X dX10_told_158 (by decide) ?_
        refine jn_icmp_lt 160 X dX10_told_160 192 (by decide) (fun c_4 => ?_) (fun c_4 => ?_)
        · refine jv_iload_n 192 X dX10_told_192 1 rfl ?_
          refine jn_if_ne 193 X dX10_told_193 203 (by decide) (fun c_5 => ?_) (fun c_5 => ?_)
          · refine jv_iload_n 203 X dX10_told_203 1 rfl ?_
            refine jv_iconst (v := 1) 204 X dX10_told_204 rfl ?_
            refine jn_icmp_eq 205 X dX10_told_205 213 (by decide) (fun c_6 => ?_) (fun c_6 => ?_)
            · refine jv_aload_n 213 X dX10_told_213 0 rfl ?_
              refine jv_get (v := .ref (a 1)) 214 X gf_X10_7 dX10_told_214 0 rfl rfl ?_
              refine jv_bipush (v := 37) 217 X dX10_told_217 (by decide) ?_
              refine jv_iload_n 219 X dX10_told_219 1 rfl ?_
              refine jv_iadd 220 X dX10_told_220 ?_
              refine jv_norm (x2 := nI (37 + 1)) (nx_add2 (a := 37) (b := 1) rfl c_6 (by omega)) ?_
              refine jv_iald (f := book) 221 X dX10_told_221 1 rfl (by decide) (37 + 1) rfl (by omega) ?_
              refine jv_goto 222 X dX10_told_222 239 (by decide) ?_
              exact jv_iret 239 X Y rfl dX10_told_239 (now, metAt, metWho, reason, acts, atp, will, fitting, counts, ring, nxt, wins, ways, nextWays) (by simp [toM, cl_1, cl_2, c_1, c_2, c_3, c_4, c_5, c_6]) rfl
            · refine jv_iload_n 208 X dX10_told_208 1 rfl ?_
              refine jv_iconst (v := 2) 209 X dX10_told_209 rfl ?_
              refine jn_icmp_ne 210 X dX10_told_210 225 (by decide) (fun c_7 => ?_) (fun c_7 => ?_)
              · refine jv_iload_n 225 X dX10_told_225 1 rfl ?_
                refine jv_iconst (v := 3) 226 X dX10_told_226 rfl ?_
                refine jn_icmp_ne 227 X dX10_told_227 237 (by decide) (fun c_8 => ?_) (fun c_8 => ?_)
                · refine jv_bipush (v := (-2)) 237 X dX10_told_237 (by decide) ?_
                  exact jv_iret 239 X Y rfl dX10_told_239 (now, metAt, metWho, reason, acts, atp, will, fitting, counts, ring, nxt, wins, ways, nextWays) (by simp [toM, cl_1, cl_2, c_1, c_2, c_3, c_4, c_5, c_6, c_7, c_8]) rfl
                · refine jv_aload_n 230 X dX10_told_230 0 rfl ?_
                  refine jv_get (v := .int sights) 231 X gf_X10_167 dX10_told_231 0 rfl rfl ?_
                  refine jv_goto 234 X dX10_told_234 239 (by decide) ?_
                  exact jv_iret 239 X Y rfl dX10_told_239 (now, metAt, metWho, reason, acts, atp, will, fitting, counts, ring, nxt, wins, ways, nextWays) (by simp [toM, cl_1, cl_2, c_1, c_2, c_3, c_4, c_5, c_6, c_7, c_8]) rfl
              · refine jv_aload_n 213 X dX10_told_213 0 rfl ?_
                refine jv_get (v := .ref (a 1)) 214 X gf_X10_7 dX10_told_214 0 rfl rfl ?_
                refine jv_bipush (v := 37) 217 X dX10_told_217 (by decide) ?_
                refine jv_iload_n 219 X dX10_told_219 1 rfl ?_
                refine jv_iadd 220 X dX10_told_220 ?_
                refine jv_norm (x2 := nI (37 + 2)) (nx_add2 (a := 37) (b := 2) rfl c_7 (by omega)) ?_
                refine jv_iald (f := book) 221 X dX10_told_221 1 rfl (by decide) (37 + 2) rfl (by omega) ?_
                refine jv_goto 222 X dX10_told_222 239 (by decide) ?_
                exact jv_iret 239 X Y rfl dX10_told_239 (now, metAt, metWho, reason, acts, atp, will, fitting, counts, ring, nxt, wins, ways, nextWays) (by simp [toM, cl_1, cl_2, c_1, c_2, c_3, c_4, c_5, c_6, c_7]) rfl
          · refine jv_aload_n 196 X dX10_told_196 0 rfl ?_
            refine jv_get (v := .int signs) 197 X gf_X10_72 dX10_told_197 0 rfl rfl ?_
            refine jv_goto 200 X dX10_told_200 239 (by decide) ?_
            exact jv_iret 239 X Y rfl dX10_told_239 (now, metAt, metWho, reason, acts, atp, will, fitting, counts, ring, nxt, wins, ways, nextWays) (by simp [toM, cl_1, cl_2, c_1, c_2, c_3, c_4, c_5]) rfl
        · obtain ⟨y, hy1, hy2, rfl⟩ := ge_nI (a := 10) (by decide) c_4
          have hcy : (nI y).toNatClampNeg = y := nI_clamp (by omega)
          have u_1 : ¬ 100 ≤ y := fun zq => c_1 ((nx_le (a := 100) (b := y) rfl rfl (by omega) (by omega)).mpr zq)
          have u_2 : ¬ 40 ≤ y := fun zq => c_2 ((nx_le (a := 40) (b := y) rfl rfl (by omega) (by omega)).mpr zq)
          have u_3 : ¬ 20 ≤ y := fun zq => c_3 ((nx_le (a := 20) (b := y) rfl rfl (by omega) (by omega)).mpr zq)
          refine jv_iload_n 163 X dX10_told_163 1 rfl ?_
          refine jv_bipush (v := 10) 164 X dX10_told_164 (by decide) ?_
          refine jv_bipush (v := 16) 166 X dX10_told_166 (by decide) ?_
          refine jv_fun 168 X (c_X10_in E _ (nI y) 10 16) ws_X10_57 ⟨Nat.le_of_ble_eq_true rfl, Nat.le_of_ble_eq_true rfl⟩ ⟨rfl, rfl⟩ ⟨Nat.zero_le _, Nat.zero_le _⟩ dX10_told_168 rfl [] rfl (Nat.le_of_ble_eq_true rfl) ?_
          refine jv_z_eq 171 X dX10_told_171 189 (by decide) (fun c_9 => ?_) (fun c_9 => ?_)
          · have hz : ¬ y ≤ 16 := fun zq => c_9 ⟨(nx_le (a := 10) (b := y) rfl rfl (by omega) (by omega)).mpr (by omega), (nx_le (a := y) (b := 16) rfl rfl (by omega) (by omega)).mpr zq⟩
            refine jv_bipush (v := (-2)) 189 X dX10_told_189 (by decide) ?_
            exact jv_iret 191 X Y rfl dX10_told_191 (now, metAt, metWho, reason, acts, atp, will, fitting, counts, ring, nxt, wins, ways, nextWays) (by simp [toM, cl_1, cl_2, c_1, c_2, c_3, c_4, hcy, u_1, u_2, u_3, hz]) rfl
          · have hz : y ≤ 16 := (nx_le (a := y) (b := 16) rfl rfl (by omega) (by omega)).mp c_9.2
            refine jv_aload_n 174 X dX10_told_174 0 rfl ?_
            refine jv_get (v := .ref (a 3)) 175 X gf_X10_16 dX10_told_175 0 rfl rfl ?_
            refine jv_iload_n 178 X dX10_told_178 1 rfl ?_
            refine jv_bipush (v := 10) 179 X dX10_told_179 (by decide) ?_
            refine jv_isub 181 X dX10_told_181 ?_
            refine jv_norm (x2 := nI (y - 10)) (nx_sub2 (a := y) (b := 10) rfl rfl (by omega)) ?_
            refine jv_iald (f := week) 182 X dX10_told_182 3 rfl (by decide) (y - 10) rfl (by omega) ?_
            refine jv_bipush (v := 9) 183 X dX10_told_183 (by decide) ?_
            refine jv_iadd 185 X dX10_told_185 ?_
            refine jv_goto 186 X dX10_told_186 191 (by decide) ?_
            exact jv_iret 191 X Y rfl dX10_told_191 (now, metAt, metWho, reason, acts, atp, will, fitting, counts, ring, nxt, wins, ways, nextWays) (by simp [toM, cl_1, cl_2, c_1, c_2, c_3, c_4, hcy, u_1, u_2, u_3, hz]) rfl
      · obtain ⟨y, hy1, hy2, rfl⟩ := ge_nI (a := 20) (by decide) c_3
        have hcy : (nI y).toNatClampNeg = y := nI_clamp (by omega)
        have u_1 : ¬ 100 ≤ y := fun zq => c_1 ((nx_le (a := 100) (b := y) rfl rfl (by omega) (by omega)).mpr zq)
        have u_2 : ¬ 40 ≤ y := fun zq => c_2 ((nx_le (a := 40) (b := y) rfl rfl (by omega) (by omega)).mpr zq)
        refine jv_iload_n 129 X dX10_told_129 1 rfl ?_
        refine jv_bipush (v := 20) 130 X dX10_told_130 (by decide) ?_
        refine jv_isub 132 X dX10_told_132 ?_
        refine jv_norm (x2 := nI (y - 20)) (nx_sub2 (a := y) (b := 20) rfl rfl (by omega)) ?_
        refine jv_fun 133 X (c_X10_isStick E _ (nI (y - 20))) ws_X10_66 ⟨Nat.le_of_ble_eq_true rfl, Nat.le_of_ble_eq_true rfl⟩ ⟨rfl, rfl⟩ ⟨Nat.zero_le _, Nat.zero_le _⟩ dX10_told_133 rfl [] rfl (Nat.le_of_ble_eq_true rfl) ?_
        refine jv_z_eq 136 X dX10_told_136 154 (by decide) (fun c_10 => ?_) (fun c_10 => ?_)
        · have hz : ¬ (y - 20) ≤ 7 := fun zq => c_10 ⟨(nx_le (a := 0) (b := (y - 20)) rfl rfl (by omega) (by omega)).mpr (by omega), (nx_le (a := (y - 20)) (b := 7) rfl rfl (by omega) (by omega)).mpr zq⟩
          refine jv_bipush (v := (-2)) 154 X dX10_told_154 (by decide) ?_
          exact jv_iret 156 X Y rfl dX10_told_156 (now, metAt, metWho, reason, acts, atp, will, fitting, counts, ring, nxt, wins, ways, nextWays) (by simp [toM, cl_1, cl_2, c_1, c_2, c_3, hcy, u_1, u_2, hz]) rfl
        · have hz : (y - 20) ≤ 7 := (nx_le (a := (y - 20)) (b := 7) rfl rfl (by omega) (by omega)).mp c_10.2
          refine jv_aload_n 139 X dX10_told_139 0 rfl ?_
          refine jv_get (v := .ref (a 1)) 140 X gf_X10_7 dX10_told_140 0 rfl rfl ?_
          refine jv_bipush (v := 18) 143 X dX10_told_143 (by decide) ?_
          refine jv_iload_n 145 X dX10_told_145 1 rfl ?_
          refine jv_iadd 146 X dX10_told_146 ?_
          refine jv_norm (x2 := nI (18 + y)) (nx_add2 (a := 18) (b := y) rfl rfl (by omega)) ?_
          refine jv_bipush (v := 20) 147 X dX10_told_147 (by decide) ?_
          refine jv_isub 149 X dX10_told_149 ?_
          refine jv_norm (x2 := nI ((18 + y) - 20)) (nx_sub2 (a := (18 + y)) (b := 20) rfl rfl (by omega)) ?_
          refine jv_iald (f := book) 150 X dX10_told_150 1 rfl (by decide) ((18 + y) - 20) rfl (by omega) ?_
          refine jv_goto 151 X dX10_told_151 156 (by decide) ?_
          exact jv_iret 156 X Y rfl dX10_told_156 (now, metAt, metWho, reason, acts, atp, will, fitting, counts, ring, nxt, wins, ways, nextWays) (by simp [toM, cl_1, cl_2, c_1, c_2, c_3, hcy, u_1, u_2, hz]) rfl
    · obtain ⟨y, hy1, hy2, rfl⟩ := ge_nI (a := 40) (by decide) c_2
      have hcy : (nI y).toNatClampNeg = y := nI_clamp (by omega)
      have u_1 : ¬ 100 ≤ y := fun zq => c_1 ((nx_le (a := 100) (b := y) rfl rfl (by omega) (by omega)).mpr zq)
      refine jv_iload_n 72 X dX10_told_72 1 rfl ?_
      refine jv_bipush (v := 10) 73 X dX10_told_73 (by decide) ?_
      refine jv_idiv 75 X dX10_told_75 (by decide) ?_
      refine jv_norm (x2 := nI (y / 10)) (nx_div (a := y) (b := 10) rfl rfl (by omega) (by omega) (by omega)) ?_
      refine jv_iconst (v := 4) 76 X dX10_told_76 rfl ?_
      refine jv_isub 77 X dX10_told_77 ?_
      refine jv_norm (x2 := nI ((y / 10) - 4)) (nx_sub2 (a := (y / 10)) (b := 4) rfl rfl (by omega)) ?_
      refine jv_istore_n (lv2 := [(2, .int (nI ((y / 10) - 4))), (0, .ref (a 0)), (1, .int (nI y))]) 78 X dX10_told_78 (by decide) rfl ?_
      refine jv_iload_n 79 X dX10_told_79 2 rfl ?_
      refine jv_bipush (v := 10) 80 X dX10_told_80 (by decide) ?_
      refine jv_irem 82 X dX10_told_82 (by decide) ?_
      refine jv_norm (x2 := nI (y % 10)) (nx_rem (a := y) (b := 10) rfl rfl (by omega) (by omega) (by omega)) ?_
      refine jv_istore_n (lv2 := [(3, .int (nI (y % 10))), (2, .int (nI ((y / 10) - 4))), (0, .ref (a 0)), (1, .int (nI y))]) 83 X dX10_told_83 (by decide) rfl ?_
      refine jv_aload_n 84 X dX10_told_84 2 rfl ?_
      refine jv_callW (w1 := bMd E a book book week sights sight signs pad (-6) (-6) reason acts atp will fitting counts ring nxt wins ways nextWays image isKept) 85 X (c_X10_asNow E _ a book now week sights sight signs pad metAt metWho reason acts atp will fitting counts ring nxt wins ways nextWays image isKept) wv_X10_122 ⟨Nat.le_of_ble_eq_true rfl, Nat.le_of_ble_eq_true rfl⟩ ⟨rfl, rfl⟩ ⟨Nat.zero_le _, Nat.zero_le _⟩ dX10_told_85 rfl [] rfl (Nat.le_of_ble_eq_true rfl) 0 rfl rfl ?_
      refine jv_iload_n 88 X dX10_told_88 0 rfl ?_
      refine jv_iconst (v := 3) 89 X dX10_told_89 rfl ?_
      refine jn_icmp_le 90 X dX10_told_90 98 (by decide) (fun c_11 => ?_) (fun c_11 => ?_)
      · have n_11 : (y % 10) ≤ 3 := (nx_le (a := (y % 10)) (b := 3) rfl rfl (by omega) (by omega)).mp c_11
        refine jv_iload_n 98 X dX10_told_98 0 rfl ?_
        refine jv_iconst (v := 3) 99 X dX10_told_99 rfl ?_
        refine jn_icmp_ne 100 X dX10_told_100 111 (by decide) (fun c_12 => ?_) (fun c_12 => ?_)
        · have n_12 : ¬ (y % 10) = 3 := fun zq => c_12 ((nx_eq (a := (y % 10)) (b := 3) rfl rfl (by omega) (by omega)).mpr zq)
          refine jv_aload_n 111 X dX10_told_111 2 rfl ?_
          refine jv_get (v := .ref (a 1)) 112 X gf_X10_7 dX10_told_112 0 rfl rfl ?_
          refine jv_bipush (v := 6) 115 X dX10_told_115 (by decide) ?_
          refine jv_iload_n 117 X dX10_told_117 0 rfl ?_
          refine jv_imul 118 X dX10_told_118 ?_
          refine jv_norm (x2 := nI (6 * (y % 10))) (nx_mul (a := 6) (b := (y % 10)) rfl rfl) ?_
          refine jv_iload_n 119 X dX10_told_119 1 rfl ?_
          refine jv_iadd 120 X dX10_told_120 ?_
          refine jv_norm (x2 := nI ((6 * (y % 10)) + ((y / 10) - 4))) (nx_add2 (a := (6 * (y % 10))) (b := ((y / 10) - 4)) rfl rfl (by omega)) ?_
          refine jv_iald (f := book) 121 X dX10_told_121 1 rfl (by decide) ((6 * (y % 10)) + ((y / 10) - 4)) rfl (by omega) ?_
          exact jv_iret 122 X Y rfl dX10_told_122 (book, (-6), (-6), reason, acts, atp, will, fitting, counts, ring, nxt, wins, ways, nextWays) (by simp [toM, cl_1, cl_2, c_1, c_2, hcy, u_1, c_11, n_11, c_12, n_12]) rfl
        · have n_12 : (y % 10) = 3 := (nx_eq (a := (y % 10)) (b := 3) rfl rfl (by omega) (by omega)).mp c_12
          refine jv_aload_n 103 X dX10_told_103 2 rfl ?_
          refine jv_iload_n 104 X dX10_told_104 1 rfl ?_
          refine jv_callW (w1 := bMd E a book book week sights sight signs pad (-6) (-6) reason acts atp will fitting counts ring nxt wins ways nextWays image isKept) 105 X (c_X10_measureOf E _ a book book week sights sight signs pad (-6) (-6) reason acts atp will fitting counts ring nxt wins ways nextWays image isKept ((y / 10) - 4) (by omega)) wv_X10_90 ⟨Nat.le_of_ble_eq_true rfl, Nat.le_of_ble_eq_true rfl⟩ ⟨rfl, rfl⟩ ⟨Nat.zero_le _, Nat.zero_le _⟩ dX10_told_105 rfl [] rfl (Nat.le_of_ble_eq_true rfl) 0 rfl rfl ?_
          refine jv_goto 108 X dX10_told_108 122 (by decide) ?_
          exact jv_iret 122 X Y rfl dX10_told_122 (book, (-6), (-6), reason, acts, atp, will, fitting, counts, ring, nxt, wins, ways, nextWays) (by simp [toM, cl_1, cl_2, c_1, c_2, hcy, u_1, c_11, n_11, c_12, n_12]) rfl
      · have n_11 : ¬ (y % 10) ≤ 3 := fun zq => c_11 ((nx_le (a := (y % 10)) (b := 3) rfl rfl (by omega) (by omega)).mpr zq)
        refine jv_bipush (v := (-2)) 93 X dX10_told_93 (by decide) ?_
        refine jv_goto 95 X dX10_told_95 122 (by decide) ?_
        exact jv_iret 122 X Y rfl dX10_told_122 (book, (-6), (-6), reason, acts, atp, will, fitting, counts, ring, nxt, wins, ways, nextWays) (by simp [toM, cl_1, cl_2, c_1, c_2, hcy, u_1, c_11, n_11]) rfl
  · obtain ⟨y, hy1, hy2, rfl⟩ := ge_nI (a := 100) (by decide) c_1
    have hcy : (nI y).toNatClampNeg = y := nI_clamp (by omega)
    refine jv_iload_n 6 X dX10_told_6 1 rfl ?_
    refine jv_bipush (v := 10) 7 X dX10_told_7 (by decide) ?_
    refine jv_idiv 9 X dX10_told_9 (by decide) ?_
    refine jv_norm (x2 := nI (y / 10)) (nx_div (a := y) (b := 10) rfl rfl (by omega) (by omega) (by omega)) ?_
    refine jv_bipush (v := 10) 10 X dX10_told_10 (by decide) ?_
    refine jv_isub 12 X dX10_told_12 ?_
    refine jv_norm (x2 := nI ((y / 10) - 10)) (nx_sub2 (a := (y / 10)) (b := 10) rfl rfl (by omega)) ?_
    refine jv_istore_n (lv2 := [(2, .int (nI ((y / 10) - 10))), (0, .ref (a 0)), (1, .int (nI y))]) 13 X dX10_told_13 (by decide) rfl ?_
    refine jv_iload_n 14 X dX10_told_14 2 rfl ?_
    refine jv_bipush (v := 10) 15 X dX10_told_15 (by decide) ?_
    refine jv_irem 17 X dX10_told_17 (by decide) ?_
    refine jv_norm (x2 := nI (y % 10)) (nx_rem (a := y) (b := 10) rfl rfl (by omega) (by omega) (by omega)) ?_
    refine jv_istore_n (lv2 := [(3, .int (nI (y % 10))), (2, .int (nI ((y / 10) - 10))), (0, .ref (a 0)), (1, .int (nI y))]) 18 X dX10_told_18 (by decide) rfl ?_
    refine jv_iload_n 19 X dX10_told_19 1 rfl ?_
    refine jv_fun 20 X (c_X10_isBridge E _ (nI ((y / 10) - 10))) ws_X10_69 ⟨Nat.le_of_ble_eq_true rfl, Nat.le_of_ble_eq_true rfl⟩ ⟨rfl, rfl⟩ ⟨Nat.zero_le _, Nat.zero_le _⟩ dX10_told_20 rfl [] rfl (Nat.le_of_ble_eq_true rfl) ?_
    refine jv_z_eq 23 X dX10_told_23 31 (by decide) (fun c_13 => ?_) (fun c_13 => ?_)
    · have hz : ¬ ((y / 10) - 10) ≤ 3 := fun zq => c_13 ⟨(nx_le (a := 0) (b := ((y / 10) - 10)) rfl rfl (by omega) (by omega)).mpr (by omega), (nx_le (a := ((y / 10) - 10)) (b := 3) rfl rfl (by omega) (by omega)).mpr zq⟩
      refine jv_bipush (v := (-2)) 31 X dX10_told_31 (by decide) ?_
      refine jv_goto 33 X dX10_told_33 65 (by decide) ?_
      exact jv_iret 65 X Y rfl dX10_told_65 (now, metAt, metWho, reason, acts, atp, will, fitting, counts, ring, nxt, wins, ways, nextWays) (by simp [toM, cl_1, cl_2, c_1, hcy, hz]) rfl
    · have hz : ((y / 10) - 10) ≤ 3 := (nx_le (a := ((y / 10) - 10)) (b := 3) rfl rfl (by omega) (by omega)).mp c_13.2
      refine jv_iload_n 26 X dX10_told_26 0 rfl ?_
      refine jv_iconst (v := 2) 27 X dX10_told_27 rfl ?_
      refine jn_icmp_le 28 X dX10_told_28 36 (by decide) (fun c_14 => ?_) (fun c_14 => ?_)
      · have n_14 : (y % 10) ≤ 2 := (nx_le (a := (y % 10)) (b := 2) rfl rfl (by omega) (by omega)).mp c_14
        refine jv_iload_n 36 X dX10_told_36 0 rfl ?_
        refine jn_if_ne 37 X dX10_told_37 52 (by decide) (fun c_15 => ?_) (fun c_15 => ?_)
        · have n_15 : ¬ (y % 10) = 0 := fun zq => c_15 ((nx_eq (a := (y % 10)) (b := 0) rfl rfl (by omega) (by omega)).mpr zq)
          refine jv_aload_n 52 X dX10_told_52 2 rfl ?_
          refine jv_get (v := .ref (a 1)) 53 X gf_X10_7 dX10_told_53 0 rfl rfl ?_
          refine jv_bipush (v := 22) 56 X dX10_told_56 (by decide) ?_
          refine jv_iconst (v := 4) 58 X dX10_told_58 rfl ?_
          refine jv_iload_n 59 X dX10_told_59 0 rfl ?_
          refine jv_imul 60 X dX10_told_60 ?_
          refine jv_norm (x2 := nI (4 * (y % 10))) (nx_mul (a := 4) (b := (y % 10)) rfl rfl) ?_
          refine jv_iadd 61 X dX10_told_61 ?_
          refine jv_norm (x2 := nI (22 + (4 * (y % 10)))) (nx_add2 (a := 22) (b := (4 * (y % 10))) rfl rfl (by omega)) ?_
          refine jv_iload_n 62 X dX10_told_62 1 rfl ?_
          refine jv_iadd 63 X dX10_told_63 ?_
          refine jv_norm (x2 := nI ((22 + (4 * (y % 10))) + ((y / 10) - 10))) (nx_add2 (a := (22 + (4 * (y % 10)))) (b := ((y / 10) - 10)) rfl rfl (by omega)) ?_
          refine jv_iald (f := book) 64 X dX10_told_64 1 rfl (by decide) ((22 + (4 * (y % 10))) + ((y / 10) - 10)) rfl (by omega) ?_
          exact jv_iret 65 X Y rfl dX10_told_65 (now, metAt, metWho, reason, acts, atp, will, fitting, counts, ring, nxt, wins, ways, nextWays) (by simp [toM, cl_1, cl_2, c_1, hcy, hz, c_14, n_14, c_15, n_15]) rfl
        · have n_15 : (y % 10) = 0 := (nx_eq (a := (y % 10)) (b := 0) rfl rfl (by omega) (by omega)).mp c_15
          refine jv_aload_n 40 X dX10_told_40 2 rfl ?_
          refine jv_get (v := .ref (a 1)) 41 X gf_X10_7 dX10_told_41 0 rfl rfl ?_
          refine jv_bipush (v := 34) 44 X dX10_told_44 (by decide) ?_
          refine jv_iload_n 46 X dX10_told_46 1 rfl ?_
          refine jv_iadd 47 X dX10_told_47 ?_
          refine jv_norm (x2 := nI (34 + ((y / 10) - 10))) (nx_add2 (a := 34) (b := ((y / 10) - 10)) rfl rfl (by omega)) ?_
          refine jv_iald (f := book) 48 X dX10_told_48 1 rfl (by decide) (34 + ((y / 10) - 10)) rfl (by omega) ?_
          refine jv_goto 49 X dX10_told_49 65 (by decide) ?_
          exact jv_iret 65 X Y rfl dX10_told_65 (now, metAt, metWho, reason, acts, atp, will, fitting, counts, ring, nxt, wins, ways, nextWays) (by simp [toM, cl_1, cl_2, c_1, hcy, hz, c_14, n_14, c_15, n_15]) rfl
      · have n_14 : ¬ (y % 10) ≤ 2 := fun zq => c_14 ((nx_le (a := (y % 10)) (b := 2) rfl rfl (by omega) (by omega)).mpr zq)
        refine jv_bipush (v := (-2)) 31 X dX10_told_31 (by decide) ?_
        refine jv_goto 33 X dX10_told_33 65 (by decide) ?_
        exact jv_iret 65 X Y rfl dX10_told_65 (now, metAt, metWho, reason, acts, atp, will, fitting, counts, ring, nxt, wins, ways, nextWays) (by simp [toM, cl_1, cl_2, c_1, hcy, hz, c_14, n_14]) rfl
