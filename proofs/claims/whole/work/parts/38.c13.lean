theorem bd_le {le mo : Nat → Int32} : (bdF le mo).1 ≤ 60 := by
  have hs : ∀ (d : Nat) (x x2 : Nat × Int32), x.1 < d → bdS le mo d x = .inr x2 → x2.1 < d + 1 := by
    intro d x x2 h e
    unfold bdS at e
    split at e
    · cases e
    · cases e
      split
      · exact Nat.lt_succ_self d
      · omega
  have h0 : ((0, mlF le mo 0) : Nat × Int32).1 < 1 := Nat.zero_lt_one
  unfold bdF
  cases e : itE (bdS le mo) 60 1 (0, mlF le mo 0) with
  | inl y =>
    obtain ⟨j, s2, h1, h2, h3, h4⟩ := itE_invl (P := fun d x => x.1 < d) hs 60 1 _ y h0 e
    unfold bdS at h4
    split at h4
    · cases h4
      show s2.1 ≤ 60
      omega
    · cases h4
  | inr y =>
    have := itE_inv (P := fun d x => x.1 < d) hs 60 1 _ y h0 e
    show y.1 ≤ 60
    omega
theorem c_X9_fits (E : EE) (l : Launch) (g : Nat → Nat → Nat) (r : Rl) (lw : Lw) (i : Int32) (hsk : r.2.2.1 = nI r.2.2.1.toNatClampNeg ∧ r.2.2.1.toNatClampNeg ≤ 8) : CG E l yX9_fits cX9_fits 2 (some .int) { frames := 3, cells := 0, slots := 0, locals := 68 } [.ref (g 0 0), .int i] (wB [bLR g, tRl E (g 1) r, tLw E (g 10) lw]) noB (fun _ : Lw => some (.int (if i = -1 then hmF (loF r.2.2.2.2.2.2.2.2.2.2.2.1 r.2.2.2.2.2.2.2.2.2.2.2.2 r.2.2.1.toNatClampNeg) (moF r.2.2.2.2.2.2.2.2.2.2.2.1 r.2.2.2.2.2.2.2.2.2.2.2.2 r.2.2.1.toNatClampNeg) else if 0 ≤ i then laF (loF r.2.2.2.2.2.2.2.2.2.2.2.1 r.2.2.2.2.2.2.2.2.2.2.2.2 r.2.2.1.toNatClampNeg) (moF r.2.2.2.2.2.2.2.2.2.2.2.1 r.2.2.2.2.2.2.2.2.2.2.2.2 r.2.2.1.toNatClampNeg) i.toNatClampNeg else -6))) (fun u : Lw => wB [bLR g, tRl E (g 1) r, tLw E (g 10) u]) := by
  obtain ⟨least, most, rise⟩ := lw
  refine CG.intro (by decide) (Nat.le_of_ble_eq_true rfl) (fun K X Y _ _ _ => ?_)
  refine jv_aload_n 0 X dX9_fits_0 0 rfl ?_
  refine jv_get (v := .ref (g 10 0)) 1 X gf_X9_50 dX9_fits_1 0 rfl rfl ?_
  refine jv_aload_n 4 X dX9_fits_4 0 rfl ?_
  refine jv_get (v := .ref (g 1 0)) 5 X gf_X9_10 dX9_fits_5 0 rfl rfl ?_
  refine jv_callB (wl2 := [bLR g, tRl E (g 1) r, bLw E (g 10) (loF r.2.2.2.2.2.2.2.2.2.2.2.1 r.2.2.2.2.2.2.2.2.2.2.2.2 r.2.2.1.toNatClampNeg) (moF r.2.2.2.2.2.2.2.2.2.2.2.1 r.2.2.2.2.2.2.2.2.2.2.2.2 r.2.2.1.toNatClampNeg) rise]) 8 X (c_X3_fit E _ (g 10) least most rise (g 1) r hsk) wv_X9_228 ⟨Nat.le_of_ble_eq_true rfl, Nat.le_of_ble_eq_true rfl⟩ ⟨rfl, rfl⟩ ⟨Nat.zero_le _, Nat.zero_le _⟩ dX9_fits_8 rfl [] rfl (Nat.le_of_ble_eq_true rfl) [2, 1] rfl rfl [[(g 10 0), (g 10 1), (g 10 2), (g 10 3)], [(g 1 0), (g 1 1), (g 1 2), (g 1 3), (g 1 4), (g 1 5), (g 1 6), (g 1 7), (g 1 8), (g 1 9), (g 1 10)]] rfl rfl 2 rfl rfl rfl rfl ?_
  refine jv_iload_n 11 X dX9_fits_11 1 rfl ?_
  refine jv_iconst (v := (-1)) 12 X dX9_fits_12 rfl ?_
  refine jn_icmp_ne 13 X dX9_fits_13 26 (by decide) (fun c_1 => ?_) (fun c_1 => ?_)
  · refine jv_aload_n 26 X dX9_fits_26 0 rfl ?_
    refine jv_get (v := .ref (g 10 0)) 27 X gf_X9_50 dX9_fits_27 0 rfl rfl ?_
    refine jv_iload_n 30 X dX9_fits_30 1 rfl ?_
    refine jv_callB1 (wl2 := [bLR g, tRl E (g 1) r, bLw E (g 10) (loF r.2.2.2.2.2.2.2.2.2.2.2.1 r.2.2.2.2.2.2.2.2.2.2.2.2 r.2.2.1.toNatClampNeg) (moF r.2.2.2.2.2.2.2.2.2.2.2.1 r.2.2.2.2.2.2.2.2.2.2.2.2 r.2.2.1.toNatClampNeg) rise]) 31 X (c_X3_lawAt E _ (g 10) (loF r.2.2.2.2.2.2.2.2.2.2.2.1 r.2.2.2.2.2.2.2.2.2.2.2.2 r.2.2.1.toNatClampNeg) (moF r.2.2.2.2.2.2.2.2.2.2.2.1 r.2.2.2.2.2.2.2.2.2.2.2.2 r.2.2.1.toNatClampNeg) rise i) wv_X9_234 ⟨Nat.le_of_ble_eq_true rfl, Nat.le_of_ble_eq_true rfl⟩ ⟨rfl, rfl⟩ ⟨Nat.zero_le _, Nat.zero_le _⟩ dX9_fits_31 rfl [] rfl (Nat.le_of_ble_eq_true rfl) 2 rfl [(g 10 0), (g 10 1), (g 10 2), (g 10 3)] rfl rfl rfl rfl rfl ?_
    exact jv_iret 34 X Y rfl dX9_fits_34 ((loF r.2.2.2.2.2.2.2.2.2.2.2.1 r.2.2.2.2.2.2.2.2.2.2.2.2 r.2.2.1.toNatClampNeg), (moF r.2.2.2.2.2.2.2.2.2.2.2.1 r.2.2.2.2.2.2.2.2.2.2.2.2 r.2.2.1.toNatClampNeg), rise) (by simp [lt_nle, -Int32.not_le, c_1]) rfl
  · refine jv_aload_n 16 X dX9_fits_16 0 rfl ?_
    refine jv_get (v := .ref (g 10 0)) 17 X gf_X9_50 dX9_fits_17 0 rfl rfl ?_
    refine jv_callB1 (wl2 := [bLR g, tRl E (g 1) r, bLw E (g 10) (loF r.2.2.2.2.2.2.2.2.2.2.2.1 r.2.2.2.2.2.2.2.2.2.2.2.2 r.2.2.1.toNatClampNeg) (moF r.2.2.2.2.2.2.2.2.2.2.2.1 r.2.2.2.2.2.2.2.2.2.2.2.2 r.2.2.1.toNatClampNeg) rise]) 20 X (c_X3_howMany E _ (g 10) (loF r.2.2.2.2.2.2.2.2.2.2.2.1 r.2.2.2.2.2.2.2.2.2.2.2.2 r.2.2.1.toNatClampNeg) (moF r.2.2.2.2.2.2.2.2.2.2.2.1 r.2.2.2.2.2.2.2.2.2.2.2.2 r.2.2.1.toNatClampNeg) rise) wv_X9_231 ⟨Nat.le_of_ble_eq_true rfl, Nat.le_of_ble_eq_true rfl⟩ ⟨rfl, rfl⟩ ⟨Nat.zero_le _, Nat.zero_le _⟩ dX9_fits_20 rfl [] rfl (Nat.le_of_ble_eq_true rfl) 2 rfl [(g 10 0), (g 10 1), (g 10 2), (g 10 3)] rfl rfl rfl rfl rfl ?_
    refine jv_goto 23 X dX9_fits_23 34 (by decide) ?_
    exact jv_iret 34 X Y rfl dX9_fits_34 ((loF r.2.2.2.2.2.2.2.2.2.2.2.1 r.2.2.2.2.2.2.2.2.2.2.2.2 r.2.2.1.toNatClampNeg), (moF r.2.2.2.2.2.2.2.2.2.2.2.1 r.2.2.2.2.2.2.2.2.2.2.2.2 r.2.2.1.toNatClampNeg), rise) (by simp [lt_nle, -Int32.not_le, c_1]) rfl
theorem c_X9_ask (E : EE) (l : Launch) (g : Nat → Nat → Nat) (r : Rl) (lw : Lw) (what : Int32) (hsk : r.2.2.1 = nI r.2.2.1.toNatClampNeg ∧ r.2.2.1.toNatClampNeg ≤ 8) : CG E l yX9_ask cX9_ask 3 (some .int) { frames := 4, cells := 0, slots := 0, locals := 94 } [.ref (g 0 0), .int what] (wB [bLR g, tRl E (g 1) r, tLw E (g 10) lw]) noB (fun _ : Lw => some (.int (if 0 ≤ what ∧ what ≤ 1 then (if hmF (loF r.2.2.2.2.2.2.2.2.2.2.2.1 r.2.2.2.2.2.2.2.2.2.2.2.2 r.2.2.1.toNatClampNeg) (moF r.2.2.2.2.2.2.2.2.2.2.2.1 r.2.2.2.2.2.2.2.2.2.2.2.2 r.2.2.1.toNatClampNeg) = 0 then -6 else if what = 0 then nI (bdF (loF r.2.2.2.2.2.2.2.2.2.2.2.1 r.2.2.2.2.2.2.2.2.2.2.2.2 r.2.2.1.toNatClampNeg) (moF r.2.2.2.2.2.2.2.2.2.2.2.1 r.2.2.2.2.2.2.2.2.2.2.2.2 r.2.2.1.toNatClampNeg)).1 else mlF (loF r.2.2.2.2.2.2.2.2.2.2.2.1 r.2.2.2.2.2.2.2.2.2.2.2.2 r.2.2.1.toNatClampNeg) (moF r.2.2.2.2.2.2.2.2.2.2.2.1 r.2.2.2.2.2.2.2.2.2.2.2.2 r.2.2.1.toNatClampNeg) (bdF (loF r.2.2.2.2.2.2.2.2.2.2.2.1 r.2.2.2.2.2.2.2.2.2.2.2.2 r.2.2.1.toNatClampNeg) (moF r.2.2.2.2.2.2.2.2.2.2.2.1 r.2.2.2.2.2.2.2.2.2.2.2.2 r.2.2.1.toNatClampNeg)).1) else -2))) (fun u : Lw => wB [bLR g, tRl E (g 1) r, tLw E (g 10) u]) := by
  obtain ⟨least, most, rise⟩ := lw
  refine CG.intro (by decide) (Nat.le_of_ble_eq_true rfl) (fun K X Y _ _ _ => ?_)
  refine jv_iload_n 0 X dX9_ask_0 1 rfl ?_
  refine jv_iconst (v := 0) 1 X dX9_ask_1 rfl ?_
  refine jv_iconst (v := 1) 2 X dX9_ask_2 rfl ?_
  refine jv_fun 3 X (c_X9_within E _ what 0 1) ws_X9_75 ⟨Nat.le_of_ble_eq_true rfl, Nat.le_of_ble_eq_true rfl⟩ ⟨rfl, rfl⟩ ⟨Nat.zero_le _, Nat.zero_le _⟩ dX9_ask_3 rfl [] rfl (Nat.le_of_ble_eq_true rfl) ?_
  refine jv_z_ne 6 X dX9_ask_6 12 (by decide) (fun c_1 => ?_) (fun c_1 => ?_)
  · refine jv_aload_n 12 X dX9_ask_12 0 rfl ?_
    refine jv_get (v := .ref (g 10 0)) 13 X gf_X9_50 dX9_ask_13 0 rfl rfl ?_
    refine jv_aload_n 16 X dX9_ask_16 0 rfl ?_
    refine jv_get (v := .ref (g 1 0)) 17 X gf_X9_10 dX9_ask_17 0 rfl rfl ?_
    refine jv_callB (wl2 := [bLR g, tRl E (g 1) r, bLw E (g 10) (loF r.2.2.2.2.2.2.2.2.2.2.2.1 r.2.2.2.2.2.2.2.2.2.2.2.2 r.2.2.1.toNatClampNeg) (moF r.2.2.2.2.2.2.2.2.2.2.2.1 r.2.2.2.2.2.2.2.2.2.2.2.2 r.2.2.1.toNatClampNeg) rise]) 20 X (c_X3_fit E _ (g 10) least most rise (g 1) r hsk) wv_X9_228 ⟨Nat.le_of_ble_eq_true rfl, Nat.le_of_ble_eq_true rfl⟩ ⟨rfl, rfl⟩ ⟨Nat.zero_le _, Nat.zero_le _⟩ dX9_ask_20 rfl [] rfl (Nat.le_of_ble_eq_true rfl) [2, 1] rfl rfl [[(g 10 0), (g 10 1), (g 10 2), (g 10 3)], [(g 1 0), (g 1 1), (g 1 2), (g 1 3), (g 1 4), (g 1 5), (g 1 6), (g 1 7), (g 1 8), (g 1 9), (g 1 10)]] rfl rfl 2 rfl rfl rfl rfl ?_
    refine jv_aload_n 23 X dX9_ask_23 0 rfl ?_
    refine jv_get (v := .ref (g 10 0)) 24 X gf_X9_50 dX9_ask_24 0 rfl rfl ?_
    refine jv_callB1 (wl2 := [bLR g, tRl E (g 1) r, bLw E (g 10) (loF r.2.2.2.2.2.2.2.2.2.2.2.1 r.2.2.2.2.2.2.2.2.2.2.2.2 r.2.2.1.toNatClampNeg) (moF r.2.2.2.2.2.2.2.2.2.2.2.1 r.2.2.2.2.2.2.2.2.2.2.2.2 r.2.2.1.toNatClampNeg) rise]) 27 X (c_X3_howMany E _ (g 10) (loF r.2.2.2.2.2.2.2.2.2.2.2.1 r.2.2.2.2.2.2.2.2.2.2.2.2 r.2.2.1.toNatClampNeg) (moF r.2.2.2.2.2.2.2.2.2.2.2.1 r.2.2.2.2.2.2.2.2.2.2.2.2 r.2.2.1.toNatClampNeg) rise) wv_X9_231 ⟨Nat.le_of_ble_eq_true rfl, Nat.le_of_ble_eq_true rfl⟩ ⟨rfl, rfl⟩ ⟨Nat.zero_le _, Nat.zero_le _⟩ dX9_ask_27 rfl [] rfl (Nat.le_of_ble_eq_true rfl) 2 rfl [(g 10 0), (g 10 1), (g 10 2), (g 10 3)] rfl rfl rfl rfl rfl ?_
    refine jn_if_ne 30 X dX9_ask_30 36 (by decide) (fun c_2 => ?_) (fun c_2 => ?_)
    · refine jv_aload_n 36 X dX9_ask_36 0 rfl ?_
      refine jv_get (v := .ref (g 10 0)) 37 X gf_X9_50 dX9_ask_37 0 rfl rfl ?_
      refine jv_callB1 (wl2 := [bLR g, tRl E (g 1) r, bLw E (g 10) (loF r.2.2.2.2.2.2.2.2.2.2.2.1 r.2.2.2.2.2.2.2.2.2.2.2.2 r.2.2.1.toNatClampNeg) (moF r.2.2.2.2.2.2.2.2.2.2.2.1 r.2.2.2.2.2.2.2.2.2.2.2.2 r.2.2.1.toNatClampNeg) ((mlI (loF r.2.2.2.2.2.2.2.2.2.2.2.1 r.2.2.2.2.2.2.2.2.2.2.2.2 r.2.2.1.toNatClampNeg) (moF r.2.2.2.2.2.2.2.2.2.2.2.1 r.2.2.2.2.2.2.2.2.2.2.2.2 r.2.2.1.toNatClampNeg) (bdF (loF r.2.2.2.2.2.2.2.2.2.2.2.1 r.2.2.2.2.2.2.2.2.2.2.2.2 r.2.2.1.toNatClampNeg) (moF r.2.2.2.2.2.2.2.2.2.2.2.1 r.2.2.2.2.2.2.2.2.2.2.2.2 r.2.2.1.toNatClampNeg)).2 19).2.2)]) 40 X (c_X3_bestDay E _ (g 10) (loF r.2.2.2.2.2.2.2.2.2.2.2.1 r.2.2.2.2.2.2.2.2.2.2.2.2 r.2.2.1.toNatClampNeg) (moF r.2.2.2.2.2.2.2.2.2.2.2.1 r.2.2.2.2.2.2.2.2.2.2.2.2 r.2.2.1.toNatClampNeg) rise) wv_X9_237 ⟨Nat.le_of_ble_eq_true rfl, Nat.le_of_ble_eq_true rfl⟩ ⟨rfl, rfl⟩ ⟨Nat.zero_le _, Nat.zero_le _⟩ dX9_ask_40 rfl [] rfl (Nat.le_of_ble_eq_true rfl) 2 rfl [(g 10 0), (g 10 1), (g 10 2), (g 10 3)] rfl rfl rfl rfl rfl ?_
      refine jv_istore_n (lv2 := [(2, .int (nI ((bdF (loF r.2.2.2.2.2.2.2.2.2.2.2.1 r.2.2.2.2.2.2.2.2.2.2.2.2 r.2.2.1.toNatClampNeg) (moF r.2.2.2.2.2.2.2.2.2.2.2.1 r.2.2.2.2.2.2.2.2.2.2.2.2 r.2.2.1.toNatClampNeg)).1))), (0, .ref (g 0 0)), (1, .int what)]) 43 X dX9_ask_43 (by decide) rfl ?_
      refine jv_iload_n 44 X dX9_ask_44 2 rfl ?_
      refine jn_if_ne 45 X dX9_ask_45 52 (by decide) (fun c_3 => ?_) (fun c_3 => ?_)
      · refine jv_aload_n 52 X dX9_ask_52 1 rfl ?_
        refine jv_get (v := .ref (g 10 0)) 53 X gf_X9_50 dX9_ask_53 0 rfl rfl ?_
        refine jv_iload_n 56 X dX9_ask_56 0 rfl ?_
        refine jv_callB1 (wl2 := [bLR g, tRl E (g 1) r, bLw E (g 10) (loF r.2.2.2.2.2.2.2.2.2.2.2.1 r.2.2.2.2.2.2.2.2.2.2.2.2 r.2.2.1.toNatClampNeg) (moF r.2.2.2.2.2.2.2.2.2.2.2.1 r.2.2.2.2.2.2.2.2.2.2.2.2 r.2.2.1.toNatClampNeg) ((mlI (loF r.2.2.2.2.2.2.2.2.2.2.2.1 r.2.2.2.2.2.2.2.2.2.2.2.2 r.2.2.1.toNatClampNeg) (moF r.2.2.2.2.2.2.2.2.2.2.2.1 r.2.2.2.2.2.2.2.2.2.2.2.2 r.2.2.1.toNatClampNeg) ((bdF (loF r.2.2.2.2.2.2.2.2.2.2.2.1 r.2.2.2.2.2.2.2.2.2.2.2.2 r.2.2.1.toNatClampNeg) (moF r.2.2.2.2.2.2.2.2.2.2.2.1 r.2.2.2.2.2.2.2.2.2.2.2.2 r.2.2.1.toNatClampNeg)).1) 19).2.2)]) 57 X (c_X3_mostLeft E _ (g 10) (loF r.2.2.2.2.2.2.2.2.2.2.2.1 r.2.2.2.2.2.2.2.2.2.2.2.2 r.2.2.1.toNatClampNeg) (moF r.2.2.2.2.2.2.2.2.2.2.2.1 r.2.2.2.2.2.2.2.2.2.2.2.2 r.2.2.1.toNatClampNeg) ((mlI (loF r.2.2.2.2.2.2.2.2.2.2.2.1 r.2.2.2.2.2.2.2.2.2.2.2.2 r.2.2.1.toNatClampNeg) (moF r.2.2.2.2.2.2.2.2.2.2.2.1 r.2.2.2.2.2.2.2.2.2.2.2.2 r.2.2.1.toNatClampNeg) (bdF (loF r.2.2.2.2.2.2.2.2.2.2.2.1 r.2.2.2.2.2.2.2.2.2.2.2.2 r.2.2.1.toNatClampNeg) (moF r.2.2.2.2.2.2.2.2.2.2.2.1 r.2.2.2.2.2.2.2.2.2.2.2.2 r.2.2.1.toNatClampNeg)).2 19).2.2) ((bdF (loF r.2.2.2.2.2.2.2.2.2.2.2.1 r.2.2.2.2.2.2.2.2.2.2.2.2 r.2.2.1.toNatClampNeg) (moF r.2.2.2.2.2.2.2.2.2.2.2.1 r.2.2.2.2.2.2.2.2.2.2.2.2 r.2.2.1.toNatClampNeg)).1) bd_le) wv_X9_240 ⟨Nat.le_of_ble_eq_true rfl, Nat.le_of_ble_eq_true rfl⟩ ⟨rfl, rfl⟩ ⟨Nat.zero_le _, Nat.zero_le _⟩ dX9_ask_57 rfl [] rfl (Nat.le_of_ble_eq_true rfl) 2 rfl [(g 10 0), (g 10 1), (g 10 2), (g 10 3)] rfl rfl rfl rfl rfl ?_
        exact jv_iret 60 X Y rfl dX9_ask_60 ((loF r.2.2.2.2.2.2.2.2.2.2.2.1 r.2.2.2.2.2.2.2.2.2.2.2.2 r.2.2.1.toNatClampNeg), (moF r.2.2.2.2.2.2.2.2.2.2.2.1 r.2.2.2.2.2.2.2.2.2.2.2.2 r.2.2.1.toNatClampNeg), (mlI (loF r.2.2.2.2.2.2.2.2.2.2.2.1 r.2.2.2.2.2.2.2.2.2.2.2.2 r.2.2.1.toNatClampNeg) (moF r.2.2.2.2.2.2.2.2.2.2.2.1 r.2.2.2.2.2.2.2.2.2.2.2.2 r.2.2.1.toNatClampNeg) ((bdF (loF r.2.2.2.2.2.2.2.2.2.2.2.1 r.2.2.2.2.2.2.2.2.2.2.2.2 r.2.2.1.toNatClampNeg) (moF r.2.2.2.2.2.2.2.2.2.2.2.1 r.2.2.2.2.2.2.2.2.2.2.2.2 r.2.2.1.toNatClampNeg)).1) 19).2.2) (by simp [lt_nle, -Int32.not_le, c_1, c_2, c_3]) rfl
      · refine jv_iload_n 48 X dX9_ask_48 0 rfl ?_
        refine jv_goto 49 X dX9_ask_49 60 (by decide) ?_
        exact jv_iret 60 X Y rfl dX9_ask_60 ((loF r.2.2.2.2.2.2.2.2.2.2.2.1 r.2.2.2.2.2.2.2.2.2.2.2.2 r.2.2.1.toNatClampNeg), (moF r.2.2.2.2.2.2.2.2.2.2.2.1 r.2.2.2.2.2.2.2.2.2.2.2.2 r.2.2.1.toNatClampNeg), (mlI (loF r.2.2.2.2.2.2.2.2.2.2.2.1 r.2.2.2.2.2.2.2.2.2.2.2.2 r.2.2.1.toNatClampNeg) (moF r.2.2.2.2.2.2.2.2.2.2.2.1 r.2.2.2.2.2.2.2.2.2.2.2.2 r.2.2.1.toNatClampNeg) (bdF (loF r.2.2.2.2.2.2.2.2.2.2.2.1 r.2.2.2.2.2.2.2.2.2.2.2.2 r.2.2.1.toNatClampNeg) (moF r.2.2.2.2.2.2.2.2.2.2.2.1 r.2.2.2.2.2.2.2.2.2.2.2.2 r.2.2.1.toNatClampNeg)).2 19).2.2) (by simp [lt_nle, -Int32.not_le, c_1, c_2, c_3]) rfl
    · refine jv_bipush (v := (-6)) 33 X dX9_ask_33 (by decide) ?_
      exact jv_iret 35 X Y rfl dX9_ask_35 ((loF r.2.2.2.2.2.2.2.2.2.2.2.1 r.2.2.2.2.2.2.2.2.2.2.2.2 r.2.2.1.toNatClampNeg), (moF r.2.2.2.2.2.2.2.2.2.2.2.1 r.2.2.2.2.2.2.2.2.2.2.2.2 r.2.2.1.toNatClampNeg), rise) (by simp [lt_nle, -Int32.not_le, c_1, c_2]) rfl
  · refine jv_bipush (v := (-2)) 9 X dX9_ask_9 (by decide) ?_
    exact jv_iret 11 X Y rfl dX9_ask_11 (least, most, rise) (by simp [lt_nle, -Int32.not_le, c_1]) rfl
