theorem ctS_le {will : Nat → Int32} {lo hi : Int32} {f t c : Nat} : ctS will lo hi f t c ≤ c + 1 := by unfold ctS; split <;> omega
theorem ctI_le (will : Nat → Int32) (lo hi : Int32) (f : Nat) : ∀ n, ctI will lo hi f n ≤ n
  | 0 => Nat.le_refl 0
  | n + 1 => by
    have h := ctI_le will lo hi f n
    have h2 : ctI will lo hi f (n + 1) ≤ ctI will lo hi f n + 1 := ctS_le
    omega
theorem ctI_all {will : Nat → Int32} {lo hi : Int32} {f : Nat} : ∀ n, (∀ t, t < n → lo ≤ will (f + t) ∧ will (f + t) ≤ hi) → ctI will lo hi f n = n
  | 0, _ => rfl
  | n + 1, h => by
    have h1 := ctI_all n (fun t ht => h t (by omega))
    show ctS will lo hi f n (ctI will lo hi f n) = n + 1
    rw [h1, ctS, if_pos (h n (by omega))]
def fstW (p : Nat → Bool) : Nat → Nat → Nat
  | 0, k => k
  | n + 1, k => if p k = true then k else fstW p n (k + 1)
def dyW (will : Nat → Int32) (m r : Nat) : Nat := fstW (fun w => anyB (dyP will m r w) (m + 1)) 200 0
def ddP (will : Nat → Int32) (m r w dy s : Nat) : Bool := decide (r ≤ ctI will (will dy - nI w + nI s) (will dy - nI w + nI s + nI w) dy (m + 1 - dy))
def ddS (will : Nat → Int32) (m r w dy : Nat) (_ : Unit) : Int32 ⊕ Unit := if anyB (ddP will m r w dy) (w + 1) = true then .inl (nI dy) else .inr ()
def ddM (will : Nat → Int32) (m r w : Nat) : Int32 := match itE (ddS will m r w) (m + 1) 0 () with
  | .inl x => x
  | .inr _ => -6
theorem nI_sub_add (v w s : Nat) (h : s ≤ w) : nI v - nI w + nI s = nI v - nI (w - s) := by
  rw [show nI w = nI (w - s) + nI s by rw [nI_add, Nat.sub_add_cancel h]]
  rw [← Int32.sub_sub, Int32.sub_add_cancel]
theorem lw_le {v w s : Nat} (hv : v ≤ 200) (hw : w ≤ 200) (hs : s ≤ 201) : nI v - nI w + nI s ≤ nI v ↔ s ≤ w := by
  rcases Nat.lt_or_ge w s with q | q
  · have e : nI v - nI w + nI s = nI (v + (s - w)) := by
      rw [show nI s = nI w + nI (s - w) by rw [nI_add, Nat.add_sub_cancel' (by omega)], ← Int32.add_assoc, Int32.sub_add_cancel, nI_add]
    rw [e, nI_leI (by omega) (by omega)]
    omega
  · rw [nI_sub_add v w s q]
    refine ⟨fun _ => q, fun _ => ?_⟩
    rw [Int32.le_iff_toInt_le, pk_sub_toInt (by omega) (by omega), nI_toInt (by omega)]
    omega
theorem min_ix (f : Nat → Nat) : ∀ m, ∃ i, i ≤ m ∧ ∀ j, j ≤ m → f i ≤ f j
  | 0 => ⟨0, Nat.le_refl 0, fun j hj => by rw [show j = 0 by omega]; exact Nat.le_refl _⟩
  | m + 1 => by
    obtain ⟨i, h1, h2⟩ := min_ix f m
    rcases Nat.lt_or_ge (f (m + 1)) (f i) with q | q
    · refine ⟨m + 1, Nat.le_refl _, fun j hj => ?_⟩
      rcases Nat.lt_or_ge j (m + 1) with r | r
      · exact Nat.le_trans (Nat.le_of_lt q) (h2 j (by omega))
      · rw [show j = m + 1 by omega]; exact Nat.le_refl _
    · refine ⟨i, by omega, fun j hj => ?_⟩
      rcases Nat.lt_or_ge j (m + 1) with r | r
      · exact h2 j (by omega)
      · rw [show j = m + 1 by omega]; exact q
theorem dy_199 {will : Nat → Int32} (hw : ∀ i, inOK (will i)) {m r : Nat} (hr : r ≤ m + 1) : anyB (dyP will m r 199) (m + 1) = true := by
  obtain ⟨i, h1, h2⟩ := min_ix (fun j => (will j).toNatClampNeg) m
  refine anyB_iff.mpr ⟨i, by omega, decide_eq_true ?_⟩
  rw [ctI_all]
  · exact hr
  · intro t ht
    have a1 := hw i
    have a2 := hw (0 + t)
    have a3 := h2 (0 + t) (by omega)
    rw [a1.1, a2.1, nI_add]
    exact ⟨nI_le a3 (by have := a2.2.2; omega), nI_le (by have := a2.2.2; have := a1.2.1; omega) (by have := a1.2.2; omega)⟩
theorem zI_nz {P : Prop} [Decidable P] {x : Int32} (h : x = zI P) (hx : ¬ x = 0) : P := Classical.byContradiction fun z => hx (h.trans (zI_f z))
theorem c_X10_days (E : EE) (l : Launch) (a : Nat → Nat) (book : Nat → Int32) (now : Nat → Int32) (week : Nat → Int32) (sights : Int32) (sight : Nat → Int32) (signs : Int32) (pad : Nat → Int32) (metAt : Int32) (metWho : Int32) (reason : Int32) (acts : Int32) (atp : Int32) (will : Nat → Int32) (fitting : Nat → Int32) (counts : Nat → Int32) (ring : Nat → Int32) (nxt : Nat → Int32) (wins : Nat → Int32) (ways : Nat → Int64) (nextWays : Nat → Int64) (image : Nat → Int32) (isKept : Nat → Int32) (m : Int32) (r : Int32) (what : Int32) (hD : dyOK book) (hin : inOK (book 38)) : CG E l yX10_days cX10_days 8 (some .int) { frames := 2, cells := 0, slots := 0, locals := 48 } [.ref (a 0), .int m, .int r, .int what] (bMd E a book now week sights sight signs pad metAt metWho reason acts atp will fitting counts ring nxt wins ways nextWays image isKept) noB (fun _ : ScrM => some (.int (if (0 ≤ m ∧ m ≤ 60) ∧ (1 ≤ r ∧ r ≤ 10) ∧ r ≤ m + 1 ∧ (0 ≤ what ∧ what ≤ 1) then (if what = 0 then nI (dyW (wlF week (book 38) (book 39).toNatClampNeg) m.toNatClampNeg r.toNatClampNeg) else ddM (wlF week (book 38) (book 39).toNatClampNeg) m.toNatClampNeg r.toNatClampNeg (dyW (wlF week (book 38) (book 39).toNatClampNeg) m.toNatClampNeg r.toNatClampNeg)) else -2))) (fun u : ScrM => bMd E a book u.1 week sights sight signs pad u.2.1 u.2.2.1 u.2.2.2.1 u.2.2.2.2.1 u.2.2.2.2.2.1 u.2.2.2.2.2.2.1 u.2.2.2.2.2.2.2.1 u.2.2.2.2.2.2.2.2.1 u.2.2.2.2.2.2.2.2.2.1 u.2.2.2.2.2.2.2.2.2.2.1 u.2.2.2.2.2.2.2.2.2.2.2.1 u.2.2.2.2.2.2.2.2.2.2.2.2.1 u.2.2.2.2.2.2.2.2.2.2.2.2.2 image isKept) := by
  refine CG.intro (by decide) (Nat.le_of_ble_eq_true rfl) (fun K X Y _ _ _ => ?_)
  refine jv_iload_n 0 X dX10_days_0 1 rfl ?_
  refine jv_iconst (v := 0) 1 X dX10_days_1 rfl ?_
  refine jv_bipush (v := 60) 2 X dX10_days_2 (by decide) ?_
  refine jv_fun 4 X (c_X10_in E _ m 0 60) ws_X10_57 ⟨Nat.le_of_ble_eq_true rfl, Nat.le_of_ble_eq_true rfl⟩ ⟨rfl, rfl⟩ ⟨Nat.zero_le _, Nat.zero_le _⟩ dX10_days_4 rfl [] rfl (Nat.le_of_ble_eq_true rfl) ?_
  refine jv_z_eq 7 X dX10_days_7 36 (by decide) (fun c_1 => ?_) (fun c_1 => ?_)
  · refine jv_bipush (v := (-2)) 36 X dX10_days_36 (by decide) ?_
    exact jv_iret 38 X Y rfl dX10_days_38 (now, metAt, metWho, reason, acts, atp, will, fitting, counts, ring, nxt, wins, ways, nextWays) (by simp [nI_1, lt_nle, -Int32.not_le, c_1]) rfl
  · obtain ⟨jm, h1jm, h2jm, rfl⟩ := nx_in (a := 0) (b := 60) rfl rfl (by decide) (by decide) c_1
    have hcjm : (nI jm).toNatClampNeg = jm := nI_clamp (by omega)
    refine jv_iload_n 10 X dX10_days_10 2 rfl ?_
    refine jv_iconst (v := 1) 11 X dX10_days_11 rfl ?_
    refine jv_bipush (v := 10) 12 X dX10_days_12 (by decide) ?_
    refine jv_fun 14 X (c_X10_in E _ r 1 10) ws_X10_57 ⟨Nat.le_of_ble_eq_true rfl, Nat.le_of_ble_eq_true rfl⟩ ⟨rfl, rfl⟩ ⟨Nat.zero_le _, Nat.zero_le _⟩ dX10_days_14 rfl [] rfl (Nat.le_of_ble_eq_true rfl) ?_
    refine jv_z_eq 17 X dX10_days_17 36 (by decide) (fun c_2 => ?_) (fun c_2 => ?_)
    · refine jv_bipush (v := (-2)) 36 X dX10_days_36 (by decide) ?_
      exact jv_iret 38 X Y rfl dX10_days_38 (now, metAt, metWho, reason, acts, atp, will, fitting, counts, ring, nxt, wins, ways, nextWays) (by simp [nI_1, lt_nle, -Int32.not_le, c_1, hcjm, c_2]) rfl
    · obtain ⟨jr, h1jr, h2jr, rfl⟩ := nx_in (a := 1) (b := 10) rfl rfl (by decide) (by decide) c_2
      have hcjr : (nI jr).toNatClampNeg = jr := nI_clamp (by omega)
      refine jv_iload_n 20 X dX10_days_20 2 rfl ?_
      refine jv_iload_n 21 X dX10_days_21 1 rfl ?_
      refine jv_iconst (v := 1) 22 X dX10_days_22 rfl ?_
      refine jv_iadd 23 X dX10_days_23 ?_
      refine jv_norm (x2 := nI (jm + 1)) (nx_add2 (a := jm) (b := 1) rfl rfl (by omega)) ?_
      refine jn_icmp_gt 24 X dX10_days_24 36 (by decide) (fun c_3 => ?_) (fun c_3 => ?_)
      · have n_3 : ¬ jr ≤ (jm + 1) := fun zq => c_3 ((nx_le (a := jr) (b := (jm + 1)) rfl rfl (by omega) (by omega)).mpr zq)
        refine jv_bipush (v := (-2)) 36 X dX10_days_36 (by decide) ?_
        exact jv_iret 38 X Y rfl dX10_days_38 (now, metAt, metWho, reason, acts, atp, will, fitting, counts, ring, nxt, wins, ways, nextWays) (by simp [nI_1, lt_nle, -Int32.not_le, c_1, hcjm, c_2, hcjr, c_3, n_3]) rfl
      · have n_3 : jr ≤ (jm + 1) := (nx_le (a := jr) (b := (jm + 1)) rfl rfl (by omega) (by omega)).mp c_3
        refine jv_iload_n 27 X dX10_days_27 3 rfl ?_
        refine jv_iconst (v := 0) 28 X dX10_days_28 rfl ?_
        refine jv_iconst (v := 1) 29 X dX10_days_29 rfl ?_
        refine jv_fun 30 X (c_X10_in E _ what 0 1) ws_X10_57 ⟨Nat.le_of_ble_eq_true rfl, Nat.le_of_ble_eq_true rfl⟩ ⟨rfl, rfl⟩ ⟨Nat.zero_le _, Nat.zero_le _⟩ dX10_days_30 rfl [] rfl (Nat.le_of_ble_eq_true rfl) ?_
        refine jv_z_ne 33 X dX10_days_33 39 (by decide) (fun c_4 => ?_) (fun c_4 => ?_)
        · refine jv_aload_n 39 X dX10_days_39 0 rfl ?_
          refine jv_callW (w1 := bMd E a book now week sights sight signs pad metAt metWho reason acts atp (wlF week (book 38) ((book 39).toNatClampNeg)) fitting counts ring nxt wins ways nextWays image isKept) 40 X (c_X10_layWill E _ a book now week sights sight signs pad metAt metWho reason acts atp will fitting counts ring nxt wins ways nextWays image isKept ((book 39).toNatClampNeg) hD.1 hD.2) wv_X10_157 ⟨Nat.le_of_ble_eq_true rfl, Nat.le_of_ble_eq_true rfl⟩ ⟨rfl, rfl⟩ ⟨Nat.zero_le _, Nat.zero_le _⟩ dX10_days_40 rfl [] rfl (Nat.le_of_ble_eq_true rfl) 0 rfl rfl ?_
          refine jv_iconst (v := (-1)) 43 X dX10_days_43 rfl ?_
          refine jv_istore (lv2 := [(4, .int (-1)), (0, .ref (a 0)), (1, .int (nI jm)), (2, .int (nI jr)), (3, .int what)]) 44 X dX10_days_44 (by decide) rfl ?_
          refine jv_iconst (v := 0) 46 X dX10_days_46 rfl ?_
          refine jv_istore (lv2 := [(5, .int 0), (4, .int (-1)), (0, .ref (a 0)), (1, .int (nI jm)), (2, .int (nI jr)), (3, .int what)]) 47 X dX10_days_47 (by decide) rfl ?_
          refine jv_iload 49 X dX10_days_49 0 rfl ?_
          refine jn_if_ne 51 X dX10_days_51 114 (by decide) (fun c_5 => absurd c_5 (by decide)) (fun _ => ?_)
          refine jv_iinc (v := 0) (lv2 := [(4, .int 0), (5, .int 0), (0, .ref (a 0)), (1, .int (nI jm)), (2, .int (nI jr)), (3, .int what)]) 54 X dX10_days_54 1 rfl (by decide) (by decide) rfl ?_
          have lp57 : ∀ (n57 : Nat) (w : Nat), (w ≤ 199) → (fstW (fun w => anyB (dyP (wlF week (book 38) (book 39).toNatClampNeg) jm jr w) (jm + 1)) 200 0 = fstW (fun w => anyB (dyP (wlF week (book 38) (book 39).toNatClampNeg) jm jr w) (jm + 1)) (200 - w) w) → 200 - w < n57 → JV E K 0 0 (bMd E a book now week sights sight signs pad metAt metWho reason acts atp (wlF week (book 38) ((book 39).toNatClampNeg)) fitting counts ring nxt wins ways nextWays image isKept) [(0, .ref (a 0)), (1, .int (nI jm)), (2, .int (nI jr)), (3, .int what), (4, .int (nI w)), (5, .int 0)] 57 [] := by
            intro n57
            induction n57 with
            | zero => intro w hw hI hm; exact absurd hm (Nat.not_lt_zero _)
            | succ n57 ih57 =>
              intro w hw hI hm
              refine jv_iconst (v := 0) 57 X dX10_days_57 rfl ?_
              refine jv_istore (lv2 := [(6, .int 0), (0, .ref (a 0)), (1, .int (nI jm)), (2, .int (nI jr)), (3, .int what), (4, .int (nI w)), (5, .int 0)]) 58 X dX10_days_58 (by decide) rfl ?_
              have lp60 : ∀ (n60 : Nat) (t : Nat) (cn : Int32), (t ≤ jm + 1) → (cn = zI (anyB (dyP (wlF week (book 38) (book 39).toNatClampNeg) jm jr w) t = true)) → jm + 1 - t < n60 → JV E K 0 0 (bMd E a book now week sights sight signs pad metAt metWho reason acts atp (wlF week (book 38) ((book 39).toNatClampNeg)) fitting counts ring nxt wins ways nextWays image isKept) [(0, .ref (a 0)), (1, .int (nI jm)), (2, .int (nI jr)), (3, .int what), (4, .int (nI w)), (5, .int cn), (6, .int (nI t))] 60 [] := by
                intro n60
                induction n60 with
                | zero => intro t cn ht hcn hm; exact absurd hm (Nat.not_lt_zero _)
                | succ n60 ih60 =>
                  intro t cn ht hcn hm
                  refine jv_iload 60 X dX10_days_60 6 rfl ?_
                  refine jv_iload_n 62 X dX10_days_62 1 rfl ?_
                  refine jn_icmp_gt 63 X dX10_days_63 111 (by decide) (fun c_6 => ?_) (fun c_6 => ?_)
                  · have n_6 : ¬ t ≤ jm := fun zq => c_6 ((nx_le (a := t) (b := jm) rfl rfl (by omega) (by omega)).mpr zq)
                    refine jv_goto 111 X dX10_days_111 49 (by decide) ?_
                    refine jv_iload 49 X dX10_days_49 5 rfl ?_
                    refine jn_if_ne 51 X dX10_days_51 114 (by decide) (fun c_7 => ?_) (fun c_7 => ?_)
                    · have hPw : anyB (dyP (wlF week (book 38) (book 39).toNatClampNeg) jm jr w) (jm + 1) = true := by have h9 := zI_nz hcn c_7; rwa [show t = jm + 1 by omega] at h9
                      have hWw : dyW (wlF week (book 38) (book 39).toNatClampNeg) jm jr = w := by rw [dyW, hI, show 200 - w = (200 - (w + 1)) + 1 by omega, fstW, if_pos hPw]
                      refine jv_iload_n 114 X dX10_days_114 3 rfl ?_
                      refine jn_if_ne 115 X dX10_days_115 121 (by decide) (fun c_8 => ?_) (fun c_8 => ?_)
                      · refine jv_iconst (v := 0) 121 X dX10_days_121 rfl ?_
                        refine jv_istore (lv2 := [(6, .int 0), (0, .ref (a 0)), (1, .int (nI jm)), (2, .int (nI jr)), (3, .int what), (4, .int (nI w)), (5, .int cn)]) 122 X dX10_days_122 (by decide) rfl ?_
                        have lp124 : ∀ (n124 : Nat) (dy : Nat), (dy ≤ jm + 1) → (itE (ddS (wlF week (book 38) (book 39).toNatClampNeg) jm jr w) (jm + 1) 0 () = itE (ddS (wlF week (book 38) (book 39).toNatClampNeg) jm jr w) (jm + 1 - dy) dy ()) → jm + 1 - dy < n124 → JV E K 0 0 (bMd E a book now week sights sight signs pad metAt metWho reason acts atp (wlF week (book 38) ((book 39).toNatClampNeg)) fitting counts ring nxt wins ways nextWays image isKept) [(0, .ref (a 0)), (1, .int (nI jm)), (2, .int (nI jr)), (3, .int what), (4, .int (nI w)), (6, .int (nI dy))] 124 [] := by
                          intro n124
                          induction n124 with
                          | zero => intro dy hdy hJ hm; exact absurd hm (Nat.not_lt_zero _)
                          | succ n124 ih124 =>
                            intro dy hdy hJ hm
                            refine jv_iload 124 X dX10_days_124 5 rfl ?_
                            refine jv_iload_n 126 X dX10_days_126 1 rfl ?_
                            refine jn_icmp_gt 127 X dX10_days_127 187 (by decide) (fun c_9 => ?_) (fun c_9 => ?_)
                            · have n_9 : ¬ dy ≤ jm := fun zq => c_9 ((nx_le (a := dy) (b := jm) rfl rfl (by omega) (by omega)).mpr zq)
                              refine jv_bipush (v := (-6)) 187 X dX10_days_187 (by decide) ?_
                              have hq : ddM (wlF week (book 38) (book 39).toNatClampNeg) jm jr w = -6 := by unfold ddM; rw [hJ, show jm + 1 - dy = 0 by omega]; rfl
                              exact jv_iret 189 X Y rfl dX10_days_189 (now, metAt, metWho, reason, acts, atp, (wlF week (book 38) ((book 39).toNatClampNeg)), fitting, counts, ring, nxt, wins, ways, nextWays) (by simp [hWw, hq, nI_1, c_1, hcjm, c_2, hcjr, c_3, c_4, c_8]) rfl
                            · have n_9 : dy ≤ jm := (nx_le (a := dy) (b := jm) rfl rfl (by omega) (by omega)).mp c_9
                              refine jv_aload_n 130 X dX10_days_130 0 rfl ?_
                              refine jv_get (v := .ref (a 6)) 131 X gf_X10_25 dX10_days_131 0 rfl rfl ?_
                              refine jv_iload 134 X dX10_days_134 5 rfl ?_
                              refine jv_iald (f := (wlF week (book 38) ((book 39).toNatClampNeg))) 136 X dX10_days_136 6 rfl (by decide) dy rfl (by omega) ?_
                              refine jv_iload 137 X dX10_days_137 4 rfl ?_
                              refine jv_isub 139 X dX10_days_139 ?_
                              refine jv_istore (lv2 := [(7, .int (((wlF week (book 38) ((book 39).toNatClampNeg)) dy) - (nI w))), (0, .ref (a 0)), (1, .int (nI jm)), (2, .int (nI jr)), (3, .int what), (4, .int (nI w)), (6, .int (nI dy))]) 140 X dX10_days_140 (by decide) rfl ?_
                              have lp142 : ∀ (n142 : Nat) (s : Nat) (lw : Int32), (s ≤ w + 1) → (lw = ((wlF week (book 38) (book 39).toNatClampNeg) dy - nI w + nI s)) → (¬ anyB (ddP (wlF week (book 38) (book 39).toNatClampNeg) jm jr w dy) s = true) → w + 1 - s < n142 → JV E K 0 0 (bMd E a book now week sights sight signs pad metAt metWho reason acts atp (wlF week (book 38) ((book 39).toNatClampNeg)) fitting counts ring nxt wins ways nextWays image isKept) [(0, .ref (a 0)), (1, .int (nI jm)), (2, .int (nI jr)), (3, .int what), (4, .int (nI w)), (6, .int (nI dy)), (7, .int lw)] 142 [] := by
                                intro n142
                                induction n142 with
                                | zero => intro s lw hs hlw hno hm; exact absurd hm (Nat.not_lt_zero _)
                                | succ n142 ih142 =>
                                  intro s lw hs hlw hno hm
                                  subst hlw
                                  refine jv_iload 142 X dX10_days_142 6 rfl ?_
                                  refine jv_aload_n 144 X dX10_days_144 0 rfl ?_
                                  refine jv_get (v := .ref (a 6)) 145 X gf_X10_25 dX10_days_145 0 rfl rfl ?_
                                  refine jv_iload 148 X dX10_days_148 5 rfl ?_
                                  refine jv_iald (f := (wlF week (book 38) ((book 39).toNatClampNeg))) 150 X dX10_days_150 6 rfl (by decide) dy rfl (by omega) ?_
                                  refine jn_icmp_gt 151 X dX10_days_151 181 (by decide) (fun c_10 => ?_) (fun c_10 => ?_)
                                  · have hv := wlF_in (week := week) (d := (book 39).toNatClampNeg) hin dy
                                    have hs2 : ¬ s ≤ w := fun z => c_10 (by have h9 := (lw_le (s := s) (w := w) hv.2.2 (by omega) (by omega)).mpr z; rwa [← hv.1] at h9)
                                    have hno2 : ¬ anyB (ddP (wlF week (book 38) (book 39).toNatClampNeg) jm jr w dy) (w + 1) = true := by rw [show w + 1 = s by omega]; exact hno
                                    refine jv_iinc (v := (nI (dy + 1))) (lv2 := [(6, .int (nI (dy + 1))), (0, .ref (a 0)), (1, .int (nI jm)), (2, .int (nI jr)), (3, .int what), (4, .int (nI w)), (7, .int ((wlF week (book 38) (book 39).toNatClampNeg) dy - nI w + nI s))]) 181 X dX10_days_181 5 rfl (nx_inc _) (by decide) rfl ?_
                                    refine jv_goto 184 X dX10_days_184 124 (by decide) ?_
                                    exact jv_lv [1, 2, 3, 4, 5, 0] rfl (ih124 (dy + 1) (by omega) (by rw [hJ, show jm + 1 - dy = (jm + 1 - (dy + 1)) + 1 by omega]; exact itE_r (if_neg hno2)) (by omega))
                                  · have hv := wlF_in (week := week) (d := (book 39).toNatClampNeg) hin dy
                                    have hs2 : s ≤ w := (lw_le (s := s) (w := w) hv.2.2 (by omega) (by omega)).mp (by rw [← hv.1]; exact c_10)
                                    refine jv_aload_n 154 X dX10_days_154 0 rfl ?_
                                    refine jv_iload 155 X dX10_days_155 5 rfl ?_
                                    refine jv_iload_n 157 X dX10_days_157 1 rfl ?_
                                    refine jv_iload 158 X dX10_days_158 6 rfl ?_
                                    refine jv_iload 160 X dX10_days_160 6 rfl ?_
                                    refine jv_iload 162 X dX10_days_162 4 rfl ?_
                                    refine jv_iadd 164 X dX10_days_164 ?_
                                    refine jv_callW (w1 := bMd E a book now week sights sight signs pad metAt metWho reason acts atp (wlF week (book 38) ((book 39).toNatClampNeg)) fitting counts ring nxt wins ways nextWays image isKept) 165 X (c_X10_countDays E _ a book now week sights sight signs pad metAt metWho reason acts atp (wlF week (book 38) ((book 39).toNatClampNeg)) fitting counts ring nxt wins ways nextWays image isKept dy jm ((wlF week (book 38) (book 39).toNatClampNeg) dy - nI w + nI s) (((wlF week (book 38) (book 39).toNatClampNeg) dy - nI w + nI s) + (nI w)) (by omega) (by omega)) wv_X10_164 ⟨Nat.le_of_ble_eq_true rfl, Nat.le_of_ble_eq_true rfl⟩ ⟨rfl, rfl⟩ ⟨Nat.zero_le _, Nat.zero_le _⟩ dX10_days_165 rfl [] rfl (Nat.le_of_ble_eq_true rfl) 0 rfl rfl ?_
                                    have hct := ctI_le (wlF week (book 38) ((book 39).toNatClampNeg)) ((wlF week (book 38) (book 39).toNatClampNeg) dy - nI w + nI s) (((wlF week (book 38) (book 39).toNatClampNeg) dy - nI w + nI s) + (nI w)) dy (jm + 1 - dy)
                                    refine jv_iload_n 168 X dX10_days_168 2 rfl ?_
                                    refine jn_icmp_lt 169 X dX10_days_169 175 (by decide) (fun c_11 => ?_) (fun c_11 => ?_)
                                    · have n_11 : ¬ jr ≤ (ctI (wlF week (book 38) ((book 39).toNatClampNeg)) ((wlF week (book 38) (book 39).toNatClampNeg) dy - nI w + nI s) (((wlF week (book 38) (book 39).toNatClampNeg) dy - nI w + nI s) + (nI w)) dy (jm + 1 - dy)) := fun zq => c_11 ((nx_le (a := jr) (b := (ctI (wlF week (book 38) ((book 39).toNatClampNeg)) ((wlF week (book 38) (book 39).toNatClampNeg) dy - nI w + nI s) (((wlF week (book 38) (book 39).toNatClampNeg) dy - nI w + nI s) + (nI w)) dy (jm + 1 - dy))) rfl rfl (by omega) (by omega)).mpr zq)
                                      refine jv_iinc (v := (((wlF week (book 38) (book 39).toNatClampNeg) dy - nI w + nI s) + 1)) (lv2 := [(7, .int (((wlF week (book 38) (book 39).toNatClampNeg) dy - nI w + nI s) + 1)), (0, .ref (a 0)), (1, .int (nI jm)), (2, .int (nI jr)), (3, .int what), (4, .int (nI w)), (6, .int (nI dy))]) 175 X dX10_days_175 6 rfl rfl (by decide) rfl ?_
                                      refine jv_goto 178 X dX10_days_178 142 (by decide) ?_
                                      exact jv_lv [1, 2, 3, 4, 5, 6, 0] rfl (ih142 (s + 1) (((wlF week (book 38) (book 39).toNatClampNeg) dy - nI w + nI s) + 1) (by omega) (by rw [← nI_1, Int32.add_assoc]) (by rw [anyB, Bool.or_eq_true]; rintro (z | z); exact hno z; exact n_11 (of_decide_eq_true z)) (by omega))
                                    · have n_11 : jr ≤ (ctI (wlF week (book 38) ((book 39).toNatClampNeg)) ((wlF week (book 38) (book 39).toNatClampNeg) dy - nI w + nI s) (((wlF week (book 38) (book 39).toNatClampNeg) dy - nI w + nI s) + (nI w)) dy (jm + 1 - dy)) := (nx_le (a := jr) (b := (ctI (wlF week (book 38) ((book 39).toNatClampNeg)) ((wlF week (book 38) (book 39).toNatClampNeg) dy - nI w + nI s) (((wlF week (book 38) (book 39).toNatClampNeg) dy - nI w + nI s) + (nI w)) dy (jm + 1 - dy))) rfl rfl (by omega) (by omega)).mp c_11
                                      refine jv_iload 172 X dX10_days_172 5 rfl ?_
                                      have hq : ddM (wlF week (book 38) (book 39).toNatClampNeg) jm jr w = nI dy := by unfold ddM; rw [hJ, show jm + 1 - dy = (jm + 1 - (dy + 1)) + 1 by omega, itE_l (show ddS (wlF week (book 38) (book 39).toNatClampNeg) jm jr w dy () = .inl (nI dy) from if_pos (anyB_iff.mpr ⟨s, by omega, decide_eq_true n_11⟩))]
                                      exact jv_iret 174 X Y rfl dX10_days_174 (now, metAt, metWho, reason, acts, atp, (wlF week (book 38) ((book 39).toNatClampNeg)), fitting, counts, ring, nxt, wins, ways, nextWays) (by simp [hWw, hq, nI_1, c_1, hcjm, c_2, hcjr, c_3, c_4, c_8]) rfl
                              exact jv_lv [1, 2, 3, 4, 5, 6, 0] rfl (lp142 _ 0 (((wlF week (book 38) (book 39).toNatClampNeg) dy) - (nI w)) (by omega) (by rw [nI_n0, Int32.add_zero]) (by simp [anyB]) (Nat.lt_succ_self _))
                        exact jv_lv [1, 2, 3, 4, 5, 0] rfl (lp124 _ 0 (by omega) rfl (Nat.lt_succ_self _))
                      · refine jv_iload 118 X dX10_days_118 4 rfl ?_
                        exact jv_iret 120 X Y rfl dX10_days_120 (now, metAt, metWho, reason, acts, atp, (wlF week (book 38) ((book 39).toNatClampNeg)), fitting, counts, ring, nxt, wins, ways, nextWays) (by simp [hWw, nI_1, c_1, hcjm, c_2, hcjr, c_3, c_4, c_8]) rfl
                    · have hPw : ¬ anyB (dyP (wlF week (book 38) (book 39).toNatClampNeg) jm jr w) (jm + 1) = true := by have h9 := zI_0.mp (hcn ▸ c_7); rwa [show t = jm + 1 by omega] at h9
                      have h199 : w + 1 ≤ 199 := by rcases Nat.lt_or_ge w 199 with z | z; omega; exact absurd ((show w = 199 by omega) ▸ dy_199 (wlF_in hin) (by omega)) hPw
                      subst c_7
                      refine jv_iinc (v := (nI (w + 1))) (lv2 := [(4, .int (nI (w + 1))), (0, .ref (a 0)), (1, .int (nI jm)), (2, .int (nI jr)), (3, .int what), (5, .int 0), (6, .int (nI t))]) 54 X dX10_days_54 4 rfl (nx_inc _) (by decide) rfl ?_
                      exact jv_lv [1, 2, 3, 4, 0, 5] rfl (ih57 (w + 1) h199 (by rw [hI, show 200 - w = (200 - (w + 1)) + 1 by omega, fstW, if_neg hPw]) (by omega))
                  · have n_6 : t ≤ jm := (nx_le (a := t) (b := jm) rfl rfl (by omega) (by omega)).mp c_6
                    refine jv_iload 66 X dX10_days_66 5 rfl ?_
                    refine jn_if_ne 68 X dX10_days_68 98 (by decide) (fun c_12 => ?_) (fun c_12 => ?_)
                    · refine jv_iconst (v := 1) 98 X dX10_days_98 rfl ?_
                      refine jv_goto 99 X dX10_days_99 103 (by decide) ?_
                      refine jv_istore (lv2 := [(5, .int 1), (0, .ref (a 0)), (1, .int (nI jm)), (2, .int (nI jr)), (3, .int what), (4, .int (nI w)), (6, .int (nI t))]) 103 X dX10_days_103 (by decide) rfl ?_
                      refine jv_iinc (v := (nI (t + 1))) (lv2 := [(6, .int (nI (t + 1))), (5, .int 1), (0, .ref (a 0)), (1, .int (nI jm)), (2, .int (nI jr)), (3, .int what), (4, .int (nI w))]) 105 X dX10_days_105 6 rfl (nx_inc _) (by decide) rfl ?_
                      refine jv_goto 108 X dX10_days_108 60 (by decide) ?_
                      exact jv_lv [2, 3, 4, 5, 6, 1, 0] rfl (ih60 (t + 1) 1 (by omega) ((zI_t (by rw [anyB, zI_nz hcn c_12, Bool.true_or])).symm) (by omega))
                    · refine jv_aload_n 71 X dX10_days_71 0 rfl ?_
                      refine jv_iconst (v := 0) 72 X dX10_days_72 rfl ?_
                      refine jv_iload_n 73 X dX10_days_73 1 rfl ?_
                      refine jv_aload_n 74 X dX10_days_74 0 rfl ?_
                      refine jv_get (v := .ref (a 6)) 75 X gf_X10_25 dX10_days_75 0 rfl rfl ?_
                      refine jv_iload 78 X dX10_days_78 6 rfl ?_
                      refine jv_iald (f := (wlF week (book 38) ((book 39).toNatClampNeg))) 80 X dX10_days_80 6 rfl (by decide) t rfl (by omega) ?_
                      refine jv_aload_n 81 X dX10_days_81 0 rfl ?_
                      refine jv_get (v := .ref (a 6)) 82 X gf_X10_25 dX10_days_82 0 rfl rfl ?_
                      refine jv_iload 85 X dX10_days_85 6 rfl ?_
                      refine jv_iald (f := (wlF week (book 38) ((book 39).toNatClampNeg))) 87 X dX10_days_87 6 rfl (by decide) t rfl (by omega) ?_
                      refine jv_iload 88 X dX10_days_88 4 rfl ?_
                      refine jv_iadd 90 X dX10_days_90 ?_
                      refine jv_callW (w1 := bMd E a book now week sights sight signs pad metAt metWho reason acts atp (wlF week (book 38) ((book 39).toNatClampNeg)) fitting counts ring nxt wins ways nextWays image isKept) 91 X (c_X10_countDays E _ a book now week sights sight signs pad metAt metWho reason acts atp (wlF week (book 38) ((book 39).toNatClampNeg)) fitting counts ring nxt wins ways nextWays image isKept 0 jm ((wlF week (book 38) ((book 39).toNatClampNeg)) t) (((wlF week (book 38) ((book 39).toNatClampNeg)) t) + (nI w)) (by omega) (by omega)) wv_X10_164 ⟨Nat.le_of_ble_eq_true rfl, Nat.le_of_ble_eq_true rfl⟩ ⟨rfl, rfl⟩ ⟨Nat.zero_le _, Nat.zero_le _⟩ dX10_days_91 rfl [] rfl (Nat.le_of_ble_eq_true rfl) 0 rfl rfl ?_
                      have hct := ctI_le (wlF week (book 38) ((book 39).toNatClampNeg)) ((wlF week (book 38) ((book 39).toNatClampNeg)) t) (((wlF week (book 38) ((book 39).toNatClampNeg)) t) + (nI w)) 0 (jm + 1 - 0)
                      refine jv_iload_n 94 X dX10_days_94 2 rfl ?_
                      refine jn_icmp_lt 95 X dX10_days_95 102 (by decide) (fun c_13 => ?_) (fun c_13 => ?_)
                      · have n_13 : ¬ jr ≤ (ctI (wlF week (book 38) ((book 39).toNatClampNeg)) ((wlF week (book 38) ((book 39).toNatClampNeg)) t) (((wlF week (book 38) ((book 39).toNatClampNeg)) t) + (nI w)) 0 (jm + 1 - 0)) := fun zq => c_13 ((nx_le (a := jr) (b := (ctI (wlF week (book 38) ((book 39).toNatClampNeg)) ((wlF week (book 38) ((book 39).toNatClampNeg)) t) (((wlF week (book 38) ((book 39).toNatClampNeg)) t) + (nI w)) 0 (jm + 1 - 0))) rfl rfl (by omega) (by omega)).mpr zq)
                        refine jv_iconst (v := 0) 102 X dX10_days_102 rfl ?_
                        refine jv_istore (lv2 := [(5, .int 0), (0, .ref (a 0)), (1, .int (nI jm)), (2, .int (nI jr)), (3, .int what), (4, .int (nI w)), (6, .int (nI t))]) 103 X dX10_days_103 (by decide) rfl ?_
                        refine jv_iinc (v := (nI (t + 1))) (lv2 := [(6, .int (nI (t + 1))), (5, .int 0), (0, .ref (a 0)), (1, .int (nI jm)), (2, .int (nI jr)), (3, .int what), (4, .int (nI w))]) 105 X dX10_days_105 6 rfl (nx_inc _) (by decide) rfl ?_
                        refine jv_goto 108 X dX10_days_108 60 (by decide) ?_
                        exact jv_lv [2, 3, 4, 5, 6, 1, 0] rfl (ih60 (t + 1) 0 (by omega) ((zI_f (by rw [anyB, Bool.or_eq_true]; rintro (z | z); exact zI_0.mp (hcn ▸ c_12) z; exact n_13 (of_decide_eq_true z))).symm) (by omega))
                      · have n_13 : jr ≤ (ctI (wlF week (book 38) ((book 39).toNatClampNeg)) ((wlF week (book 38) ((book 39).toNatClampNeg)) t) (((wlF week (book 38) ((book 39).toNatClampNeg)) t) + (nI w)) 0 (jm + 1 - 0)) := (nx_le (a := jr) (b := (ctI (wlF week (book 38) ((book 39).toNatClampNeg)) ((wlF week (book 38) ((book 39).toNatClampNeg)) t) (((wlF week (book 38) ((book 39).toNatClampNeg)) t) + (nI w)) 0 (jm + 1 - 0))) rfl rfl (by omega) (by omega)).mp c_13
                        refine jv_iconst (v := 1) 98 X dX10_days_98 rfl ?_
                        refine jv_goto 99 X dX10_days_99 103 (by decide) ?_
                        refine jv_istore (lv2 := [(5, .int 1), (0, .ref (a 0)), (1, .int (nI jm)), (2, .int (nI jr)), (3, .int what), (4, .int (nI w)), (6, .int (nI t))]) 103 X dX10_days_103 (by decide) rfl ?_
                        refine jv_iinc (v := (nI (t + 1))) (lv2 := [(6, .int (nI (t + 1))), (5, .int 1), (0, .ref (a 0)), (1, .int (nI jm)), (2, .int (nI jr)), (3, .int what), (4, .int (nI w))]) 105 X dX10_days_105 6 rfl (nx_inc _) (by decide) rfl ?_
                        refine jv_goto 108 X dX10_days_108 60 (by decide) ?_
                        exact jv_lv [2, 3, 4, 5, 6, 1, 0] rfl (ih60 (t + 1) 1 (by omega) ((zI_t (by rw [anyB, Bool.or_eq_true]; exact Or.inr (decide_eq_true n_13))).symm) (by omega))
              exact jv_lv [1, 2, 3, 4, 5, 6, 0] rfl (lp60 _ 0 0 (by omega) ((zI_f (by simp [anyB])).symm) (Nat.lt_succ_self _))
          exact jv_lv [2, 3, 4, 5, 0, 1] rfl (lp57 _ 0 (by omega) rfl (Nat.lt_succ_self _))
        · refine jv_bipush (v := (-2)) 36 X dX10_days_36 (by decide) ?_
          exact jv_iret 38 X Y rfl dX10_days_38 (now, metAt, metWho, reason, acts, atp, will, fitting, counts, ring, nxt, wins, ways, nextWays) (by simp [nI_1, lt_nle, -Int32.not_le, c_1, hcjm, c_2, hcjr, c_3, n_3, c_4]) rfl
