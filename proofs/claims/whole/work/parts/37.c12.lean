def stP (p : Nat) (d v : Int32) : Int32 := v - (nI p - 9) * d
def nwL (f : Nat → Int32) (p : Nat) (d v : Int32) : Nat → Int32 := if v ≤ 1 then f else upd f p (if f p < stP p d v then stP p d v else f p)
def nwM (f : Nat → Int32) (p : Nat) (d v : Int32) : Nat → Int32 := if 200 ≤ v then f else upd f p (if stP p d v < f p then stP p d v else f p)
def loS (sd si : Nat → Int32) (p i : Nat) (x : Int32) : Int32 := if si i ≤ 1 then x else if x < stP p (sd i) (si i) then stP p (sd i) (si i) else x
def moS (sd si : Nat → Int32) (p i : Nat) (x : Int32) : Int32 := if 200 ≤ si i then x else if stP p (sd i) (si i) < x then stP p (sd i) (si i) else x
def loF (sd si : Nat → Int32) (sk p : Nat) : Int32 := itr (loS sd si p) sk 1
def moF (sd si : Nat → Int32) (sk p : Nat) : Int32 := itr (moS sd si p) sk 200
theorem nwL_n {f : Nat → Int32} {p j : Nat} {d v : Int32} (h : j ≠ p) : nwL f p d v j = f j := by unfold nwL; split; rfl; exact pk_un h
theorem nwM_n {f : Nat → Int32} {p j : Nat} {d v : Int32} (h : j ≠ p) : nwM f p d v j = f j := by unfold nwM; split; rfl; exact pk_un h
theorem nwL_p {f sd si : Nat → Int32} {p i : Nat} : nwL f p (sd i) (si i) p = loS sd si p i (f p) := by unfold nwL loS; split; rfl; exact pk_us
theorem nwM_p {f sd si : Nat → Int32} {p i : Nat} : nwM f p (sd i) (si i) p = moS sd si p i (f p) := by unfold nwM moS; split; rfl; exact pk_us
def pos0 (y : Int32) : Int32 := if 0 < y then y else 0
def hmS (le mo : Nat → Int32) (p : Nat) (s : Int32) : Int32 := s + (if 0 < mo p - le p + 1 then mo p - le p + 1 else 0)
def hmF (le mo : Nat → Int32) : Int32 := itr (hmS le mo) 19 0
def liS (le mo : Nat → Int32) (st sl n : Nat) : Int32 ⊕ Nat := if le sl ≤ nI st ∧ nI st ≤ mo sl then (if n = 0 then .inl (nI (100 * st + sl)) else .inr (n - 1)) else .inr n
def laS (le mo : Nat → Int32) (st n : Nat) : Int32 ⊕ Nat := itE (liS le mo st) 19 0 n
def laF (le mo : Nat → Int32) (n : Nat) : Int32 := match itE (laS le mo) 200 1 n with
  | .inl x => x
  | .inr _ => -6
def rsF (rise : Nat → Int32) (x y : Int32) : Nat → Int32 := if x ≤ y then upd (upd rise x.toNatClampNeg (rise x.toNatClampNeg + 1)) (y.toNatClampNeg + 1) ((upd rise x.toNatClampNeg (rise x.toNatClampNeg + 1)) (y.toNatClampNeg + 1) - 1) else rise
def hrS (rise : Nat → Int32) (t : Nat) (x : Int32 × Int32) : Int32 × Int32 := (if x.1 < x.2 + rise (2 + t) then x.2 + rise (2 + t) else x.1, x.2 + rise (2 + t))
def hrF (rise : Nat → Int32) : Int32 := (itr (hrS rise) 198 (0, 0)).1
def fmA (le : Nat → Int32) (day p : Nat) : Int32 := le p + (nI p - 9) * nI day
def mlS (le mo : Nat → Int32) (day p : Nat) (x : Int32 × Int32 × (Nat → Int32)) : Int32 × Int32 × (Nat → Int32) := if le p ≤ mo p then (x.1 + (if 0 < (if 1 < fmA mo day p then 1 else fmA mo day p) - fmA le day p + 1 then (if 1 < fmA mo day p then 1 else fmA mo day p) - fmA le day p + 1 else 0), x.2.1 + (if 0 < fmA mo day p - (if fmA le day p < 200 then 200 else fmA le day p) + 1 then fmA mo day p - (if fmA le day p < 200 then 200 else fmA le day p) + 1 else 0), rsF x.2.2 (if fmA le day p < 2 then 2 else fmA le day p) (if 199 < fmA mo day p then 199 else fmA mo day p)) else x
def mlI (le mo : Nat → Int32) (day n : Nat) : Int32 × Int32 × (Nat → Int32) := itr (mlS le mo day) n (0, 0, fun _ => 0)
def mlF (le mo : Nat → Int32) (day : Nat) : Int32 := if hrF (mlI le mo day 19).2.2 < (if (mlI le mo day 19).1 < (mlI le mo day 19).2.1 then (mlI le mo day 19).2.1 else (mlI le mo day 19).1) then (if (mlI le mo day 19).1 < (mlI le mo day 19).2.1 then (mlI le mo day 19).2.1 else (mlI le mo day 19).1) else hrF (mlI le mo day 19).2.2
def bdS (le mo : Nat → Int32) (d : Nat) (x : Nat × Int32) : (Nat × Nat) ⊕ (Nat × Int32) := if x.2 ≤ 1 then .inl (x.1, d - 1) else .inr (if mlF le mo d < x.2 then (d, mlF le mo d) else x)
def bdF (le mo : Nat → Int32) : Nat × Nat := match itE (bdS le mo) 60 1 (0, mlF le mo 0) with
  | .inl y => y
  | .inr y => (y.1, 60)
theorem mx_ge {a b : Int32} : a ≤ (if b < a then a else b) := by
  split
  · exact Int32.le_refl _
  · rename_i h; exact Int32.not_lt.mp h
theorem mn_le {a b : Int32} : (if a < b then a else b) ≤ a := by
  split
  · exact Int32.le_refl _
  · rename_i h; exact Int32.not_lt.mp h
theorem c_X3_narrow (E : EE) (l : Launch) (a : Nat → Nat) (least : Nat → Int32) (most : Nat → Int32) (rise : Nat → Int32) (p : Nat) (d : Int32) (v : Int32) (hp : p < 19) : CT E l yX3_narrow cX3_narrow 5 none { frames := 1, cells := 0, slots := 0, locals := 21 } [.ref (a 0), .int (nI p), .int d, .int v] (bLw E a least most rise) (none) (bLw E a (nwL least p d v) (nwM most p d v) rise) := by
  refine CT.intro (by decide +kernel) (Nat.le_of_ble_eq_true rfl) (fun K X Y => ?_)
  refine jv_iload_n 0 X dX3_narrow_0 3 rfl ?_
  refine jv_iload_n 1 X dX3_narrow_1 1 rfl ?_
  refine jv_bipush (v := 9) 2 X dX3_narrow_2 (by decide) ?_
  refine jv_isub 4 X dX3_narrow_4 ?_
  refine jv_iload_n 5 X dX3_narrow_5 2 rfl ?_
  refine jv_imul 6 X dX3_narrow_6 ?_
  refine jv_isub 7 X dX3_narrow_7 ?_
  refine jv_istore (lv2 := [(4, .int (v - (((nI p) - 9) * d))), (0, .ref (a 0)), (1, .int (nI p)), (2, .int d), (3, .int v)]) 8 X dX3_narrow_8 (by decide) rfl ?_
  refine jv_iload_n 10 X dX3_narrow_10 4 rfl ?_
  refine jv_iconst (v := 1) 11 X dX3_narrow_11 rfl ?_
  refine jn_icmp_le 12 X dX3_narrow_12 32 (by decide) (fun c_1 => ?_) (fun c_1 => ?_)
  · refine jv_iload_n 32 X dX3_narrow_32 4 rfl ?_
    refine jv_sipush (v := 200) 33 X dX3_narrow_33 (by decide) ?_
    refine jn_icmp_ge 36 X dX3_narrow_36 56 (by decide) (fun c_2 => ?_) (fun c_2 => ?_)
    · have hq1 : nwL least p d v = least := if_pos c_1
      have hq2 : nwM most p d v = most := if_pos c_2
      exact jv_vret 56 X Y rfl dX3_narrow_56 () rfl (by rw [hq1, hq2])
    · refine jv_aload_n 39 X dX3_narrow_39 1 rfl ?_
      refine jv_get (v := .ref (a 2)) 40 X gf_X3_15 dX3_narrow_40 0 rfl rfl ?_
      refine jv_iload_n 43 X dX3_narrow_43 2 rfl ?_
      refine jv_aload_n 44 X dX3_narrow_44 1 rfl ?_
      refine jv_get (v := .ref (a 2)) 45 X gf_X3_15 dX3_narrow_45 0 rfl rfl ?_
      refine jv_iload_n 48 X dX3_narrow_48 2 rfl ?_
      refine jv_iald (f := most) 49 X dX3_narrow_49 2 rfl (by decide) p rfl (by omega) ?_
      refine jv_iload 50 X dX3_narrow_50 0 rfl ?_
      refine jv_mmin 52 X wm_X3_43 dX3_narrow_52 (Nat.le_of_ble_eq_true rfl) (Nat.le_of_ble_eq_true rfl) ⟨Nat.zero_le _, Nat.zero_le _⟩ ?_
      refine jv_iast (ws2 := bLw E a least (upd most p (if (v - (((nI p) - 9) * d)) < (most p) then (v - (((nI p) - 9) * d)) else (most p))) rise) (f := most) 55 X dX3_narrow_55 2 rfl (by decide) p rfl (by omega) rfl ?_
      have hq1 : nwL least p d v = least := if_pos c_1
      have hq2 : nwM most p d v = (upd most p (if (v - (((nI p) - 9) * d)) < (most p) then (v - (((nI p) - 9) * d)) else (most p))) := if_neg c_2
      exact jv_vret 56 X Y rfl dX3_narrow_56 () rfl (by rw [hq1, hq2])
  · refine jv_aload_n 15 X dX3_narrow_15 1 rfl ?_
    refine jv_get (v := .ref (a 1)) 16 X gf_X3_11 dX3_narrow_16 0 rfl rfl ?_
    refine jv_iload_n 19 X dX3_narrow_19 2 rfl ?_
    refine jv_aload_n 20 X dX3_narrow_20 1 rfl ?_
    refine jv_get (v := .ref (a 1)) 21 X gf_X3_11 dX3_narrow_21 0 rfl rfl ?_
    refine jv_iload_n 24 X dX3_narrow_24 2 rfl ?_
    refine jv_iald (f := least) 25 X dX3_narrow_25 1 rfl (by decide) p rfl (by omega) ?_
    refine jv_iload 26 X dX3_narrow_26 0 rfl ?_
    refine jv_mmax 28 X wm_X3_37 dX3_narrow_28 (Nat.le_of_ble_eq_true rfl) (Nat.le_of_ble_eq_true rfl) ⟨Nat.zero_le _, Nat.zero_le _⟩ ?_
    refine jv_iast (ws2 := bLw E a (upd least p (if (least p) < (v - (((nI p) - 9) * d)) then (v - (((nI p) - 9) * d)) else (least p))) most rise) (f := least) 31 X dX3_narrow_31 1 rfl (by decide) p rfl (by omega) rfl ?_
    refine jv_iload_n 32 X dX3_narrow_32 4 rfl ?_
    refine jv_sipush (v := 200) 33 X dX3_narrow_33 (by decide) ?_
    refine jn_icmp_ge 36 X dX3_narrow_36 56 (by decide) (fun c_3 => ?_) (fun c_3 => ?_)
    · have hq1 : nwL least p d v = (upd least p (if (least p) < (v - (((nI p) - 9) * d)) then (v - (((nI p) - 9) * d)) else (least p))) := if_neg c_1
      have hq2 : nwM most p d v = most := if_pos c_3
      exact jv_vret 56 X Y rfl dX3_narrow_56 () rfl (by rw [hq1, hq2])
    · refine jv_aload_n 39 X dX3_narrow_39 1 rfl ?_
      refine jv_get (v := .ref (a 2)) 40 X gf_X3_15 dX3_narrow_40 0 rfl rfl ?_
      refine jv_iload_n 43 X dX3_narrow_43 2 rfl ?_
      refine jv_aload_n 44 X dX3_narrow_44 1 rfl ?_
      refine jv_get (v := .ref (a 2)) 45 X gf_X3_15 dX3_narrow_45 0 rfl rfl ?_
      refine jv_iload_n 48 X dX3_narrow_48 2 rfl ?_
      refine jv_iald (f := most) 49 X dX3_narrow_49 2 rfl (by decide) p rfl (by omega) ?_
      refine jv_iload 50 X dX3_narrow_50 0 rfl ?_
      refine jv_mmin 52 X wm_X3_43 dX3_narrow_52 (Nat.le_of_ble_eq_true rfl) (Nat.le_of_ble_eq_true rfl) ⟨Nat.zero_le _, Nat.zero_le _⟩ ?_
      refine jv_iast (ws2 := bLw E a (upd least p (if (least p) < (v - (((nI p) - 9) * d)) then (v - (((nI p) - 9) * d)) else (least p))) (upd most p (if (v - (((nI p) - 9) * d)) < (most p) then (v - (((nI p) - 9) * d)) else (most p))) rise) (f := most) 55 X dX3_narrow_55 2 rfl (by decide) p rfl (by omega) rfl ?_
      have hq1 : nwL least p d v = (upd least p (if (least p) < (v - (((nI p) - 9) * d)) then (v - (((nI p) - 9) * d)) else (least p))) := if_neg c_1
      have hq2 : nwM most p d v = (upd most p (if (v - (((nI p) - 9) * d)) < (most p) then (v - (((nI p) - 9) * d)) else (most p))) := if_neg c_3
      exact jv_vret 56 X Y rfl dX3_narrow_56 () rfl (by rw [hq1, hq2])
theorem c_X3_fit (E : EE) (l : Launch) (a : Nat → Nat) (least : Nat → Int32) (most : Nat → Int32) (rise : Nat → Int32) (b : Nat → Nat) (r : Rl) (hsk : r.2.2.1 = nI r.2.2.1.toNatClampNeg ∧ r.2.2.1.toNatClampNeg ≤ 8) : CT E l yX3_fit cX3_fit 4 none { frames := 2, cells := 0, slots := 0, locals := 45 } [.ref (a 0), .ref (b 0)] (wB [bLw E a least most rise, tRl E b r]) (none) (wB [bLw E a (loF r.2.2.2.2.2.2.2.2.2.2.2.1 r.2.2.2.2.2.2.2.2.2.2.2.2 r.2.2.1.toNatClampNeg) (moF r.2.2.2.2.2.2.2.2.2.2.2.1 r.2.2.2.2.2.2.2.2.2.2.2.2 r.2.2.1.toNatClampNeg) rise, tRl E b r]) := by
  refine CT.intro (by decide +kernel) (Nat.le_of_ble_eq_true rfl) (fun K X Y => ?_)
  refine jv_iconst (v := 0) 0 X dX3_fit_0 rfl ?_
  refine jv_istore_n (lv2 := [(2, .int 0), (0, .ref (a 0)), (1, .ref (b 0))]) 1 X dX3_fit_1 (by decide) rfl ?_
  have lp2 : ∀ (n2 : Nat) (p : Nat) (le mo : Nat → Int32), (p ≤ 19) → (∀ j, j < p → le j = (loF r.2.2.2.2.2.2.2.2.2.2.2.1 r.2.2.2.2.2.2.2.2.2.2.2.2 r.2.2.1.toNatClampNeg) j) → (∀ j, j < p → mo j = (moF r.2.2.2.2.2.2.2.2.2.2.2.1 r.2.2.2.2.2.2.2.2.2.2.2.2 r.2.2.1.toNatClampNeg) j) → 19 - p < n2 → JV E K 0 0 (wB [bLw E a le mo rise, tRl E b r]) [(0, .ref (a 0)), (1, .ref (b 0)), (2, .int (nI p))] 2 [] := by
    intro n2
    induction n2 with
    | zero => intro p le mo hp hL hM hm; exact absurd hm (Nat.not_lt_zero _)
    | succ n2 ih2 =>
      intro p le mo hp hL hM hm
      refine jv_iload_n 2 X dX3_fit_2 2 rfl ?_
      refine jv_bipush (v := 19) 3 X dX3_fit_3 (by decide) ?_
      refine jn_icmp_ge 5 X dX3_fit_5 63 (by decide) (fun c_1 => ?_) (fun c_1 => ?_)
      · have n_1 : 19 ≤ p := (nx_le (a := 19) (b := p) rfl rfl (by omega) (by omega)).mp c_1
        refine jv_ext (ws2 := wB [bLw E a (loF r.2.2.2.2.2.2.2.2.2.2.2.1 r.2.2.2.2.2.2.2.2.2.2.2.2 r.2.2.1.toNatClampNeg) mo rise, tRl E b r]) 1 (loF r.2.2.2.2.2.2.2.2.2.2.2.1 r.2.2.2.2.2.2.2.2.2.2.2.2 r.2.2.1.toNatClampNeg) rfl (fun j hj => hL j (by omega)) rfl ?_
        refine jv_ext (ws2 := wB [bLw E a (loF r.2.2.2.2.2.2.2.2.2.2.2.1 r.2.2.2.2.2.2.2.2.2.2.2.2 r.2.2.1.toNatClampNeg) (moF r.2.2.2.2.2.2.2.2.2.2.2.1 r.2.2.2.2.2.2.2.2.2.2.2.2 r.2.2.1.toNatClampNeg) rise, tRl E b r]) 2 (moF r.2.2.2.2.2.2.2.2.2.2.2.1 r.2.2.2.2.2.2.2.2.2.2.2.2 r.2.2.1.toNatClampNeg) rfl (fun j hj => hM j (by omega)) rfl ?_
        exact jv_vret 63 X Y rfl dX3_fit_63 () rfl rfl
      · have n_1 : ¬ 19 ≤ p := fun zq => c_1 ((nx_le (a := 19) (b := p) rfl rfl (by omega) (by omega)).mpr zq)
        refine jv_aload_n 8 X dX3_fit_8 0 rfl ?_
        refine jv_get (v := .ref (a 1)) 9 X gf_X3_11 dX3_fit_9 0 rfl rfl ?_
        refine jv_iload_n 12 X dX3_fit_12 2 rfl ?_
        refine jv_iconst (v := 1) 13 X dX3_fit_13 rfl ?_
        refine jv_iast (ws2 := wB [bLw E a (upd le p 1) mo rise, tRl E b r]) (f := le) 14 X dX3_fit_14 1 rfl (by decide) p rfl (by omega) rfl ?_
        refine jv_aload_n 15 X dX3_fit_15 0 rfl ?_
        refine jv_get (v := .ref (a 2)) 16 X gf_X3_15 dX3_fit_16 0 rfl rfl ?_
        refine jv_iload_n 19 X dX3_fit_19 2 rfl ?_
        refine jv_sipush (v := 200) 20 X dX3_fit_20 (by decide) ?_
        refine jv_iast (ws2 := wB [bLw E a (upd le p 1) (upd mo p 200) rise, tRl E b r]) (f := mo) 23 X dX3_fit_23 2 rfl (by decide) p rfl (by omega) rfl ?_
        refine jv_iconst (v := 0) 24 X dX3_fit_24 rfl ?_
        refine jv_istore_n (lv2 := [(3, .int 0), (0, .ref (a 0)), (1, .ref (b 0)), (2, .int (nI p))]) 25 X dX3_fit_25 (by decide) rfl ?_
        have lp26 : ∀ (n26 : Nat) (i : Nat) (l2 m2 : Nat → Int32), (i ≤ r.2.2.1.toNatClampNeg) → (∀ j, j < p → l2 j = (loF r.2.2.2.2.2.2.2.2.2.2.2.1 r.2.2.2.2.2.2.2.2.2.2.2.2 r.2.2.1.toNatClampNeg) j) → (∀ j, j < p → m2 j = (moF r.2.2.2.2.2.2.2.2.2.2.2.1 r.2.2.2.2.2.2.2.2.2.2.2.2 r.2.2.1.toNatClampNeg) j) → (l2 p = itr (loS r.2.2.2.2.2.2.2.2.2.2.2.1 r.2.2.2.2.2.2.2.2.2.2.2.2 p) i 1) → (m2 p = itr (moS r.2.2.2.2.2.2.2.2.2.2.2.1 r.2.2.2.2.2.2.2.2.2.2.2.2 p) i 200) → r.2.2.1.toNatClampNeg - i < n26 → JV E K 0 0 (wB [bLw E a l2 m2 rise, tRl E b r]) [(0, .ref (a 0)), (1, .ref (b 0)), (2, .int (nI p)), (3, .int (nI i))] 26 [] := by
          intro n26
          induction n26 with
          | zero => intro i l2 m2 hi hl hmm hlp hmp hm; exact absurd hm (Nat.not_lt_zero _)
          | succ n26 ih26 =>
            intro i l2 m2 hi hl hmm hlp hmp hm
            refine jv_iload_n 26 X dX3_fit_26 3 rfl ?_
            refine jv_aload_n 27 X dX3_fit_27 1 rfl ?_
            refine jv_get (v := .int r.2.2.1) 28 X gf_X3_21 dX3_fit_28 4 rfl rfl ?_
            refine jv_norm (x2 := nI r.2.2.1.toNatClampNeg) hsk.1 ?_
            have hs8 := hsk.2
            refine jn_icmp_ge 31 X dX3_fit_31 57 (by decide) (fun c_2 => ?_) (fun c_2 => ?_)
            · have n_2 : r.2.2.1.toNatClampNeg ≤ i := (nx_le (a := r.2.2.1.toNatClampNeg) (b := i) rfl rfl (by omega) (by omega)).mp c_2
              refine jv_iinc (v := (nI (p + 1))) (lv2 := [(2, .int (nI (p + 1))), (0, .ref (a 0)), (1, .ref (b 0)), (3, .int (nI i))]) 57 X dX3_fit_57 2 rfl (nx_inc _) (by decide) rfl ?_
              refine jv_goto 60 X dX3_fit_60 2 (by decide) ?_
              exact jv_lv [1, 2, 0] rfl (ih2 (p + 1) l2 m2 (by omega) (fun j hj => by rcases Nat.lt_succ_iff_lt_or_eq.mp hj with h | h; exact hl j h; rw [h, hlp, show i = r.2.2.1.toNatClampNeg by omega]; rfl) (fun j hj => by rcases Nat.lt_succ_iff_lt_or_eq.mp hj with h | h; exact hmm j h; rw [h, hmp, show i = r.2.2.1.toNatClampNeg by omega]; rfl) (by omega))
            · have n_2 : ¬ r.2.2.1.toNatClampNeg ≤ i := fun zq => c_2 ((nx_le (a := r.2.2.1.toNatClampNeg) (b := i) rfl rfl (by omega) (by omega)).mpr zq)
              refine jv_aload_n 34 X dX3_fit_34 0 rfl ?_
              refine jv_iload_n 35 X dX3_fit_35 2 rfl ?_
              refine jv_aload_n 36 X dX3_fit_36 1 rfl ?_
              refine jv_get (v := .ref (b 9)) 37 X gf_X3_27 dX3_fit_37 4 rfl rfl ?_
              refine jv_iload_n 40 X dX3_fit_40 3 rfl ?_
              refine jv_iald (f := r.2.2.2.2.2.2.2.2.2.2.2.1) 41 X dX3_fit_41 13 rfl (by decide) i rfl (by omega) ?_
              refine jv_aload_n 42 X dX3_fit_42 1 rfl ?_
              refine jv_get (v := .ref (b 10)) 43 X gf_X3_30 dX3_fit_43 4 rfl rfl ?_
              refine jv_iload_n 46 X dX3_fit_46 3 rfl ?_
              refine jv_iald (f := r.2.2.2.2.2.2.2.2.2.2.2.2) 47 X dX3_fit_47 14 rfl (by decide) i rfl (by omega) ?_
              refine jv_callB1 (wl2 := [bLw E a (nwL l2 p (r.2.2.2.2.2.2.2.2.2.2.2.1 i) (r.2.2.2.2.2.2.2.2.2.2.2.2 i)) (nwM m2 p (r.2.2.2.2.2.2.2.2.2.2.2.1 i) (r.2.2.2.2.2.2.2.2.2.2.2.2 i)) rise, tRl E b r]) 48 X (c_X3_narrow E _ a l2 m2 rise p (r.2.2.2.2.2.2.2.2.2.2.2.1 i) (r.2.2.2.2.2.2.2.2.2.2.2.2 i) (by omega)) wv_X3_33 ⟨Nat.le_of_ble_eq_true rfl, Nat.le_of_ble_eq_true rfl⟩ ⟨rfl, rfl⟩ ⟨Nat.zero_le _, Nat.zero_le _⟩ dX3_fit_48 rfl [] rfl (Nat.le_of_ble_eq_true rfl) 0 rfl [(a 0), (a 1), (a 2), (a 3)] rfl rfl rfl rfl rfl ?_
              refine jv_iinc (v := (nI (i + 1))) (lv2 := [(3, .int (nI (i + 1))), (0, .ref (a 0)), (1, .ref (b 0)), (2, .int (nI p))]) 51 X dX3_fit_51 3 rfl (nx_inc _) (by decide) rfl ?_
              refine jv_goto 54 X dX3_fit_54 26 (by decide) ?_
              exact jv_lv [1, 2, 3, 0] rfl (ih26 (i + 1) (nwL l2 p (r.2.2.2.2.2.2.2.2.2.2.2.1 i) (r.2.2.2.2.2.2.2.2.2.2.2.2 i)) (nwM m2 p (r.2.2.2.2.2.2.2.2.2.2.2.1 i) (r.2.2.2.2.2.2.2.2.2.2.2.2 i)) (by omega) (fun j hj => by rw [nwL_n (by omega)]; exact hl j hj) (fun j hj => by rw [nwM_n (by omega)]; exact hmm j hj) (by rw [itr_s, ← hlp]; exact nwL_p) (by rw [itr_s, ← hmp]; exact nwM_p) (by omega))
        exact jv_lv [1, 2, 3, 0] rfl (lp26 _ 0 (upd le p 1) (upd mo p 200) (by omega) (fun j hj => by rw [pk_un (by omega)]; exact hL j hj) (fun j hj => by rw [pk_un (by omega)]; exact hM j hj) pk_us pk_us (Nat.lt_succ_self _))
  exact jv_lv [1, 2, 0] rfl (lp2 _ 0 least most (by omega) (fun j hj => absurd hj (Nat.not_lt_zero j)) (fun j hj => absurd hj (Nat.not_lt_zero j)) (Nat.lt_succ_self _))
theorem c_X3_howMany (E : EE) (l : Launch) (a : Nat → Nat) (least : Nat → Int32) (most : Nat → Int32) (rise : Nat → Int32) : CT E l yX3_howMany cX3_howMany 3 (some .int) { frames := 1, cells := 0, slots := 0, locals := 21 } [.ref (a 0)] (bLw E a least most rise) (some (.int (hmF least most))) (bLw E a least most rise) := by
  refine CT.intro (by decide +kernel) (Nat.le_of_ble_eq_true rfl) (fun K X Y => ?_)
  refine jv_iconst (v := 0) 0 X dX3_howMany_0 rfl ?_
  refine jv_istore_n (lv2 := [(1, .int 0), (0, .ref (a 0))]) 1 X dX3_howMany_1 (by decide) rfl ?_
  refine jv_iconst (v := 0) 2 X dX3_howMany_2 rfl ?_
  refine jv_istore_n (lv2 := [(2, .int 0), (1, .int 0), (0, .ref (a 0))]) 3 X dX3_howMany_3 (by decide) rfl ?_
  have lp4 : ∀ (n4 : Nat) (p : Nat) (s : Int32), (p ≤ 19) → (s = itr (hmS least most) p 0) → 19 - p < n4 → JV E K 0 0 (bLw E a least most rise) [(0, .ref (a 0)), (1, .int s), (2, .int (nI p))] 4 [] := by
    intro n4
    induction n4 with
    | zero => intro p s hp hI hm; exact absurd hm (Nat.not_lt_zero _)
    | succ n4 ih4 =>
      intro p s hp hI hm
      refine jv_iload_n 4 X dX3_howMany_4 2 rfl ?_
      refine jv_bipush (v := 19) 5 X dX3_howMany_5 (by decide) ?_
      refine jn_icmp_ge 7 X dX3_howMany_7 38 (by decide) (fun c_1 => ?_) (fun c_1 => ?_)
      · have n_1 : 19 ≤ p := (nx_le (a := 19) (b := p) rfl rfl (by omega) (by omega)).mp c_1
        refine jv_iload_n 38 X dX3_howMany_38 1 rfl ?_
        exact jv_iret 39 X Y rfl dX3_howMany_39 () (congrArg (fun z => some (Value.int z)) (by rw [hI, show p = 19 by omega]; rfl)) rfl
      · have n_1 : ¬ 19 ≤ p := fun zq => c_1 ((nx_le (a := 19) (b := p) rfl rfl (by omega) (by omega)).mpr zq)
        refine jv_iload_n 10 X dX3_howMany_10 1 rfl ?_
        refine jv_iconst (v := 0) 11 X dX3_howMany_11 rfl ?_
        refine jv_aload_n 12 X dX3_howMany_12 0 rfl ?_
        refine jv_get (v := .ref (a 2)) 13 X gf_X3_15 dX3_howMany_13 0 rfl rfl ?_
        refine jv_iload_n 16 X dX3_howMany_16 2 rfl ?_
        refine jv_iald (f := most) 17 X dX3_howMany_17 2 rfl (by decide) p rfl (by omega) ?_
        refine jv_aload_n 18 X dX3_howMany_18 0 rfl ?_
        refine jv_get (v := .ref (a 1)) 19 X gf_X3_11 dX3_howMany_19 0 rfl rfl ?_
        refine jv_iload_n 22 X dX3_howMany_22 2 rfl ?_
        refine jv_iald (f := least) 23 X dX3_howMany_23 1 rfl (by decide) p rfl (by omega) ?_
        refine jv_isub 24 X dX3_howMany_24 ?_
        refine jv_iconst (v := 1) 25 X dX3_howMany_25 rfl ?_
        refine jv_iadd 26 X dX3_howMany_26 ?_
        refine jv_mmax 27 X wm_X3_37 dX3_howMany_27 (Nat.le_of_ble_eq_true rfl) (Nat.le_of_ble_eq_true rfl) ⟨Nat.zero_le _, Nat.zero_le _⟩ ?_
        refine jv_iadd 30 X dX3_howMany_30 ?_
        refine jv_istore_n (lv2 := [(1, .int (s + (if 0 < (((most p) - (least p)) + 1) then (((most p) - (least p)) + 1) else 0))), (0, .ref (a 0)), (2, .int (nI p))]) 31 X dX3_howMany_31 (by decide) rfl ?_
        refine jv_iinc (v := (nI (p + 1))) (lv2 := [(2, .int (nI (p + 1))), (1, .int (s + (if 0 < (((most p) - (least p)) + 1) then (((most p) - (least p)) + 1) else 0))), (0, .ref (a 0))]) 32 X dX3_howMany_32 2 rfl (nx_inc _) (by decide) rfl ?_
        refine jv_goto 35 X dX3_howMany_35 4 (by decide) ?_
        exact jv_lv [2, 1, 0] rfl (ih4 (p + 1) (s + (if 0 < (((most p) - (least p)) + 1) then (((most p) - (least p)) + 1) else 0)) (by omega) (by rw [itr_s, ← hI, hmS]) (by omega))
  exact jv_lv [2, 1, 0] rfl (lp4 _ 0 0 (by omega) rfl (Nat.lt_succ_self _))
theorem c_X3_lawAt (E : EE) (l : Launch) (a : Nat → Nat) (least : Nat → Int32) (most : Nat → Int32) (rise : Nat → Int32) (i : Int32) : CT E l yX3_lawAt cX3_lawAt 5 (some .int) { frames := 1, cells := 0, slots := 0, locals := 22 } [.ref (a 0), .int i] (bLw E a least most rise) (some (.int (if 0 ≤ i then laF least most i.toNatClampNeg else -6))) (bLw E a least most rise) := by
  refine CT.intro (by decide +kernel) (Nat.le_of_ble_eq_true rfl) (fun K X Y => ?_)
  by_cases h0 : 0 ≤ i
  · obtain ⟨j, hi, rfl⟩ := nI_of (Int32.not_lt.mpr h0)
    refine jv_iload_n 0 X dX3_lawAt_0 1 rfl ?_
    refine jv_istore_n (lv2 := [(2, .int (nI j)), (0, .ref (a 0)), (1, .int (nI j))]) 1 X dX3_lawAt_1 (by decide) rfl ?_
    refine jv_iconst (v := 1) 2 X dX3_lawAt_2 rfl ?_
    refine jv_istore_n (lv2 := [(3, .int 1), (2, .int (nI j)), (0, .ref (a 0)), (1, .int (nI j))]) 3 X dX3_lawAt_3 (by decide) rfl ?_
    have lp4 : ∀ (n4 : Nat) (st n : Nat), (1 ≤ st) → (st ≤ 201) → (n < 2147483648) → (itE (laS least most) 200 1 j = itE (laS least most) (201 - st) st n) → 201 - st < n4 → JV E K 0 0 (bLw E a least most rise) [(0, .ref (a 0)), (1, .int (nI j)), (2, .int (nI n)), (3, .int (nI st))] 4 [] := by
      intro n4
      induction n4 with
      | zero => intro st n hs1 hs2 hn hJ hm; exact absurd hm (Nat.not_lt_zero _)
      | succ n4 ih4 =>
        intro st n hs1 hs2 hn hJ hm
        refine jv_iload_n 4 X dX3_lawAt_4 3 rfl ?_
        refine jv_sipush (v := 200) 5 X dX3_lawAt_5 (by decide) ?_
        refine jn_icmp_gt 8 X dX3_lawAt_8 73 (by decide) (fun c_1 => ?_) (fun c_1 => ?_)
        · have n_1 : ¬ st ≤ 200 := fun zq => c_1 ((nx_le (a := st) (b := 200) rfl rfl (by omega) (by omega)).mpr zq)
          refine jv_bipush (v := (-6)) 73 X dX3_lawAt_73 (by decide) ?_
          exact jv_iret 75 X Y rfl dX3_lawAt_75 () (congrArg (fun z => some (Value.int z)) (by rw [if_pos h0, nI_clamp hi]; unfold laF; rw [hJ, show 201 - st = 0 by omega]; rfl)) rfl
        · have n_1 : st ≤ 200 := (nx_le (a := st) (b := 200) rfl rfl (by omega) (by omega)).mp c_1
          refine jv_iload_n 11 X dX3_lawAt_11 2 rfl ?_
          refine jn_if_lt 12 X dX3_lawAt_12 73 (by decide) (fun c_2 => absurd (nI_pos' (by omega)) c_2) (fun c_2 => ?_)
          have n_2 : 0 ≤ n := (nx_le (a := 0) (b := n) rfl rfl (by omega) (by omega)).mp c_2
          refine jv_iconst (v := 0) 15 X dX3_lawAt_15 rfl ?_
          refine jv_istore (lv2 := [(4, .int 0), (0, .ref (a 0)), (1, .int (nI j)), (2, .int (nI n)), (3, .int (nI st))]) 16 X dX3_lawAt_16 (by decide) rfl ?_
          have lp18 : ∀ (n18 : Nat) (sl n2 : Nat), (sl ≤ 19) → (n2 < 2147483648) → (itE (liS least most st) 19 0 n = itE (liS least most st) (19 - sl) sl n2) → 19 - sl < n18 → JV E K 0 0 (bLw E a least most rise) [(0, .ref (a 0)), (1, .int (nI j)), (2, .int (nI n2)), (3, .int (nI st)), (4, .int (nI sl))] 18 [] := by
            intro n18
            induction n18 with
            | zero => intro sl n2 hsl hn2 hJ2 hm; exact absurd hm (Nat.not_lt_zero _)
            | succ n18 ih18 =>
              intro sl n2 hsl hn2 hJ2 hm
              refine jv_iload 18 X dX3_lawAt_18 4 rfl ?_
              refine jv_bipush (v := 19) 20 X dX3_lawAt_20 (by decide) ?_
              refine jn_icmp_ge 22 X dX3_lawAt_22 67 (by decide) (fun c_3 => ?_) (fun c_3 => ?_)
              · have n_3 : 19 ≤ sl := (nx_le (a := 19) (b := sl) rfl rfl (by omega) (by omega)).mp c_3
                refine jv_iinc (v := (nI (st + 1))) (lv2 := [(3, .int (nI (st + 1))), (0, .ref (a 0)), (1, .int (nI j)), (2, .int (nI n2)), (4, .int (nI sl))]) 67 X dX3_lawAt_67 3 rfl (nx_inc _) (by decide) rfl ?_
                refine jv_goto 70 X dX3_lawAt_70 4 (by decide) ?_
                exact jv_lv [1, 2, 3, 0] rfl (ih4 (st + 1) n2 (by omega) (by omega) (by omega) (by rw [hJ, show 201 - st = (201 - (st + 1)) + 1 by omega]; exact itE_r (by rw [laS, hJ2, show 19 - sl = 0 by omega]; rfl)) (by omega))
              · have n_3 : ¬ 19 ≤ sl := fun zq => c_3 ((nx_le (a := 19) (b := sl) rfl rfl (by omega) (by omega)).mpr zq)
                refine jv_iload_n 25 X dX3_lawAt_25 3 rfl ?_
                refine jv_aload_n 26 X dX3_lawAt_26 0 rfl ?_
                refine jv_get (v := .ref (a 1)) 27 X gf_X3_11 dX3_lawAt_27 0 rfl rfl ?_
                refine jv_iload 30 X dX3_lawAt_30 4 rfl ?_
                refine jv_iald (f := least) 32 X dX3_lawAt_32 1 rfl (by decide) sl rfl (by omega) ?_
                refine jv_aload_n 33 X dX3_lawAt_33 0 rfl ?_
                refine jv_get (v := .ref (a 2)) 34 X gf_X3_15 dX3_lawAt_34 0 rfl rfl ?_
                refine jv_iload 37 X dX3_lawAt_37 4 rfl ?_
                refine jv_iald (f := most) 39 X dX3_lawAt_39 2 rfl (by decide) sl rfl (by omega) ?_
                refine jv_funN 40 X (c_X9_within E _ (nI st) (least sl) (most sl)) wn_X3_46 ⟨Nat.le_of_ble_eq_true rfl, Nat.le_of_ble_eq_true rfl⟩ ⟨rfl, rfl⟩ ⟨Nat.zero_le _, Nat.zero_le _⟩ dX3_lawAt_40 rfl [] rfl (Nat.le_of_ble_eq_true rfl) ?_
                refine jv_z_eq 43 X dX3_lawAt_43 61 (by decide) (fun c_4 => ?_) (fun c_4 => ?_)
                · refine jv_iinc (v := (nI (sl + 1))) (lv2 := [(4, .int (nI (sl + 1))), (0, .ref (a 0)), (1, .int (nI j)), (2, .int (nI n2)), (3, .int (nI st))]) 61 X dX3_lawAt_61 4 rfl (nx_inc _) (by decide) rfl ?_
                  refine jv_goto 64 X dX3_lawAt_64 18 (by decide) ?_
                  exact jv_lv [1, 2, 3, 4, 0] rfl (ih18 (sl + 1) n2 (by omega) hn2 (by rw [hJ2, show 19 - sl = (19 - (sl + 1)) + 1 by omega]; exact itE_r (if_neg c_4)) (by omega))
                · refine jv_iload_n 46 X dX3_lawAt_46 2 rfl ?_
                  refine jn_if_ne 47 X dX3_lawAt_47 58 (by decide) (fun c_5 => ?_) (fun c_5 => ?_)
                  · have n_5 : ¬ n2 = 0 := fun zq => c_5 ((nx_eq (a := n2) (b := 0) rfl rfl (by omega) (by omega)).mpr zq)
                    obtain ⟨n3, rfl⟩ : ∃ n3, n2 = n3 + 1 := ⟨n2 - 1, by omega⟩
                    refine jv_iinc (v := (nI n3)) (lv2 := [(2, .int (nI n3)), (0, .ref (a 0)), (1, .int (nI j)), (3, .int (nI st)), (4, .int (nI sl))]) 58 X dX3_lawAt_58 2 rfl (nx_dec _) (by decide) rfl ?_
                    refine jv_iinc (v := (nI (sl + 1))) (lv2 := [(4, .int (nI (sl + 1))), (2, .int (nI n3)), (0, .ref (a 0)), (1, .int (nI j)), (3, .int (nI st))]) 61 X dX3_lawAt_61 4 rfl (nx_inc _) (by decide) rfl ?_
                    refine jv_goto 64 X dX3_lawAt_64 18 (by decide) ?_
                    exact jv_lv [2, 3, 1, 4, 0] rfl (ih18 (sl + 1) n3 (by omega) (by omega) (by rw [hJ2, show 19 - sl = (19 - (sl + 1)) + 1 by omega]; exact itE_r (by rw [liS, if_pos c_4, if_neg (Nat.succ_ne_zero n3), Nat.add_sub_cancel])) (by omega))
                  · have n_5 : n2 = 0 := (nx_eq (a := n2) (b := 0) rfl rfl (by omega) (by omega)).mp c_5
                    refine jv_bipush (v := 100) 50 X dX3_lawAt_50 (by decide) ?_
                    refine jv_iload_n 52 X dX3_lawAt_52 3 rfl ?_
                    refine jv_imul 53 X dX3_lawAt_53 ?_
                    refine jv_norm (x2 := nI (100 * st)) (nx_mul (a := 100) (b := st) rfl rfl) ?_
                    refine jv_iload 54 X dX3_lawAt_54 4 rfl ?_
                    refine jv_iadd 56 X dX3_lawAt_56 ?_
                    refine jv_norm (x2 := nI ((100 * st) + sl)) (nx_add2 (a := (100 * st)) (b := sl) rfl rfl (by omega)) ?_
                    exact jv_iret 57 X Y rfl dX3_lawAt_57 () (congrArg (fun z => some (Value.int z)) (by rw [if_pos h0, nI_clamp hi]; unfold laF; rw [hJ, show 201 - st = (201 - (st + 1)) + 1 by omega, itE_l (show laS least most st n = .inl (nI (100 * st + sl)) by rw [laS, hJ2, show 19 - sl = (19 - (sl + 1)) + 1 by omega]; exact itE_l (by rw [liS, if_pos c_4, if_pos n_5]))])) rfl
          exact jv_lv [1, 2, 3, 4, 0] rfl (lp18 _ 0 n (by omega) hn rfl (Nat.lt_succ_self _))
    exact jv_lv [2, 3, 1, 0] rfl (lp4 _ 1 j (by omega) (by omega) hi rfl (Nat.lt_succ_self _))
  · refine jv_iload_n 0 X dX3_lawAt_0 1 rfl ?_
    refine jv_istore_n (lv2 := [(2, .int i), (0, .ref (a 0)), (1, .int i)]) 1 X dX3_lawAt_1 (by decide) rfl ?_
    refine jv_iconst (v := 1) 2 X dX3_lawAt_2 rfl ?_
    refine jv_istore_n (lv2 := [(3, .int 1), (2, .int i), (0, .ref (a 0)), (1, .int i)]) 3 X dX3_lawAt_3 (by decide) rfl ?_
    refine jv_iload_n 4 X dX3_lawAt_4 0 rfl ?_
    refine jv_sipush (v := 200) 5 X dX3_lawAt_5 (by decide) ?_
    refine jn_icmp_gt 8 X dX3_lawAt_8 73 (by decide) (fun c_6 => absurd c_6 (by decide)) (fun _ => ?_)
    refine jv_iload_n 11 X dX3_lawAt_11 1 rfl ?_
    refine jn_if_lt 12 X dX3_lawAt_12 73 (by decide) (fun _ => ?_) (fun c_7 => absurd c_7 h0)
    refine jv_bipush (v := (-6)) 73 X dX3_lawAt_73 (by decide) ?_
    exact jv_iret 75 X Y rfl dX3_lawAt_75 () (by rw [if_neg h0]) rfl
theorem c_X3_raise (E : EE) (l : Launch) (a : Nat → Nat) (least : Nat → Int32) (most : Nat → Int32) (rise : Nat → Int32) (x : Int32) (y : Int32) (hx : 2 ≤ x) (hy : y ≤ 199) : CT E l yX3_raise cX3_raise 3 none { frames := 0, cells := 0, slots := 0, locals := 0 } [.ref (a 0), .int x, .int y] (bLw E a least most rise) (none) (bLw E a least most (rsF rise x y)) := by
  refine CT.intro (by decide +kernel) (Nat.le_of_ble_eq_true rfl) (fun K X Y => ?_)
  refine jv_iload_n 0 X dX3_raise_0 1 rfl ?_
  refine jv_iload_n 1 X dX3_raise_1 2 rfl ?_
  refine jn_icmp_gt 2 X dX3_raise_2 27 (by decide) (fun c_1 => ?_) (fun c_1 => ?_)
  · exact jv_vret 27 X Y rfl dX3_raise_27 () rfl (by rw [show rsF rise x y = rise from if_neg c_1])
  · obtain ⟨jx, h1x, h2x, ex⟩ := nx_in (a := 2) (b := 199) rfl rfl (by decide) (by decide) (show 2 ≤ x ∧ x ≤ 199 from ⟨hx, Int32.le_trans c_1 hy⟩)
    obtain ⟨jy, h1y, h2y, ey⟩ := nx_in (a := 2) (b := 199) rfl rfl (by decide) (by decide) (show 2 ≤ y ∧ y ≤ 199 from ⟨Int32.le_trans hx c_1, hy⟩)
    have ecx : x.toNatClampNeg = jx := by rw [ex]; exact nI_clamp (by omega)
    have ecy : y.toNatClampNeg = jy := by rw [ey]; exact nI_clamp (by omega)
    have hq : rsF rise x y = upd (upd rise jx (rise jx + 1)) (jy + 1) ((upd rise jx (rise jx + 1)) (jy + 1) - 1) := by rw [rsF, if_pos c_1, ecx, ecy]
    refine jv_aload_n 5 X dX3_raise_5 0 rfl ?_
    refine jv_get (v := .ref (a 3)) 6 X gf_X3_18 dX3_raise_6 0 rfl rfl ?_
    refine jv_iload_n 9 X dX3_raise_9 1 rfl ?_
    refine jv_dup2 10 X dX3_raise_10 rfl rfl ?_
    refine jv_iald (f := rise) 11 X dX3_raise_11 3 rfl (by decide) jx ex (by omega) ?_
    refine jv_iconst (v := 1) 12 X dX3_raise_12 rfl ?_
    refine jv_iadd 13 X dX3_raise_13 ?_
    refine jv_iast (ws2 := bLw E a least most (upd rise jx ((rise jx) + 1))) (f := rise) 14 X dX3_raise_14 3 rfl (by decide) jx ex (by omega) rfl ?_
    refine jv_aload_n 15 X dX3_raise_15 0 rfl ?_
    refine jv_get (v := .ref (a 3)) 16 X gf_X3_18 dX3_raise_16 0 rfl rfl ?_
    refine jv_iload_n 19 X dX3_raise_19 2 rfl ?_
    refine jv_iconst (v := 1) 20 X dX3_raise_20 rfl ?_
    refine jv_iadd 21 X dX3_raise_21 ?_
    refine jv_norm (x2 := nI (jy + 1)) (nx_add2 (a := jy) (b := 1) ey rfl (by omega)) ?_
    refine jv_dup2 22 X dX3_raise_22 rfl rfl ?_
    refine jv_iald (f := (upd rise jx ((rise jx) + 1))) 23 X dX3_raise_23 3 rfl (by decide) (jy + 1) rfl (by omega) ?_
    refine jv_iconst (v := 1) 24 X dX3_raise_24 rfl ?_
    refine jv_isub 25 X dX3_raise_25 ?_
    refine jv_iast (ws2 := bLw E a least most (upd (upd rise jx ((rise jx) + 1)) (jy + 1) (((upd rise jx ((rise jx) + 1)) (jy + 1)) - 1))) (f := (upd rise jx ((rise jx) + 1))) 26 X dX3_raise_26 3 rfl (by decide) (jy + 1) rfl (by omega) rfl ?_
    exact jv_vret 27 X Y rfl dX3_raise_27 () rfl (by rw [hq])
theorem c_X3_highestRise (E : EE) (l : Launch) (a : Nat → Nat) (least : Nat → Int32) (most : Nat → Int32) (rise : Nat → Int32) : CT E l yX3_highestRise cX3_highestRise 4 (some .int) { frames := 1, cells := 0, slots := 0, locals := 21 } [.ref (a 0)] (bLw E a least most rise) (some (.int (hrF rise))) (bLw E a least most rise) := by
  refine CT.intro (by decide +kernel) (Nat.le_of_ble_eq_true rfl) (fun K X Y => ?_)
  refine jv_iconst (v := 0) 0 X dX3_highestRise_0 rfl ?_
  refine jv_istore_n (lv2 := [(1, .int 0), (0, .ref (a 0))]) 1 X dX3_highestRise_1 (by decide) rfl ?_
  refine jv_iconst (v := 0) 2 X dX3_highestRise_2 rfl ?_
  refine jv_istore_n (lv2 := [(2, .int 0), (1, .int 0), (0, .ref (a 0))]) 3 X dX3_highestRise_3 (by decide) rfl ?_
  refine jv_iconst (v := 2) 4 X dX3_highestRise_4 rfl ?_
  refine jv_istore_n (lv2 := [(3, .int 2), (2, .int 0), (1, .int 0), (0, .ref (a 0))]) 5 X dX3_highestRise_5 (by decide) rfl ?_
  have lp6 : ∀ (n6 : Nat) (t : Nat) (hi he : Int32), (t ≤ 198) → (itr (hrS rise) t (0, 0) = (hi, he)) → 198 - t < n6 → JV E K 0 0 (bLw E a least most rise) [(0, .ref (a 0)), (1, .int hi), (2, .int he), (3, .int (nI (2 + t)))] 6 [] := by
    intro n6
    induction n6 with
    | zero => intro t hi he ht hI hm; exact absurd hm (Nat.not_lt_zero _)
    | succ n6 ih6 =>
      intro t hi he ht hI hm
      refine jv_iload_n 6 X dX3_highestRise_6 3 rfl ?_
      refine jv_sipush (v := 200) 7 X dX3_highestRise_7 (by decide) ?_
      refine jn_icmp_ge 10 X dX3_highestRise_10 34 (by decide) (fun c_1 => ?_) (fun c_1 => ?_)
      · have n_1 : 200 ≤ (2 + t) := (nx_le (a := 200) (b := (2 + t)) rfl rfl (by omega) (by omega)).mp c_1
        refine jv_iload_n 34 X dX3_highestRise_34 1 rfl ?_
        exact jv_iret 35 X Y rfl dX3_highestRise_35 () (congrArg (fun z => some (Value.int z)) (by rw [hrF, show 198 = t by omega, hI])) rfl
      · have n_1 : ¬ 200 ≤ (2 + t) := fun zq => c_1 ((nx_le (a := 200) (b := (2 + t)) rfl rfl (by omega) (by omega)).mpr zq)
        refine jv_iload_n 13 X dX3_highestRise_13 2 rfl ?_
        refine jv_aload_n 14 X dX3_highestRise_14 0 rfl ?_
        refine jv_get (v := .ref (a 3)) 15 X gf_X3_18 dX3_highestRise_15 0 rfl rfl ?_
        refine jv_iload_n 18 X dX3_highestRise_18 3 rfl ?_
        refine jv_iald (f := rise) 19 X dX3_highestRise_19 3 rfl (by decide) (2 + t) rfl (by omega) ?_
        refine jv_iadd 20 X dX3_highestRise_20 ?_
        refine jv_istore_n (lv2 := [(2, .int (he + (rise (2 + t)))), (0, .ref (a 0)), (1, .int hi), (3, .int (nI (2 + t)))]) 21 X dX3_highestRise_21 (by decide) rfl ?_
        refine jv_iload_n 22 X dX3_highestRise_22 2 rfl ?_
        refine jv_iload_n 23 X dX3_highestRise_23 0 rfl ?_
        refine jv_mmax 24 X wm_X3_37 dX3_highestRise_24 (Nat.le_of_ble_eq_true rfl) (Nat.le_of_ble_eq_true rfl) ⟨Nat.zero_le _, Nat.zero_le _⟩ ?_
        refine jv_istore_n (lv2 := [(1, .int (if hi < (he + (rise (2 + t))) then (he + (rise (2 + t))) else hi)), (2, .int (he + (rise (2 + t)))), (0, .ref (a 0)), (3, .int (nI (2 + t)))]) 27 X dX3_highestRise_27 (by decide) rfl ?_
        refine jv_iinc (v := (nI ((2 + t) + 1))) (lv2 := [(3, .int (nI ((2 + t) + 1))), (1, .int (if hi < (he + (rise (2 + t))) then (he + (rise (2 + t))) else hi)), (2, .int (he + (rise (2 + t)))), (0, .ref (a 0))]) 28 X dX3_highestRise_28 3 rfl (nx_inc _) (by decide) rfl ?_
        refine jv_goto 31 X dX3_highestRise_31 6 (by decide) ?_
        exact jv_lv [3, 1, 2, 0] rfl (ih6 (t + 1) (if hi < (he + (rise (2 + t))) then (he + (rise (2 + t))) else hi) (he + (rise (2 + t))) (by omega) (by rw [itr_s, hI, hrS]) (by omega))
  exact jv_lv [3, 2, 1, 0] rfl (lp6 _ 0 0 0 (by omega) rfl (Nat.lt_succ_self _))
theorem c_X3_mostLeft (E : EE) (l : Launch) (a : Nat → Nat) (least : Nat → Int32) (most : Nat → Int32) (rise : Nat → Int32) (day : Nat) (hd : day ≤ 60) : CT E l yX3_mostLeft cX3_mostLeft 7 (some .int) { frames := 2, cells := 0, slots := 0, locals := 44 } [.ref (a 0), .int (nI day)] (bLw E a least most rise) (some (.int (mlF least most day))) (bLw E a least most ((mlI least most day 19).2.2)) := by
  refine CT.intro (by decide +kernel) (Nat.le_of_ble_eq_true rfl) (fun K X Y => ?_)
  refine jv_aload_n 0 X dX3_mostLeft_0 0 rfl ?_
  refine jv_get (v := .ref (a 3)) 1 X gf_X3_18 dX3_mostLeft_1 0 rfl rfl ?_
  refine jv_iconst (v := 0) 4 X dX3_mostLeft_4 rfl ?_
  refine jv_callS (ws2 := bLw E a least most (fun _ => 0)) 5 X (c_J7_fill_53178 E _ (a 3) 201 rise 0 (by omega)) ws_X3_54 ⟨Nat.le_of_ble_eq_true rfl, Nat.le_of_ble_eq_true rfl⟩ ⟨rfl, rfl⟩ ⟨Nat.zero_le _, Nat.zero_le _⟩ dX3_mostLeft_5 rfl [] rfl (Nat.le_of_ble_eq_true rfl) [3] rfl rfl rfl rfl ?_
  refine jv_iconst (v := 0) 8 X dX3_mostLeft_8 rfl ?_
  refine jv_istore_n (lv2 := [(2, .int 0), (0, .ref (a 0)), (1, .int (nI day))]) 9 X dX3_mostLeft_9 (by decide) rfl ?_
  refine jv_iconst (v := 0) 10 X dX3_mostLeft_10 rfl ?_
  refine jv_istore_n (lv2 := [(3, .int 0), (2, .int 0), (0, .ref (a 0)), (1, .int (nI day))]) 11 X dX3_mostLeft_11 (by decide) rfl ?_
  refine jv_iconst (v := 0) 12 X dX3_mostLeft_12 rfl ?_
  refine jv_istore (lv2 := [(4, .int 0), (3, .int 0), (2, .int 0), (0, .ref (a 0)), (1, .int (nI day))]) 13 X dX3_mostLeft_13 (by decide) rfl ?_
  have lp15 : ∀ (n15 : Nat) (p : Nat) (al am : Int32) (ri : Nat → Int32), (p ≤ 19) → (mlI least most day p = (al, am, ri)) → 19 - p < n15 → JV E K 0 0 (bLw E a least most ri) [(0, .ref (a 0)), (1, .int (nI day)), (2, .int al), (3, .int am), (4, .int (nI p))] 15 [] := by
    intro n15
    induction n15 with
    | zero => intro p al am ri hp hI hm; exact absurd hm (Nat.not_lt_zero _)
    | succ n15 ih15 =>
      intro p al am ri hp hI hm
      refine jv_iload 15 X dX3_mostLeft_15 4 rfl ?_
      refine jv_bipush (v := 19) 17 X dX3_mostLeft_17 (by decide) ?_
      refine jn_icmp_ge 19 X dX3_mostLeft_19 135 (by decide) (fun c_1 => ?_) (fun c_1 => ?_)
      · have n_1 : 19 ≤ p := (nx_le (a := 19) (b := p) rfl rfl (by omega) (by omega)).mp c_1
        refine jv_aload_n 135 X dX3_mostLeft_135 0 rfl ?_
        refine jv_callW (w1 := bLw E a least most ri) 136 X (c_X3_highestRise E _ a least most ri) wv_X3_64 ⟨Nat.le_of_ble_eq_true rfl, Nat.le_of_ble_eq_true rfl⟩ ⟨rfl, rfl⟩ ⟨Nat.zero_le _, Nat.zero_le _⟩ dX3_mostLeft_136 rfl [] rfl (Nat.le_of_ble_eq_true rfl) 0 rfl rfl ?_
        refine jv_iload_n 139 X dX3_mostLeft_139 2 rfl ?_
        refine jv_iload_n 140 X dX3_mostLeft_140 3 rfl ?_
        refine jv_mmax 141 X wm_X3_37 dX3_mostLeft_141 (Nat.le_of_ble_eq_true rfl) (Nat.le_of_ble_eq_true rfl) ⟨Nat.zero_le _, Nat.zero_le _⟩ ?_
        refine jv_mmax 144 X wm_X3_37 dX3_mostLeft_144 (Nat.le_of_ble_eq_true rfl) (Nat.le_of_ble_eq_true rfl) ⟨Nat.zero_le _, Nat.zero_le _⟩ ?_
        rw [show p = 19 by omega] at hI
        exact jv_iret 147 X Y rfl dX3_mostLeft_147 () (congrArg (fun z => some (Value.int z)) (by rw [mlF, hI])) (by rw [hI])
      · have n_1 : ¬ 19 ≤ p := fun zq => c_1 ((nx_le (a := 19) (b := p) rfl rfl (by omega) (by omega)).mpr zq)
        refine jv_aload_n 22 X dX3_mostLeft_22 0 rfl ?_
        refine jv_get (v := .ref (a 1)) 23 X gf_X3_11 dX3_mostLeft_23 0 rfl rfl ?_
        refine jv_iload 26 X dX3_mostLeft_26 4 rfl ?_
        refine jv_iald (f := least) 28 X dX3_mostLeft_28 1 rfl (by decide) p rfl (by omega) ?_
        refine jv_aload_n 29 X dX3_mostLeft_29 0 rfl ?_
        refine jv_get (v := .ref (a 2)) 30 X gf_X3_15 dX3_mostLeft_30 0 rfl rfl ?_
        refine jv_iload 33 X dX3_mostLeft_33 4 rfl ?_
        refine jv_iald (f := most) 35 X dX3_mostLeft_35 2 rfl (by decide) p rfl (by omega) ?_
        refine jn_icmp_gt 36 X dX3_mostLeft_36 129 (by decide) (fun c_2 => ?_) (fun c_2 => ?_)
        · refine jv_iinc (v := (nI (p + 1))) (lv2 := [(4, .int (nI (p + 1))), (0, .ref (a 0)), (1, .int (nI day)), (2, .int al), (3, .int am)]) 129 X dX3_mostLeft_129 4 rfl (nx_inc _) (by decide) rfl ?_
          refine jv_goto 132 X dX3_mostLeft_132 15 (by decide) ?_
          exact jv_lv [1, 2, 3, 4, 0] rfl (ih15 (p + 1) al am ri (by omega) (by rw [mlI, itr_s, ← mlI, hI, mlS, if_neg c_2]) (by omega))
        · refine jv_aload_n 39 X dX3_mostLeft_39 0 rfl ?_
          refine jv_get (v := .ref (a 1)) 40 X gf_X3_11 dX3_mostLeft_40 0 rfl rfl ?_
          refine jv_iload 43 X dX3_mostLeft_43 4 rfl ?_
          refine jv_iald (f := least) 45 X dX3_mostLeft_45 1 rfl (by decide) p rfl (by omega) ?_
          refine jv_iload 46 X dX3_mostLeft_46 4 rfl ?_
          refine jv_bipush (v := 9) 48 X dX3_mostLeft_48 (by decide) ?_
          refine jv_isub 50 X dX3_mostLeft_50 ?_
          refine jv_iload_n 51 X dX3_mostLeft_51 1 rfl ?_
          refine jv_imul 52 X dX3_mostLeft_52 ?_
          refine jv_iadd 53 X dX3_mostLeft_53 ?_
          refine jv_istore (lv2 := [(5, .int ((least p) + (((nI p) - 9) * (nI day)))), (0, .ref (a 0)), (1, .int (nI day)), (2, .int al), (3, .int am), (4, .int (nI p))]) 54 X dX3_mostLeft_54 (by decide) rfl ?_
          refine jv_aload_n 56 X dX3_mostLeft_56 1 rfl ?_
          refine jv_get (v := .ref (a 2)) 57 X gf_X3_15 dX3_mostLeft_57 0 rfl rfl ?_
          refine jv_iload 60 X dX3_mostLeft_60 5 rfl ?_
          refine jv_iald (f := most) 62 X dX3_mostLeft_62 2 rfl (by decide) p rfl (by omega) ?_
          refine jv_iload 63 X dX3_mostLeft_63 5 rfl ?_
          refine jv_bipush (v := 9) 65 X dX3_mostLeft_65 (by decide) ?_
          refine jv_isub 67 X dX3_mostLeft_67 ?_
          refine jv_iload_n 68 X dX3_mostLeft_68 2 rfl ?_
          refine jv_imul 69 X dX3_mostLeft_69 ?_
          refine jv_iadd 70 X dX3_mostLeft_70 ?_
          refine jv_istore (lv2 := [(6, .int ((most p) + (((nI p) - 9) * (nI day)))), (5, .int ((least p) + (((nI p) - 9) * (nI day)))), (0, .ref (a 0)), (1, .int (nI day)), (2, .int al), (3, .int am), (4, .int (nI p))]) 71 X dX3_mostLeft_71 (by decide) rfl ?_
          refine jv_iload_n 73 X dX3_mostLeft_73 4 rfl ?_
          refine jv_iconst (v := 0) 74 X dX3_mostLeft_74 rfl ?_
          refine jv_iload 75 X dX3_mostLeft_75 0 rfl ?_
          refine jv_iconst (v := 1) 77 X dX3_mostLeft_77 rfl ?_
          refine jv_mmin 78 X wm_X3_43 dX3_mostLeft_78 (Nat.le_of_ble_eq_true rfl) (Nat.le_of_ble_eq_true rfl) ⟨Nat.zero_le _, Nat.zero_le _⟩ ?_
          refine jv_iload 81 X dX3_mostLeft_81 1 rfl ?_
          refine jv_isub 83 X dX3_mostLeft_83 ?_
          refine jv_iconst (v := 1) 84 X dX3_mostLeft_84 rfl ?_
          refine jv_iadd 85 X dX3_mostLeft_85 ?_
          refine jv_mmax 86 X wm_X3_37 dX3_mostLeft_86 (Nat.le_of_ble_eq_true rfl) (Nat.le_of_ble_eq_true rfl) ⟨Nat.zero_le _, Nat.zero_le _⟩ ?_
          refine jv_iadd 89 X dX3_mostLeft_89 ?_
          refine jv_istore_n (lv2 := [(2, .int (al + (if 0 < (((if 1 < ((most p) + (((nI p) - 9) * (nI day))) then 1 else ((most p) + (((nI p) - 9) * (nI day)))) - ((least p) + (((nI p) - 9) * (nI day)))) + 1) then (((if 1 < ((most p) + (((nI p) - 9) * (nI day))) then 1 else ((most p) + (((nI p) - 9) * (nI day)))) - ((least p) + (((nI p) - 9) * (nI day)))) + 1) else 0))), (6, .int ((most p) + (((nI p) - 9) * (nI day)))), (5, .int ((least p) + (((nI p) - 9) * (nI day)))), (0, .ref (a 0)), (1, .int (nI day)), (3, .int am), (4, .int (nI p))]) 90 X dX3_mostLeft_90 (by decide) rfl ?_
          refine jv_iload_n 91 X dX3_mostLeft_91 5 rfl ?_
          refine jv_iconst (v := 0) 92 X dX3_mostLeft_92 rfl ?_
          refine jv_iload 93 X dX3_mostLeft_93 1 rfl ?_
          refine jv_iload 95 X dX3_mostLeft_95 2 rfl ?_
          refine jv_sipush (v := 200) 97 X dX3_mostLeft_97 (by decide) ?_
          refine jv_mmax 100 X wm_X3_37 dX3_mostLeft_100 (Nat.le_of_ble_eq_true rfl) (Nat.le_of_ble_eq_true rfl) ⟨Nat.zero_le _, Nat.zero_le _⟩ ?_
          refine jv_isub 103 X dX3_mostLeft_103 ?_
          refine jv_iconst (v := 1) 104 X dX3_mostLeft_104 rfl ?_
          refine jv_iadd 105 X dX3_mostLeft_105 ?_
          refine jv_mmax 106 X wm_X3_37 dX3_mostLeft_106 (Nat.le_of_ble_eq_true rfl) (Nat.le_of_ble_eq_true rfl) ⟨Nat.zero_le _, Nat.zero_le _⟩ ?_
          refine jv_iadd 109 X dX3_mostLeft_109 ?_
          refine jv_istore_n (lv2 := [(3, .int (am + (if 0 < ((((most p) + (((nI p) - 9) * (nI day))) - (if ((least p) + (((nI p) - 9) * (nI day))) < 200 then 200 else ((least p) + (((nI p) - 9) * (nI day))))) + 1) then ((((most p) + (((nI p) - 9) * (nI day))) - (if ((least p) + (((nI p) - 9) * (nI day))) < 200 then 200 else ((least p) + (((nI p) - 9) * (nI day))))) + 1) else 0))), (2, .int (al + (if 0 < (((if 1 < ((most p) + (((nI p) - 9) * (nI day))) then 1 else ((most p) + (((nI p) - 9) * (nI day)))) - ((least p) + (((nI p) - 9) * (nI day)))) + 1) then (((if 1 < ((most p) + (((nI p) - 9) * (nI day))) then 1 else ((most p) + (((nI p) - 9) * (nI day)))) - ((least p) + (((nI p) - 9) * (nI day)))) + 1) else 0))), (6, .int ((most p) + (((nI p) - 9) * (nI day)))), (5, .int ((least p) + (((nI p) - 9) * (nI day)))), (0, .ref (a 0)), (1, .int (nI day)), (4, .int (nI p))]) 110 X dX3_mostLeft_110 (by decide) rfl ?_
          refine jv_aload_n 111 X dX3_mostLeft_111 4 rfl ?_
          refine jv_iload 112 X dX3_mostLeft_112 3 rfl ?_
          refine jv_iconst (v := 2) 114 X dX3_mostLeft_114 rfl ?_
          refine jv_mmax 115 X wm_X3_37 dX3_mostLeft_115 (Nat.le_of_ble_eq_true rfl) (Nat.le_of_ble_eq_true rfl) ⟨Nat.zero_le _, Nat.zero_le _⟩ ?_
          refine jv_iload 118 X dX3_mostLeft_118 2 rfl ?_
          refine jv_sipush (v := 199) 120 X dX3_mostLeft_120 (by decide) ?_
          refine jv_mmin 123 X wm_X3_43 dX3_mostLeft_123 (Nat.le_of_ble_eq_true rfl) (Nat.le_of_ble_eq_true rfl) ⟨Nat.zero_le _, Nat.zero_le _⟩ ?_
          refine jv_callW (w1 := bLw E a least most (rsF ri (if ((least p) + (((nI p) - 9) * (nI day))) < 2 then 2 else ((least p) + (((nI p) - 9) * (nI day)))) (if 199 < ((most p) + (((nI p) - 9) * (nI day))) then 199 else ((most p) + (((nI p) - 9) * (nI day)))))) 126 X (c_X3_raise E _ a least most ri (if ((least p) + (((nI p) - 9) * (nI day))) < 2 then 2 else ((least p) + (((nI p) - 9) * (nI day)))) (if 199 < ((most p) + (((nI p) - 9) * (nI day))) then 199 else ((most p) + (((nI p) - 9) * (nI day)))) mx_ge mn_le) wv_X3_60 ⟨Nat.le_of_ble_eq_true rfl, Nat.le_of_ble_eq_true rfl⟩ ⟨rfl, rfl⟩ ⟨Nat.zero_le _, Nat.zero_le _⟩ dX3_mostLeft_126 rfl [] rfl (Nat.le_of_ble_eq_true rfl) 0 rfl rfl ?_
          refine jv_iinc (v := (nI (p + 1))) (lv2 := [(4, .int (nI (p + 1))), (3, .int (am + (if 0 < ((((most p) + (((nI p) - 9) * (nI day))) - (if ((least p) + (((nI p) - 9) * (nI day))) < 200 then 200 else ((least p) + (((nI p) - 9) * (nI day))))) + 1) then ((((most p) + (((nI p) - 9) * (nI day))) - (if ((least p) + (((nI p) - 9) * (nI day))) < 200 then 200 else ((least p) + (((nI p) - 9) * (nI day))))) + 1) else 0))), (2, .int (al + (if 0 < (((if 1 < ((most p) + (((nI p) - 9) * (nI day))) then 1 else ((most p) + (((nI p) - 9) * (nI day)))) - ((least p) + (((nI p) - 9) * (nI day)))) + 1) then (((if 1 < ((most p) + (((nI p) - 9) * (nI day))) then 1 else ((most p) + (((nI p) - 9) * (nI day)))) - ((least p) + (((nI p) - 9) * (nI day)))) + 1) else 0))), (6, .int ((most p) + (((nI p) - 9) * (nI day)))), (5, .int ((least p) + (((nI p) - 9) * (nI day)))), (0, .ref (a 0)), (1, .int (nI day))]) 129 X dX3_mostLeft_129 6 rfl (nx_inc _) (by decide) rfl ?_
          refine jv_goto 132 X dX3_mostLeft_132 15 (by decide) ?_
          exact jv_lv [5, 6, 2, 1, 0] rfl (ih15 (p + 1) (al + (if 0 < (((if 1 < ((most p) + (((nI p) - 9) * (nI day))) then 1 else ((most p) + (((nI p) - 9) * (nI day)))) - ((least p) + (((nI p) - 9) * (nI day)))) + 1) then (((if 1 < ((most p) + (((nI p) - 9) * (nI day))) then 1 else ((most p) + (((nI p) - 9) * (nI day)))) - ((least p) + (((nI p) - 9) * (nI day)))) + 1) else 0)) (am + (if 0 < ((((most p) + (((nI p) - 9) * (nI day))) - (if ((least p) + (((nI p) - 9) * (nI day))) < 200 then 200 else ((least p) + (((nI p) - 9) * (nI day))))) + 1) then ((((most p) + (((nI p) - 9) * (nI day))) - (if ((least p) + (((nI p) - 9) * (nI day))) < 200 then 200 else ((least p) + (((nI p) - 9) * (nI day))))) + 1) else 0)) (rsF ri (if ((least p) + (((nI p) - 9) * (nI day))) < 2 then 2 else ((least p) + (((nI p) - 9) * (nI day)))) (if 199 < ((most p) + (((nI p) - 9) * (nI day))) then 199 else ((most p) + (((nI p) - 9) * (nI day))))) (by omega) (by rw [mlI, itr_s, ← mlI, hI, mlS, if_pos c_2]; rfl) (by omega))
  exact jv_lv [3, 4, 2, 1, 0] rfl (lp15 _ 0 0 0 (fun _ => 0) (by omega) rfl (Nat.lt_succ_self _))
theorem c_X3_bestDay (E : EE) (l : Launch) (a : Nat → Nat) (least : Nat → Int32) (most : Nat → Int32) (rise : Nat → Int32) : CT E l yX3_bestDay cX3_bestDay 5 (some .int) { frames := 3, cells := 0, slots := 0, locals := 70 } [.ref (a 0)] (bLw E a least most rise) (some (.int (nI (bdF least most).1))) (bLw E a least most ((mlI least most (bdF least most).2 19).2.2)) := by
  refine CT.intro (by decide +kernel) (Nat.le_of_ble_eq_true rfl) (fun K X Y => ?_)
  refine jv_iconst (v := 0) 0 X dX3_bestDay_0 rfl ?_
  refine jv_istore_n (lv2 := [(1, .int 0), (0, .ref (a 0))]) 1 X dX3_bestDay_1 (by decide) rfl ?_
  refine jv_aload_n 2 X dX3_bestDay_2 1 rfl ?_
  refine jv_iconst (v := 0) 3 X dX3_bestDay_3 rfl ?_
  refine jv_callW (w1 := bLw E a least most ((mlI least most 0 19).2.2)) 4 X (c_X3_mostLeft E _ a least most rise 0 (by omega)) wv_X3_50 ⟨Nat.le_of_ble_eq_true rfl, Nat.le_of_ble_eq_true rfl⟩ ⟨rfl, rfl⟩ ⟨Nat.zero_le _, Nat.zero_le _⟩ dX3_bestDay_4 rfl [] rfl (Nat.le_of_ble_eq_true rfl) 0 rfl rfl ?_
  refine jv_istore_n (lv2 := [(2, .int (mlF least most 0)), (1, .int 0), (0, .ref (a 0))]) 7 X dX3_bestDay_7 (by decide) rfl ?_
  refine jv_iconst (v := 1) 8 X dX3_bestDay_8 rfl ?_
  refine jv_istore_n (lv2 := [(3, .int 1), (2, .int (mlF least most 0)), (1, .int 0), (0, .ref (a 0))]) 9 X dX3_bestDay_9 (by decide) rfl ?_
  have lp10 : ∀ (n10 : Nat) (d be : Nat) (fw : Int32), (1 ≤ d) → (d ≤ 61) → (be < d) → (itE (bdS least most) 60 1 (0, mlF least most 0) = itE (bdS least most) (61 - d) d (be, fw)) → 61 - d < n10 → JV E K 0 0 (bLw E a least most ((mlI least most (d - 1) 19).2.2)) [(0, .ref (a 0)), (1, .int (nI be)), (2, .int fw), (3, .int (nI d))] 10 [] := by
    intro n10
    induction n10 with
    | zero => intro d be fw hd1 hd2 hbe hJ hm; exact absurd hm (Nat.not_lt_zero _)
    | succ n10 ih10 =>
      intro d be fw hd1 hd2 hbe hJ hm
      refine jv_iload_n 10 X dX3_bestDay_10 3 rfl ?_
      refine jv_bipush (v := 60) 11 X dX3_bestDay_11 (by decide) ?_
      refine jn_icmp_gt 13 X dX3_bestDay_13 45 (by decide) (fun c_1 => ?_) (fun c_1 => ?_)
      · have n_1 : ¬ d ≤ 60 := fun zq => c_1 ((nx_le (a := d) (b := 60) rfl rfl (by omega) (by omega)).mpr zq)
        refine jv_iload_n 45 X dX3_bestDay_45 1 rfl ?_
        have hq : bdF least most = (be, d - 1) := by unfold bdF; rw [hJ, show 61 - d = 0 by omega, itE_0]; rw [show d - 1 = 60 by omega]
        exact jv_iret 46 X Y rfl dX3_bestDay_46 () (by rw [hq]) (by rw [hq])
      · have n_1 : d ≤ 60 := (nx_le (a := d) (b := 60) rfl rfl (by omega) (by omega)).mp c_1
        refine jv_iload_n 16 X dX3_bestDay_16 2 rfl ?_
        refine jv_iconst (v := 1) 17 X dX3_bestDay_17 rfl ?_
        refine jn_icmp_le 18 X dX3_bestDay_18 45 (by decide) (fun c_2 => ?_) (fun c_2 => ?_)
        · refine jv_iload_n 45 X dX3_bestDay_45 1 rfl ?_
          have hq : bdF least most = (be, d - 1) := by unfold bdF; rw [hJ, show 61 - d = (61 - (d + 1)) + 1 by omega, itE_l (show bdS least most d (be, fw) = .inl (be, d - 1) from if_pos c_2)]
          exact jv_iret 46 X Y rfl dX3_bestDay_46 () (by rw [hq]) (by rw [hq])
        · refine jv_aload_n 21 X dX3_bestDay_21 0 rfl ?_
          refine jv_iload_n 22 X dX3_bestDay_22 3 rfl ?_
          refine jv_callW (w1 := bLw E a least most ((mlI least most d 19).2.2)) 23 X (c_X3_mostLeft E _ a least most ((mlI least most (d - 1) 19).2.2) d (by omega)) wv_X3_50 ⟨Nat.le_of_ble_eq_true rfl, Nat.le_of_ble_eq_true rfl⟩ ⟨rfl, rfl⟩ ⟨Nat.zero_le _, Nat.zero_le _⟩ dX3_bestDay_23 rfl [] rfl (Nat.le_of_ble_eq_true rfl) 0 rfl rfl ?_
          refine jv_istore (lv2 := [(4, .int (mlF least most d)), (0, .ref (a 0)), (1, .int (nI be)), (2, .int fw), (3, .int (nI d))]) 26 X dX3_bestDay_26 (by decide) rfl ?_
          refine jv_iload 28 X dX3_bestDay_28 0 rfl ?_
          refine jv_iload_n 30 X dX3_bestDay_30 3 rfl ?_
          refine jn_icmp_ge 31 X dX3_bestDay_31 39 (by decide) (fun c_3 => ?_) (fun c_3 => ?_)
          · refine jv_iinc (v := (nI (d + 1))) (lv2 := [(3, .int (nI (d + 1))), (4, .int (mlF least most d)), (0, .ref (a 0)), (1, .int (nI be)), (2, .int fw)]) 39 X dX3_bestDay_39 4 rfl (nx_inc _) (by decide) rfl ?_
            refine jv_goto 42 X dX3_bestDay_42 10 (by decide) ?_
            exact jv_lv [2, 3, 4, 0] rfl (ih10 (d + 1) be fw (by omega) (by omega) (by omega) (by rw [hJ, show 61 - d = (61 - (d + 1)) + 1 by omega]; exact itE_r (by rw [bdS, if_neg c_2, if_neg (Int32.not_lt.mpr c_3)])) (by omega))
          · refine jv_iload 34 X dX3_bestDay_34 0 rfl ?_
            refine jv_istore_n (lv2 := [(2, .int (mlF least most d)), (4, .int (mlF least most d)), (0, .ref (a 0)), (1, .int (nI be)), (3, .int (nI d))]) 36 X dX3_bestDay_36 (by decide) rfl ?_
            refine jv_iload_n 37 X dX3_bestDay_37 4 rfl ?_
            refine jv_istore_n (lv2 := [(1, .int (nI d)), (2, .int (mlF least most d)), (4, .int (mlF least most d)), (0, .ref (a 0)), (3, .int (nI d))]) 38 X dX3_bestDay_38 (by decide) rfl ?_
            refine jv_iinc (v := (nI (d + 1))) (lv2 := [(3, .int (nI (d + 1))), (1, .int (nI d)), (2, .int (mlF least most d)), (4, .int (mlF least most d)), (0, .ref (a 0))]) 39 X dX3_bestDay_39 4 rfl (nx_inc _) (by decide) rfl ?_
            refine jv_goto 42 X dX3_bestDay_42 10 (by decide) ?_
            exact jv_lv [4, 1, 2, 0] rfl (ih10 (d + 1) d (mlF least most d) (by omega) (by omega) (by omega) (by rw [hJ, show 61 - d = (61 - (d + 1)) + 1 by omega]; exact itE_r (by rw [bdS, if_neg c_2, if_pos (Int32.not_le.mp c_3)])) (by omega))
  exact jv_lv [3, 2, 1, 0] rfl (lp10 _ 1 0 (mlF least most 0) (by omega) (by omega) (by omega) rfl (Nat.lt_succ_self _))
