theorem CG.introF {S : Type} {E : EE} {l : Launch} {y : MethodName} {cc : ByteArray} {nL : Nat} {ret : Option FieldType} {rm : Room} {av : List Value} {w : va_W} {B : Nat → State → Prop} {r0 : S → Option Value} {wo : S → va_W} (hy : plainFor y = true) (hav : (lg_sl av).length ≤ nL)
    (hb : ∀ K : Ctx, CX E K cc nL y.cls rm → RX E K rm.cells rm.slots ret r0 wo → (kA K = va_A w (kS K).heap.size) → B (kS K).heap.size (kS K) → (kMe K).name = y.name → JV E K 0 0 w (lv_args 0 av) 0 []) : CG E l y cc nL ret rm av w B r0 wo := by
  intro sz
  refine va_MetF (cc := cc) (maxL := nL) (ret := ret) hy rfl ?_
  intro p e s m args below meth c s₁ Bd hml hv
  obtain ⟨rfl, hsz, hP, hE, hD0, hB⟩ := hv
  subst hsz
  have hts := atoms_spec (ws := Cond.code y cc nL ret :: TB) Bd.pre
  have hl := lv_entry av (n := nL) hav
  rw [lg_entry_eq]
  exact hb (p, l, e, rm, s, m, av.toArray, below, meth, c, va_A w s.heap.size, nL, MQ below (QG E r0 wo (va_A w s.heap.size)) av.toArray s rm.cells rm.slots (va_A w s.heap.size))
    ⟨Bd.exec, Bd.bytes, hml, rfl, rfl, findClass_of_methodNamed Bd.named, fun w hw => hts w (List.mem_cons_of_mem _ hw), hE, fun q h => Or.inr h, Bd.notSynchronized⟩ ⟨Bd.returns, rfl⟩ rfl hB (name_of_methodNamed Bd.named Bd.method).1 _ _ _ hl hP hD0.self va_S.rf
theorem CT.introF {E : EE} {l : Launch} {y : MethodName} {cc : ByteArray} {nL : Nat} {ret : Option FieldType} {rm : Room} {av : List Value} {w w1 : va_W} {r0 : Option Value} (hy : plainFor y = true) (hav : (lg_sl av).length ≤ nL)
    (hb : ∀ K : Ctx, CX E K cc nL y.cls rm → RX E K rm.cells rm.slots ret (fun _ : Unit => r0) (fun _ : Unit => w1) → JV E K 0 0 w (lv_args 0 av) 0 []) : CT E l y cc nL ret rm av w r0 w1 :=
  CG.introF hy hav (fun K X Y _ _ _ => hb K X Y)
theorem lim_eq (v : Int32) : (if 1 < (if v < 200 then v else 200) then (if v < 200 then v else 200) else 1) = clampI v := by
  unfold clampI
  by_cases h1 : v < 200
  · rw [if_pos h1]
    by_cases h2 : 1 < v
    · rw [if_pos h2, if_neg (Int32.not_lt.mpr (Int32.le_of_lt h2)), if_neg (Int32.not_lt.mpr (Int32.le_of_lt h1))]
    · rw [if_neg h2]
      by_cases h3 : v < 1
      · rw [if_pos h3]
      · rw [if_neg h3, if_neg (Int32.not_lt.mpr (Int32.le_of_lt h1))]
        exact (Int32.le_antisymm (Int32.not_lt.mp h2) (Int32.not_lt.mp h3)).symm
  · rw [if_neg h1, if_pos (show (1 : Int32) < 200 by decide), if_neg (Int32.not_lt.mpr (Int32.le_trans (show (1 : Int32) ≤ 200 by decide) (Int32.not_lt.mp h1)))]
    by_cases h2 : 200 < v
    · rw [if_pos h2]
    · rw [if_neg h2]
      exact (Int32.le_antisymm (Int32.not_lt.mp h2) (Int32.not_lt.mp h1)).symm
theorem fm_x {a : Nat} (h : a < 2147483648) : 0 ≤ nI a ^^^ 7 := by
  rw [Int32.le_iff_toInt_le]
  show (0 : Int) ≤ (nI a ^^^ 7).toBitVec.toInt
  have e : (nI a ^^^ 7).toBitVec.msb = false := by
    show ((nI a).toBitVec ^^^ (7 : Int32).toBitVec).msb = false
    rw [BitVec.msb_xor]
    have h1 : (nI a).toBitVec.msb = false := by
      rw [BitVec.msb_eq_false_iff_two_mul_lt]
      show 2 * (BitVec.ofNat 32 a).toNat < 2 ^ 32
      rw [BitVec.toNat_ofNat, Nat.mod_eq_of_lt (by omega)]
      omega
    rw [h1]
    decide
  rw [BitVec.toInt_eq_msb_cond, e]
  simp
abbrev mkRl (inch day sights : Int32) (week purse cloth ruler stick span west east sightDay sightInch : Nat → Int32) : Rl := (inch, day, sights, week, purse, cloth, ruler, stick, span, west, east, sightDay, sightInch)
def msC (r : Rl) (k : Nat) : Int32 := match r with
  | (inch, _, _, _, _, _, ruler, _) => if ruler k = 0 then inch else ruler k
def hmC (r : Rl) (b : Nat) : Bool := match r with
  | (_, _, _, _, _, _, _, _, span, west, east, _) => decide (span b ≤ west b + east b)
def foI (x y : Int32) : Int32 := if ¬ x = 0 then 1 else if ¬ y = 0 then 2 else 0
def hdF (r : Rl) (kind : Int32) (o p : Nat) (n : Int32) : Int32 := match r with
  | (inch, day, sights, week, purse, cloth, ruler, stick, span, west, east, sightDay, sightInch) => if kind = 40 ∨ kind = 41 then (if hmC r p = true then 3 else 0) else if kind = 43 then (if ¬ n ≤ purse o then 1 else if ¬ cloth o + n * inch ≤ 99999 then 2 else 0) else if kind = 45 then (if ¬ n * msC r o ≤ cloth o then 1 else if ¬ purse o + n ≤ 9999 then 2 else 0) else if kind = 46 then (if 999 ≤ day then 6 else 0) else if kind = 60 then (if inch = 1 then 4 else 0) else if kind = 61 then (if ruler o = inch then 5 else 0) else if kind = 62 then (if inch = 200 then 4 else 0) else if kind = 120 then (if ruler o = 0 then 5 else 0) else 0
def acF (r : Rl) (kind : Int32) (o p : Nat) (n : Int32) : Rl := match r with
  | (inch, day, sights, week, purse, cloth, ruler, stick, span, west, east, sightDay, sightInch) => if kind = 40 then (inch, day, sights, week, purse, cloth, ruler, stick, span, upd west p (west p + n * msC r o), east, sightDay, sightInch) else if kind = 41 then (inch, day, sights, week, purse, cloth, ruler, stick, span, west, upd east p (east p + n * msC r o), sightDay, sightInch) else if kind = 43 then (inch, day, sights, week, upd purse o (purse o - n), upd cloth o (cloth o + n * inch), ruler, stick, span, west, east, sightDay, sightInch) else if kind = 45 then (inch, day, sights, week, upd purse o (purse o + n), upd cloth o (cloth o - n * msC r o), ruler, stick, span, west, east, sightDay, sightInch) else if kind = 46 then (clampI (inch + week (day.toNatClampNeg % 7)), day + 1, sights, week, purse, cloth, ruler, stick, span, west, east, sightDay, sightInch) else if kind = 47 then (inch, day, sights, week, purse, cloth, ruler, upd stick p (n * msC r o), span, west, east, sightDay, sightInch) else if kind = 60 then (clampI (inch - n), day, sights, week, purse, cloth, ruler, stick, span, west, east, sightDay, sightInch) else if kind = 61 then (inch, day, sights, week, purse, cloth, upd ruler o inch, stick, span, west, east, sightDay, sightInch) else if kind = 62 then (clampI (inch + n), day, sights, week, purse, cloth, ruler, stick, span, west, east, sightDay, sightInch) else if kind = 120 then (inch, day, sights, week, purse, cloth, upd ruler o 0, stick, span, west, east, sightDay, sightInch) else r
def mbC (r : Rl) : Int32 := (((0 + (if hmC r 0 = true then 1 else 0)) + (if hmC r 1 = true then 1 else 0)) + (if hmC r 2 = true then 1 else 0)) + (if hmC r 3 = true then 1 else 0)
theorem c_X9_within (E : EE) (l : Launch) (v : Int32) (lo : Int32) (hi : Int32) : CT E l yX9_within cX9_within 3 (some .boolean) { frames := 0, cells := 0, slots := 0, locals := 0 } [.int v, .int lo, .int hi] ([]) (some (.int (zI (lo ≤ v ∧ v ≤ hi)))) ([]) := by
  refine CT.intro (by decide +kernel) (Nat.le_of_ble_eq_true rfl) (fun K X Y => ?_)
  refine jv_iload_n 0 X dX9_within_0 0 rfl ?_
  refine jv_iload_n 1 X dX9_within_1 1 rfl ?_
  refine jn_icmp_lt 2 X dX9_within_2 14 (by decide) (fun c_1 => ?_) (fun c_1 => ?_)
  · refine jv_iconst (v := 0) 14 X dX9_within_14 rfl ?_
    exact jv_zret 15 X Y rfl rfl dX9_within_15 () (by simp [zI, lt_nle, -Int32.not_le, c_1]) rfl
  · refine jv_iload_n 5 X dX9_within_5 0 rfl ?_
    refine jv_iload_n 6 X dX9_within_6 2 rfl ?_
    refine jn_icmp_gt 7 X dX9_within_7 14 (by decide) (fun c_2 => ?_) (fun c_2 => ?_)
    · refine jv_iconst (v := 0) 14 X dX9_within_14 rfl ?_
      exact jv_zret 15 X Y rfl rfl dX9_within_15 () (by simp [zI, lt_nle, -Int32.not_le, c_1, c_2]) rfl
    · refine jv_iconst (v := 1) 10 X dX9_within_10 rfl ?_
      refine jv_goto 11 X dX9_within_11 15 (by decide) ?_
      exact jv_zret 15 X Y rfl rfl dX9_within_15 () (by simp [zI, lt_nle, -Int32.not_le, c_1, c_2]) rfl
theorem c_X9_isOne (E : EE) (l : Launch) (k : Int32) : CT E l yX9_isOne cX9_isOne 1 (some .boolean) { frames := 1, cells := 0, slots := 0, locals := 22 } [.int k] ([]) (some (.int (zI (0 ≤ k ∧ k ≤ 5)))) ([]) := by
  refine CT.intro (by decide +kernel) (Nat.le_of_ble_eq_true rfl) (fun K X Y => ?_)
  refine jv_iload_n 0 X dX9_isOne_0 0 rfl ?_
  refine jv_iconst (v := 0) 1 X dX9_isOne_1 rfl ?_
  refine jv_iconst (v := 5) 2 X dX9_isOne_2 rfl ?_
  refine jv_fun 3 X (c_X9_within E _ k 0 5) ws_X9_75 ⟨Nat.le_of_ble_eq_true rfl, Nat.le_of_ble_eq_true rfl⟩ ⟨rfl, rfl⟩ ⟨Nat.zero_le _, Nat.zero_le _⟩ dX9_isOne_3 rfl [] rfl (Nat.le_of_ble_eq_true rfl) ?_
  exact jv_zret 6 X Y rfl zI_n dX9_isOne_6 () rfl rfl
theorem c_X9_isStick (E : EE) (l : Launch) (k : Int32) : CT E l yX9_isStick cX9_isStick 1 (some .boolean) { frames := 1, cells := 0, slots := 0, locals := 22 } [.int k] ([]) (some (.int (zI (0 ≤ k ∧ k ≤ 7)))) ([]) := by
  refine CT.intro (by decide +kernel) (Nat.le_of_ble_eq_true rfl) (fun K X Y => ?_)
  refine jv_iload_n 0 X dX9_isStick_0 0 rfl ?_
  refine jv_iconst (v := 0) 1 X dX9_isStick_1 rfl ?_
  refine jv_bipush (v := 7) 2 X dX9_isStick_2 (by decide) ?_
  refine jv_fun 4 X (c_X9_within E _ k 0 7) ws_X9_75 ⟨Nat.le_of_ble_eq_true rfl, Nat.le_of_ble_eq_true rfl⟩ ⟨rfl, rfl⟩ ⟨Nat.zero_le _, Nat.zero_le _⟩ dX9_isStick_4 rfl [] rfl (Nat.le_of_ble_eq_true rfl) ?_
  exact jv_zret 7 X Y rfl zI_n dX9_isStick_7 () rfl rfl
theorem c_X9_isBridge (E : EE) (l : Launch) (k : Int32) : CT E l yX9_isBridge cX9_isBridge 1 (some .boolean) { frames := 1, cells := 0, slots := 0, locals := 22 } [.int k] ([]) (some (.int (zI (0 ≤ k ∧ k ≤ 3)))) ([]) := by
  refine CT.intro (by decide +kernel) (Nat.le_of_ble_eq_true rfl) (fun K X Y => ?_)
  refine jv_iload_n 0 X dX9_isBridge_0 0 rfl ?_
  refine jv_iconst (v := 0) 1 X dX9_isBridge_1 rfl ?_
  refine jv_iconst (v := 3) 2 X dX9_isBridge_2 rfl ?_
  refine jv_fun 3 X (c_X9_within E _ k 0 3) ws_X9_75 ⟨Nat.le_of_ble_eq_true rfl, Nat.le_of_ble_eq_true rfl⟩ ⟨rfl, rfl⟩ ⟨Nat.zero_le _, Nat.zero_le _⟩ dX9_isBridge_3 rfl [] rfl (Nat.le_of_ble_eq_true rfl) ?_
  exact jv_zret 6 X Y rfl zI_n dX9_isBridge_6 () rfl rfl
theorem c_X9_limited (E : EE) (l : Launch) (v : Int32) : CT E l yX9_limited cX9_limited 1 (some .int) { frames := 1, cells := 0, slots := 0, locals := 21 } [.int v] ([]) (some (.int (clampI v))) ([]) := by
  refine CT.intro (by decide +kernel) (Nat.le_of_ble_eq_true rfl) (fun K X Y => ?_)
  refine jv_iconst (v := 1) 0 X dX9_limited_0 rfl ?_
  refine jv_sipush (v := 200) 1 X dX9_limited_1 (by decide) ?_
  refine jv_iload_n 4 X dX9_limited_4 0 rfl ?_
  refine jv_mmin 5 X wm_X9_208 dX9_limited_5 (Nat.le_of_ble_eq_true rfl) (Nat.le_of_ble_eq_true rfl) ⟨Nat.zero_le _, Nat.zero_le _⟩ ?_
  refine jv_mmax 8 X wm_X9_294 dX9_limited_8 (Nat.le_of_ble_eq_true rfl) (Nat.le_of_ble_eq_true rfl) ⟨Nat.zero_le _, Nat.zero_le _⟩ ?_
  exact jv_iret 11 X Y rfl dX9_limited_11 () (congrArg (fun z => some (Value.int z)) (lim_eq v)) rfl
theorem c_J9_floorMod_7cf53 (E : EE) (l : Launch) (x : Nat) (hx : x < 2147483648) : CT E l yJ9_floorMod_7cf53 cJ9_floorMod_7cf53 3 (some .int) { frames := 0, cells := 0, slots := 0, locals := 0 } [.int (nI x), .int 7] ([]) (some (.int (nI (x % 7)))) ([]) := by
  refine CT.introF (by decide +kernel) (Nat.le_of_ble_eq_true rfl) (fun K X Y => ?_)
  refine jv_iload_n 0 X dJ9_floorMod_7cf53_0 0 rfl ?_
  refine jv_iload_n 1 X dJ9_floorMod_7cf53_1 1 rfl ?_
  refine jv_irem 2 X dJ9_floorMod_7cf53_2 (by decide) ?_
  refine jv_norm (x2 := nI (x % 7)) (nx_rem (a := x) (b := 7) rfl rfl (by omega) (by omega) (by omega)) ?_
  refine jv_istore_n (lv2 := [(2, .int (nI (x % 7))), (0, .int (nI x)), (1, .int 7)]) 3 X dJ9_floorMod_7cf53_3 (by decide) rfl ?_
  refine jv_iload_n 4 X dJ9_floorMod_7cf53_4 1 rfl ?_
  refine jv_iload_n 5 X dJ9_floorMod_7cf53_5 2 rfl ?_
  refine jv_ixor 6 X dJ9_floorMod_7cf53_6 ?_
  refine jn_if_ge 7 X dJ9_floorMod_7cf53_7 18 (by decide) (fun c_1 => ?_) (fun c_1 => absurd (fm_x hx) c_1)
  refine jv_iload_n 18 X dJ9_floorMod_7cf53_18 0 rfl ?_
  exact jv_iret 19 X Y rfl dJ9_floorMod_7cf53_19 () rfl rfl
theorem c_X5_measure (E : EE) (l : Launch) (a : Nat → Nat) (r : Rl) (o : Nat) (ho : o < 6) : CT E l yX5_measure cX5_measure 2 (some .int) { frames := 0, cells := 0, slots := 0, locals := 0 } [.ref (a 0), .int (nI o)] (tRl E a r) (some (.int (msC r o))) (tRl E a r) := by
  obtain ⟨inch, day, sights, week, purse, cloth, ruler, stick, span, west, east, sightDay, sightInch⟩ := r
  refine CT.intro (by decide +kernel) (Nat.le_of_ble_eq_true rfl) (fun K X Y => ?_)
  refine jv_aload_n 0 X dX5_measure_0 0 rfl ?_
  refine jv_get (v := .ref (a 4)) 1 X gf_X5_25 dX5_measure_1 0 rfl rfl ?_
  refine jv_iload_n 4 X dX5_measure_4 1 rfl ?_
  refine jv_iald (f := ruler) 5 X dX5_measure_5 4 rfl (by decide) o rfl (by omega) ?_
  refine jn_if_ne 6 X dX5_measure_6 16 (by decide) (fun c_1 => ?_) (fun c_1 => ?_)
  · refine jv_aload_n 16 X dX5_measure_16 0 rfl ?_
    refine jv_get (v := .ref (a 4)) 17 X gf_X5_25 dX5_measure_17 0 rfl rfl ?_
    refine jv_iload_n 20 X dX5_measure_20 1 rfl ?_
    refine jv_iald (f := ruler) 21 X dX5_measure_21 4 rfl (by decide) o rfl (by omega) ?_
    exact jv_iret 22 X Y rfl dX5_measure_22 () (by simp [msC, lt_nle, -Int32.not_le, c_1]) rfl
  · refine jv_aload_n 9 X dX5_measure_9 0 rfl ?_
    refine jv_get (v := .int inch) 10 X gf_X5_9 dX5_measure_10 0 rfl rfl ?_
    refine jv_goto 13 X dX5_measure_13 22 (by decide) ?_
    exact jv_iret 22 X Y rfl dX5_measure_22 () (by simp [msC, lt_nle, -Int32.not_le, c_1]) rfl
theorem c_X5_hasMet (E : EE) (l : Launch) (a : Nat → Nat) (r : Rl) (p : Nat) (hp : p < 4) : CT E l yX5_hasMet cX5_hasMet 2 (some .boolean) { frames := 0, cells := 0, slots := 0, locals := 0 } [.ref (a 0), .int (nI p)] (tRl E a r) (some (.int (zI (hmC r p = true)))) (tRl E a r) := by
  obtain ⟨inch, day, sights, week, purse, cloth, ruler, stick, span, west, east, sightDay, sightInch⟩ := r
  refine CT.intro (by decide +kernel) (Nat.le_of_ble_eq_true rfl) (fun K X Y => ?_)
  refine jv_aload_n 0 X dX5_hasMet_0 0 rfl ?_
  refine jv_get (v := .ref (a 7)) 1 X gf_X5_34 dX5_hasMet_1 0 rfl rfl ?_
  refine jv_iload_n 4 X dX5_hasMet_4 1 rfl ?_
  refine jv_iald (f := west) 5 X dX5_hasMet_5 7 rfl (by decide) p rfl (by omega) ?_
  refine jv_aload_n 6 X dX5_hasMet_6 0 rfl ?_
  refine jv_get (v := .ref (a 8)) 7 X gf_X5_37 dX5_hasMet_7 0 rfl rfl ?_
  refine jv_iload_n 10 X dX5_hasMet_10 1 rfl ?_
  refine jv_iald (f := east) 11 X dX5_hasMet_11 8 rfl (by decide) p rfl (by omega) ?_
  refine jv_iadd 12 X dX5_hasMet_12 ?_
  refine jv_aload_n 13 X dX5_hasMet_13 0 rfl ?_
  refine jv_get (v := .ref (a 6)) 14 X gf_X5_31 dX5_hasMet_14 0 rfl rfl ?_
  refine jv_iload_n 17 X dX5_hasMet_17 1 rfl ?_
  refine jv_iald (f := span) 18 X dX5_hasMet_18 6 rfl (by decide) p rfl (by omega) ?_
  refine jn_icmp_lt 19 X dX5_hasMet_19 26 (by decide) (fun c_1 => ?_) (fun c_1 => ?_)
  · refine jv_iconst (v := 0) 26 X dX5_hasMet_26 rfl ?_
    exact jv_zret 27 X Y rfl rfl dX5_hasMet_27 () (by simp [hmC, zI, lt_nle, -Int32.not_le, c_1]) rfl
  · refine jv_iconst (v := 1) 22 X dX5_hasMet_22 rfl ?_
    refine jv_goto 23 X dX5_hasMet_23 27 (by decide) ?_
    exact jv_zret 27 X Y rfl rfl dX5_hasMet_27 () (by simp [hmC, zI, lt_nle, -Int32.not_le, c_1]) rfl
theorem c_X5_overlap (E : EE) (l : Launch) (a : Nat → Nat) (r : Rl) (p : Nat) (hp : p < 4) : CT E l yX5_overlap cX5_overlap 2 (some .int) { frames := 1, cells := 0, slots := 0, locals := 21 } [.ref (a 0), .int (nI p)] (tRl E a r) (some (.int (if hmC r p = true then r.2.2.2.2.2.2.2.2.2.1 p + r.2.2.2.2.2.2.2.2.2.2.1 p - r.2.2.2.2.2.2.2.2.1 p else -6))) (tRl E a r) := by
  obtain ⟨inch, day, sights, week, purse, cloth, ruler, stick, span, west, east, sightDay, sightInch⟩ := r
  refine CT.intro (by decide +kernel) (Nat.le_of_ble_eq_true rfl) (fun K X Y => ?_)
  refine jv_aload_n 0 X dX5_overlap_0 0 rfl ?_
  refine jv_iload_n 1 X dX5_overlap_1 1 rfl ?_
  refine jv_callW (w1 := bRl E a inch day sights week purse cloth ruler stick span west east sightDay sightInch) 2 X (c_X5_hasMet E _ a (inch, day, sights, week, purse, cloth, ruler, stick, span, west, east, sightDay, sightInch) p (by omega)) wv_X5_64 ⟨Nat.le_of_ble_eq_true rfl, Nat.le_of_ble_eq_true rfl⟩ ⟨rfl, rfl⟩ ⟨Nat.zero_le _, Nat.zero_le _⟩ dX5_overlap_2 rfl [] rfl (Nat.le_of_ble_eq_true rfl) 0 rfl rfl ?_
  refine jv_z_eq 5 X dX5_overlap_5 31 (by decide) (fun c_1 => ?_) (fun c_1 => ?_)
  · refine jv_bipush (v := (-6)) 31 X dX5_overlap_31 (by decide) ?_
    exact jv_iret 33 X Y rfl dX5_overlap_33 () (by simp [lt_nle, -Int32.not_le, c_1]) rfl
  · refine jv_aload_n 8 X dX5_overlap_8 0 rfl ?_
    refine jv_get (v := .ref (a 7)) 9 X gf_X5_34 dX5_overlap_9 0 rfl rfl ?_
    refine jv_iload_n 12 X dX5_overlap_12 1 rfl ?_
    refine jv_iald (f := west) 13 X dX5_overlap_13 7 rfl (by decide) p rfl (by omega) ?_
    refine jv_aload_n 14 X dX5_overlap_14 0 rfl ?_
    refine jv_get (v := .ref (a 8)) 15 X gf_X5_37 dX5_overlap_15 0 rfl rfl ?_
    refine jv_iload_n 18 X dX5_overlap_18 1 rfl ?_
    refine jv_iald (f := east) 19 X dX5_overlap_19 8 rfl (by decide) p rfl (by omega) ?_
    refine jv_iadd 20 X dX5_overlap_20 ?_
    refine jv_aload_n 21 X dX5_overlap_21 0 rfl ?_
    refine jv_get (v := .ref (a 6)) 22 X gf_X5_31 dX5_overlap_22 0 rfl rfl ?_
    refine jv_iload_n 25 X dX5_overlap_25 1 rfl ?_
    refine jv_iald (f := span) 26 X dX5_overlap_26 6 rfl (by decide) p rfl (by omega) ?_
    refine jv_isub 27 X dX5_overlap_27 ?_
    refine jv_goto 28 X dX5_overlap_28 33 (by decide) ?_
    exact jv_iret 33 X Y rfl dX5_overlap_33 () (by simp [lt_nle, -Int32.not_le, c_1]) rfl
theorem c_X5_ofOne (E : EE) (l : Launch) (a : Nat → Nat) (r : Rl) (o : Nat) (what : Nat) (ho : o < 6) (hw : what < 10) : CT E l yX5_ofOne cX5_ofOne 3 (some .int) { frames := 1, cells := 0, slots := 0, locals := 21 } [.ref (a 0), .int (nI o), .int (nI what)] (tRl E a r) (some (.int (if what = 0 then r.2.2.2.2.1 o else if what = 1 then r.2.2.2.2.2.1 o else if what = 2 then r.2.2.2.2.2.2.1 o else if what = 3 then msC r o else -2))) (tRl E a r) := by
  obtain ⟨inch, day, sights, week, purse, cloth, ruler, stick, span, west, east, sightDay, sightInch⟩ := r
  refine CT.intro (by decide +kernel) (Nat.le_of_ble_eq_true rfl) (fun K X Y => ?_)
  rcases (show what = 0 ∨ what = 1 ∨ what = 2 ∨ what = 3 ∨ what = 4 ∨ what = 5 ∨ what = 6 ∨ what = 7 ∨ what = 8 ∨ what = 9 by omega) with rfl | rfl | rfl | rfl | rfl | rfl | rfl | rfl | rfl | rfl
  · refine jv_iload_n 0 X dX5_ofOne_0 2 rfl ?_
    refine jv_tabIn 1 X dX5_ofOne_1 32 (by decide) (by decide) rfl (by decide) ?_
    refine jv_aload_n 32 X dX5_ofOne_32 0 rfl ?_
    refine jv_get (v := .ref (a 2)) 33 X gf_X5_19 dX5_ofOne_33 0 rfl rfl ?_
    refine jv_iload_n 36 X dX5_ofOne_36 1 rfl ?_
    refine jv_iald (f := purse) 37 X dX5_ofOne_37 2 rfl (by decide) o rfl (by omega) ?_
    exact jv_iret 38 X Y rfl dX5_ofOne_38 () (by simp [lt_nle, -Int32.not_le]) rfl
  · refine jv_iload_n 0 X dX5_ofOne_0 2 rfl ?_
    refine jv_tabIn 1 X dX5_ofOne_1 39 (by decide) (by decide) rfl (by decide) ?_
    refine jv_aload_n 39 X dX5_ofOne_39 0 rfl ?_
    refine jv_get (v := .ref (a 3)) 40 X gf_X5_22 dX5_ofOne_40 0 rfl rfl ?_
    refine jv_iload_n 43 X dX5_ofOne_43 1 rfl ?_
    refine jv_iald (f := cloth) 44 X dX5_ofOne_44 3 rfl (by decide) o rfl (by omega) ?_
    exact jv_iret 45 X Y rfl dX5_ofOne_45 () (by simp [lt_nle, -Int32.not_le]) rfl
  · refine jv_iload_n 0 X dX5_ofOne_0 2 rfl ?_
    refine jv_tabIn 1 X dX5_ofOne_1 46 (by decide) (by decide) rfl (by decide) ?_
    refine jv_aload_n 46 X dX5_ofOne_46 0 rfl ?_
    refine jv_get (v := .ref (a 4)) 47 X gf_X5_25 dX5_ofOne_47 0 rfl rfl ?_
    refine jv_iload_n 50 X dX5_ofOne_50 1 rfl ?_
    refine jv_iald (f := ruler) 51 X dX5_ofOne_51 4 rfl (by decide) o rfl (by omega) ?_
    exact jv_iret 52 X Y rfl dX5_ofOne_52 () (by simp [lt_nle, -Int32.not_le]) rfl
  · refine jv_iload_n 0 X dX5_ofOne_0 2 rfl ?_
    refine jv_tabIn 1 X dX5_ofOne_1 53 (by decide) (by decide) rfl (by decide) ?_
    refine jv_aload_n 53 X dX5_ofOne_53 0 rfl ?_
    refine jv_iload_n 54 X dX5_ofOne_54 1 rfl ?_
    refine jv_callW (w1 := bRl E a inch day sights week purse cloth ruler stick span west east sightDay sightInch) 55 X (c_X5_measure E _ a (inch, day, sights, week, purse, cloth, ruler, stick, span, west, east, sightDay, sightInch) o (by omega)) wv_X5_68 ⟨Nat.le_of_ble_eq_true rfl, Nat.le_of_ble_eq_true rfl⟩ ⟨rfl, rfl⟩ ⟨Nat.zero_le _, Nat.zero_le _⟩ dX5_ofOne_55 rfl [] rfl (Nat.le_of_ble_eq_true rfl) 0 rfl rfl ?_
    exact jv_iret 58 X Y rfl dX5_ofOne_58 () (by simp [lt_nle, -Int32.not_le]) rfl
  · refine jv_iload_n 0 X dX5_ofOne_0 2 rfl ?_
    refine jv_tabOut 1 X dX5_ofOne_1 59 (by decide) (by decide) ?_
    refine jv_bipush (v := (-2)) 59 X dX5_ofOne_59 (by decide) ?_
    exact jv_iret 61 X Y rfl dX5_ofOne_61 () (by simp [lt_nle, -Int32.not_le]) rfl
  · refine jv_iload_n 0 X dX5_ofOne_0 2 rfl ?_
    refine jv_tabOut 1 X dX5_ofOne_1 59 (by decide) (by decide) ?_
    refine jv_bipush (v := (-2)) 59 X dX5_ofOne_59 (by decide) ?_
    exact jv_iret 61 X Y rfl dX5_ofOne_61 () (by simp [lt_nle, -Int32.not_le]) rfl
  · refine jv_iload_n 0 X dX5_ofOne_0 2 rfl ?_
    refine jv_tabOut 1 X dX5_ofOne_1 59 (by decide) (by decide) ?_
    refine jv_bipush (v := (-2)) 59 X dX5_ofOne_59 (by decide) ?_
    exact jv_iret 61 X Y rfl dX5_ofOne_61 () (by simp [lt_nle, -Int32.not_le]) rfl
  · refine jv_iload_n 0 X dX5_ofOne_0 2 rfl ?_
    refine jv_tabOut 1 X dX5_ofOne_1 59 (by decide) (by decide) ?_
    refine jv_bipush (v := (-2)) 59 X dX5_ofOne_59 (by decide) ?_
    exact jv_iret 61 X Y rfl dX5_ofOne_61 () (by simp [lt_nle, -Int32.not_le]) rfl
  · refine jv_iload_n 0 X dX5_ofOne_0 2 rfl ?_
    refine jv_tabOut 1 X dX5_ofOne_1 59 (by decide) (by decide) ?_
    refine jv_bipush (v := (-2)) 59 X dX5_ofOne_59 (by decide) ?_
    exact jv_iret 61 X Y rfl dX5_ofOne_61 () (by simp [lt_nle, -Int32.not_le]) rfl
  · refine jv_iload_n 0 X dX5_ofOne_0 2 rfl ?_
    refine jv_tabOut 1 X dX5_ofOne_1 59 (by decide) (by decide) ?_
    refine jv_bipush (v := (-2)) 59 X dX5_ofOne_59 (by decide) ?_
    exact jv_iret 61 X Y rfl dX5_ofOne_61 () (by simp [lt_nle, -Int32.not_le]) rfl
theorem c_X5_ofBridge (E : EE) (l : Launch) (a : Nat → Nat) (r : Rl) (p : Nat) (what : Nat) (hp : p < 4) (hw : what < 10) : CT E l yX5_ofBridge cX5_ofBridge 3 (some .int) { frames := 0, cells := 0, slots := 0, locals := 0 } [.ref (a 0), .int (nI p), .int (nI what)] (tRl E a r) (some (.int (if what = 0 then r.2.2.2.2.2.2.2.2.1 p else if what = 1 then r.2.2.2.2.2.2.2.2.2.1 p else if what = 2 then r.2.2.2.2.2.2.2.2.2.2.1 p else -2))) (tRl E a r) := by
  obtain ⟨inch, day, sights, week, purse, cloth, ruler, stick, span, west, east, sightDay, sightInch⟩ := r
  refine CT.intro (by decide +kernel) (Nat.le_of_ble_eq_true rfl) (fun K X Y => ?_)
  rcases (show what = 0 ∨ what = 1 ∨ what = 2 ∨ what = 3 ∨ what = 4 ∨ what = 5 ∨ what = 6 ∨ what = 7 ∨ what = 8 ∨ what = 9 by omega) with rfl | rfl | rfl | rfl | rfl | rfl | rfl | rfl | rfl | rfl
  · refine jv_iload_n 0 X dX5_ofBridge_0 2 rfl ?_
    refine jv_tabIn 1 X dX5_ofBridge_1 28 (by decide) (by decide) rfl (by decide) ?_
    refine jv_aload_n 28 X dX5_ofBridge_28 0 rfl ?_
    refine jv_get (v := .ref (a 6)) 29 X gf_X5_31 dX5_ofBridge_29 0 rfl rfl ?_
    refine jv_iload_n 32 X dX5_ofBridge_32 1 rfl ?_
    refine jv_iald (f := span) 33 X dX5_ofBridge_33 6 rfl (by decide) p rfl (by omega) ?_
    exact jv_iret 34 X Y rfl dX5_ofBridge_34 () (by simp [lt_nle, -Int32.not_le]) rfl
  · refine jv_iload_n 0 X dX5_ofBridge_0 2 rfl ?_
    refine jv_tabIn 1 X dX5_ofBridge_1 35 (by decide) (by decide) rfl (by decide) ?_
    refine jv_aload_n 35 X dX5_ofBridge_35 0 rfl ?_
    refine jv_get (v := .ref (a 7)) 36 X gf_X5_34 dX5_ofBridge_36 0 rfl rfl ?_
    refine jv_iload_n 39 X dX5_ofBridge_39 1 rfl ?_
    refine jv_iald (f := west) 40 X dX5_ofBridge_40 7 rfl (by decide) p rfl (by omega) ?_
    exact jv_iret 41 X Y rfl dX5_ofBridge_41 () (by simp [lt_nle, -Int32.not_le]) rfl
  · refine jv_iload_n 0 X dX5_ofBridge_0 2 rfl ?_
    refine jv_tabIn 1 X dX5_ofBridge_1 42 (by decide) (by decide) rfl (by decide) ?_
    refine jv_aload_n 42 X dX5_ofBridge_42 0 rfl ?_
    refine jv_get (v := .ref (a 8)) 43 X gf_X5_37 dX5_ofBridge_43 0 rfl rfl ?_
    refine jv_iload_n 46 X dX5_ofBridge_46 1 rfl ?_
    refine jv_iald (f := east) 47 X dX5_ofBridge_47 8 rfl (by decide) p rfl (by omega) ?_
    exact jv_iret 48 X Y rfl dX5_ofBridge_48 () (by simp [lt_nle, -Int32.not_le]) rfl
  · refine jv_iload_n 0 X dX5_ofBridge_0 2 rfl ?_
    refine jv_tabOut 1 X dX5_ofBridge_1 49 (by decide) (by decide) ?_
    refine jv_bipush (v := (-2)) 49 X dX5_ofBridge_49 (by decide) ?_
    exact jv_iret 51 X Y rfl dX5_ofBridge_51 () (by simp [lt_nle, -Int32.not_le]) rfl
  · refine jv_iload_n 0 X dX5_ofBridge_0 2 rfl ?_
    refine jv_tabOut 1 X dX5_ofBridge_1 49 (by decide) (by decide) ?_
    refine jv_bipush (v := (-2)) 49 X dX5_ofBridge_49 (by decide) ?_
    exact jv_iret 51 X Y rfl dX5_ofBridge_51 () (by simp [lt_nle, -Int32.not_le]) rfl
  · refine jv_iload_n 0 X dX5_ofBridge_0 2 rfl ?_
    refine jv_tabOut 1 X dX5_ofBridge_1 49 (by decide) (by decide) ?_
    refine jv_bipush (v := (-2)) 49 X dX5_ofBridge_49 (by decide) ?_
    exact jv_iret 51 X Y rfl dX5_ofBridge_51 () (by simp [lt_nle, -Int32.not_le]) rfl
  · refine jv_iload_n 0 X dX5_ofBridge_0 2 rfl ?_
    refine jv_tabOut 1 X dX5_ofBridge_1 49 (by decide) (by decide) ?_
    refine jv_bipush (v := (-2)) 49 X dX5_ofBridge_49 (by decide) ?_
    exact jv_iret 51 X Y rfl dX5_ofBridge_51 () (by simp [lt_nle, -Int32.not_le]) rfl
  · refine jv_iload_n 0 X dX5_ofBridge_0 2 rfl ?_
    refine jv_tabOut 1 X dX5_ofBridge_1 49 (by decide) (by decide) ?_
    refine jv_bipush (v := (-2)) 49 X dX5_ofBridge_49 (by decide) ?_
    exact jv_iret 51 X Y rfl dX5_ofBridge_51 () (by simp [lt_nle, -Int32.not_le]) rfl
  · refine jv_iload_n 0 X dX5_ofBridge_0 2 rfl ?_
    refine jv_tabOut 1 X dX5_ofBridge_1 49 (by decide) (by decide) ?_
    refine jv_bipush (v := (-2)) 49 X dX5_ofBridge_49 (by decide) ?_
    exact jv_iret 51 X Y rfl dX5_ofBridge_51 () (by simp [lt_nle, -Int32.not_le]) rfl
  · refine jv_iload_n 0 X dX5_ofBridge_0 2 rfl ?_
    refine jv_tabOut 1 X dX5_ofBridge_1 49 (by decide) (by decide) ?_
    refine jv_bipush (v := (-2)) 49 X dX5_ofBridge_49 (by decide) ?_
    exact jv_iret 51 X Y rfl dX5_ofBridge_51 () (by simp [lt_nle, -Int32.not_le]) rfl
theorem c_X5_coins (E : EE) (l : Launch) (a : Nat → Nat) (r : Rl) : CT E l yX5_coins cX5_coins 3 (some .int) { frames := 0, cells := 0, slots := 0, locals := 0 } [.ref (a 0)] (tRl E a r) (some (.int (coM r.2.2.2.2.1))) (tRl E a r) := by
  obtain ⟨inch, day, sights, week, purse, cloth, ruler, stick, span, west, east, sightDay, sightInch⟩ := r
  refine CT.intro (by decide +kernel) (Nat.le_of_ble_eq_true rfl) (fun K X Y => ?_)
  refine jv_iconst (v := 0) 0 X dX5_coins_0 rfl ?_
  refine jv_istore_n (lv2 := [(1, .int 0), (0, .ref (a 0))]) 1 X dX5_coins_1 (by decide) rfl ?_
  refine jv_iconst (v := 0) 2 X dX5_coins_2 rfl ?_
  refine jv_istore_n (lv2 := [(2, .int 0), (1, .int 0), (0, .ref (a 0))]) 3 X dX5_coins_3 (by decide) rfl ?_
  refine jv_iload_n 4 X dX5_coins_4 0 rfl ?_
  refine jv_bipush (v := 6) 5 X dX5_coins_5 (by decide) ?_
  refine jn_icmp_ge 7 X dX5_coins_7 25 (by decide) (fun c_1 => absurd c_1 (by decide)) (fun _ => ?_)
  refine jv_iload_n 10 X dX5_coins_10 1 rfl ?_
  refine jv_aload_n 11 X dX5_coins_11 2 rfl ?_
  refine jv_get (v := .ref (a 2)) 12 X gf_X5_19 dX5_coins_12 0 rfl rfl ?_
  refine jv_iload_n 15 X dX5_coins_15 0 rfl ?_
  refine jv_iald (f := purse) 16 X dX5_coins_16 2 rfl (by decide) 0 rfl (by omega) ?_
  refine jv_iadd 17 X dX5_coins_17 ?_
  refine jv_istore_n (lv2 := [(1, .int (0 + (purse 0))), (2, .int 0), (0, .ref (a 0))]) 18 X dX5_coins_18 (by decide) rfl ?_
  refine jv_iinc (v := 1) (lv2 := [(2, .int 1), (1, .int (0 + (purse 0))), (0, .ref (a 0))]) 19 X dX5_coins_19 1 rfl (by decide) (by decide) rfl ?_
  refine jv_goto 22 X dX5_coins_22 4 (by decide) ?_
  refine jv_iload_n 4 X dX5_coins_4 0 rfl ?_
  refine jv_bipush (v := 6) 5 X dX5_coins_5 (by decide) ?_
  refine jn_icmp_ge 7 X dX5_coins_7 25 (by decide) (fun c_2 => absurd c_2 (by decide)) (fun _ => ?_)
  refine jv_iload_n 10 X dX5_coins_10 1 rfl ?_
  refine jv_aload_n 11 X dX5_coins_11 2 rfl ?_
  refine jv_get (v := .ref (a 2)) 12 X gf_X5_19 dX5_coins_12 0 rfl rfl ?_
  refine jv_iload_n 15 X dX5_coins_15 0 rfl ?_
  refine jv_iald (f := purse) 16 X dX5_coins_16 2 rfl (by decide) 1 rfl (by omega) ?_
  refine jv_iadd 17 X dX5_coins_17 ?_
  refine jv_istore_n (lv2 := [(1, .int ((0 + (purse 0)) + (purse 1))), (2, .int 1), (0, .ref (a 0))]) 18 X dX5_coins_18 (by decide) rfl ?_
  refine jv_iinc (v := 2) (lv2 := [(2, .int 2), (1, .int ((0 + (purse 0)) + (purse 1))), (0, .ref (a 0))]) 19 X dX5_coins_19 1 rfl (by decide) (by decide) rfl ?_
  refine jv_goto 22 X dX5_coins_22 4 (by decide) ?_
  refine jv_iload_n 4 X dX5_coins_4 0 rfl ?_
  refine jv_bipush (v := 6) 5 X dX5_coins_5 (by decide) ?_
  refine jn_icmp_ge 7 X dX5_coins_7 25 (by decide) (fun c_3 => absurd c_3 (by decide)) (fun _ => ?_)
  refine jv_iload_n 10 X dX5_coins_10 1 rfl ?_
  refine jv_aload_n 11 X dX5_coins_11 2 rfl ?_
  refine jv_get (v := .ref (a 2)) 12 X gf_X5_19 dX5_coins_12 0 rfl rfl ?_
  refine jv_iload_n 15 X dX5_coins_15 0 rfl ?_
  refine jv_iald (f := purse) 16 X dX5_coins_16 2 rfl (by decide) 2 rfl (by omega) ?_
  refine jv_iadd 17 X dX5_coins_17 ?_
  refine jv_istore_n (lv2 := [(1, .int (((0 + (purse 0)) + (purse 1)) + (purse 2))), (2, .int 2), (0, .ref (a 0))]) 18 X dX5_coins_18 (by decide) rfl ?_
  refine jv_iinc (v := 3) (lv2 := [(2, .int 3), (1, .int (((0 + (purse 0)) + (purse 1)) + (purse 2))), (0, .ref (a 0))]) 19 X dX5_coins_19 1 rfl (by decide) (by decide) rfl ?_
  refine jv_goto 22 X dX5_coins_22 4 (by decide) ?_
  refine jv_iload_n 4 X dX5_coins_4 0 rfl ?_
  refine jv_bipush (v := 6) 5 X dX5_coins_5 (by decide) ?_
  refine jn_icmp_ge 7 X dX5_coins_7 25 (by decide) (fun c_4 => absurd c_4 (by decide)) (fun _ => ?_)
  refine jv_iload_n 10 X dX5_coins_10 1 rfl ?_
  refine jv_aload_n 11 X dX5_coins_11 2 rfl ?_
  refine jv_get (v := .ref (a 2)) 12 X gf_X5_19 dX5_coins_12 0 rfl rfl ?_
  refine jv_iload_n 15 X dX5_coins_15 0 rfl ?_
  refine jv_iald (f := purse) 16 X dX5_coins_16 2 rfl (by decide) 3 rfl (by omega) ?_
  refine jv_iadd 17 X dX5_coins_17 ?_
  refine jv_istore_n (lv2 := [(1, .int ((((0 + (purse 0)) + (purse 1)) + (purse 2)) + (purse 3))), (2, .int 3), (0, .ref (a 0))]) 18 X dX5_coins_18 (by decide) rfl ?_
  refine jv_iinc (v := 4) (lv2 := [(2, .int 4), (1, .int ((((0 + (purse 0)) + (purse 1)) + (purse 2)) + (purse 3))), (0, .ref (a 0))]) 19 X dX5_coins_19 1 rfl (by decide) (by decide) rfl ?_
  refine jv_goto 22 X dX5_coins_22 4 (by decide) ?_
  refine jv_iload_n 4 X dX5_coins_4 0 rfl ?_
  refine jv_bipush (v := 6) 5 X dX5_coins_5 (by decide) ?_
  refine jn_icmp_ge 7 X dX5_coins_7 25 (by decide) (fun c_5 => absurd c_5 (by decide)) (fun _ => ?_)
  refine jv_iload_n 10 X dX5_coins_10 1 rfl ?_
  refine jv_aload_n 11 X dX5_coins_11 2 rfl ?_
  refine jv_get (v := .ref (a 2)) 12 X gf_X5_19 dX5_coins_12 0 rfl rfl ?_
  refine jv_iload_n 15 X dX5_coins_15 0 rfl ?_
  refine jv_iald (f := purse) 16 X dX5_coins_16 2 rfl (by decide) 4 rfl (by omega) ?_
  refine jv_iadd 17 X dX5_coins_17 ?_
  refine jv_istore_n (lv2 := [(1, .int (((((0 + (purse 0)) + (purse 1)) + (purse 2)) + (purse 3)) + (purse 4))), (2, .int 4), (0, .ref (a 0))]) 18 X dX5_coins_18 (by decide) rfl ?_
  refine jv_iinc (v := 5) (lv2 := [(2, .int 5), (1, .int (((((0 + (purse 0)) + (purse 1)) + (purse 2)) + (purse 3)) + (purse 4))), (0, .ref (a 0))]) 19 X dX5_coins_19 1 rfl (by decide) (by decide) rfl ?_
  refine jv_goto 22 X dX5_coins_22 4 (by decide) ?_
  refine jv_iload_n 4 X dX5_coins_4 0 rfl ?_
  refine jv_bipush (v := 6) 5 X dX5_coins_5 (by decide) ?_
  refine jn_icmp_ge 7 X dX5_coins_7 25 (by decide) (fun c_6 => absurd c_6 (by decide)) (fun _ => ?_)
  refine jv_iload_n 10 X dX5_coins_10 1 rfl ?_
  refine jv_aload_n 11 X dX5_coins_11 2 rfl ?_
  refine jv_get (v := .ref (a 2)) 12 X gf_X5_19 dX5_coins_12 0 rfl rfl ?_
  refine jv_iload_n 15 X dX5_coins_15 0 rfl ?_
  refine jv_iald (f := purse) 16 X dX5_coins_16 2 rfl (by decide) 5 rfl (by omega) ?_
  refine jv_iadd 17 X dX5_coins_17 ?_
  refine jv_istore_n (lv2 := [(1, .int ((((((0 + (purse 0)) + (purse 1)) + (purse 2)) + (purse 3)) + (purse 4)) + (purse 5))), (2, .int 5), (0, .ref (a 0))]) 18 X dX5_coins_18 (by decide) rfl ?_
  refine jv_iinc (v := 6) (lv2 := [(2, .int 6), (1, .int ((((((0 + (purse 0)) + (purse 1)) + (purse 2)) + (purse 3)) + (purse 4)) + (purse 5))), (0, .ref (a 0))]) 19 X dX5_coins_19 1 rfl (by decide) (by decide) rfl ?_
  refine jv_goto 22 X dX5_coins_22 4 (by decide) ?_
  refine jv_iload_n 4 X dX5_coins_4 0 rfl ?_
  refine jv_bipush (v := 6) 5 X dX5_coins_5 (by decide) ?_
  refine jn_icmp_ge 7 X dX5_coins_7 25 (by decide) (fun _ => ?_) (fun c_7 => absurd c_7 (by decide))
  refine jv_iload_n 25 X dX5_coins_25 1 rfl ?_
  exact jv_iret 26 X Y rfl dX5_coins_26 () (by simp [coM, lt_nle, -Int32.not_le]) rfl
theorem c_X5_metBridges (E : EE) (l : Launch) (a : Nat → Nat) (r : Rl) : CT E l yX5_metBridges cX5_metBridges 3 (some .int) { frames := 1, cells := 0, slots := 0, locals := 21 } [.ref (a 0)] (tRl E a r) (some (.int (mbC r))) (tRl E a r) := by
  obtain ⟨inch, day, sights, week, purse, cloth, ruler, stick, span, west, east, sightDay, sightInch⟩ := r
  refine CT.intro (by decide +kernel) (Nat.le_of_ble_eq_true rfl) (fun K X Y => ?_)
  refine jv_iconst (v := 0) 0 X dX5_metBridges_0 rfl ?_
  refine jv_istore_n (lv2 := [(1, .int 0), (0, .ref (a 0))]) 1 X dX5_metBridges_1 (by decide) rfl ?_
  refine jv_iconst (v := 0) 2 X dX5_metBridges_2 rfl ?_
  refine jv_istore_n (lv2 := [(2, .int 0), (1, .int 0), (0, .ref (a 0))]) 3 X dX5_metBridges_3 (by decide) rfl ?_
  refine jv_iload_n 4 X dX5_metBridges_4 0 rfl ?_
  refine jv_iconst (v := 4) 5 X dX5_metBridges_5 rfl ?_
  refine jn_icmp_ge 6 X dX5_metBridges_6 26 (by decide) (fun c_1 => absurd c_1 (by decide)) (fun _ => ?_)
  refine jv_aload_n 9 X dX5_metBridges_9 2 rfl ?_
  refine jv_iload_n 10 X dX5_metBridges_10 0 rfl ?_
  refine jv_callW (w1 := bRl E a inch day sights week purse cloth ruler stick span west east sightDay sightInch) 11 X (c_X5_hasMet E _ a (inch, day, sights, week, purse, cloth, ruler, stick, span, west, east, sightDay, sightInch) 0 (by omega)) wv_X5_64 ⟨Nat.le_of_ble_eq_true rfl, Nat.le_of_ble_eq_true rfl⟩ ⟨rfl, rfl⟩ ⟨Nat.zero_le _, Nat.zero_le _⟩ dX5_metBridges_11 rfl [] rfl (Nat.le_of_ble_eq_true rfl) 0 rfl rfl ?_
  refine jv_z_eq 14 X dX5_metBridges_14 20 (by decide) (fun c_2 => ?_) (fun c_2 => ?_)
  · refine jv_iinc (v := 1) (lv2 := [(2, .int 1), (1, .int 0), (0, .ref (a 0))]) 20 X dX5_metBridges_20 0 rfl (by decide) (by decide) rfl ?_
    refine jv_goto 23 X dX5_metBridges_23 4 (by decide) ?_
    refine jv_iload_n 4 X dX5_metBridges_4 0 rfl ?_
    refine jv_iconst (v := 4) 5 X dX5_metBridges_5 rfl ?_
    refine jn_icmp_ge 6 X dX5_metBridges_6 26 (by decide) (fun c_3 => absurd c_3 (by decide)) (fun _ => ?_)
    refine jv_aload_n 9 X dX5_metBridges_9 2 rfl ?_
    refine jv_iload_n 10 X dX5_metBridges_10 0 rfl ?_
    refine jv_callW (w1 := bRl E a inch day sights week purse cloth ruler stick span west east sightDay sightInch) 11 X (c_X5_hasMet E _ a (inch, day, sights, week, purse, cloth, ruler, stick, span, west, east, sightDay, sightInch) 1 (by omega)) wv_X5_64 ⟨Nat.le_of_ble_eq_true rfl, Nat.le_of_ble_eq_true rfl⟩ ⟨rfl, rfl⟩ ⟨Nat.zero_le _, Nat.zero_le _⟩ dX5_metBridges_11 rfl [] rfl (Nat.le_of_ble_eq_true rfl) 0 rfl rfl ?_
    refine jv_z_eq 14 X dX5_metBridges_14 20 (by decide) (fun c_4 => ?_) (fun c_4 => ?_)
    · refine jv_iinc (v := 2) (lv2 := [(2, .int 2), (1, .int 0), (0, .ref (a 0))]) 20 X dX5_metBridges_20 0 rfl (by decide) (by decide) rfl ?_
      refine jv_goto 23 X dX5_metBridges_23 4 (by decide) ?_
      refine jv_iload_n 4 X dX5_metBridges_4 0 rfl ?_
      refine jv_iconst (v := 4) 5 X dX5_metBridges_5 rfl ?_
      refine jn_icmp_ge 6 X dX5_metBridges_6 26 (by decide) (fun c_5 => absurd c_5 (by decide)) (fun _ => ?_)
      refine jv_aload_n 9 X dX5_metBridges_9 2 rfl ?_
      refine jv_iload_n 10 X dX5_metBridges_10 0 rfl ?_
      refine jv_callW (w1 := bRl E a inch day sights week purse cloth ruler stick span west east sightDay sightInch) 11 X (c_X5_hasMet E _ a (inch, day, sights, week, purse, cloth, ruler, stick, span, west, east, sightDay, sightInch) 2 (by omega)) wv_X5_64 ⟨Nat.le_of_ble_eq_true rfl, Nat.le_of_ble_eq_true rfl⟩ ⟨rfl, rfl⟩ ⟨Nat.zero_le _, Nat.zero_le _⟩ dX5_metBridges_11 rfl [] rfl (Nat.le_of_ble_eq_true rfl) 0 rfl rfl ?_
      refine jv_z_eq 14 X dX5_metBridges_14 20 (by decide) (fun c_6 => ?_) (fun c_6 => ?_)
      · refine jv_iinc (v := 3) (lv2 := [(2, .int 3), (1, .int 0), (0, .ref (a 0))]) 20 X dX5_metBridges_20 0 rfl (by decide) (by decide) rfl ?_
        refine jv_goto 23 X dX5_metBridges_23 4 (by decide) ?_
        refine jv_iload_n 4 X dX5_metBridges_4 0 rfl ?_
        refine jv_iconst (v := 4) 5 X dX5_metBridges_5 rfl ?_
        refine jn_icmp_ge 6 X dX5_metBridges_6 26 (by decide) (fun c_7 => absurd c_7 (by decide)) (fun _ => ?_)
        refine jv_aload_n 9 X dX5_metBridges_9 2 rfl ?_
        refine jv_iload_n 10 X dX5_metBridges_10 0 rfl ?_
        refine jv_callW (w1 := bRl E a inch day sights week purse cloth ruler stick span west east sightDay sightInch) 11 X (c_X5_hasMet E _ a (inch, day, sights, week, purse, cloth, ruler, stick, span, west, east, sightDay, sightInch) 3 (by omega)) wv_X5_64 ⟨Nat.le_of_ble_eq_true rfl, Nat.le_of_ble_eq_true rfl⟩ ⟨rfl, rfl⟩ ⟨Nat.zero_le _, Nat.zero_le _⟩ dX5_metBridges_11 rfl [] rfl (Nat.le_of_ble_eq_true rfl) 0 rfl rfl ?_
        refine jv_z_eq 14 X dX5_metBridges_14 20 (by decide) (fun c_8 => ?_) (fun c_8 => ?_)
        · refine jv_iinc (v := 4) (lv2 := [(2, .int 4), (1, .int 0), (0, .ref (a 0))]) 20 X dX5_metBridges_20 0 rfl (by decide) (by decide) rfl ?_
          refine jv_goto 23 X dX5_metBridges_23 4 (by decide) ?_
          refine jv_iload_n 4 X dX5_metBridges_4 0 rfl ?_
          refine jv_iconst (v := 4) 5 X dX5_metBridges_5 rfl ?_
          refine jn_icmp_ge 6 X dX5_metBridges_6 26 (by decide) (fun _ => ?_) (fun c_9 => absurd c_9 (by decide))
          refine jv_iload_n 26 X dX5_metBridges_26 1 rfl ?_
          exact jv_iret 27 X Y rfl dX5_metBridges_27 () (congrArg (fun z => some (Value.int z)) (by simp only [mbC, c_2, c_4, c_6, c_8, if_true, if_false]; decide)) rfl
        · refine jv_iinc (v := 1) (lv2 := [(1, .int 1), (2, .int 3), (0, .ref (a 0))]) 17 X dX5_metBridges_17 1 rfl (by decide) (by decide) rfl ?_
          refine jv_iinc (v := 4) (lv2 := [(2, .int 4), (1, .int 1), (0, .ref (a 0))]) 20 X dX5_metBridges_20 1 rfl (by decide) (by decide) rfl ?_
          refine jv_goto 23 X dX5_metBridges_23 4 (by decide) ?_
          refine jv_iload_n 4 X dX5_metBridges_4 0 rfl ?_
          refine jv_iconst (v := 4) 5 X dX5_metBridges_5 rfl ?_
          refine jn_icmp_ge 6 X dX5_metBridges_6 26 (by decide) (fun _ => ?_) (fun c_10 => absurd c_10 (by decide))
          refine jv_iload_n 26 X dX5_metBridges_26 1 rfl ?_
          exact jv_iret 27 X Y rfl dX5_metBridges_27 () (congrArg (fun z => some (Value.int z)) (by simp only [mbC, c_2, c_4, c_6, c_8, if_true, if_false]; decide)) rfl
      · refine jv_iinc (v := 1) (lv2 := [(1, .int 1), (2, .int 2), (0, .ref (a 0))]) 17 X dX5_metBridges_17 1 rfl (by decide) (by decide) rfl ?_
        refine jv_iinc (v := 3) (lv2 := [(2, .int 3), (1, .int 1), (0, .ref (a 0))]) 20 X dX5_metBridges_20 1 rfl (by decide) (by decide) rfl ?_
        refine jv_goto 23 X dX5_metBridges_23 4 (by decide) ?_
        refine jv_iload_n 4 X dX5_metBridges_4 0 rfl ?_
        refine jv_iconst (v := 4) 5 X dX5_metBridges_5 rfl ?_
        refine jn_icmp_ge 6 X dX5_metBridges_6 26 (by decide) (fun c_11 => absurd c_11 (by decide)) (fun _ => ?_)
        refine jv_aload_n 9 X dX5_metBridges_9 2 rfl ?_
        refine jv_iload_n 10 X dX5_metBridges_10 0 rfl ?_
        refine jv_callW (w1 := bRl E a inch day sights week purse cloth ruler stick span west east sightDay sightInch) 11 X (c_X5_hasMet E _ a (inch, day, sights, week, purse, cloth, ruler, stick, span, west, east, sightDay, sightInch) 3 (by omega)) wv_X5_64 ⟨Nat.le_of_ble_eq_true rfl, Nat.le_of_ble_eq_true rfl⟩ ⟨rfl, rfl⟩ ⟨Nat.zero_le _, Nat.zero_le _⟩ dX5_metBridges_11 rfl [] rfl (Nat.le_of_ble_eq_true rfl) 0 rfl rfl ?_
        refine jv_z_eq 14 X dX5_metBridges_14 20 (by decide) (fun c_12 => ?_) (fun c_12 => ?_)
        · refine jv_iinc (v := 4) (lv2 := [(2, .int 4), (1, .int 1), (0, .ref (a 0))]) 20 X dX5_metBridges_20 0 rfl (by decide) (by decide) rfl ?_
          refine jv_goto 23 X dX5_metBridges_23 4 (by decide) ?_
          refine jv_iload_n 4 X dX5_metBridges_4 0 rfl ?_
          refine jv_iconst (v := 4) 5 X dX5_metBridges_5 rfl ?_
          refine jn_icmp_ge 6 X dX5_metBridges_6 26 (by decide) (fun _ => ?_) (fun c_13 => absurd c_13 (by decide))
          refine jv_iload_n 26 X dX5_metBridges_26 1 rfl ?_
          exact jv_iret 27 X Y rfl dX5_metBridges_27 () (congrArg (fun z => some (Value.int z)) (by simp only [mbC, c_2, c_4, c_6, c_12, if_true, if_false]; decide)) rfl
        · refine jv_iinc (v := 2) (lv2 := [(1, .int 2), (2, .int 3), (0, .ref (a 0))]) 17 X dX5_metBridges_17 1 rfl (by decide) (by decide) rfl ?_
          refine jv_iinc (v := 4) (lv2 := [(2, .int 4), (1, .int 2), (0, .ref (a 0))]) 20 X dX5_metBridges_20 1 rfl (by decide) (by decide) rfl ?_
          refine jv_goto 23 X dX5_metBridges_23 4 (by decide) ?_
          refine jv_iload_n 4 X dX5_metBridges_4 0 rfl ?_
          refine jv_iconst (v := 4) 5 X dX5_metBridges_5 rfl ?_
          refine jn_icmp_ge 6 X dX5_metBridges_6 26 (by decide) (fun _ => ?_) (fun c_14 => absurd c_14 (by decide))
          refine jv_iload_n 26 X dX5_metBridges_26 1 rfl ?_
          exact jv_iret 27 X Y rfl dX5_metBridges_27 () (congrArg (fun z => some (Value.int z)) (by simp only [mbC, c_2, c_4, c_6, c_12, if_true, if_false]; decide)) rfl
    · refine jv_iinc (v := 1) (lv2 := [(1, .int 1), (2, .int 1), (0, .ref (a 0))]) 17 X dX5_metBridges_17 1 rfl (by decide) (by decide) rfl ?_
      refine jv_iinc (v := 2) (lv2 := [(2, .int 2), (1, .int 1), (0, .ref (a 0))]) 20 X dX5_metBridges_20 1 rfl (by decide) (by decide) rfl ?_
      refine jv_goto 23 X dX5_metBridges_23 4 (by decide) ?_
      refine jv_iload_n 4 X dX5_metBridges_4 0 rfl ?_
      refine jv_iconst (v := 4) 5 X dX5_metBridges_5 rfl ?_
      refine jn_icmp_ge 6 X dX5_metBridges_6 26 (by decide) (fun c_15 => absurd c_15 (by decide)) (fun _ => ?_)
      refine jv_aload_n 9 X dX5_metBridges_9 2 rfl ?_
      refine jv_iload_n 10 X dX5_metBridges_10 0 rfl ?_
      refine jv_callW (w1 := bRl E a inch day sights week purse cloth ruler stick span west east sightDay sightInch) 11 X (c_X5_hasMet E _ a (inch, day, sights, week, purse, cloth, ruler, stick, span, west, east, sightDay, sightInch) 2 (by omega)) wv_X5_64 ⟨Nat.le_of_ble_eq_true rfl, Nat.le_of_ble_eq_true rfl⟩ ⟨rfl, rfl⟩ ⟨Nat.zero_le _, Nat.zero_le _⟩ dX5_metBridges_11 rfl [] rfl (Nat.le_of_ble_eq_true rfl) 0 rfl rfl ?_
      refine jv_z_eq 14 X dX5_metBridges_14 20 (by decide) (fun c_16 => ?_) (fun c_16 => ?_)
      · refine jv_iinc (v := 3) (lv2 := [(2, .int 3), (1, .int 1), (0, .ref (a 0))]) 20 X dX5_metBridges_20 0 rfl (by decide) (by decide) rfl ?_
        refine jv_goto 23 X dX5_metBridges_23 4 (by decide) ?_
        refine jv_iload_n 4 X dX5_metBridges_4 0 rfl ?_
        refine jv_iconst (v := 4) 5 X dX5_metBridges_5 rfl ?_
        refine jn_icmp_ge 6 X dX5_metBridges_6 26 (by decide) (fun c_17 => absurd c_17 (by decide)) (fun _ => ?_)
        refine jv_aload_n 9 X dX5_metBridges_9 2 rfl ?_
        refine jv_iload_n 10 X dX5_metBridges_10 0 rfl ?_
        refine jv_callW (w1 := bRl E a inch day sights week purse cloth ruler stick span west east sightDay sightInch) 11 X (c_X5_hasMet E _ a (inch, day, sights, week, purse, cloth, ruler, stick, span, west, east, sightDay, sightInch) 3 (by omega)) wv_X5_64 ⟨Nat.le_of_ble_eq_true rfl, Nat.le_of_ble_eq_true rfl⟩ ⟨rfl, rfl⟩ ⟨Nat.zero_le _, Nat.zero_le _⟩ dX5_metBridges_11 rfl [] rfl (Nat.le_of_ble_eq_true rfl) 0 rfl rfl ?_
        refine jv_z_eq 14 X dX5_metBridges_14 20 (by decide) (fun c_18 => ?_) (fun c_18 => ?_)
        · refine jv_iinc (v := 4) (lv2 := [(2, .int 4), (1, .int 1), (0, .ref (a 0))]) 20 X dX5_metBridges_20 0 rfl (by decide) (by decide) rfl ?_
          refine jv_goto 23 X dX5_metBridges_23 4 (by decide) ?_
          refine jv_iload_n 4 X dX5_metBridges_4 0 rfl ?_
          refine jv_iconst (v := 4) 5 X dX5_metBridges_5 rfl ?_
          refine jn_icmp_ge 6 X dX5_metBridges_6 26 (by decide) (fun _ => ?_) (fun c_19 => absurd c_19 (by decide))
          refine jv_iload_n 26 X dX5_metBridges_26 1 rfl ?_
          exact jv_iret 27 X Y rfl dX5_metBridges_27 () (congrArg (fun z => some (Value.int z)) (by simp only [mbC, c_2, c_4, c_16, c_18, if_true, if_false]; decide)) rfl
        · refine jv_iinc (v := 2) (lv2 := [(1, .int 2), (2, .int 3), (0, .ref (a 0))]) 17 X dX5_metBridges_17 1 rfl (by decide) (by decide) rfl ?_
          refine jv_iinc (v := 4) (lv2 := [(2, .int 4), (1, .int 2), (0, .ref (a 0))]) 20 X dX5_metBridges_20 1 rfl (by decide) (by decide) rfl ?_
          refine jv_goto 23 X dX5_metBridges_23 4 (by decide) ?_
          refine jv_iload_n 4 X dX5_metBridges_4 0 rfl ?_
          refine jv_iconst (v := 4) 5 X dX5_metBridges_5 rfl ?_
          refine jn_icmp_ge 6 X dX5_metBridges_6 26 (by decide) (fun _ => ?_) (fun c_20 => absurd c_20 (by decide))
          refine jv_iload_n 26 X dX5_metBridges_26 1 rfl ?_
          exact jv_iret 27 X Y rfl dX5_metBridges_27 () (congrArg (fun z => some (Value.int z)) (by simp only [mbC, c_2, c_4, c_16, c_18, if_true, if_false]; decide)) rfl
      · refine jv_iinc (v := 2) (lv2 := [(1, .int 2), (2, .int 2), (0, .ref (a 0))]) 17 X dX5_metBridges_17 1 rfl (by decide) (by decide) rfl ?_
        refine jv_iinc (v := 3) (lv2 := [(2, .int 3), (1, .int 2), (0, .ref (a 0))]) 20 X dX5_metBridges_20 1 rfl (by decide) (by decide) rfl ?_
        refine jv_goto 23 X dX5_metBridges_23 4 (by decide) ?_
        refine jv_iload_n 4 X dX5_metBridges_4 0 rfl ?_
        refine jv_iconst (v := 4) 5 X dX5_metBridges_5 rfl ?_
        refine jn_icmp_ge 6 X dX5_metBridges_6 26 (by decide) (fun c_21 => absurd c_21 (by decide)) (fun _ => ?_)
        refine jv_aload_n 9 X dX5_metBridges_9 2 rfl ?_
        refine jv_iload_n 10 X dX5_metBridges_10 0 rfl ?_
        refine jv_callW (w1 := bRl E a inch day sights week purse cloth ruler stick span west east sightDay sightInch) 11 X (c_X5_hasMet E _ a (inch, day, sights, week, purse, cloth, ruler, stick, span, west, east, sightDay, sightInch) 3 (by omega)) wv_X5_64 ⟨Nat.le_of_ble_eq_true rfl, Nat.le_of_ble_eq_true rfl⟩ ⟨rfl, rfl⟩ ⟨Nat.zero_le _, Nat.zero_le _⟩ dX5_metBridges_11 rfl [] rfl (Nat.le_of_ble_eq_true rfl) 0 rfl rfl ?_
        refine jv_z_eq 14 X dX5_metBridges_14 20 (by decide) (fun c_22 => ?_) (fun c_22 => ?_)
        · refine jv_iinc (v := 4) (lv2 := [(2, .int 4), (1, .int 2), (0, .ref (a 0))]) 20 X dX5_metBridges_20 0 rfl (by decide) (by decide) rfl ?_
          refine jv_goto 23 X dX5_metBridges_23 4 (by decide) ?_
          refine jv_iload_n 4 X dX5_metBridges_4 0 rfl ?_
          refine jv_iconst (v := 4) 5 X dX5_metBridges_5 rfl ?_
          refine jn_icmp_ge 6 X dX5_metBridges_6 26 (by decide) (fun _ => ?_) (fun c_23 => absurd c_23 (by decide))
          refine jv_iload_n 26 X dX5_metBridges_26 1 rfl ?_
          exact jv_iret 27 X Y rfl dX5_metBridges_27 () (congrArg (fun z => some (Value.int z)) (by simp only [mbC, c_2, c_4, c_16, c_22, if_true, if_false]; decide)) rfl
        · refine jv_iinc (v := 3) (lv2 := [(1, .int 3), (2, .int 3), (0, .ref (a 0))]) 17 X dX5_metBridges_17 1 rfl (by decide) (by decide) rfl ?_
          refine jv_iinc (v := 4) (lv2 := [(2, .int 4), (1, .int 3), (0, .ref (a 0))]) 20 X dX5_metBridges_20 1 rfl (by decide) (by decide) rfl ?_
          refine jv_goto 23 X dX5_metBridges_23 4 (by decide) ?_
          refine jv_iload_n 4 X dX5_metBridges_4 0 rfl ?_
          refine jv_iconst (v := 4) 5 X dX5_metBridges_5 rfl ?_
          refine jn_icmp_ge 6 X dX5_metBridges_6 26 (by decide) (fun _ => ?_) (fun c_24 => absurd c_24 (by decide))
          refine jv_iload_n 26 X dX5_metBridges_26 1 rfl ?_
          exact jv_iret 27 X Y rfl dX5_metBridges_27 () (congrArg (fun z => some (Value.int z)) (by simp only [mbC, c_2, c_4, c_16, c_22, if_true, if_false]; decide)) rfl
  · refine jv_iinc (v := 1) (lv2 := [(1, .int 1), (2, .int 0), (0, .ref (a 0))]) 17 X dX5_metBridges_17 1 rfl (by decide) (by decide) rfl ?_
    refine jv_iinc (v := 1) (lv2 := [(2, .int 1), (1, .int 1), (0, .ref (a 0))]) 20 X dX5_metBridges_20 1 rfl (by decide) (by decide) rfl ?_
    refine jv_goto 23 X dX5_metBridges_23 4 (by decide) ?_
    refine jv_iload_n 4 X dX5_metBridges_4 0 rfl ?_
    refine jv_iconst (v := 4) 5 X dX5_metBridges_5 rfl ?_
    refine jn_icmp_ge 6 X dX5_metBridges_6 26 (by decide) (fun c_25 => absurd c_25 (by decide)) (fun _ => ?_)
    refine jv_aload_n 9 X dX5_metBridges_9 2 rfl ?_
    refine jv_iload_n 10 X dX5_metBridges_10 0 rfl ?_
    refine jv_callW (w1 := bRl E a inch day sights week purse cloth ruler stick span west east sightDay sightInch) 11 X (c_X5_hasMet E _ a (inch, day, sights, week, purse, cloth, ruler, stick, span, west, east, sightDay, sightInch) 1 (by omega)) wv_X5_64 ⟨Nat.le_of_ble_eq_true rfl, Nat.le_of_ble_eq_true rfl⟩ ⟨rfl, rfl⟩ ⟨Nat.zero_le _, Nat.zero_le _⟩ dX5_metBridges_11 rfl [] rfl (Nat.le_of_ble_eq_true rfl) 0 rfl rfl ?_
    refine jv_z_eq 14 X dX5_metBridges_14 20 (by decide) (fun c_26 => ?_) (fun c_26 => ?_)
    · refine jv_iinc (v := 2) (lv2 := [(2, .int 2), (1, .int 1), (0, .ref (a 0))]) 20 X dX5_metBridges_20 0 rfl (by decide) (by decide) rfl ?_
      refine jv_goto 23 X dX5_metBridges_23 4 (by decide) ?_
      refine jv_iload_n 4 X dX5_metBridges_4 0 rfl ?_
      refine jv_iconst (v := 4) 5 X dX5_metBridges_5 rfl ?_
      refine jn_icmp_ge 6 X dX5_metBridges_6 26 (by decide) (fun c_27 => absurd c_27 (by decide)) (fun _ => ?_)
      refine jv_aload_n 9 X dX5_metBridges_9 2 rfl ?_
      refine jv_iload_n 10 X dX5_metBridges_10 0 rfl ?_
      refine jv_callW (w1 := bRl E a inch day sights week purse cloth ruler stick span west east sightDay sightInch) 11 X (c_X5_hasMet E _ a (inch, day, sights, week, purse, cloth, ruler, stick, span, west, east, sightDay, sightInch) 2 (by omega)) wv_X5_64 ⟨Nat.le_of_ble_eq_true rfl, Nat.le_of_ble_eq_true rfl⟩ ⟨rfl, rfl⟩ ⟨Nat.zero_le _, Nat.zero_le _⟩ dX5_metBridges_11 rfl [] rfl (Nat.le_of_ble_eq_true rfl) 0 rfl rfl ?_
      refine jv_z_eq 14 X dX5_metBridges_14 20 (by decide) (fun c_28 => ?_) (fun c_28 => ?_)
      · refine jv_iinc (v := 3) (lv2 := [(2, .int 3), (1, .int 1), (0, .ref (a 0))]) 20 X dX5_metBridges_20 0 rfl (by decide) (by decide) rfl ?_
        refine jv_goto 23 X dX5_metBridges_23 4 (by decide) ?_
        refine jv_iload_n 4 X dX5_metBridges_4 0 rfl ?_
        refine jv_iconst (v := 4) 5 X dX5_metBridges_5 rfl ?_
        refine jn_icmp_ge 6 X dX5_metBridges_6 26 (by decide) (fun c_29 => absurd c_29 (by decide)) (fun _ => ?_)
        refine jv_aload_n 9 X dX5_metBridges_9 2 rfl ?_
        refine jv_iload_n 10 X dX5_metBridges_10 0 rfl ?_
        refine jv_callW (w1 := bRl E a inch day sights week purse cloth ruler stick span west east sightDay sightInch) 11 X (c_X5_hasMet E _ a (inch, day, sights, week, purse, cloth, ruler, stick, span, west, east, sightDay, sightInch) 3 (by omega)) wv_X5_64 ⟨Nat.le_of_ble_eq_true rfl, Nat.le_of_ble_eq_true rfl⟩ ⟨rfl, rfl⟩ ⟨Nat.zero_le _, Nat.zero_le _⟩ dX5_metBridges_11 rfl [] rfl (Nat.le_of_ble_eq_true rfl) 0 rfl rfl ?_
        refine jv_z_eq 14 X dX5_metBridges_14 20 (by decide) (fun c_30 => ?_) (fun c_30 => ?_)
        · refine jv_iinc (v := 4) (lv2 := [(2, .int 4), (1, .int 1), (0, .ref (a 0))]) 20 X dX5_metBridges_20 0 rfl (by decide) (by decide) rfl ?_
          refine jv_goto 23 X dX5_metBridges_23 4 (by decide) ?_
          refine jv_iload_n 4 X dX5_metBridges_4 0 rfl ?_
          refine jv_iconst (v := 4) 5 X dX5_metBridges_5 rfl ?_
          refine jn_icmp_ge 6 X dX5_metBridges_6 26 (by decide) (fun _ => ?_) (fun c_31 => absurd c_31 (by decide))
          refine jv_iload_n 26 X dX5_metBridges_26 1 rfl ?_
          exact jv_iret 27 X Y rfl dX5_metBridges_27 () (congrArg (fun z => some (Value.int z)) (by simp only [mbC, c_2, c_26, c_28, c_30, if_true, if_false]; decide)) rfl
        · refine jv_iinc (v := 2) (lv2 := [(1, .int 2), (2, .int 3), (0, .ref (a 0))]) 17 X dX5_metBridges_17 1 rfl (by decide) (by decide) rfl ?_
          refine jv_iinc (v := 4) (lv2 := [(2, .int 4), (1, .int 2), (0, .ref (a 0))]) 20 X dX5_metBridges_20 1 rfl (by decide) (by decide) rfl ?_
          refine jv_goto 23 X dX5_metBridges_23 4 (by decide) ?_
          refine jv_iload_n 4 X dX5_metBridges_4 0 rfl ?_
          refine jv_iconst (v := 4) 5 X dX5_metBridges_5 rfl ?_
          refine jn_icmp_ge 6 X dX5_metBridges_6 26 (by decide) (fun _ => ?_) (fun c_32 => absurd c_32 (by decide))
          refine jv_iload_n 26 X dX5_metBridges_26 1 rfl ?_
          exact jv_iret 27 X Y rfl dX5_metBridges_27 () (congrArg (fun z => some (Value.int z)) (by simp only [mbC, c_2, c_26, c_28, c_30, if_true, if_false]; decide)) rfl
      · refine jv_iinc (v := 2) (lv2 := [(1, .int 2), (2, .int 2), (0, .ref (a 0))]) 17 X dX5_metBridges_17 1 rfl (by decide) (by decide) rfl ?_
        refine jv_iinc (v := 3) (lv2 := [(2, .int 3), (1, .int 2), (0, .ref (a 0))]) 20 X dX5_metBridges_20 1 rfl (by decide) (by decide) rfl ?_
        refine jv_goto 23 X dX5_metBridges_23 4 (by decide) ?_
        refine jv_iload_n 4 X dX5_metBridges_4 0 rfl ?_
        refine jv_iconst (v := 4) 5 X dX5_metBridges_5 rfl ?_
        refine jn_icmp_ge 6 X dX5_metBridges_6 26 (by decide) (fun c_33 => absurd c_33 (by decide)) (fun _ => ?_)
        refine jv_aload_n 9 X dX5_metBridges_9 2 rfl ?_
        refine jv_iload_n 10 X dX5_metBridges_10 0 rfl ?_
        refine jv_callW (w1 := bRl E a inch day sights week purse cloth ruler stick span west east sightDay sightInch) 11 X (c_X5_hasMet E _ a (inch, day, sights, week, purse, cloth, ruler, stick, span, west, east, sightDay, sightInch) 3 (by omega)) wv_X5_64 ⟨Nat.le_of_ble_eq_true rfl, Nat.le_of_ble_eq_true rfl⟩ ⟨rfl, rfl⟩ ⟨Nat.zero_le _, Nat.zero_le _⟩ dX5_metBridges_11 rfl [] rfl (Nat.le_of_ble_eq_true rfl) 0 rfl rfl ?_
        refine jv_z_eq 14 X dX5_metBridges_14 20 (by decide) (fun c_34 => ?_) (fun c_34 => ?_)
        · refine jv_iinc (v := 4) (lv2 := [(2, .int 4), (1, .int 2), (0, .ref (a 0))]) 20 X dX5_metBridges_20 0 rfl (by decide) (by decide) rfl ?_
          refine jv_goto 23 X dX5_metBridges_23 4 (by decide) ?_
          refine jv_iload_n 4 X dX5_metBridges_4 0 rfl ?_
          refine jv_iconst (v := 4) 5 X dX5_metBridges_5 rfl ?_
          refine jn_icmp_ge 6 X dX5_metBridges_6 26 (by decide) (fun _ => ?_) (fun c_35 => absurd c_35 (by decide))
          refine jv_iload_n 26 X dX5_metBridges_26 1 rfl ?_
          exact jv_iret 27 X Y rfl dX5_metBridges_27 () (congrArg (fun z => some (Value.int z)) (by simp only [mbC, c_2, c_26, c_28, c_34, if_true, if_false]; decide)) rfl
        · refine jv_iinc (v := 3) (lv2 := [(1, .int 3), (2, .int 3), (0, .ref (a 0))]) 17 X dX5_metBridges_17 1 rfl (by decide) (by decide) rfl ?_
          refine jv_iinc (v := 4) (lv2 := [(2, .int 4), (1, .int 3), (0, .ref (a 0))]) 20 X dX5_metBridges_20 1 rfl (by decide) (by decide) rfl ?_
          refine jv_goto 23 X dX5_metBridges_23 4 (by decide) ?_
          refine jv_iload_n 4 X dX5_metBridges_4 0 rfl ?_
          refine jv_iconst (v := 4) 5 X dX5_metBridges_5 rfl ?_
          refine jn_icmp_ge 6 X dX5_metBridges_6 26 (by decide) (fun _ => ?_) (fun c_36 => absurd c_36 (by decide))
          refine jv_iload_n 26 X dX5_metBridges_26 1 rfl ?_
          exact jv_iret 27 X Y rfl dX5_metBridges_27 () (congrArg (fun z => some (Value.int z)) (by simp only [mbC, c_2, c_26, c_28, c_34, if_true, if_false]; decide)) rfl
    · refine jv_iinc (v := 2) (lv2 := [(1, .int 2), (2, .int 1), (0, .ref (a 0))]) 17 X dX5_metBridges_17 1 rfl (by decide) (by decide) rfl ?_
      refine jv_iinc (v := 2) (lv2 := [(2, .int 2), (1, .int 2), (0, .ref (a 0))]) 20 X dX5_metBridges_20 1 rfl (by decide) (by decide) rfl ?_
      refine jv_goto 23 X dX5_metBridges_23 4 (by decide) ?_
      refine jv_iload_n 4 X dX5_metBridges_4 0 rfl ?_
      refine jv_iconst (v := 4) 5 X dX5_metBridges_5 rfl ?_
      refine jn_icmp_ge 6 X dX5_metBridges_6 26 (by decide) (fun c_37 => absurd c_37 (by decide)) (fun _ => ?_)
      refine jv_aload_n 9 X dX5_metBridges_9 2 rfl ?_
      refine jv_iload_n 10 X dX5_metBridges_10 0 rfl ?_
      refine jv_callW (w1 := bRl E a inch day sights week purse cloth ruler stick span west east sightDay sightInch) 11 X (c_X5_hasMet E _ a (inch, day, sights, week, purse, cloth, ruler, stick, span, west, east, sightDay, sightInch) 2 (by omega)) wv_X5_64 ⟨Nat.le_of_ble_eq_true rfl, Nat.le_of_ble_eq_true rfl⟩ ⟨rfl, rfl⟩ ⟨Nat.zero_le _, Nat.zero_le _⟩ dX5_metBridges_11 rfl [] rfl (Nat.le_of_ble_eq_true rfl) 0 rfl rfl ?_
      refine jv_z_eq 14 X dX5_metBridges_14 20 (by decide) (fun c_38 => ?_) (fun c_38 => ?_)
      · refine jv_iinc (v := 3) (lv2 := [(2, .int 3), (1, .int 2), (0, .ref (a 0))]) 20 X dX5_metBridges_20 0 rfl (by decide) (by decide) rfl ?_
        refine jv_goto 23 X dX5_metBridges_23 4 (by decide) ?_
        refine jv_iload_n 4 X dX5_metBridges_4 0 rfl ?_
        refine jv_iconst (v := 4) 5 X dX5_metBridges_5 rfl ?_
        refine jn_icmp_ge 6 X dX5_metBridges_6 26 (by decide) (fun c_39 => absurd c_39 (by decide)) (fun _ => ?_)
        refine jv_aload_n 9 X dX5_metBridges_9 2 rfl ?_
        refine jv_iload_n 10 X dX5_metBridges_10 0 rfl ?_
        refine jv_callW (w1 := bRl E a inch day sights week purse cloth ruler stick span west east sightDay sightInch) 11 X (c_X5_hasMet E _ a (inch, day, sights, week, purse, cloth, ruler, stick, span, west, east, sightDay, sightInch) 3 (by omega)) wv_X5_64 ⟨Nat.le_of_ble_eq_true rfl, Nat.le_of_ble_eq_true rfl⟩ ⟨rfl, rfl⟩ ⟨Nat.zero_le _, Nat.zero_le _⟩ dX5_metBridges_11 rfl [] rfl (Nat.le_of_ble_eq_true rfl) 0 rfl rfl ?_
        refine jv_z_eq 14 X dX5_metBridges_14 20 (by decide) (fun c_40 => ?_) (fun c_40 => ?_)
        · refine jv_iinc (v := 4) (lv2 := [(2, .int 4), (1, .int 2), (0, .ref (a 0))]) 20 X dX5_metBridges_20 0 rfl (by decide) (by decide) rfl ?_
          refine jv_goto 23 X dX5_metBridges_23 4 (by decide) ?_
          refine jv_iload_n 4 X dX5_metBridges_4 0 rfl ?_
          refine jv_iconst (v := 4) 5 X dX5_metBridges_5 rfl ?_
          refine jn_icmp_ge 6 X dX5_metBridges_6 26 (by decide) (fun _ => ?_) (fun c_41 => absurd c_41 (by decide))
          refine jv_iload_n 26 X dX5_metBridges_26 1 rfl ?_
          exact jv_iret 27 X Y rfl dX5_metBridges_27 () (congrArg (fun z => some (Value.int z)) (by simp only [mbC, c_2, c_26, c_38, c_40, if_true, if_false]; decide)) rfl
        · refine jv_iinc (v := 3) (lv2 := [(1, .int 3), (2, .int 3), (0, .ref (a 0))]) 17 X dX5_metBridges_17 1 rfl (by decide) (by decide) rfl ?_
          refine jv_iinc (v := 4) (lv2 := [(2, .int 4), (1, .int 3), (0, .ref (a 0))]) 20 X dX5_metBridges_20 1 rfl (by decide) (by decide) rfl ?_
          refine jv_goto 23 X dX5_metBridges_23 4 (by decide) ?_
          refine jv_iload_n 4 X dX5_metBridges_4 0 rfl ?_
          refine jv_iconst (v := 4) 5 X dX5_metBridges_5 rfl ?_
          refine jn_icmp_ge 6 X dX5_metBridges_6 26 (by decide) (fun _ => ?_) (fun c_42 => absurd c_42 (by decide))
          refine jv_iload_n 26 X dX5_metBridges_26 1 rfl ?_
          exact jv_iret 27 X Y rfl dX5_metBridges_27 () (congrArg (fun z => some (Value.int z)) (by simp only [mbC, c_2, c_26, c_38, c_40, if_true, if_false]; decide)) rfl
      · refine jv_iinc (v := 3) (lv2 := [(1, .int 3), (2, .int 2), (0, .ref (a 0))]) 17 X dX5_metBridges_17 1 rfl (by decide) (by decide) rfl ?_
        refine jv_iinc (v := 3) (lv2 := [(2, .int 3), (1, .int 3), (0, .ref (a 0))]) 20 X dX5_metBridges_20 1 rfl (by decide) (by decide) rfl ?_
        refine jv_goto 23 X dX5_metBridges_23 4 (by decide) ?_
        refine jv_iload_n 4 X dX5_metBridges_4 0 rfl ?_
        refine jv_iconst (v := 4) 5 X dX5_metBridges_5 rfl ?_
        refine jn_icmp_ge 6 X dX5_metBridges_6 26 (by decide) (fun c_43 => absurd c_43 (by decide)) (fun _ => ?_)
        refine jv_aload_n 9 X dX5_metBridges_9 2 rfl ?_
        refine jv_iload_n 10 X dX5_metBridges_10 0 rfl ?_
        refine jv_callW (w1 := bRl E a inch day sights week purse cloth ruler stick span west east sightDay sightInch) 11 X (c_X5_hasMet E _ a (inch, day, sights, week, purse, cloth, ruler, stick, span, west, east, sightDay, sightInch) 3 (by omega)) wv_X5_64 ⟨Nat.le_of_ble_eq_true rfl, Nat.le_of_ble_eq_true rfl⟩ ⟨rfl, rfl⟩ ⟨Nat.zero_le _, Nat.zero_le _⟩ dX5_metBridges_11 rfl [] rfl (Nat.le_of_ble_eq_true rfl) 0 rfl rfl ?_
        refine jv_z_eq 14 X dX5_metBridges_14 20 (by decide) (fun c_44 => ?_) (fun c_44 => ?_)
        · refine jv_iinc (v := 4) (lv2 := [(2, .int 4), (1, .int 3), (0, .ref (a 0))]) 20 X dX5_metBridges_20 0 rfl (by decide) (by decide) rfl ?_
          refine jv_goto 23 X dX5_metBridges_23 4 (by decide) ?_
          refine jv_iload_n 4 X dX5_metBridges_4 0 rfl ?_
          refine jv_iconst (v := 4) 5 X dX5_metBridges_5 rfl ?_
          refine jn_icmp_ge 6 X dX5_metBridges_6 26 (by decide) (fun _ => ?_) (fun c_45 => absurd c_45 (by decide))
          refine jv_iload_n 26 X dX5_metBridges_26 1 rfl ?_
          exact jv_iret 27 X Y rfl dX5_metBridges_27 () (congrArg (fun z => some (Value.int z)) (by simp only [mbC, c_2, c_26, c_38, c_44, if_true, if_false]; decide)) rfl
        · refine jv_iinc (v := 4) (lv2 := [(1, .int 4), (2, .int 3), (0, .ref (a 0))]) 17 X dX5_metBridges_17 1 rfl (by decide) (by decide) rfl ?_
          refine jv_iinc (v := 4) (lv2 := [(2, .int 4), (1, .int 4), (0, .ref (a 0))]) 20 X dX5_metBridges_20 1 rfl (by decide) (by decide) rfl ?_
          refine jv_goto 23 X dX5_metBridges_23 4 (by decide) ?_
          refine jv_iload_n 4 X dX5_metBridges_4 0 rfl ?_
          refine jv_iconst (v := 4) 5 X dX5_metBridges_5 rfl ?_
          refine jn_icmp_ge 6 X dX5_metBridges_6 26 (by decide) (fun _ => ?_) (fun c_46 => absurd c_46 (by decide))
          refine jv_iload_n 26 X dX5_metBridges_26 1 rfl ?_
          exact jv_iret 27 X Y rfl dX5_metBridges_27 () (congrArg (fun z => some (Value.int z)) (by simp only [mbC, c_2, c_26, c_38, c_44, if_true, if_false]; decide)) rfl
theorem c_X5_nextInch (E : EE) (l : Launch) (a : Nat → Nat) (r : Rl) (v : Int32) (d : Nat) (hd : d < 2147483648) : CT E l yX5_nextInch cX5_nextInch 3 (some .int) { frames := 2, cells := 0, slots := 0, locals := 41 } [.ref (a 0), .int v, .int (nI d)] (tRl E a r) (some (.int (clampI (v + r.2.2.2.1 (d % 7))))) (tRl E a r) := by
  obtain ⟨inch, day, sights, week, purse, cloth, ruler, stick, span, west, east, sightDay, sightInch⟩ := r
  refine CT.intro (by decide +kernel) (Nat.le_of_ble_eq_true rfl) (fun K X Y => ?_)
  refine jv_iload_n 0 X dX5_nextInch_0 1 rfl ?_
  refine jv_aload_n 1 X dX5_nextInch_1 0 rfl ?_
  refine jv_get (v := .ref (a 1)) 2 X gf_X5_15 dX5_nextInch_2 0 rfl rfl ?_
  refine jv_iload_n 5 X dX5_nextInch_5 2 rfl ?_
  refine jv_bipush (v := 7) 6 X dX5_nextInch_6 (by decide) ?_
  refine jv_fun 8 X (c_J9_floorMod_7cf53 E _ d (by omega)) ws_X5_72 ⟨Nat.le_of_ble_eq_true rfl, Nat.le_of_ble_eq_true rfl⟩ ⟨rfl, rfl⟩ ⟨Nat.zero_le _, Nat.zero_le _⟩ dX5_nextInch_8 rfl [.ref (a 1), .int v] rfl (Nat.le_of_ble_eq_true rfl) ?_
  refine jv_iald (f := week) 11 X dX5_nextInch_11 1 rfl (by decide) (d % 7) rfl (by omega) ?_
  refine jv_iadd 12 X dX5_nextInch_12 ?_
  refine jv_funN 13 X (c_X9_limited E _ (v + (week (d % 7)))) wn_X5_78 ⟨Nat.le_of_ble_eq_true rfl, Nat.le_of_ble_eq_true rfl⟩ ⟨rfl, rfl⟩ ⟨Nat.zero_le _, Nat.zero_le _⟩ dX5_nextInch_13 rfl [] rfl (Nat.le_of_ble_eq_true rfl) ?_
  exact jv_iret 16 X Y rfl dX5_nextInch_16 () (by simp [lt_nle, -Int32.not_le]) rfl
theorem c_X5_firstOf (E : EE) (l : Launch) (x : Int32) (y : Int32) : CT E l yX5_firstOf cX5_firstOf 2 (some .int) { frames := 0, cells := 0, slots := 0, locals := 0 } [.int x, .int y] ([]) (some (.int (foI x y))) ([]) := by
  refine CT.intro (by decide +kernel) (Nat.le_of_ble_eq_true rfl) (fun K X Y => ?_)
  refine jv_iload_n 0 X dX5_firstOf_0 0 rfl ?_
  refine jn_if_eq 1 X dX5_firstOf_1 6 (by decide) (fun c_1 => ?_) (fun c_1 => ?_)
  · refine jv_iload_n 6 X dX5_firstOf_6 1 rfl ?_
    refine jn_if_eq 7 X dX5_firstOf_7 14 (by decide) (fun c_2 => ?_) (fun c_2 => ?_)
    · refine jv_iconst (v := 0) 14 X dX5_firstOf_14 rfl ?_
      exact jv_iret 15 X Y rfl dX5_firstOf_15 () (by simp [foI, lt_nle, -Int32.not_le, c_1, c_2]) rfl
    · refine jv_iconst (v := 2) 10 X dX5_firstOf_10 rfl ?_
      refine jv_goto 11 X dX5_firstOf_11 15 (by decide) ?_
      exact jv_iret 15 X Y rfl dX5_firstOf_15 () (by simp [foI, lt_nle, -Int32.not_le, c_1, c_2]) rfl
  · refine jv_iconst (v := 1) 4 X dX5_firstOf_4 rfl ?_
    exact jv_iret 5 X Y rfl dX5_firstOf_5 () (by simp [foI, lt_nle, -Int32.not_le, c_1]) rfl
theorem c_X5_hindrance (E : EE) (l : Launch) (a : Nat → Nat) (r : Rl) (kind : Int32) (o : Nat) (p : Nat) (n : Int32) (ho : o < 6) (hp : (kind = 40 ∨ kind = 41) → p < 4) : CT E l yX5_hindrance cX5_hindrance 5 (some .int) { frames := 1, cells := 0, slots := 0, locals := 21 } [.ref (a 0), .int kind, .int (nI o), .int (nI p), .int n] (tRl E a r) (some (.int (hdF r kind o p n))) (tRl E a r) := by
  obtain ⟨inch, day, sights, week, purse, cloth, ruler, stick, span, west, east, sightDay, sightInch⟩ := r
  refine CT.intro (by decide +kernel) (Nat.le_of_ble_eq_true rfl) (fun K X Y => ?_)
  refine jv_iload_n 0 X dX5_hindrance_0 1 rfl ?_
  by_cases c_1 : kind = 40
  · refine jv_look 1 X dX5_hindrance_1 174 (by decide) (by first | (rw [c_1]; done) | (rw [c_1]; decide)) (by decide) ?_
    have hp4 := hp (by first | exact Or.inl (by assumption) | exact Or.inr (by assumption))
    refine jv_aload_n 174 X dX5_hindrance_174 0 rfl ?_
    refine jv_iload_n 175 X dX5_hindrance_175 3 rfl ?_
    refine jv_callW (w1 := bRl E a inch day sights week purse cloth ruler stick span west east sightDay sightInch) 176 X (c_X5_hasMet E _ a (inch, day, sights, week, purse, cloth, ruler, stick, span, west, east, sightDay, sightInch) p (by omega)) wv_X5_64 ⟨Nat.le_of_ble_eq_true rfl, Nat.le_of_ble_eq_true rfl⟩ ⟨rfl, rfl⟩ ⟨Nat.zero_le _, Nat.zero_le _⟩ dX5_hindrance_176 rfl [] rfl (Nat.le_of_ble_eq_true rfl) 0 rfl rfl ?_
    refine jv_z_eq 179 X dX5_hindrance_179 186 (by decide) (fun c_2 => ?_) (fun c_2 => ?_)
    · refine jv_iconst (v := 0) 186 X dX5_hindrance_186 rfl ?_
      subst c_1
      exact jv_iret 187 X Y rfl dX5_hindrance_187 () (congrArg (fun z => some (Value.int z)) (by simp [hdF, foI, lt_nle, -Int32.not_le, c_2])) rfl
    · refine jv_iconst (v := 3) 182 X dX5_hindrance_182 rfl ?_
      refine jv_goto 183 X dX5_hindrance_183 187 (by decide) ?_
      subst c_1
      exact jv_iret 187 X Y rfl dX5_hindrance_187 () (congrArg (fun z => some (Value.int z)) (by simp [hdF, foI, lt_nle, -Int32.not_le, c_2])) rfl
  by_cases c_3 : kind = 41
  · refine jv_look 1 X dX5_hindrance_1 174 (by decide) (by first | (rw [c_3]; done) | (rw [c_3]; decide)) (by decide) ?_
    have hp4 := hp (by first | exact Or.inl (by assumption) | exact Or.inr (by assumption))
    refine jv_aload_n 174 X dX5_hindrance_174 0 rfl ?_
    refine jv_iload_n 175 X dX5_hindrance_175 3 rfl ?_
    refine jv_callW (w1 := bRl E a inch day sights week purse cloth ruler stick span west east sightDay sightInch) 176 X (c_X5_hasMet E _ a (inch, day, sights, week, purse, cloth, ruler, stick, span, west, east, sightDay, sightInch) p (by omega)) wv_X5_64 ⟨Nat.le_of_ble_eq_true rfl, Nat.le_of_ble_eq_true rfl⟩ ⟨rfl, rfl⟩ ⟨Nat.zero_le _, Nat.zero_le _⟩ dX5_hindrance_176 rfl [] rfl (Nat.le_of_ble_eq_true rfl) 0 rfl rfl ?_
    refine jv_z_eq 179 X dX5_hindrance_179 186 (by decide) (fun c_4 => ?_) (fun c_4 => ?_)
    · refine jv_iconst (v := 0) 186 X dX5_hindrance_186 rfl ?_
      subst c_3
      exact jv_iret 187 X Y rfl dX5_hindrance_187 () (congrArg (fun z => some (Value.int z)) (by simp [hdF, foI, lt_nle, -Int32.not_le, c_4])) rfl
    · refine jv_iconst (v := 3) 182 X dX5_hindrance_182 rfl ?_
      refine jv_goto 183 X dX5_hindrance_183 187 (by decide) ?_
      subst c_3
      exact jv_iret 187 X Y rfl dX5_hindrance_187 () (congrArg (fun z => some (Value.int z)) (by simp [hdF, foI, lt_nle, -Int32.not_le, c_4])) rfl
  by_cases c_5 : kind = 43
  · refine jv_look 1 X dX5_hindrance_1 84 (by decide) (by first | (rw [c_5]; done) | (rw [c_5]; decide)) (by decide) ?_
    refine jv_aload_n 84 X dX5_hindrance_84 0 rfl ?_
    refine jv_get (v := .ref (a 2)) 85 X gf_X5_19 dX5_hindrance_85 0 rfl rfl ?_
    refine jv_iload_n 88 X dX5_hindrance_88 2 rfl ?_
    refine jv_iald (f := purse) 89 X dX5_hindrance_89 2 rfl (by decide) o rfl (by omega) ?_
    refine jv_iload 90 X dX5_hindrance_90 4 rfl ?_
    refine jn_icmp_ge 92 X dX5_hindrance_92 99 (by decide) (fun c_6 => ?_) (fun c_6 => ?_)
    · refine jv_iconst (v := 0) 99 X dX5_hindrance_99 rfl ?_
      refine jv_aload_n 100 X dX5_hindrance_100 0 rfl ?_
      refine jv_get (v := .ref (a 3)) 101 X gf_X5_22 dX5_hindrance_101 0 rfl rfl ?_
      refine jv_iload_n 104 X dX5_hindrance_104 2 rfl ?_
      refine jv_iald (f := cloth) 105 X dX5_hindrance_105 3 rfl (by decide) o rfl (by omega) ?_
      refine jv_iload 106 X dX5_hindrance_106 4 rfl ?_
      refine jv_aload_n 108 X dX5_hindrance_108 0 rfl ?_
      refine jv_get (v := .int inch) 109 X gf_X5_9 dX5_hindrance_109 0 rfl rfl ?_
      refine jv_imul 112 X dX5_hindrance_112 ?_
      refine jv_iadd 113 X dX5_hindrance_113 ?_
      refine jv_ldc (v := 99999) 114 X tm_k_X5_81 dX5_hindrance_114 ?_
      refine jn_icmp_le 116 X dX5_hindrance_116 123 (by decide) (fun c_7 => ?_) (fun c_7 => ?_)
      · refine jv_iconst (v := 0) 123 X dX5_hindrance_123 rfl ?_
        refine jv_fun 124 X (c_X5_firstOf E _ 0 0) ws_X5_82 ⟨Nat.le_of_ble_eq_true rfl, Nat.le_of_ble_eq_true rfl⟩ ⟨rfl, rfl⟩ ⟨Nat.zero_le _, Nat.zero_le _⟩ dX5_hindrance_124 rfl [] rfl (Nat.le_of_ble_eq_true rfl) ?_
        subst c_5
        exact jv_iret 127 X Y rfl dX5_hindrance_127 () (congrArg (fun z => some (Value.int z)) (by simp [hdF, foI, lt_nle, -Int32.not_le, c_6, c_7])) rfl
      · refine jv_iconst (v := 1) 119 X dX5_hindrance_119 rfl ?_
        refine jv_goto 120 X dX5_hindrance_120 124 (by decide) ?_
        refine jv_fun 124 X (c_X5_firstOf E _ 0 1) ws_X5_82 ⟨Nat.le_of_ble_eq_true rfl, Nat.le_of_ble_eq_true rfl⟩ ⟨rfl, rfl⟩ ⟨Nat.zero_le _, Nat.zero_le _⟩ dX5_hindrance_124 rfl [] rfl (Nat.le_of_ble_eq_true rfl) ?_
        subst c_5
        exact jv_iret 127 X Y rfl dX5_hindrance_127 () (congrArg (fun z => some (Value.int z)) (by simp [hdF, foI, lt_nle, -Int32.not_le, c_6, c_7])) rfl
    · refine jv_iconst (v := 1) 95 X dX5_hindrance_95 rfl ?_
      refine jv_goto 96 X dX5_hindrance_96 100 (by decide) ?_
      refine jv_aload_n 100 X dX5_hindrance_100 0 rfl ?_
      refine jv_get (v := .ref (a 3)) 101 X gf_X5_22 dX5_hindrance_101 0 rfl rfl ?_
      refine jv_iload_n 104 X dX5_hindrance_104 2 rfl ?_
      refine jv_iald (f := cloth) 105 X dX5_hindrance_105 3 rfl (by decide) o rfl (by omega) ?_
      refine jv_iload 106 X dX5_hindrance_106 4 rfl ?_
      refine jv_aload_n 108 X dX5_hindrance_108 0 rfl ?_
      refine jv_get (v := .int inch) 109 X gf_X5_9 dX5_hindrance_109 0 rfl rfl ?_
      refine jv_imul 112 X dX5_hindrance_112 ?_
      refine jv_iadd 113 X dX5_hindrance_113 ?_
      refine jv_ldc (v := 99999) 114 X tm_k_X5_81 dX5_hindrance_114 ?_
      refine jn_icmp_le 116 X dX5_hindrance_116 123 (by decide) (fun c_8 => ?_) (fun c_8 => ?_)
      · refine jv_iconst (v := 0) 123 X dX5_hindrance_123 rfl ?_
        refine jv_fun 124 X (c_X5_firstOf E _ 1 0) ws_X5_82 ⟨Nat.le_of_ble_eq_true rfl, Nat.le_of_ble_eq_true rfl⟩ ⟨rfl, rfl⟩ ⟨Nat.zero_le _, Nat.zero_le _⟩ dX5_hindrance_124 rfl [] rfl (Nat.le_of_ble_eq_true rfl) ?_
        subst c_5
        exact jv_iret 127 X Y rfl dX5_hindrance_127 () (congrArg (fun z => some (Value.int z)) (by simp [hdF, foI, lt_nle, -Int32.not_le, c_6, c_8])) rfl
      · refine jv_iconst (v := 1) 119 X dX5_hindrance_119 rfl ?_
        refine jv_goto 120 X dX5_hindrance_120 124 (by decide) ?_
        refine jv_fun 124 X (c_X5_firstOf E _ 1 1) ws_X5_82 ⟨Nat.le_of_ble_eq_true rfl, Nat.le_of_ble_eq_true rfl⟩ ⟨rfl, rfl⟩ ⟨Nat.zero_le _, Nat.zero_le _⟩ dX5_hindrance_124 rfl [] rfl (Nat.le_of_ble_eq_true rfl) ?_
        subst c_5
        exact jv_iret 127 X Y rfl dX5_hindrance_127 () (congrArg (fun z => some (Value.int z)) (by simp [hdF, foI, lt_nle, -Int32.not_le, c_6, c_8])) rfl
  by_cases c_9 : kind = 45
  · refine jv_look 1 X dX5_hindrance_1 128 (by decide) (by first | (rw [c_9]; done) | (rw [c_9]; decide)) (by decide) ?_
    refine jv_aload_n 128 X dX5_hindrance_128 0 rfl ?_
    refine jv_get (v := .ref (a 3)) 129 X gf_X5_22 dX5_hindrance_129 0 rfl rfl ?_
    refine jv_iload_n 132 X dX5_hindrance_132 2 rfl ?_
    refine jv_iald (f := cloth) 133 X dX5_hindrance_133 3 rfl (by decide) o rfl (by omega) ?_
    refine jv_iload 134 X dX5_hindrance_134 4 rfl ?_
    refine jv_aload_n 136 X dX5_hindrance_136 0 rfl ?_
    refine jv_iload_n 137 X dX5_hindrance_137 2 rfl ?_
    refine jv_callW (w1 := bRl E a inch day sights week purse cloth ruler stick span west east sightDay sightInch) 138 X (c_X5_measure E _ a (inch, day, sights, week, purse, cloth, ruler, stick, span, west, east, sightDay, sightInch) o (by omega)) wv_X5_68 ⟨Nat.le_of_ble_eq_true rfl, Nat.le_of_ble_eq_true rfl⟩ ⟨rfl, rfl⟩ ⟨Nat.zero_le _, Nat.zero_le _⟩ dX5_hindrance_138 rfl [.int n, .int (cloth o)] rfl (Nat.le_of_ble_eq_true rfl) 0 rfl rfl ?_
    refine jv_imul 141 X dX5_hindrance_141 ?_
    refine jn_icmp_ge 142 X dX5_hindrance_142 149 (by decide) (fun c_10 => ?_) (fun c_10 => ?_)
    · refine jv_iconst (v := 0) 149 X dX5_hindrance_149 rfl ?_
      refine jv_aload_n 150 X dX5_hindrance_150 0 rfl ?_
      refine jv_get (v := .ref (a 2)) 151 X gf_X5_19 dX5_hindrance_151 0 rfl rfl ?_
      refine jv_iload_n 154 X dX5_hindrance_154 2 rfl ?_
      refine jv_iald (f := purse) 155 X dX5_hindrance_155 2 rfl (by decide) o rfl (by omega) ?_
      refine jv_iload 156 X dX5_hindrance_156 4 rfl ?_
      refine jv_iadd 158 X dX5_hindrance_158 ?_
      refine jv_sipush (v := 9999) 159 X dX5_hindrance_159 (by decide) ?_
      refine jn_icmp_le 162 X dX5_hindrance_162 169 (by decide) (fun c_11 => ?_) (fun c_11 => ?_)
      · refine jv_iconst (v := 0) 169 X dX5_hindrance_169 rfl ?_
        refine jv_fun 170 X (c_X5_firstOf E _ 0 0) ws_X5_82 ⟨Nat.le_of_ble_eq_true rfl, Nat.le_of_ble_eq_true rfl⟩ ⟨rfl, rfl⟩ ⟨Nat.zero_le _, Nat.zero_le _⟩ dX5_hindrance_170 rfl [] rfl (Nat.le_of_ble_eq_true rfl) ?_
        subst c_9
        exact jv_iret 173 X Y rfl dX5_hindrance_173 () (congrArg (fun z => some (Value.int z)) (by simp [hdF, foI, lt_nle, -Int32.not_le, c_10, c_11])) rfl
      · refine jv_iconst (v := 1) 165 X dX5_hindrance_165 rfl ?_
        refine jv_goto 166 X dX5_hindrance_166 170 (by decide) ?_
        refine jv_fun 170 X (c_X5_firstOf E _ 0 1) ws_X5_82 ⟨Nat.le_of_ble_eq_true rfl, Nat.le_of_ble_eq_true rfl⟩ ⟨rfl, rfl⟩ ⟨Nat.zero_le _, Nat.zero_le _⟩ dX5_hindrance_170 rfl [] rfl (Nat.le_of_ble_eq_true rfl) ?_
        subst c_9
        exact jv_iret 173 X Y rfl dX5_hindrance_173 () (congrArg (fun z => some (Value.int z)) (by simp [hdF, foI, lt_nle, -Int32.not_le, c_10, c_11])) rfl
    · refine jv_iconst (v := 1) 145 X dX5_hindrance_145 rfl ?_
      refine jv_goto 146 X dX5_hindrance_146 150 (by decide) ?_
      refine jv_aload_n 150 X dX5_hindrance_150 0 rfl ?_
      refine jv_get (v := .ref (a 2)) 151 X gf_X5_19 dX5_hindrance_151 0 rfl rfl ?_
      refine jv_iload_n 154 X dX5_hindrance_154 2 rfl ?_
      refine jv_iald (f := purse) 155 X dX5_hindrance_155 2 rfl (by decide) o rfl (by omega) ?_
      refine jv_iload 156 X dX5_hindrance_156 4 rfl ?_
      refine jv_iadd 158 X dX5_hindrance_158 ?_
      refine jv_sipush (v := 9999) 159 X dX5_hindrance_159 (by decide) ?_
      refine jn_icmp_le 162 X dX5_hindrance_162 169 (by decide) (fun c_12 => ?_) (fun c_12 => ?_)
      · refine jv_iconst (v := 0) 169 X dX5_hindrance_169 rfl ?_
        refine jv_fun 170 X (c_X5_firstOf E _ 1 0) ws_X5_82 ⟨Nat.le_of_ble_eq_true rfl, Nat.le_of_ble_eq_true rfl⟩ ⟨rfl, rfl⟩ ⟨Nat.zero_le _, Nat.zero_le _⟩ dX5_hindrance_170 rfl [] rfl (Nat.le_of_ble_eq_true rfl) ?_
        subst c_9
        exact jv_iret 173 X Y rfl dX5_hindrance_173 () (congrArg (fun z => some (Value.int z)) (by simp [hdF, foI, lt_nle, -Int32.not_le, c_10, c_12])) rfl
      · refine jv_iconst (v := 1) 165 X dX5_hindrance_165 rfl ?_
        refine jv_goto 166 X dX5_hindrance_166 170 (by decide) ?_
        refine jv_fun 170 X (c_X5_firstOf E _ 1 1) ws_X5_82 ⟨Nat.le_of_ble_eq_true rfl, Nat.le_of_ble_eq_true rfl⟩ ⟨rfl, rfl⟩ ⟨Nat.zero_le _, Nat.zero_le _⟩ dX5_hindrance_170 rfl [] rfl (Nat.le_of_ble_eq_true rfl) ?_
        subst c_9
        exact jv_iret 173 X Y rfl dX5_hindrance_173 () (congrArg (fun z => some (Value.int z)) (by simp [hdF, foI, lt_nle, -Int32.not_le, c_10, c_12])) rfl
  by_cases c_13 : kind = 46
  · refine jv_look 1 X dX5_hindrance_1 252 (by decide) (by first | (rw [c_13]; done) | (rw [c_13]; decide)) (by decide) ?_
    refine jv_aload_n 252 X dX5_hindrance_252 0 rfl ?_
    refine jv_get (v := .int day) 253 X gf_X5_52 dX5_hindrance_253 0 rfl rfl ?_
    refine jv_sipush (v := 999) 256 X dX5_hindrance_256 (by decide) ?_
    refine jn_icmp_lt 259 X dX5_hindrance_259 267 (by decide) (fun c_14 => ?_) (fun c_14 => ?_)
    · refine jv_iconst (v := 0) 267 X dX5_hindrance_267 rfl ?_
      subst c_13
      exact jv_iret 268 X Y rfl dX5_hindrance_268 () (congrArg (fun z => some (Value.int z)) (by simp [hdF, foI, lt_nle, -Int32.not_le, c_14])) rfl
    · refine jv_bipush (v := 6) 262 X dX5_hindrance_262 (by decide) ?_
      refine jv_goto 264 X dX5_hindrance_264 268 (by decide) ?_
      subst c_13
      exact jv_iret 268 X Y rfl dX5_hindrance_268 () (congrArg (fun z => some (Value.int z)) (by simp [hdF, foI, lt_nle, -Int32.not_le, c_14])) rfl
  by_cases c_15 : kind = 60
  · refine jv_look 1 X dX5_hindrance_1 188 (by decide) (by first | (rw [c_15]; done) | (rw [c_15]; decide)) (by decide) ?_
    refine jv_aload_n 188 X dX5_hindrance_188 0 rfl ?_
    refine jv_get (v := .int inch) 189 X gf_X5_9 dX5_hindrance_189 0 rfl rfl ?_
    refine jv_iconst (v := 1) 192 X dX5_hindrance_192 rfl ?_
    refine jn_icmp_ne 193 X dX5_hindrance_193 200 (by decide) (fun c_16 => ?_) (fun c_16 => ?_)
    · refine jv_iconst (v := 0) 200 X dX5_hindrance_200 rfl ?_
      subst c_15
      exact jv_iret 201 X Y rfl dX5_hindrance_201 () (congrArg (fun z => some (Value.int z)) (by simp [hdF, foI, lt_nle, -Int32.not_le, c_16])) rfl
    · refine jv_iconst (v := 4) 196 X dX5_hindrance_196 rfl ?_
      refine jv_goto 197 X dX5_hindrance_197 201 (by decide) ?_
      subst c_15
      exact jv_iret 201 X Y rfl dX5_hindrance_201 () (congrArg (fun z => some (Value.int z)) (by simp [hdF, foI, lt_nle, -Int32.not_le, c_16])) rfl
  by_cases c_17 : kind = 61
  · refine jv_look 1 X dX5_hindrance_1 218 (by decide) (by first | (rw [c_17]; done) | (rw [c_17]; decide)) (by decide) ?_
    refine jv_aload_n 218 X dX5_hindrance_218 0 rfl ?_
    refine jv_get (v := .ref (a 4)) 219 X gf_X5_25 dX5_hindrance_219 0 rfl rfl ?_
    refine jv_iload_n 222 X dX5_hindrance_222 2 rfl ?_
    refine jv_iald (f := ruler) 223 X dX5_hindrance_223 4 rfl (by decide) o rfl (by omega) ?_
    refine jv_aload_n 224 X dX5_hindrance_224 0 rfl ?_
    refine jv_get (v := .int inch) 225 X gf_X5_9 dX5_hindrance_225 0 rfl rfl ?_
    refine jn_icmp_ne 228 X dX5_hindrance_228 235 (by decide) (fun c_18 => ?_) (fun c_18 => ?_)
    · refine jv_iconst (v := 0) 235 X dX5_hindrance_235 rfl ?_
      subst c_17
      exact jv_iret 236 X Y rfl dX5_hindrance_236 () (congrArg (fun z => some (Value.int z)) (by simp [hdF, foI, lt_nle, -Int32.not_le, c_18])) rfl
    · refine jv_iconst (v := 5) 231 X dX5_hindrance_231 rfl ?_
      refine jv_goto 232 X dX5_hindrance_232 236 (by decide) ?_
      subst c_17
      exact jv_iret 236 X Y rfl dX5_hindrance_236 () (congrArg (fun z => some (Value.int z)) (by simp [hdF, foI, lt_nle, -Int32.not_le, c_18])) rfl
  by_cases c_19 : kind = 62
  · refine jv_look 1 X dX5_hindrance_1 202 (by decide) (by first | (rw [c_19]; done) | (rw [c_19]; decide)) (by decide) ?_
    refine jv_aload_n 202 X dX5_hindrance_202 0 rfl ?_
    refine jv_get (v := .int inch) 203 X gf_X5_9 dX5_hindrance_203 0 rfl rfl ?_
    refine jv_sipush (v := 200) 206 X dX5_hindrance_206 (by decide) ?_
    refine jn_icmp_ne 209 X dX5_hindrance_209 216 (by decide) (fun c_20 => ?_) (fun c_20 => ?_)
    · refine jv_iconst (v := 0) 216 X dX5_hindrance_216 rfl ?_
      subst c_19
      exact jv_iret 217 X Y rfl dX5_hindrance_217 () (congrArg (fun z => some (Value.int z)) (by simp [hdF, foI, lt_nle, -Int32.not_le, c_20])) rfl
    · refine jv_iconst (v := 4) 212 X dX5_hindrance_212 rfl ?_
      refine jv_goto 213 X dX5_hindrance_213 217 (by decide) ?_
      subst c_19
      exact jv_iret 217 X Y rfl dX5_hindrance_217 () (congrArg (fun z => some (Value.int z)) (by simp [hdF, foI, lt_nle, -Int32.not_le, c_20])) rfl
  by_cases c_21 : kind = 120
  · refine jv_look 1 X dX5_hindrance_1 237 (by decide) (by first | (rw [c_21]; done) | (rw [c_21]; decide)) (by decide) ?_
    refine jv_aload_n 237 X dX5_hindrance_237 0 rfl ?_
    refine jv_get (v := .ref (a 4)) 238 X gf_X5_25 dX5_hindrance_238 0 rfl rfl ?_
    refine jv_iload_n 241 X dX5_hindrance_241 2 rfl ?_
    refine jv_iald (f := ruler) 242 X dX5_hindrance_242 4 rfl (by decide) o rfl (by omega) ?_
    refine jn_if_ne 243 X dX5_hindrance_243 250 (by decide) (fun c_22 => ?_) (fun c_22 => ?_)
    · refine jv_iconst (v := 0) 250 X dX5_hindrance_250 rfl ?_
      subst c_21
      exact jv_iret 251 X Y rfl dX5_hindrance_251 () (congrArg (fun z => some (Value.int z)) (by simp [hdF, foI, lt_nle, -Int32.not_le, c_22])) rfl
    · refine jv_iconst (v := 5) 246 X dX5_hindrance_246 rfl ?_
      refine jv_goto 247 X dX5_hindrance_247 251 (by decide) ?_
      subst c_21
      exact jv_iret 251 X Y rfl dX5_hindrance_251 () (congrArg (fun z => some (Value.int z)) (by simp [hdF, foI, lt_nle, -Int32.not_le, c_22])) rfl
  refine jv_look (off := 268) 1 X dX5_hindrance_1 269 (by decide) ((lv_osw (k := 40) c_1 (by decide)).trans ((lv_osw (k := 41) c_3 (by decide)).trans ((lv_osw (k := 43) c_5 (by decide)).trans ((lv_osw (k := 45) c_9 (by decide)).trans ((lv_osw (k := 46) c_13 (by decide)).trans ((lv_osw (k := 60) c_15 (by decide)).trans ((lv_osw (k := 61) c_17 (by decide)).trans ((lv_osw (k := 62) c_19 (by decide)).trans ((lv_osw (k := 120) c_21 (by decide)).trans rfl))))))))) (by decide) ?_
  refine jv_iconst (v := 0) 269 X dX5_hindrance_269 rfl ?_
  exact jv_iret 270 X Y rfl dX5_hindrance_270 () (congrArg (fun z => some (Value.int z)) (by simp [hdF, foI, lt_nle, -Int32.not_le, c_1, c_3, c_5, c_9, c_13, c_15, c_17, c_19, c_21])) rfl
theorem c_X5_act (E : EE) (l : Launch) (a : Nat → Nat) (r : Rl) (kind : Int32) (o : Nat) (p : Nat) (n : Int32) (ho : o < 6) (hp4 : (kind = 40 ∨ kind = 41) → p < 4) (hp8 : kind = 47 → p < 8) (hd : kind = 46 → r.2.1 = nI r.2.1.toNatClampNeg) : CT E l yX5_act cX5_act 5 none { frames := 3, cells := 0, slots := 0, locals := 63 } [.ref (a 0), .int kind, .int (nI o), .int (nI p), .int n] (tRl E a r) (none) (tRl E a (acF r kind o p n)) := by
  obtain ⟨inch, day, sights, week, purse, cloth, ruler, stick, span, west, east, sightDay, sightInch⟩ := r
  refine CT.intro (by decide +kernel) (Nat.le_of_ble_eq_true rfl) (fun K X Y => ?_)
  refine jv_iload_n 0 X dX5_act_0 1 rfl ?_
  by_cases c_1 : kind = 40
  · refine jv_look 1 X dX5_act_1 170 (by decide) (by first | (rw [c_1]; done) | (rw [c_1]; decide)) (by decide) ?_
    have hpa := hp4 (Or.inl (by assumption))
    refine jv_aload_n 170 X dX5_act_170 0 rfl ?_
    refine jv_get (v := .ref (a 7)) 171 X gf_X5_34 dX5_act_171 0 rfl rfl ?_
    refine jv_iload_n 174 X dX5_act_174 3 rfl ?_
    refine jv_dup2 175 X dX5_act_175 rfl rfl ?_
    refine jv_iald (f := west) 176 X dX5_act_176 7 rfl (by decide) p rfl (by omega) ?_
    refine jv_iload 177 X dX5_act_177 4 rfl ?_
    refine jv_aload_n 179 X dX5_act_179 0 rfl ?_
    refine jv_iload_n 180 X dX5_act_180 2 rfl ?_
    refine jv_callW (w1 := bRl E a inch day sights week purse cloth ruler stick span west east sightDay sightInch) 181 X (c_X5_measure E _ a (inch, day, sights, week, purse, cloth, ruler, stick, span, west, east, sightDay, sightInch) o (by omega)) wv_X5_68 ⟨Nat.le_of_ble_eq_true rfl, Nat.le_of_ble_eq_true rfl⟩ ⟨rfl, rfl⟩ ⟨Nat.zero_le _, Nat.zero_le _⟩ dX5_act_181 rfl [.int n, .int (west p), .int (nI p), .ref (a 7)] rfl (Nat.le_of_ble_eq_true rfl) 0 rfl rfl ?_
    refine jv_imul 184 X dX5_act_184 ?_
    refine jv_iadd 185 X dX5_act_185 ?_
    refine jv_iast (ws2 := bRl E a inch day sights week purse cloth ruler stick span (upd west p ((west p) + (n * (msC (inch, day, sights, week, purse, cloth, ruler, stick, span, west, east, sightDay, sightInch) o)))) east sightDay sightInch) (f := west) 186 X dX5_act_186 7 rfl (by decide) p rfl (by omega) rfl ?_
    refine jv_goto 187 X dX5_act_187 296 (by decide) ?_
    subst c_1
    have hq : acF (inch, day, sights, week, purse, cloth, ruler, stick, span, west, east, sightDay, sightInch) 40 o p n = (inch, day, sights, week, purse, cloth, ruler, stick, span, (upd west p ((west p) + (n * (msC (inch, day, sights, week, purse, cloth, ruler, stick, span, west, east, sightDay, sightInch) o)))), east, sightDay, sightInch) := by simp [acF, msC]
    exact jv_vret 296 X Y rfl dX5_act_296 () rfl (by rw [hq]; try rfl)
  by_cases c_2 : kind = 41
  · refine jv_look 1 X dX5_act_1 190 (by decide) (by first | (rw [c_2]; done) | (rw [c_2]; decide)) (by decide) ?_
    have hpa := hp4 (Or.inr (by assumption))
    refine jv_aload_n 190 X dX5_act_190 0 rfl ?_
    refine jv_get (v := .ref (a 8)) 191 X gf_X5_37 dX5_act_191 0 rfl rfl ?_
    refine jv_iload_n 194 X dX5_act_194 3 rfl ?_
    refine jv_dup2 195 X dX5_act_195 rfl rfl ?_
    refine jv_iald (f := east) 196 X dX5_act_196 8 rfl (by decide) p rfl (by omega) ?_
    refine jv_iload 197 X dX5_act_197 4 rfl ?_
    refine jv_aload_n 199 X dX5_act_199 0 rfl ?_
    refine jv_iload_n 200 X dX5_act_200 2 rfl ?_
    refine jv_callW (w1 := bRl E a inch day sights week purse cloth ruler stick span west east sightDay sightInch) 201 X (c_X5_measure E _ a (inch, day, sights, week, purse, cloth, ruler, stick, span, west, east, sightDay, sightInch) o (by omega)) wv_X5_68 ⟨Nat.le_of_ble_eq_true rfl, Nat.le_of_ble_eq_true rfl⟩ ⟨rfl, rfl⟩ ⟨Nat.zero_le _, Nat.zero_le _⟩ dX5_act_201 rfl [.int n, .int (east p), .int (nI p), .ref (a 8)] rfl (Nat.le_of_ble_eq_true rfl) 0 rfl rfl ?_
    refine jv_imul 204 X dX5_act_204 ?_
    refine jv_iadd 205 X dX5_act_205 ?_
    refine jv_iast (ws2 := bRl E a inch day sights week purse cloth ruler stick span west (upd east p ((east p) + (n * (msC (inch, day, sights, week, purse, cloth, ruler, stick, span, west, east, sightDay, sightInch) o)))) sightDay sightInch) (f := east) 206 X dX5_act_206 8 rfl (by decide) p rfl (by omega) rfl ?_
    refine jv_goto 207 X dX5_act_207 296 (by decide) ?_
    subst c_2
    have hq : acF (inch, day, sights, week, purse, cloth, ruler, stick, span, west, east, sightDay, sightInch) 41 o p n = (inch, day, sights, week, purse, cloth, ruler, stick, span, west, (upd east p ((east p) + (n * (msC (inch, day, sights, week, purse, cloth, ruler, stick, span, west, east, sightDay, sightInch) o)))), sightDay, sightInch) := by simp [acF, msC]
    exact jv_vret 296 X Y rfl dX5_act_296 () rfl (by rw [hq]; try rfl)
  by_cases c_3 : kind = 43
  · refine jv_look 1 X dX5_act_1 92 (by decide) (by first | (rw [c_3]; done) | (rw [c_3]; decide)) (by decide) ?_
    refine jv_aload_n 92 X dX5_act_92 0 rfl ?_
    refine jv_get (v := .ref (a 2)) 93 X gf_X5_19 dX5_act_93 0 rfl rfl ?_
    refine jv_iload_n 96 X dX5_act_96 2 rfl ?_
    refine jv_dup2 97 X dX5_act_97 rfl rfl ?_
    refine jv_iald (f := purse) 98 X dX5_act_98 2 rfl (by decide) o rfl (by omega) ?_
    refine jv_iload 99 X dX5_act_99 4 rfl ?_
    refine jv_isub 101 X dX5_act_101 ?_
    refine jv_iast (ws2 := bRl E a inch day sights week (upd purse o ((purse o) - n)) cloth ruler stick span west east sightDay sightInch) (f := purse) 102 X dX5_act_102 2 rfl (by decide) o rfl (by omega) rfl ?_
    refine jv_aload_n 103 X dX5_act_103 0 rfl ?_
    refine jv_get (v := .ref (a 3)) 104 X gf_X5_22 dX5_act_104 0 rfl rfl ?_
    refine jv_iload_n 107 X dX5_act_107 2 rfl ?_
    refine jv_dup2 108 X dX5_act_108 rfl rfl ?_
    refine jv_iald (f := cloth) 109 X dX5_act_109 3 rfl (by decide) o rfl (by omega) ?_
    refine jv_iload 110 X dX5_act_110 4 rfl ?_
    refine jv_aload_n 112 X dX5_act_112 0 rfl ?_
    refine jv_get (v := .int inch) 113 X gf_X5_9 dX5_act_113 0 rfl rfl ?_
    refine jv_imul 116 X dX5_act_116 ?_
    refine jv_iadd 117 X dX5_act_117 ?_
    refine jv_iast (ws2 := bRl E a inch day sights week (upd purse o ((purse o) - n)) (upd cloth o ((cloth o) + (n * inch))) ruler stick span west east sightDay sightInch) (f := cloth) 118 X dX5_act_118 3 rfl (by decide) o rfl (by omega) rfl ?_
    refine jv_goto 119 X dX5_act_119 296 (by decide) ?_
    subst c_3
    have hq : acF (inch, day, sights, week, purse, cloth, ruler, stick, span, west, east, sightDay, sightInch) 43 o p n = (inch, day, sights, week, (upd purse o ((purse o) - n)), (upd cloth o ((cloth o) + (n * inch))), ruler, stick, span, west, east, sightDay, sightInch) := by simp [acF, msC]
    exact jv_vret 296 X Y rfl dX5_act_296 () rfl (by rw [hq]; try rfl)
  by_cases c_4 : kind = 45
  · refine jv_look 1 X dX5_act_1 122 (by decide) (by first | (rw [c_4]; done) | (rw [c_4]; decide)) (by decide) ?_
    refine jv_aload_n 122 X dX5_act_122 0 rfl ?_
    refine jv_get (v := .ref (a 2)) 123 X gf_X5_19 dX5_act_123 0 rfl rfl ?_
    refine jv_iload_n 126 X dX5_act_126 2 rfl ?_
    refine jv_dup2 127 X dX5_act_127 rfl rfl ?_
    refine jv_iald (f := purse) 128 X dX5_act_128 2 rfl (by decide) o rfl (by omega) ?_
    refine jv_iload 129 X dX5_act_129 4 rfl ?_
    refine jv_iadd 131 X dX5_act_131 ?_
    refine jv_iast (ws2 := bRl E a inch day sights week (upd purse o ((purse o) + n)) cloth ruler stick span west east sightDay sightInch) (f := purse) 132 X dX5_act_132 2 rfl (by decide) o rfl (by omega) rfl ?_
    refine jv_aload_n 133 X dX5_act_133 0 rfl ?_
    refine jv_get (v := .ref (a 3)) 134 X gf_X5_22 dX5_act_134 0 rfl rfl ?_
    refine jv_iload_n 137 X dX5_act_137 2 rfl ?_
    refine jv_dup2 138 X dX5_act_138 rfl rfl ?_
    refine jv_iald (f := cloth) 139 X dX5_act_139 3 rfl (by decide) o rfl (by omega) ?_
    refine jv_iload 140 X dX5_act_140 4 rfl ?_
    refine jv_aload_n 142 X dX5_act_142 0 rfl ?_
    refine jv_iload_n 143 X dX5_act_143 2 rfl ?_
    refine jv_callW (w1 := bRl E a inch day sights week (upd purse o ((purse o) + n)) cloth ruler stick span west east sightDay sightInch) 144 X (c_X5_measure E _ a (inch, day, sights, week, (upd purse o ((purse o) + n)), cloth, ruler, stick, span, west, east, sightDay, sightInch) o (by omega)) wv_X5_68 ⟨Nat.le_of_ble_eq_true rfl, Nat.le_of_ble_eq_true rfl⟩ ⟨rfl, rfl⟩ ⟨Nat.zero_le _, Nat.zero_le _⟩ dX5_act_144 rfl [.int n, .int (cloth o), .int (nI o), .ref (a 3)] rfl (Nat.le_of_ble_eq_true rfl) 0 rfl rfl ?_
    refine jv_imul 147 X dX5_act_147 ?_
    refine jv_isub 148 X dX5_act_148 ?_
    refine jv_iast (ws2 := bRl E a inch day sights week (upd purse o ((purse o) + n)) (upd cloth o ((cloth o) - (n * (msC (inch, day, sights, week, (upd purse o ((purse o) + n)), cloth, ruler, stick, span, west, east, sightDay, sightInch) o)))) ruler stick span west east sightDay sightInch) (f := cloth) 149 X dX5_act_149 3 rfl (by decide) o rfl (by omega) rfl ?_
    refine jv_goto 150 X dX5_act_150 296 (by decide) ?_
    subst c_4
    have hq : acF (inch, day, sights, week, purse, cloth, ruler, stick, span, west, east, sightDay, sightInch) 45 o p n = (inch, day, sights, week, (upd purse o ((purse o) + n)), (upd cloth o ((cloth o) - (n * (msC (inch, day, sights, week, (upd purse o ((purse o) + n)), cloth, ruler, stick, span, west, east, sightDay, sightInch) o)))), ruler, stick, span, west, east, sightDay, sightInch) := by simp [acF, msC]
    exact jv_vret 296 X Y rfl dX5_act_296 () rfl (by rw [hq]; try rfl)
  by_cases c_5 : kind = 46
  · refine jv_look 1 X dX5_act_1 267 (by decide) (by first | (rw [c_5]; done) | (rw [c_5]; decide)) (by decide) ?_
    refine jv_aload_n 267 X dX5_act_267 0 rfl ?_
    refine jv_aload_n 268 X dX5_act_268 0 rfl ?_
    refine jv_aload_n 269 X dX5_act_269 0 rfl ?_
    refine jv_get (v := .int inch) 270 X gf_X5_9 dX5_act_270 0 rfl rfl ?_
    refine jv_aload_n 273 X dX5_act_273 0 rfl ?_
    refine jv_get (v := .int day) 274 X gf_X5_52 dX5_act_274 0 rfl rfl ?_
    refine jv_norm (x2 := nI day.toNatClampNeg) (hd (by assumption)) ?_
    have hdd : day.toNatClampNeg < 2147483648 := by have := Int32.toInt_lt day; have h : day.toNatClampNeg = day.toInt.toNat := rfl; omega
    refine jv_callW (w1 := bRl E a inch day sights week purse cloth ruler stick span west east sightDay sightInch) 277 X (c_X5_nextInch E _ a (inch, day, sights, week, purse, cloth, ruler, stick, span, west, east, sightDay, sightInch) inch day.toNatClampNeg (by omega)) wv_X5_86 ⟨Nat.le_of_ble_eq_true rfl, Nat.le_of_ble_eq_true rfl⟩ ⟨rfl, rfl⟩ ⟨Nat.zero_le _, Nat.zero_le _⟩ dX5_act_277 rfl [.ref (a 0)] rfl (Nat.le_of_ble_eq_true rfl) 0 rfl rfl ?_
    refine jv_puti (ws2 := bRl E a (clampI (inch + (inch, day, sights, week, purse, cloth, ruler, stick, span, west, east, sightDay, sightInch).2.2.2.1 (day.toNatClampNeg % 7))) day sights week purse cloth ruler stick span west east sightDay sightInch) 280 X gf_X5_9 tyX5_ok nmX5 rfl rfl dX5_act_280 0 rfl (Nat.le_of_ble_eq_true rfl) rfl ?_
    refine jv_aload_n 283 X dX5_act_283 0 rfl ?_
    refine jv_dup 284 X dX5_act_284 rfl ?_
    refine jv_get (v := .int day) 285 X gf_X5_52 dX5_act_285 0 rfl rfl ?_
    refine jv_iconst (v := 1) 288 X dX5_act_288 rfl ?_
    refine jv_iadd 289 X dX5_act_289 ?_
    refine jv_puti (ws2 := bRl E a (clampI (inch + (inch, day, sights, week, purse, cloth, ruler, stick, span, west, east, sightDay, sightInch).2.2.2.1 (day.toNatClampNeg % 7))) (day + 1) sights week purse cloth ruler stick span west east sightDay sightInch) 290 X gf_X5_52 tyX5_ok nmX5 rfl rfl dX5_act_290 0 rfl (Nat.le_of_ble_eq_true rfl) rfl ?_
    refine jv_goto 293 X dX5_act_293 296 (by decide) ?_
    subst c_5
    have hq : acF (inch, day, sights, week, purse, cloth, ruler, stick, span, west, east, sightDay, sightInch) 46 o p n = ((clampI (inch + (inch, day, sights, week, purse, cloth, ruler, stick, span, west, east, sightDay, sightInch).2.2.2.1 (day.toNatClampNeg % 7))), (day + 1), sights, week, purse, cloth, ruler, stick, span, west, east, sightDay, sightInch) := by simp [acF, msC]
    exact jv_vret 296 X Y rfl dX5_act_296 () rfl (by rw [hq]; try rfl)
  by_cases c_6 : kind = 47
  · refine jv_look 1 X dX5_act_1 153 (by decide) (by first | (rw [c_6]; done) | (rw [c_6]; decide)) (by decide) ?_
    have hpa := hp8 (by assumption)
    refine jv_aload_n 153 X dX5_act_153 0 rfl ?_
    refine jv_get (v := .ref (a 5)) 154 X gf_X5_28 dX5_act_154 0 rfl rfl ?_
    refine jv_iload_n 157 X dX5_act_157 3 rfl ?_
    refine jv_iload 158 X dX5_act_158 4 rfl ?_
    refine jv_aload_n 160 X dX5_act_160 0 rfl ?_
    refine jv_iload_n 161 X dX5_act_161 2 rfl ?_
    refine jv_callW (w1 := bRl E a inch day sights week purse cloth ruler stick span west east sightDay sightInch) 162 X (c_X5_measure E _ a (inch, day, sights, week, purse, cloth, ruler, stick, span, west, east, sightDay, sightInch) o (by omega)) wv_X5_68 ⟨Nat.le_of_ble_eq_true rfl, Nat.le_of_ble_eq_true rfl⟩ ⟨rfl, rfl⟩ ⟨Nat.zero_le _, Nat.zero_le _⟩ dX5_act_162 rfl [.int n, .int (nI p), .ref (a 5)] rfl (Nat.le_of_ble_eq_true rfl) 0 rfl rfl ?_
    refine jv_imul 165 X dX5_act_165 ?_
    refine jv_iast (ws2 := bRl E a inch day sights week purse cloth ruler (upd stick p (n * (msC (inch, day, sights, week, purse, cloth, ruler, stick, span, west, east, sightDay, sightInch) o))) span west east sightDay sightInch) (f := stick) 166 X dX5_act_166 5 rfl (by decide) p rfl (by omega) rfl ?_
    refine jv_goto 167 X dX5_act_167 296 (by decide) ?_
    subst c_6
    have hq : acF (inch, day, sights, week, purse, cloth, ruler, stick, span, west, east, sightDay, sightInch) 47 o p n = (inch, day, sights, week, purse, cloth, ruler, (upd stick p (n * (msC (inch, day, sights, week, purse, cloth, ruler, stick, span, west, east, sightDay, sightInch) o))), span, west, east, sightDay, sightInch) := by simp [acF, msC]
    exact jv_vret 296 X Y rfl dX5_act_296 () rfl (by rw [hq]; try rfl)
  by_cases c_7 : kind = 60
  · refine jv_look 1 X dX5_act_1 233 (by decide) (by first | (rw [c_7]; done) | (rw [c_7]; decide)) (by decide) ?_
    refine jv_aload_n 233 X dX5_act_233 0 rfl ?_
    refine jv_aload_n 234 X dX5_act_234 0 rfl ?_
    refine jv_get (v := .int inch) 235 X gf_X5_9 dX5_act_235 0 rfl rfl ?_
    refine jv_iload 238 X dX5_act_238 4 rfl ?_
    refine jv_isub 240 X dX5_act_240 ?_
    refine jv_funN 241 X (c_X9_limited E _ (inch - n)) wn_X5_78 ⟨Nat.le_of_ble_eq_true rfl, Nat.le_of_ble_eq_true rfl⟩ ⟨rfl, rfl⟩ ⟨Nat.zero_le _, Nat.zero_le _⟩ dX5_act_241 rfl [.ref (a 0)] rfl (Nat.le_of_ble_eq_true rfl) ?_
    refine jv_puti (ws2 := bRl E a (clampI (inch - n)) day sights week purse cloth ruler stick span west east sightDay sightInch) 244 X gf_X5_9 tyX5_ok nmX5 rfl rfl dX5_act_244 0 rfl (Nat.le_of_ble_eq_true rfl) rfl ?_
    refine jv_goto 247 X dX5_act_247 296 (by decide) ?_
    subst c_7
    have hq : acF (inch, day, sights, week, purse, cloth, ruler, stick, span, west, east, sightDay, sightInch) 60 o p n = ((clampI (inch - n)), day, sights, week, purse, cloth, ruler, stick, span, west, east, sightDay, sightInch) := by simp [acF, msC]
    exact jv_vret 296 X Y rfl dX5_act_296 () rfl (by rw [hq]; try rfl)
  by_cases c_8 : kind = 61
  · refine jv_look 1 X dX5_act_1 210 (by decide) (by first | (rw [c_8]; done) | (rw [c_8]; decide)) (by decide) ?_
    refine jv_aload_n 210 X dX5_act_210 0 rfl ?_
    refine jv_get (v := .ref (a 4)) 211 X gf_X5_25 dX5_act_211 0 rfl rfl ?_
    refine jv_iload_n 214 X dX5_act_214 2 rfl ?_
    refine jv_aload_n 215 X dX5_act_215 0 rfl ?_
    refine jv_get (v := .int inch) 216 X gf_X5_9 dX5_act_216 0 rfl rfl ?_
    refine jv_iast (ws2 := bRl E a inch day sights week purse cloth (upd ruler o inch) stick span west east sightDay sightInch) (f := ruler) 219 X dX5_act_219 4 rfl (by decide) o rfl (by omega) rfl ?_
    refine jv_goto 220 X dX5_act_220 296 (by decide) ?_
    subst c_8
    have hq : acF (inch, day, sights, week, purse, cloth, ruler, stick, span, west, east, sightDay, sightInch) 61 o p n = (inch, day, sights, week, purse, cloth, (upd ruler o inch), stick, span, west, east, sightDay, sightInch) := by simp [acF, msC]
    exact jv_vret 296 X Y rfl dX5_act_296 () rfl (by rw [hq]; try rfl)
  by_cases c_9 : kind = 62
  · refine jv_look 1 X dX5_act_1 250 (by decide) (by first | (rw [c_9]; done) | (rw [c_9]; decide)) (by decide) ?_
    refine jv_aload_n 250 X dX5_act_250 0 rfl ?_
    refine jv_aload_n 251 X dX5_act_251 0 rfl ?_
    refine jv_get (v := .int inch) 252 X gf_X5_9 dX5_act_252 0 rfl rfl ?_
    refine jv_iload 255 X dX5_act_255 4 rfl ?_
    refine jv_iadd 257 X dX5_act_257 ?_
    refine jv_funN 258 X (c_X9_limited E _ (inch + n)) wn_X5_78 ⟨Nat.le_of_ble_eq_true rfl, Nat.le_of_ble_eq_true rfl⟩ ⟨rfl, rfl⟩ ⟨Nat.zero_le _, Nat.zero_le _⟩ dX5_act_258 rfl [.ref (a 0)] rfl (Nat.le_of_ble_eq_true rfl) ?_
    refine jv_puti (ws2 := bRl E a (clampI (inch + n)) day sights week purse cloth ruler stick span west east sightDay sightInch) 261 X gf_X5_9 tyX5_ok nmX5 rfl rfl dX5_act_261 0 rfl (Nat.le_of_ble_eq_true rfl) rfl ?_
    refine jv_goto 264 X dX5_act_264 296 (by decide) ?_
    subst c_9
    have hq : acF (inch, day, sights, week, purse, cloth, ruler, stick, span, west, east, sightDay, sightInch) 62 o p n = ((clampI (inch + n)), day, sights, week, purse, cloth, ruler, stick, span, west, east, sightDay, sightInch) := by simp [acF, msC]
    exact jv_vret 296 X Y rfl dX5_act_296 () rfl (by rw [hq]; try rfl)
  by_cases c_10 : kind = 120
  · refine jv_look 1 X dX5_act_1 223 (by decide) (by first | (rw [c_10]; done) | (rw [c_10]; decide)) (by decide) ?_
    refine jv_aload_n 223 X dX5_act_223 0 rfl ?_
    refine jv_get (v := .ref (a 4)) 224 X gf_X5_25 dX5_act_224 0 rfl rfl ?_
    refine jv_iload_n 227 X dX5_act_227 2 rfl ?_
    refine jv_iconst (v := 0) 228 X dX5_act_228 rfl ?_
    refine jv_iast (ws2 := bRl E a inch day sights week purse cloth (upd ruler o 0) stick span west east sightDay sightInch) (f := ruler) 229 X dX5_act_229 4 rfl (by decide) o rfl (by omega) rfl ?_
    refine jv_goto 230 X dX5_act_230 296 (by decide) ?_
    subst c_10
    have hq : acF (inch, day, sights, week, purse, cloth, ruler, stick, span, west, east, sightDay, sightInch) 120 o p n = (inch, day, sights, week, purse, cloth, (upd ruler o 0), stick, span, west, east, sightDay, sightInch) := by simp [acF, msC]
    exact jv_vret 296 X Y rfl dX5_act_296 () rfl (by rw [hq]; try rfl)
  refine jv_look (off := 295) 1 X dX5_act_1 296 (by decide) ((lv_osw (k := 40) c_1 (by decide)).trans ((lv_osw (k := 41) c_2 (by decide)).trans ((lv_osw (k := 43) c_3 (by decide)).trans ((lv_osw (k := 45) c_4 (by decide)).trans ((lv_osw (k := 46) c_5 (by decide)).trans ((lv_osw (k := 47) c_6 (by decide)).trans ((lv_osw (k := 60) c_7 (by decide)).trans ((lv_osw (k := 61) c_8 (by decide)).trans ((lv_osw (k := 62) c_9 (by decide)).trans ((lv_osw (k := 120) c_10 (by decide)).trans rfl)))))))))) (by decide) ?_
  have hq : acF (inch, day, sights, week, purse, cloth, ruler, stick, span, west, east, sightDay, sightInch) kind o p n = (inch, day, sights, week, purse, cloth, ruler, stick, span, west, east, sightDay, sightInch) := by simp [acF, msC, c_1, c_2, c_3, c_4, c_5, c_6, c_7, c_8, c_9, c_10]
  exact jv_vret 296 X Y rfl dX5_act_296 () rfl (by rw [hq]; try rfl)
theorem c_X5_become (E : EE) (l : Launch) (a : Nat → Nat) (r : Rl) (b : Nat → Nat) (o : Rl) : CT E l yX5_become cX5_become 2 none { frames := 1, cells := 0, slots := 0, locals := 40 } [.ref (a 0), .ref (b 0)] (wB [tRl E a r, tRl E b o]) (none) (wB [tRl E a o, tRl E b o]) := by
  obtain ⟨inch, day, sights, week, purse, cloth, ruler, stick, span, west, east, sightDay, sightInch⟩ := r
  obtain ⟨i2, d2, s2, w2, p2, c2, r2, t2, n2, x2, e2, y2, z2⟩ := o
  refine CT.intro (by decide +kernel) (Nat.le_of_ble_eq_true rfl) (fun K X Y => ?_)
  refine jv_aload_n 0 X dX5_become_0 0 rfl ?_
  refine jv_aload_n 1 X dX5_become_1 1 rfl ?_
  refine jv_get (v := .int i2) 2 X gf_X5_9 dX5_become_2 11 rfl rfl ?_
  refine jv_puti (ws2 := wB [bRl E a i2 day sights week purse cloth ruler stick span west east sightDay sightInch, bRl E b i2 d2 s2 w2 p2 c2 r2 t2 n2 x2 e2 y2 z2]) 5 X gf_X5_9 tyX5_ok nmX5 rfl rfl dX5_become_5 0 rfl (Nat.le_of_ble_eq_true rfl) rfl ?_
  refine jv_aload_n 8 X dX5_become_8 0 rfl ?_
  refine jv_aload_n 9 X dX5_become_9 1 rfl ?_
  refine jv_get (v := .int d2) 10 X gf_X5_52 dX5_become_10 11 rfl rfl ?_
  refine jv_puti (ws2 := wB [bRl E a i2 d2 sights week purse cloth ruler stick span west east sightDay sightInch, bRl E b i2 d2 s2 w2 p2 c2 r2 t2 n2 x2 e2 y2 z2]) 13 X gf_X5_52 tyX5_ok nmX5 rfl rfl dX5_become_13 0 rfl (Nat.le_of_ble_eq_true rfl) rfl ?_
  refine jv_aload_n 16 X dX5_become_16 0 rfl ?_
  refine jv_aload_n 17 X dX5_become_17 1 rfl ?_
  refine jv_get (v := .int s2) 18 X gf_X5_55 dX5_become_18 11 rfl rfl ?_
  refine jv_puti (ws2 := wB [bRl E a i2 d2 s2 week purse cloth ruler stick span west east sightDay sightInch, bRl E b i2 d2 s2 w2 p2 c2 r2 t2 n2 x2 e2 y2 z2]) 21 X gf_X5_55 tyX5_ok nmX5 rfl rfl dX5_become_21 0 rfl (Nat.le_of_ble_eq_true rfl) rfl ?_
  refine jv_aload_n 24 X dX5_become_24 1 rfl ?_
  refine jv_get (v := .ref (b 1)) 25 X gf_X5_15 dX5_become_25 11 rfl rfl ?_
  refine jv_iconst (v := 0) 28 X dX5_become_28 rfl ?_
  refine jv_aload_n 29 X dX5_become_29 0 rfl ?_
  refine jv_get (v := .ref (a 1)) 30 X gf_X5_15 dX5_become_30 0 rfl rfl ?_
  refine jv_iconst (v := 0) 33 X dX5_become_33 rfl ?_
  refine jv_bipush (v := 7) 34 X dX5_become_34 (by decide) ?_
  refine jv_copyi (ws2 := wB [bRl E a i2 d2 s2 w2 purse cloth ruler stick span west east sightDay sightInch, bRl E b i2 d2 s2 w2 p2 c2 r2 t2 n2 x2 e2 y2 z2]) 36 X wa_X5_58 dX5_become_36 12 1 rfl rfl rfl (by decide) (Nat.le_of_ble_eq_true rfl) (Nat.le_of_ble_eq_true rfl) rfl ?_
  refine jv_aload_n 39 X dX5_become_39 1 rfl ?_
  refine jv_get (v := .ref (b 2)) 40 X gf_X5_19 dX5_become_40 11 rfl rfl ?_
  refine jv_iconst (v := 0) 43 X dX5_become_43 rfl ?_
  refine jv_aload_n 44 X dX5_become_44 0 rfl ?_
  refine jv_get (v := .ref (a 2)) 45 X gf_X5_19 dX5_become_45 0 rfl rfl ?_
  refine jv_iconst (v := 0) 48 X dX5_become_48 rfl ?_
  refine jv_bipush (v := 6) 49 X dX5_become_49 (by decide) ?_
  refine jv_copyi (ws2 := wB [bRl E a i2 d2 s2 w2 p2 cloth ruler stick span west east sightDay sightInch, bRl E b i2 d2 s2 w2 p2 c2 r2 t2 n2 x2 e2 y2 z2]) 51 X wa_X5_58 dX5_become_51 13 2 rfl rfl rfl (by decide) (Nat.le_of_ble_eq_true rfl) (Nat.le_of_ble_eq_true rfl) rfl ?_
  refine jv_aload_n 54 X dX5_become_54 1 rfl ?_
  refine jv_get (v := .ref (b 3)) 55 X gf_X5_22 dX5_become_55 11 rfl rfl ?_
  refine jv_iconst (v := 0) 58 X dX5_become_58 rfl ?_
  refine jv_aload_n 59 X dX5_become_59 0 rfl ?_
  refine jv_get (v := .ref (a 3)) 60 X gf_X5_22 dX5_become_60 0 rfl rfl ?_
  refine jv_iconst (v := 0) 63 X dX5_become_63 rfl ?_
  refine jv_bipush (v := 6) 64 X dX5_become_64 (by decide) ?_
  refine jv_copyi (ws2 := wB [bRl E a i2 d2 s2 w2 p2 c2 ruler stick span west east sightDay sightInch, bRl E b i2 d2 s2 w2 p2 c2 r2 t2 n2 x2 e2 y2 z2]) 66 X wa_X5_58 dX5_become_66 14 3 rfl rfl rfl (by decide) (Nat.le_of_ble_eq_true rfl) (Nat.le_of_ble_eq_true rfl) rfl ?_
  refine jv_aload_n 69 X dX5_become_69 1 rfl ?_
  refine jv_get (v := .ref (b 4)) 70 X gf_X5_25 dX5_become_70 11 rfl rfl ?_
  refine jv_iconst (v := 0) 73 X dX5_become_73 rfl ?_
  refine jv_aload_n 74 X dX5_become_74 0 rfl ?_
  refine jv_get (v := .ref (a 4)) 75 X gf_X5_25 dX5_become_75 0 rfl rfl ?_
  refine jv_iconst (v := 0) 78 X dX5_become_78 rfl ?_
  refine jv_bipush (v := 6) 79 X dX5_become_79 (by decide) ?_
  refine jv_copyi (ws2 := wB [bRl E a i2 d2 s2 w2 p2 c2 r2 stick span west east sightDay sightInch, bRl E b i2 d2 s2 w2 p2 c2 r2 t2 n2 x2 e2 y2 z2]) 81 X wa_X5_58 dX5_become_81 15 4 rfl rfl rfl (by decide) (Nat.le_of_ble_eq_true rfl) (Nat.le_of_ble_eq_true rfl) rfl ?_
  refine jv_aload_n 84 X dX5_become_84 1 rfl ?_
  refine jv_get (v := .ref (b 5)) 85 X gf_X5_28 dX5_become_85 11 rfl rfl ?_
  refine jv_iconst (v := 0) 88 X dX5_become_88 rfl ?_
  refine jv_aload_n 89 X dX5_become_89 0 rfl ?_
  refine jv_get (v := .ref (a 5)) 90 X gf_X5_28 dX5_become_90 0 rfl rfl ?_
  refine jv_iconst (v := 0) 93 X dX5_become_93 rfl ?_
  refine jv_bipush (v := 8) 94 X dX5_become_94 (by decide) ?_
  refine jv_copyi (ws2 := wB [bRl E a i2 d2 s2 w2 p2 c2 r2 t2 span west east sightDay sightInch, bRl E b i2 d2 s2 w2 p2 c2 r2 t2 n2 x2 e2 y2 z2]) 96 X wa_X5_58 dX5_become_96 16 5 rfl rfl rfl (by decide) (Nat.le_of_ble_eq_true rfl) (Nat.le_of_ble_eq_true rfl) rfl ?_
  refine jv_aload_n 99 X dX5_become_99 1 rfl ?_
  refine jv_get (v := .ref (b 6)) 100 X gf_X5_31 dX5_become_100 11 rfl rfl ?_
  refine jv_iconst (v := 0) 103 X dX5_become_103 rfl ?_
  refine jv_aload_n 104 X dX5_become_104 0 rfl ?_
  refine jv_get (v := .ref (a 6)) 105 X gf_X5_31 dX5_become_105 0 rfl rfl ?_
  refine jv_iconst (v := 0) 108 X dX5_become_108 rfl ?_
  refine jv_iconst (v := 4) 109 X dX5_become_109 rfl ?_
  refine jv_copyi (ws2 := wB [bRl E a i2 d2 s2 w2 p2 c2 r2 t2 n2 west east sightDay sightInch, bRl E b i2 d2 s2 w2 p2 c2 r2 t2 n2 x2 e2 y2 z2]) 110 X wa_X5_58 dX5_become_110 17 6 rfl rfl rfl (by decide) (Nat.le_of_ble_eq_true rfl) (Nat.le_of_ble_eq_true rfl) rfl ?_
  refine jv_aload_n 113 X dX5_become_113 1 rfl ?_
  refine jv_get (v := .ref (b 7)) 114 X gf_X5_34 dX5_become_114 11 rfl rfl ?_
  refine jv_iconst (v := 0) 117 X dX5_become_117 rfl ?_
  refine jv_aload_n 118 X dX5_become_118 0 rfl ?_
  refine jv_get (v := .ref (a 7)) 119 X gf_X5_34 dX5_become_119 0 rfl rfl ?_
  refine jv_iconst (v := 0) 122 X dX5_become_122 rfl ?_
  refine jv_iconst (v := 4) 123 X dX5_become_123 rfl ?_
  refine jv_copyi (ws2 := wB [bRl E a i2 d2 s2 w2 p2 c2 r2 t2 n2 x2 east sightDay sightInch, bRl E b i2 d2 s2 w2 p2 c2 r2 t2 n2 x2 e2 y2 z2]) 124 X wa_X5_58 dX5_become_124 18 7 rfl rfl rfl (by decide) (Nat.le_of_ble_eq_true rfl) (Nat.le_of_ble_eq_true rfl) rfl ?_
  refine jv_aload_n 127 X dX5_become_127 1 rfl ?_
  refine jv_get (v := .ref (b 8)) 128 X gf_X5_37 dX5_become_128 11 rfl rfl ?_
  refine jv_iconst (v := 0) 131 X dX5_become_131 rfl ?_
  refine jv_aload_n 132 X dX5_become_132 0 rfl ?_
  refine jv_get (v := .ref (a 8)) 133 X gf_X5_37 dX5_become_133 0 rfl rfl ?_
  refine jv_iconst (v := 0) 136 X dX5_become_136 rfl ?_
  refine jv_iconst (v := 4) 137 X dX5_become_137 rfl ?_
  refine jv_copyi (ws2 := wB [bRl E a i2 d2 s2 w2 p2 c2 r2 t2 n2 x2 e2 sightDay sightInch, bRl E b i2 d2 s2 w2 p2 c2 r2 t2 n2 x2 e2 y2 z2]) 138 X wa_X5_58 dX5_become_138 19 8 rfl rfl rfl (by decide) (Nat.le_of_ble_eq_true rfl) (Nat.le_of_ble_eq_true rfl) rfl ?_
  refine jv_aload_n 141 X dX5_become_141 1 rfl ?_
  refine jv_get (v := .ref (b 9)) 142 X gf_X5_40 dX5_become_142 11 rfl rfl ?_
  refine jv_iconst (v := 0) 145 X dX5_become_145 rfl ?_
  refine jv_aload_n 146 X dX5_become_146 0 rfl ?_
  refine jv_get (v := .ref (a 9)) 147 X gf_X5_40 dX5_become_147 0 rfl rfl ?_
  refine jv_iconst (v := 0) 150 X dX5_become_150 rfl ?_
  refine jv_bipush (v := 8) 151 X dX5_become_151 (by decide) ?_
  refine jv_copyi (ws2 := wB [bRl E a i2 d2 s2 w2 p2 c2 r2 t2 n2 x2 e2 y2 sightInch, bRl E b i2 d2 s2 w2 p2 c2 r2 t2 n2 x2 e2 y2 z2]) 153 X wa_X5_58 dX5_become_153 20 9 rfl rfl rfl (by decide) (Nat.le_of_ble_eq_true rfl) (Nat.le_of_ble_eq_true rfl) rfl ?_
  refine jv_aload_n 156 X dX5_become_156 1 rfl ?_
  refine jv_get (v := .ref (b 10)) 157 X gf_X5_43 dX5_become_157 11 rfl rfl ?_
  refine jv_iconst (v := 0) 160 X dX5_become_160 rfl ?_
  refine jv_aload_n 161 X dX5_become_161 0 rfl ?_
  refine jv_get (v := .ref (a 10)) 162 X gf_X5_43 dX5_become_162 0 rfl rfl ?_
  refine jv_iconst (v := 0) 165 X dX5_become_165 rfl ?_
  refine jv_bipush (v := 8) 166 X dX5_become_166 (by decide) ?_
  refine jv_copyi (ws2 := wB [bRl E a i2 d2 s2 w2 p2 c2 r2 t2 n2 x2 e2 y2 z2, bRl E b i2 d2 s2 w2 p2 c2 r2 t2 n2 x2 e2 y2 z2]) 168 X wa_X5_58 dX5_become_168 21 10 rfl rfl rfl (by decide) (Nat.le_of_ble_eq_true rfl) (Nat.le_of_ble_eq_true rfl) rfl ?_
  exact jv_vret 171 X Y rfl dX5_become_171 () rfl rfl
