abbrev ScrM : Type := (Nat → Int32) × Int32 × Int32 × Int32 × Int32 × Int32 × (Nat → Int32) × (Nat → Int32) × (Nat → Int32) × (Nat → Int32) × (Nat → Int32) × (Nat → Int32) × (Nat → Int64) × (Nat → Int64)
theorem ft_l {pad : Nat → Int32} : ∀ (n k q : Nat) (r : Int32), itE (ftS pad) n k q = .inl r → ∃ j, j < k + n ∧ r = nI j
  | 0, k, q, r, h => by cases h
  | n + 1, k, q, r, h => by
    by_cases h5 : stN q (pad k) = 5
    · rw [itE_l (r := nI k) (if_pos h5)] at h
      cases h
      exact ⟨k, by omega, rfl⟩
    · rw [itE_r (if_neg h5)] at h
      obtain ⟨j, h1, h2⟩ := ft_l n (k + 1) _ r h
      exact ⟨j, by omega, h2⟩
theorem ft_neg {pad : Nat → Int32} {sg : Nat} (hs : sg ≤ 60) (h : ¬ 0 ≤ ftM pad sg) : WF pad sg 0 := by
  unfold ftM at h
  refine ⟨Nat.zero_le _, ?_⟩
  rw [Nat.sub_zero]
  cases e : itE (ftS pad) sg 0 0 with
  | inl r =>
    obtain ⟨j, h1, rfl⟩ := ft_l sg 0 0 r e
    rw [e] at h
    exact absurd (nI_pos' (n := j) (by omega)) h
  | inr q =>
    rw [e] at h
    by_cases hq : q = 0
    · rw [hq]
    · exact absurd (by show 0 ≤ (if q = 0 then (-6 : Int32) else nI sg); rw [if_neg hq]; exact nI_pos' (by omega)) h
def f_bar (pad week book now : Nat → Int32) (sg : Nat) (atp acts metAt metWho reason : Int32) : Int32 × Int32 × Int32 × (Nat → Int32) × Int32 × Int32 × Int32 := if 0 ≤ ftM pad sg then (-5, atp, acts, now, metAt, metWho, reason) else (if 0 ≤ (gwM pad week book sg reason).1 then -5 else 0, nI (gwM pad week book sg reason).2.1, nI (gwM pad week book sg reason).2.2.1, (gwM pad week book sg reason).2.2.2.1, (gwM pad week book sg reason).2.2.2.2.1, (gwM pad week book sg reason).2.2.2.2.2.1, (gwM pad week book sg reason).2.2.2.2.2.2)
/-- whether the weeks on the pad can all be -/
def okM (pad week book : Nat → Int32) (sg : Nat) (reason : Int32) : Prop := ¬ 0 ≤ ftM pad sg ∧ ¬ 0 ≤ (gwM pad week book sg reason).1
theorem bar_n {pad week book now : Nat → Int32} {sg : Nat} {atp acts metAt metWho reason : Int32} (h : ¬ 0 ≤ (f_bar pad week book now sg atp acts metAt metWho reason).1) : ¬ okM pad week book sg reason := by
  unfold f_bar at h
  rintro ⟨h1, h2⟩
  rw [if_neg h1] at h
  exact h (by rw [if_neg h2]; dsimp only; decide)
theorem bar_y {pad week book now : Nat → Int32} {sg : Nat} {atp acts metAt metWho reason : Int32} (h : 0 ≤ (f_bar pad week book now sg atp acts metAt metWho reason).1) : okM pad week book sg reason ∧ (f_bar pad week book now sg atp acts metAt metWho reason).2.2.1 = nI (gwM pad week book sg reason).2.2.1 ∧ (f_bar pad week book now sg atp acts metAt metWho reason).2.2.2.1 = (gwM pad week book sg reason).2.2.2.1 ∧ (f_bar pad week book now sg atp acts metAt metWho reason).2.2.2.2.1 = (gwM pad week book sg reason).2.2.2.2.1 ∧ (f_bar pad week book now sg atp acts metAt metWho reason).2.2.2.2.2.1 = (gwM pad week book sg reason).2.2.2.2.2.1 := by
  unfold f_bar at h ⊢
  by_cases h1 : 0 ≤ ftM pad sg
  · rw [if_pos h1] at h; exact absurd h (by dsimp only; decide)
  · rw [if_neg h1] at h
    by_cases h2 : 0 ≤ (gwM pad week book sg reason).1
    · rw [if_pos h2] at h; exact absurd h (by dsimp only; decide)
    · rw [if_neg h1]
      exact ⟨⟨h1, h2⟩, rfl, rfl, rfl, rfl⟩
theorem c_X10_barOfWeeks (E : EE) (l : Launch) (a : Nat → Nat) (book : Nat → Int32) (now : Nat → Int32) (week : Nat → Int32) (sights : Int32) (sight : Nat → Int32) (sg : Nat) (pad : Nat → Int32) (metAt : Int32) (metWho : Int32) (reason : Int32) (acts : Int32) (atp : Int32) (will : Nat → Int32) (fitting : Nat → Int32) (counts : Nat → Int32) (ring : Nat → Int32) (nxt : Nat → Int32) (wins : Nat → Int32) (ways : Nat → Int64) (nextWays : Nat → Int64) (image : Nat → Int32) (isKept : Nat → Int32) (hs : sg ≤ 60) (hD : dyOK book) : CT E l yX10_barOfWeeks cX10_barOfWeeks 1 (some .int) { frames := 4, cells := 0, slots := 0, locals := 91 } [.ref (a 0)] (bMd E a book now week sights sight (nI sg) pad metAt metWho reason acts atp will fitting counts ring nxt wins ways nextWays image isKept) (some (.int ((f_bar pad week book now sg atp acts metAt metWho reason).1))) (bMd E a book ((f_bar pad week book now sg atp acts metAt metWho reason).2.2.2.1) week sights sight (nI sg) pad ((f_bar pad week book now sg atp acts metAt metWho reason).2.2.2.2.1) ((f_bar pad week book now sg atp acts metAt metWho reason).2.2.2.2.2.1) ((f_bar pad week book now sg atp acts metAt metWho reason).2.2.2.2.2.2) ((f_bar pad week book now sg atp acts metAt metWho reason).2.2.1) ((f_bar pad week book now sg atp acts metAt metWho reason).2.1) will fitting counts ring nxt wins ways nextWays image isKept) := by
  refine CT.intro (by decide) (Nat.le_of_ble_eq_true rfl) (fun K X Y => ?_)
  refine jv_aload_n 0 X dX10_barOfWeeks_0 0 rfl ?_
  refine jv_callW (w1 := bMd E a book now week sights sight (nI sg) pad metAt metWho reason acts atp will fitting counts ring nxt wins ways nextWays image isKept) 1 X (c_X10_faultOf E _ a book now week sights sight sg pad metAt metWho reason acts atp will fitting counts ring nxt wins ways nextWays image isKept (by omega)) wv_X10_80 ⟨Nat.le_of_ble_eq_true rfl, Nat.le_of_ble_eq_true rfl⟩ ⟨rfl, rfl⟩ ⟨Nat.zero_le _, Nat.zero_le _⟩ dX10_barOfWeeks_1 rfl [] rfl (Nat.le_of_ble_eq_true rfl) 0 rfl rfl ?_
  refine jn_if_ge 4 X dX10_barOfWeeks_4 14 (by decide) (fun c_1 => ?_) (fun c_1 => ?_)
  · refine jv_bipush (v := (-5)) 14 X dX10_barOfWeeks_14 (by decide) ?_
    refine jv_goto 16 X dX10_barOfWeeks_16 20 (by decide) ?_
    have hq : f_bar pad week book now sg atp acts metAt metWho reason = ((-5), atp, acts, now, metAt, metWho, reason) := by simp [f_bar, lt_nle, -Int32.not_le, c_1]
    exact jv_iret 20 X Y rfl dX10_barOfWeeks_20 () (by rw [hq]; try rfl) (by rw [hq]; try rfl)
  · refine jv_aload_n 7 X dX10_barOfWeeks_7 0 rfl ?_
    refine jv_callW (w1 := bMd E a book ((gwM pad week book sg reason).2.2.2.1) week sights sight (nI sg) pad ((gwM pad week book sg reason).2.2.2.2.1) ((gwM pad week book sg reason).2.2.2.2.2.1) ((gwM pad week book sg reason).2.2.2.2.2.2) (nI (gwM pad week book sg reason).2.2.1) (nI (gwM pad week book sg reason).2.1) will fitting counts ring nxt wins ways nextWays image isKept) 8 X (c_X10_goWeeks E _ a book now week sights sight sg pad metAt metWho reason acts atp will fitting counts ring nxt wins ways nextWays image isKept hs (ft_neg hs (by assumption)) hD) wv_X10_143 ⟨Nat.le_of_ble_eq_true rfl, Nat.le_of_ble_eq_true rfl⟩ ⟨rfl, rfl⟩ ⟨Nat.zero_le _, Nat.zero_le _⟩ dX10_barOfWeeks_8 rfl [] rfl (Nat.le_of_ble_eq_true rfl) 0 rfl rfl ?_
    refine jn_if_lt 11 X dX10_barOfWeeks_11 19 (by decide) (fun c_2 => ?_) (fun c_2 => ?_)
    · refine jv_iconst (v := 0) 19 X dX10_barOfWeeks_19 rfl ?_
      have hq : f_bar pad week book now sg atp acts metAt metWho reason = (0, (nI (gwM pad week book sg reason).2.1), (nI (gwM pad week book sg reason).2.2.1), (gwM pad week book sg reason).2.2.2.1, (gwM pad week book sg reason).2.2.2.2.1, (gwM pad week book sg reason).2.2.2.2.2.1, (gwM pad week book sg reason).2.2.2.2.2.2) := by simp [f_bar, lt_nle, -Int32.not_le, c_1, c_2]
      exact jv_iret 20 X Y rfl dX10_barOfWeeks_20 () (by rw [hq]; try rfl) (by rw [hq]; try rfl)
    · refine jv_bipush (v := (-5)) 14 X dX10_barOfWeeks_14 (by decide) ?_
      refine jv_goto 16 X dX10_barOfWeeks_16 20 (by decide) ?_
      have hq : f_bar pad week book now sg atp acts metAt metWho reason = ((-5), (nI (gwM pad week book sg reason).2.1), (nI (gwM pad week book sg reason).2.2.1), (gwM pad week book sg reason).2.2.2.1, (gwM pad week book sg reason).2.2.2.2.1, (gwM pad week book sg reason).2.2.2.2.2.1, (gwM pad week book sg reason).2.2.2.2.2.2) := by simp [f_bar, lt_nle, -Int32.not_le, c_1, c_2]
      exact jv_iret 20 X Y rfl dX10_barOfWeeks_20 () (by rw [hq]; try rfl) (by rw [hq]; try rfl)
theorem c_X10_judge (E : EE) (l : Launch) (a : Nat → Nat) (book : Nat → Int32) (now : Nat → Int32) (week : Nat → Int32) (sights : Int32) (sight : Nat → Int32) (sg : Nat) (pad : Nat → Int32) (metAt : Int32) (metWho : Int32) (reason : Int32) (acts : Int32) (atp : Int32) (will : Nat → Int32) (fitting : Nat → Int32) (counts : Nat → Int32) (ring : Nat → Int32) (nxt : Nat → Int32) (wins : Nat → Int32) (ways : Nat → Int64) (nextWays : Nat → Int64) (image : Nat → Int32) (isKept : Nat → Int32) (what : Int32) (hs : sg ≤ 60) (hD : dyOK book) : CG E l yX10_judge cX10_judge 3 (some .int) { frames := 4, cells := 0, slots := 0, locals := 91 } [.ref (a 0), .int what] (bMd E a book now week sights sight (nI sg) pad metAt metWho reason acts atp will fitting counts ring nxt wins ways nextWays image isKept) noB (fun _ : ScrM => some (.int (if ¬ (0 ≤ what ∧ what ≤ 1) then -2 else if 0 ≤ ftM pad sg then -5 else if 0 ≤ (gwM pad week book sg reason).1 ∧ ¬ what = 0 then (gwM pad week book sg reason).2.2.2.2.2.2 else (gwM pad week book sg reason).1))) (fun u : ScrM => bMd E a book u.1 week sights sight (nI sg) pad u.2.1 u.2.2.1 u.2.2.2.1 u.2.2.2.2.1 u.2.2.2.2.2.1 u.2.2.2.2.2.2.1 u.2.2.2.2.2.2.2.1 u.2.2.2.2.2.2.2.2.1 u.2.2.2.2.2.2.2.2.2.1 u.2.2.2.2.2.2.2.2.2.2.1 u.2.2.2.2.2.2.2.2.2.2.2.1 u.2.2.2.2.2.2.2.2.2.2.2.2.1 u.2.2.2.2.2.2.2.2.2.2.2.2.2 image isKept) := by
  refine CG.intro (by decide) (Nat.le_of_ble_eq_true rfl) (fun K X Y _ _ _ => ?_)
  refine jv_iload_n 0 X dX10_judge_0 1 rfl ?_
  refine jv_iconst (v := 0) 1 X dX10_judge_1 rfl ?_
  refine jv_iconst (v := 1) 2 X dX10_judge_2 rfl ?_
  refine jv_fun 3 X (c_X10_in E _ what 0 1) ws_X10_57 ⟨Nat.le_of_ble_eq_true rfl, Nat.le_of_ble_eq_true rfl⟩ ⟨rfl, rfl⟩ ⟨Nat.zero_le _, Nat.zero_le _⟩ dX10_judge_3 rfl [] rfl (Nat.le_of_ble_eq_true rfl) ?_
  refine jv_z_ne 6 X dX10_judge_6 12 (by decide) (fun c_1 => ?_) (fun c_1 => ?_)
  · refine jv_aload_n 12 X dX10_judge_12 0 rfl ?_
    refine jv_callW (w1 := bMd E a book now week sights sight (nI sg) pad metAt metWho reason acts atp will fitting counts ring nxt wins ways nextWays image isKept) 13 X (c_X10_faultOf E _ a book now week sights sight sg pad metAt metWho reason acts atp will fitting counts ring nxt wins ways nextWays image isKept (by omega)) wv_X10_80 ⟨Nat.le_of_ble_eq_true rfl, Nat.le_of_ble_eq_true rfl⟩ ⟨rfl, rfl⟩ ⟨Nat.zero_le _, Nat.zero_le _⟩ dX10_judge_13 rfl [] rfl (Nat.le_of_ble_eq_true rfl) 0 rfl rfl ?_
    refine jn_if_lt 16 X dX10_judge_16 22 (by decide) (fun c_2 => ?_) (fun c_2 => ?_)
    · refine jv_aload_n 22 X dX10_judge_22 0 rfl ?_
      refine jv_callW (w1 := bMd E a book ((gwM pad week book sg reason).2.2.2.1) week sights sight (nI sg) pad ((gwM pad week book sg reason).2.2.2.2.1) ((gwM pad week book sg reason).2.2.2.2.2.1) ((gwM pad week book sg reason).2.2.2.2.2.2) (nI (gwM pad week book sg reason).2.2.1) (nI (gwM pad week book sg reason).2.1) will fitting counts ring nxt wins ways nextWays image isKept) 23 X (c_X10_goWeeks E _ a book now week sights sight sg pad metAt metWho reason acts atp will fitting counts ring nxt wins ways nextWays image isKept hs (ft_neg hs (by assumption)) hD) wv_X10_143 ⟨Nat.le_of_ble_eq_true rfl, Nat.le_of_ble_eq_true rfl⟩ ⟨rfl, rfl⟩ ⟨Nat.zero_le _, Nat.zero_le _⟩ dX10_judge_23 rfl [] rfl (Nat.le_of_ble_eq_true rfl) 0 rfl rfl ?_
      refine jv_istore_n (lv2 := [(2, .int ((gwM pad week book sg reason).1)), (0, .ref (a 0)), (1, .int what)]) 26 X dX10_judge_26 (by decide) rfl ?_
      refine jv_iload_n 27 X dX10_judge_27 0 rfl ?_
      refine jn_if_lt 28 X dX10_judge_28 35 (by decide) (fun c_3 => ?_) (fun c_3 => ?_)
      · refine jv_iload_n 35 X dX10_judge_35 0 rfl ?_
        refine jv_goto 36 X dX10_judge_36 43 (by decide) ?_
        exact jv_iret 43 X Y rfl dX10_judge_43 ((gwM pad week book sg reason).2.2.2.1, (gwM pad week book sg reason).2.2.2.2.1, (gwM pad week book sg reason).2.2.2.2.2.1, (gwM pad week book sg reason).2.2.2.2.2.2, (nI (gwM pad week book sg reason).2.2.1), (nI (gwM pad week book sg reason).2.1), will, fitting, counts, ring, nxt, wins, ways, nextWays) (by simp [lt_nle, -Int32.not_le, c_1, c_2, c_3]) rfl
      · refine jv_iload_n 31 X dX10_judge_31 2 rfl ?_
        refine jn_if_ne 32 X dX10_judge_32 39 (by decide) (fun c_4 => ?_) (fun c_4 => ?_)
        · refine jv_aload_n 39 X dX10_judge_39 1 rfl ?_
          refine jv_get (v := .int ((gwM pad week book sg reason).2.2.2.2.2.2)) 40 X gf_X10_134 dX10_judge_40 0 rfl rfl ?_
          exact jv_iret 43 X Y rfl dX10_judge_43 ((gwM pad week book sg reason).2.2.2.1, (gwM pad week book sg reason).2.2.2.2.1, (gwM pad week book sg reason).2.2.2.2.2.1, (gwM pad week book sg reason).2.2.2.2.2.2, (nI (gwM pad week book sg reason).2.2.1), (nI (gwM pad week book sg reason).2.1), will, fitting, counts, ring, nxt, wins, ways, nextWays) (by simp [lt_nle, -Int32.not_le, c_1, c_2, c_3, c_4]) rfl
        · refine jv_iload_n 35 X dX10_judge_35 0 rfl ?_
          refine jv_goto 36 X dX10_judge_36 43 (by decide) ?_
          exact jv_iret 43 X Y rfl dX10_judge_43 ((gwM pad week book sg reason).2.2.2.1, (gwM pad week book sg reason).2.2.2.2.1, (gwM pad week book sg reason).2.2.2.2.2.1, (gwM pad week book sg reason).2.2.2.2.2.2, (nI (gwM pad week book sg reason).2.2.1), (nI (gwM pad week book sg reason).2.1), will, fitting, counts, ring, nxt, wins, ways, nextWays) (by simp [lt_nle, -Int32.not_le, c_1, c_2, c_3, c_4]) rfl
    · refine jv_bipush (v := (-5)) 19 X dX10_judge_19 (by decide) ?_
      exact jv_iret 21 X Y rfl dX10_judge_21 (now, metAt, metWho, reason, acts, atp, will, fitting, counts, ring, nxt, wins, ways, nextWays) (by simp [lt_nle, -Int32.not_le, c_1, c_2]) rfl
  · refine jv_bipush (v := (-2)) 9 X dX10_judge_9 (by decide) ?_
    exact jv_iret 11 X Y rfl dX10_judge_11 (now, metAt, metWho, reason, acts, atp, will, fitting, counts, ring, nxt, wins, ways, nextWays) (by simp [lt_nle, -Int32.not_le, c_1]) rfl
theorem c_X10_done (E : EE) (l : Launch) (a : Nat → Nat) (book : Nat → Int32) (now : Nat → Int32) (week : Nat → Int32) (sights : Int32) (sight : Nat → Int32) (sg : Nat) (pad : Nat → Int32) (metAt : Int32) (metWho : Int32) (reason : Int32) (acts : Int32) (atp : Int32) (will : Nat → Int32) (fitting : Nat → Int32) (counts : Nat → Int32) (ring : Nat → Int32) (nxt : Nat → Int32) (wins : Nat → Int32) (ways : Nat → Int64) (nextWays : Nat → Int64) (image : Nat → Int32) (isKept : Nat → Int32) (hs : sg ≤ 60) (hD : dyOK book) : CG E l yX10_done cX10_done 2 (some .int) { frames := 5, cells := 0, slots := 0, locals := 111 } [.ref (a 0)] (bMd E a book now week sights sight (nI sg) pad metAt metWho reason acts atp will fitting counts ring nxt wins ways nextWays image isKept) noB (fun _ : ScrM => some (.int (if (¬ 0 ≤ ftM pad sg ∧ ¬ 0 ≤ (gwM pad week book sg reason).1) then nI (gwM pad week book sg reason).2.2.1 else -5))) (fun u : ScrM => bMd E a (if (¬ 0 ≤ ftM pad sg ∧ ¬ 0 ≤ (gwM pad week book sg reason).1) then (gwM pad week book sg reason).2.2.2.1 else book) u.1 week sights sight (if (¬ 0 ≤ ftM pad sg ∧ ¬ 0 ≤ (gwM pad week book sg reason).1) then 0 else nI sg) pad u.2.1 u.2.2.1 u.2.2.2.1 u.2.2.2.2.1 u.2.2.2.2.2.1 u.2.2.2.2.2.2.1 u.2.2.2.2.2.2.2.1 u.2.2.2.2.2.2.2.2.1 u.2.2.2.2.2.2.2.2.2.1 u.2.2.2.2.2.2.2.2.2.2.1 u.2.2.2.2.2.2.2.2.2.2.2.1 u.2.2.2.2.2.2.2.2.2.2.2.2.1 u.2.2.2.2.2.2.2.2.2.2.2.2.2 image isKept) := by
  refine CG.intro (by decide) (Nat.le_of_ble_eq_true rfl) (fun K X Y _ _ _ => ?_)
  refine jv_aload_n 0 X dX10_done_0 0 rfl ?_
  refine jv_callW (w1 := bMd E a book ((f_bar pad week book now sg atp acts metAt metWho reason).2.2.2.1) week sights sight (nI sg) pad ((f_bar pad week book now sg atp acts metAt metWho reason).2.2.2.2.1) ((f_bar pad week book now sg atp acts metAt metWho reason).2.2.2.2.2.1) ((f_bar pad week book now sg atp acts metAt metWho reason).2.2.2.2.2.2) ((f_bar pad week book now sg atp acts metAt metWho reason).2.2.1) ((f_bar pad week book now sg atp acts metAt metWho reason).2.1) will fitting counts ring nxt wins ways nextWays image isKept) 1 X (c_X10_barOfWeeks E _ a book now week sights sight sg pad metAt metWho reason acts atp will fitting counts ring nxt wins ways nextWays image isKept (by omega) (by omega)) wv_X10_146 ⟨Nat.le_of_ble_eq_true rfl, Nat.le_of_ble_eq_true rfl⟩ ⟨rfl, rfl⟩ ⟨Nat.zero_le _, Nat.zero_le _⟩ dX10_done_1 rfl [] rfl (Nat.le_of_ble_eq_true rfl) 0 rfl rfl ?_
  refine jn_if_ge 4 X dX10_done_4 10 (by decide) (fun c_1 => ?_) (fun c_1 => ?_)
  · obtain ⟨hO, hO1, hO2, hO3, hO4⟩ := bar_y (by assumption)
    rw [hO1, hO2, hO3, hO4]
    refine jv_iconst (v := 0) 10 X dX10_done_10 rfl ?_
    refine jv_istore_n (lv2 := [(1, .int 0), (0, .ref (a 0))]) 11 X dX10_done_11 (by decide) rfl ?_
    have lp12 : ∀ (n12 : Nat) (k : Nat) (bo : Nat → Int32), (k ≤ 40) → (∀ j, j < k → bo j = (gwM pad week book sg reason).2.2.2.1 j) → 40 - k < n12 → JV E K 0 0 (bMd E a bo ((gwM pad week book sg reason).2.2.2.1) week sights sight (nI sg) pad ((gwM pad week book sg reason).2.2.2.2.1) ((gwM pad week book sg reason).2.2.2.2.2.1) ((f_bar pad week book now sg atp acts metAt metWho reason).2.2.2.2.2.2) (nI (gwM pad week book sg reason).2.2.1) ((f_bar pad week book now sg atp acts metAt metWho reason).2.1) will fitting counts ring nxt wins ways nextWays image isKept) [(0, .ref (a 0)), (1, .int (nI k))] 12 [] := by
      intro n12
      induction n12 with
      | zero => intro k bo hk hI hm; exact absurd hm (Nat.not_lt_zero _)
      | succ n12 ih12 =>
        intro k bo hk hI hm
        refine jv_iload_n 12 X dX10_done_12 1 rfl ?_
        refine jv_bipush (v := 40) 13 X dX10_done_13 (by decide) ?_
        refine jn_icmp_ge 15 X dX10_done_15 36 (by decide) (fun c_2 => ?_) (fun c_2 => ?_)
        · have n_2 : 40 ≤ k := (nx_le (a := 40) (b := k) rfl rfl (by omega) (by omega)).mp c_2
          refine jv_ext (ws2 := bMd E a ((gwM pad week book sg reason).2.2.2.1) ((gwM pad week book sg reason).2.2.2.1) week sights sight (nI sg) pad ((gwM pad week book sg reason).2.2.2.2.1) ((gwM pad week book sg reason).2.2.2.2.2.1) ((f_bar pad week book now sg atp acts metAt metWho reason).2.2.2.2.2.2) (nI (gwM pad week book sg reason).2.2.1) ((f_bar pad week book now sg atp acts metAt metWho reason).2.1) will fitting counts ring nxt wins ways nextWays image isKept) 1 (gwM pad week book sg reason).2.2.2.1 rfl (fun j hj => hI j (by omega)) rfl ?_
          refine jv_aload_n 36 X dX10_done_36 0 rfl ?_
          refine jv_iconst (v := 0) 37 X dX10_done_37 rfl ?_
          refine jv_puti (ws2 := bMd E a ((gwM pad week book sg reason).2.2.2.1) ((gwM pad week book sg reason).2.2.2.1) week sights sight 0 pad ((gwM pad week book sg reason).2.2.2.2.1) ((gwM pad week book sg reason).2.2.2.2.2.1) ((f_bar pad week book now sg atp acts metAt metWho reason).2.2.2.2.2.2) (nI (gwM pad week book sg reason).2.2.1) ((f_bar pad week book now sg atp acts metAt metWho reason).2.1) will fitting counts ring nxt wins ways nextWays image isKept) 38 X gf_X10_72 tyX10_ok nmX10 rfl rfl dX10_done_38 0 rfl (Nat.le_of_ble_eq_true rfl) rfl ?_
          refine jv_aload_n 41 X dX10_done_41 0 rfl ?_
          refine jv_get (v := .int (nI ((gwM pad week book sg reason).2.2.1))) 42 X gf_X10_125 dX10_done_42 0 rfl rfl ?_
          exact jv_iret 45 X Y rfl dX10_done_45 ((gwM pad week book sg reason).2.2.2.1, (gwM pad week book sg reason).2.2.2.2.1, (gwM pad week book sg reason).2.2.2.2.2.1, (f_bar pad week book now sg atp acts metAt metWho reason).2.2.2.2.2.2, (nI (gwM pad week book sg reason).2.2.1), (f_bar pad week book now sg atp acts metAt metWho reason).2.1, will, fitting, counts, ring, nxt, wins, ways, nextWays) (by first | (simp only [hO.1, hO.2, not_true_eq_false, not_false_eq_true, and_self, if_true, if_false, c_2]; done) | (simp [hO.1, hO.2, c_2]; done)) (by first | (simp only [hO.1, hO.2, not_true_eq_false, not_false_eq_true, and_self, if_true, if_false, c_2]; done) | (simp [hO.1, hO.2, c_2]; done))
        · have n_2 : ¬ 40 ≤ k := fun zq => c_2 ((nx_le (a := 40) (b := k) rfl rfl (by omega) (by omega)).mpr zq)
          refine jv_aload_n 18 X dX10_done_18 0 rfl ?_
          refine jv_get (v := .ref (a 1)) 19 X gf_X10_7 dX10_done_19 0 rfl rfl ?_
          refine jv_iload_n 22 X dX10_done_22 1 rfl ?_
          refine jv_aload_n 23 X dX10_done_23 0 rfl ?_
          refine jv_get (v := .ref (a 2)) 24 X gf_X10_13 dX10_done_24 0 rfl rfl ?_
          refine jv_iload_n 27 X dX10_done_27 1 rfl ?_
          refine jv_iald (f := (gwM pad week book sg reason).2.2.2.1) 28 X dX10_done_28 2 rfl (by decide) k rfl (by omega) ?_
          refine jv_iast (ws2 := bMd E a (upd bo k (((gwM pad week book sg reason).2.2.2.1) k)) ((gwM pad week book sg reason).2.2.2.1) week sights sight (nI sg) pad ((gwM pad week book sg reason).2.2.2.2.1) ((gwM pad week book sg reason).2.2.2.2.2.1) ((f_bar pad week book now sg atp acts metAt metWho reason).2.2.2.2.2.2) (nI (gwM pad week book sg reason).2.2.1) ((f_bar pad week book now sg atp acts metAt metWho reason).2.1) will fitting counts ring nxt wins ways nextWays image isKept) (f := bo) 29 X dX10_done_29 1 rfl (by decide) k rfl (by omega) rfl ?_
          refine jv_iinc (v := (nI (k + 1))) (lv2 := [(1, .int (nI (k + 1))), (0, .ref (a 0))]) 30 X dX10_done_30 1 rfl (nx_inc _) (by decide) rfl ?_
          refine jv_goto 33 X dX10_done_33 12 (by decide) ?_
          exact jv_lv [1, 0] rfl (ih12 (k + 1) (upd bo k (((gwM pad week book sg reason).2.2.2.1) k)) (by omega) (fun j hj => by rcases Nat.lt_succ_iff_lt_or_eq.mp hj with h | h; rw [pk_un (by omega)]; exact hI j h; rw [h]; exact pk_us) (by omega))
    exact jv_lv [1, 0] rfl (lp12 _ 0 book (by omega) (fun j hj => absurd hj (Nat.not_lt_zero j)) (Nat.lt_succ_self _))
  · refine jv_bipush (v := (-5)) 7 X dX10_done_7 (by decide) ?_
    exact jv_iret 9 X Y rfl dX10_done_9 ((f_bar pad week book now sg atp acts metAt metWho reason).2.2.2.1, (f_bar pad week book now sg atp acts metAt metWho reason).2.2.2.2.1, (f_bar pad week book now sg atp acts metAt metWho reason).2.2.2.2.2.1, (f_bar pad week book now sg atp acts metAt metWho reason).2.2.2.2.2.2, (f_bar pad week book now sg atp acts metAt metWho reason).2.2.1, (f_bar pad week book now sg atp acts metAt metWho reason).2.1, will, fitting, counts, ring, nxt, wins, ways, nextWays) (by have hN := bar_n c_1; unfold okM at hN; simp only [hN, not_true_eq_false, not_false_eq_true, and_self, if_true, if_false]) (by have hN := bar_n c_1; unfold okM at hN; simp only [hN, not_true_eq_false, not_false_eq_true, and_self, if_true, if_false])
theorem c_X10_behind (E : EE) (l : Launch) (a : Nat → Nat) (book : Nat → Int32) (now : Nat → Int32) (week : Nat → Int32) (sights : Int32) (sight : Nat → Int32) (sg : Nat) (pad : Nat → Int32) (metAt : Int32) (metWho : Int32) (reason : Int32) (acts : Int32) (atp : Int32) (will : Nat → Int32) (fitting : Nat → Int32) (counts : Nat → Int32) (ring : Nat → Int32) (nxt : Nat → Int32) (wins : Nat → Int32) (ways : Nat → Int64) (nextWays : Nat → Int64) (image : Nat → Int32) (isKept : Nat → Int32) (k : Int32) (what : Int32) (hs : sg ≤ 60) (hD : dyOK book) : CG E l yX10_behind cX10_behind 3 (some .int) { frames := 5, cells := 0, slots := 0, locals := 111 } [.ref (a 0), .int k, .int what] (bMd E a book now week sights sight (nI sg) pad metAt metWho reason acts atp will fitting counts ring nxt wins ways nextWays image isKept) noB (fun _ : ScrM => some (.int (if ¬ (0 ≤ k ∧ k ≤ 5) then -1 else if ¬ (0 ≤ what ∧ what ≤ 2) then -2 else if (¬ 0 ≤ ftM pad sg ∧ ¬ 0 ≤ (gwM pad week book sg reason).1) then (gwM pad week book sg reason).2.2.2.1 (6 * what.toNatClampNeg + k.toNatClampNeg) else -5))) (fun u : ScrM => bMd E a book u.1 week sights sight (nI sg) pad u.2.1 u.2.2.1 u.2.2.2.1 u.2.2.2.2.1 u.2.2.2.2.2.1 u.2.2.2.2.2.2.1 u.2.2.2.2.2.2.2.1 u.2.2.2.2.2.2.2.2.1 u.2.2.2.2.2.2.2.2.2.1 u.2.2.2.2.2.2.2.2.2.2.1 u.2.2.2.2.2.2.2.2.2.2.2.1 u.2.2.2.2.2.2.2.2.2.2.2.2.1 u.2.2.2.2.2.2.2.2.2.2.2.2.2 image isKept) := by
  refine CG.intro (by decide) (Nat.le_of_ble_eq_true rfl) (fun K X Y _ _ _ => ?_)
  refine jv_iload_n 0 X dX10_behind_0 1 rfl ?_
  refine jv_fun 1 X (c_X10_isOne E _ k) ws_X10_61 ⟨Nat.le_of_ble_eq_true rfl, Nat.le_of_ble_eq_true rfl⟩ ⟨rfl, rfl⟩ ⟨Nat.zero_le _, Nat.zero_le _⟩ dX10_behind_1 rfl [] rfl (Nat.le_of_ble_eq_true rfl) ?_
  refine jv_z_ne 4 X dX10_behind_4 9 (by decide) (fun c_1 => ?_) (fun c_1 => ?_)
  · obtain ⟨jk, h1jk, h2jk, rfl⟩ := nx_in (a := 0) (b := 5) rfl rfl (by decide) (by decide) c_1
    have hcjk : (nI jk).toNatClampNeg = jk := nI_clamp (by omega)
    refine jv_iload_n 9 X dX10_behind_9 2 rfl ?_
    refine jv_iconst (v := 0) 10 X dX10_behind_10 rfl ?_
    refine jv_iconst (v := 2) 11 X dX10_behind_11 rfl ?_
    refine jv_fun 12 X (c_X10_in E _ what 0 2) ws_X10_57 ⟨Nat.le_of_ble_eq_true rfl, Nat.le_of_ble_eq_true rfl⟩ ⟨rfl, rfl⟩ ⟨Nat.zero_le _, Nat.zero_le _⟩ dX10_behind_12 rfl [] rfl (Nat.le_of_ble_eq_true rfl) ?_
    refine jv_z_ne 15 X dX10_behind_15 21 (by decide) (fun c_2 => ?_) (fun c_2 => ?_)
    · obtain ⟨jwhat, h1jwhat, h2jwhat, rfl⟩ := nx_in (a := 0) (b := 2) rfl rfl (by decide) (by decide) c_2
      have hcjwhat : (nI jwhat).toNatClampNeg = jwhat := nI_clamp (by omega)
      refine jv_aload_n 21 X dX10_behind_21 0 rfl ?_
      refine jv_callW (w1 := bMd E a book ((f_bar pad week book now sg atp acts metAt metWho reason).2.2.2.1) week sights sight (nI sg) pad ((f_bar pad week book now sg atp acts metAt metWho reason).2.2.2.2.1) ((f_bar pad week book now sg atp acts metAt metWho reason).2.2.2.2.2.1) ((f_bar pad week book now sg atp acts metAt metWho reason).2.2.2.2.2.2) ((f_bar pad week book now sg atp acts metAt metWho reason).2.2.1) ((f_bar pad week book now sg atp acts metAt metWho reason).2.1) will fitting counts ring nxt wins ways nextWays image isKept) 22 X (c_X10_barOfWeeks E _ a book now week sights sight sg pad metAt metWho reason acts atp will fitting counts ring nxt wins ways nextWays image isKept (by omega) (by omega)) wv_X10_146 ⟨Nat.le_of_ble_eq_true rfl, Nat.le_of_ble_eq_true rfl⟩ ⟨rfl, rfl⟩ ⟨Nat.zero_le _, Nat.zero_le _⟩ dX10_behind_22 rfl [] rfl (Nat.le_of_ble_eq_true rfl) 0 rfl rfl ?_
      refine jn_if_ge 25 X dX10_behind_25 33 (by decide) (fun c_3 => ?_) (fun c_3 => ?_)
      · obtain ⟨hO, hO1, hO2, hO3, hO4⟩ := bar_y (by assumption)
        rw [hO1, hO2, hO3, hO4]
        refine jv_aload_n 33 X dX10_behind_33 0 rfl ?_
        refine jv_get (v := .ref (a 2)) 34 X gf_X10_13 dX10_behind_34 0 rfl rfl ?_
        refine jv_bipush (v := 6) 37 X dX10_behind_37 (by decide) ?_
        refine jv_iload_n 39 X dX10_behind_39 2 rfl ?_
        refine jv_imul 40 X dX10_behind_40 ?_
        refine jv_norm (x2 := nI (6 * jwhat)) (nx_mul (a := 6) (b := jwhat) rfl rfl) ?_
        refine jv_iload_n 41 X dX10_behind_41 1 rfl ?_
        refine jv_iadd 42 X dX10_behind_42 ?_
        refine jv_norm (x2 := nI ((6 * jwhat) + jk)) (nx_add2 (a := (6 * jwhat)) (b := jk) rfl rfl (by omega)) ?_
        refine jv_iald (f := (gwM pad week book sg reason).2.2.2.1) 43 X dX10_behind_43 2 rfl (by decide) ((6 * jwhat) + jk) rfl (by omega) ?_
        exact jv_iret 44 X Y rfl dX10_behind_44 ((gwM pad week book sg reason).2.2.2.1, (gwM pad week book sg reason).2.2.2.2.1, (gwM pad week book sg reason).2.2.2.2.2.1, (f_bar pad week book now sg atp acts metAt metWho reason).2.2.2.2.2.2, (nI (gwM pad week book sg reason).2.2.1), (f_bar pad week book now sg atp acts metAt metWho reason).2.1, will, fitting, counts, ring, nxt, wins, ways, nextWays) (by first | (simp only [hO.1, hO.2, not_true_eq_false, not_false_eq_true, and_self, if_true, if_false, c_1, hcjk, c_2, hcjwhat]; done) | (simp [hO.1, hO.2, c_1, hcjk, c_2, hcjwhat]; done)) (by rfl)
      · refine jv_bipush (v := (-5)) 28 X dX10_behind_28 (by decide) ?_
        refine jv_goto 30 X dX10_behind_30 44 (by decide) ?_
        exact jv_iret 44 X Y rfl dX10_behind_44 ((f_bar pad week book now sg atp acts metAt metWho reason).2.2.2.1, (f_bar pad week book now sg atp acts metAt metWho reason).2.2.2.2.1, (f_bar pad week book now sg atp acts metAt metWho reason).2.2.2.2.2.1, (f_bar pad week book now sg atp acts metAt metWho reason).2.2.2.2.2.2, (f_bar pad week book now sg atp acts metAt metWho reason).2.2.1, (f_bar pad week book now sg atp acts metAt metWho reason).2.1, will, fitting, counts, ring, nxt, wins, ways, nextWays) (by have hN := bar_n c_3; unfold okM at hN; simp only [hN, not_true_eq_false, not_false_eq_true, and_self, if_true, if_false, c_1, hcjk, c_2, hcjwhat]) (by rfl)
    · refine jv_bipush (v := (-2)) 18 X dX10_behind_18 (by decide) ?_
      exact jv_iret 20 X Y rfl dX10_behind_20 (now, metAt, metWho, reason, acts, atp, will, fitting, counts, ring, nxt, wins, ways, nextWays) (by simp [lt_nle, -Int32.not_le, c_1, hcjk, c_2]) rfl
  · refine jv_iconst (v := (-1)) 7 X dX10_behind_7 rfl ?_
    exact jv_iret 8 X Y rfl dX10_behind_8 (now, metAt, metWho, reason, acts, atp, will, fitting, counts, ring, nxt, wins, ways, nextWays) (by simp [lt_nle, -Int32.not_le, c_1]) rfl
theorem c_X10_lies (E : EE) (l : Launch) (a : Nat → Nat) (book : Nat → Int32) (now : Nat → Int32) (week : Nat → Int32) (sights : Int32) (sight : Nat → Int32) (sg : Nat) (pad : Nat → Int32) (metAt : Int32) (metWho : Int32) (reason : Int32) (acts : Int32) (atp : Int32) (will : Nat → Int32) (fitting : Nat → Int32) (counts : Nat → Int32) (ring : Nat → Int32) (nxt : Nat → Int32) (wins : Nat → Int32) (ways : Nat → Int64) (nextWays : Nat → Int64) (image : Nat → Int32) (isKept : Nat → Int32) (k : Int32) (hs : sg ≤ 60) (hD : dyOK book) : CG E l yX10_lies cX10_lies 2 (some .int) { frames := 5, cells := 0, slots := 0, locals := 111 } [.ref (a 0), .int k] (bMd E a book now week sights sight (nI sg) pad metAt metWho reason acts atp will fitting counts ring nxt wins ways nextWays image isKept) noB (fun _ : ScrM => some (.int (if ¬ (0 ≤ k ∧ k ≤ 7) then -1 else if (¬ 0 ≤ ftM pad sg ∧ ¬ 0 ≤ (gwM pad week book sg reason).1) then (gwM pad week book sg reason).2.2.2.1 (18 + k.toNatClampNeg) else -5))) (fun u : ScrM => bMd E a book u.1 week sights sight (nI sg) pad u.2.1 u.2.2.1 u.2.2.2.1 u.2.2.2.2.1 u.2.2.2.2.2.1 u.2.2.2.2.2.2.1 u.2.2.2.2.2.2.2.1 u.2.2.2.2.2.2.2.2.1 u.2.2.2.2.2.2.2.2.2.1 u.2.2.2.2.2.2.2.2.2.2.1 u.2.2.2.2.2.2.2.2.2.2.2.1 u.2.2.2.2.2.2.2.2.2.2.2.2.1 u.2.2.2.2.2.2.2.2.2.2.2.2.2 image isKept) := by
  refine CG.intro (by decide) (Nat.le_of_ble_eq_true rfl) (fun K X Y _ _ _ => ?_)
  refine jv_iload_n 0 X dX10_lies_0 1 rfl ?_
  refine jv_fun 1 X (c_X10_isStick E _ k) ws_X10_66 ⟨Nat.le_of_ble_eq_true rfl, Nat.le_of_ble_eq_true rfl⟩ ⟨rfl, rfl⟩ ⟨Nat.zero_le _, Nat.zero_le _⟩ dX10_lies_1 rfl [] rfl (Nat.le_of_ble_eq_true rfl) ?_
  refine jv_z_ne 4 X dX10_lies_4 9 (by decide) (fun c_1 => ?_) (fun c_1 => ?_)
  · obtain ⟨jk, h1jk, h2jk, rfl⟩ := nx_in (a := 0) (b := 7) rfl rfl (by decide) (by decide) c_1
    have hcjk : (nI jk).toNatClampNeg = jk := nI_clamp (by omega)
    refine jv_aload_n 9 X dX10_lies_9 0 rfl ?_
    refine jv_callW (w1 := bMd E a book ((f_bar pad week book now sg atp acts metAt metWho reason).2.2.2.1) week sights sight (nI sg) pad ((f_bar pad week book now sg atp acts metAt metWho reason).2.2.2.2.1) ((f_bar pad week book now sg atp acts metAt metWho reason).2.2.2.2.2.1) ((f_bar pad week book now sg atp acts metAt metWho reason).2.2.2.2.2.2) ((f_bar pad week book now sg atp acts metAt metWho reason).2.2.1) ((f_bar pad week book now sg atp acts metAt metWho reason).2.1) will fitting counts ring nxt wins ways nextWays image isKept) 10 X (c_X10_barOfWeeks E _ a book now week sights sight sg pad metAt metWho reason acts atp will fitting counts ring nxt wins ways nextWays image isKept (by omega) (by omega)) wv_X10_146 ⟨Nat.le_of_ble_eq_true rfl, Nat.le_of_ble_eq_true rfl⟩ ⟨rfl, rfl⟩ ⟨Nat.zero_le _, Nat.zero_le _⟩ dX10_lies_10 rfl [] rfl (Nat.le_of_ble_eq_true rfl) 0 rfl rfl ?_
    refine jn_if_ge 13 X dX10_lies_13 21 (by decide) (fun c_2 => ?_) (fun c_2 => ?_)
    · obtain ⟨hO, hO1, hO2, hO3, hO4⟩ := bar_y (by assumption)
      rw [hO1, hO2, hO3, hO4]
      refine jv_aload_n 21 X dX10_lies_21 0 rfl ?_
      refine jv_get (v := .ref (a 2)) 22 X gf_X10_13 dX10_lies_22 0 rfl rfl ?_
      refine jv_bipush (v := 18) 25 X dX10_lies_25 (by decide) ?_
      refine jv_iload_n 27 X dX10_lies_27 1 rfl ?_
      refine jv_iadd 28 X dX10_lies_28 ?_
      refine jv_norm (x2 := nI (18 + jk)) (nx_add2 (a := 18) (b := jk) rfl rfl (by omega)) ?_
      refine jv_iald (f := (gwM pad week book sg reason).2.2.2.1) 29 X dX10_lies_29 2 rfl (by decide) (18 + jk) rfl (by omega) ?_
      exact jv_iret 30 X Y rfl dX10_lies_30 ((gwM pad week book sg reason).2.2.2.1, (gwM pad week book sg reason).2.2.2.2.1, (gwM pad week book sg reason).2.2.2.2.2.1, (f_bar pad week book now sg atp acts metAt metWho reason).2.2.2.2.2.2, (nI (gwM pad week book sg reason).2.2.1), (f_bar pad week book now sg atp acts metAt metWho reason).2.1, will, fitting, counts, ring, nxt, wins, ways, nextWays) (by first | (simp only [hO.1, hO.2, not_true_eq_false, not_false_eq_true, and_self, if_true, if_false, c_1, hcjk]; done) | (simp [hO.1, hO.2, c_1, hcjk]; done)) (by rfl)
    · refine jv_bipush (v := (-5)) 16 X dX10_lies_16 (by decide) ?_
      refine jv_goto 18 X dX10_lies_18 30 (by decide) ?_
      exact jv_iret 30 X Y rfl dX10_lies_30 ((f_bar pad week book now sg atp acts metAt metWho reason).2.2.2.1, (f_bar pad week book now sg atp acts metAt metWho reason).2.2.2.2.1, (f_bar pad week book now sg atp acts metAt metWho reason).2.2.2.2.2.1, (f_bar pad week book now sg atp acts metAt metWho reason).2.2.2.2.2.2, (f_bar pad week book now sg atp acts metAt metWho reason).2.2.1, (f_bar pad week book now sg atp acts metAt metWho reason).2.1, will, fitting, counts, ring, nxt, wins, ways, nextWays) (by have hN := bar_n c_2; unfold okM at hN; simp only [hN, not_true_eq_false, not_false_eq_true, and_self, if_true, if_false, c_1, hcjk]) (by rfl)
  · refine jv_iconst (v := (-1)) 7 X dX10_lies_7 rfl ?_
    exact jv_iret 8 X Y rfl dX10_lies_8 (now, metAt, metWho, reason, acts, atp, will, fitting, counts, ring, nxt, wins, ways, nextWays) (by simp [lt_nle, -Int32.not_le, c_1]) rfl
theorem c_X10_built (E : EE) (l : Launch) (a : Nat → Nat) (book : Nat → Int32) (now : Nat → Int32) (week : Nat → Int32) (sights : Int32) (sight : Nat → Int32) (sg : Nat) (pad : Nat → Int32) (metAt : Int32) (metWho : Int32) (reason : Int32) (acts : Int32) (atp : Int32) (will : Nat → Int32) (fitting : Nat → Int32) (counts : Nat → Int32) (ring : Nat → Int32) (nxt : Nat → Int32) (wins : Nat → Int32) (ways : Nat → Int64) (nextWays : Nat → Int64) (image : Nat → Int32) (isKept : Nat → Int32) (k : Int32) (what : Int32) (hs : sg ≤ 60) (hD : dyOK book) : CG E l yX10_built cX10_built 3 (some .int) { frames := 5, cells := 0, slots := 0, locals := 111 } [.ref (a 0), .int k, .int what] (bMd E a book now week sights sight (nI sg) pad metAt metWho reason acts atp will fitting counts ring nxt wins ways nextWays image isKept) noB (fun _ : ScrM => some (.int (if ¬ (0 ≤ k ∧ k ≤ 3) then -1 else if ¬ (0 ≤ what ∧ what ≤ 2) then -2 else if (¬ 0 ≤ ftM pad sg ∧ ¬ 0 ≤ (gwM pad week book sg reason).1) then (if ¬ 2 ≤ what then (gwM pad week book sg reason).2.2.2.1 (26 + 4 * what.toNatClampNeg + k.toNatClampNeg) else if (gwM pad week book sg reason).2.2.2.1 (34 + k.toNatClampNeg) ≤ (gwM pad week book sg reason).2.2.2.1 (26 + k.toNatClampNeg) + (gwM pad week book sg reason).2.2.2.1 (30 + k.toNatClampNeg) then (gwM pad week book sg reason).2.2.2.1 (26 + k.toNatClampNeg) + (gwM pad week book sg reason).2.2.2.1 (30 + k.toNatClampNeg) - (gwM pad week book sg reason).2.2.2.1 (34 + k.toNatClampNeg) else -6) else -5))) (fun u : ScrM => bMd E a book u.1 week sights sight (nI sg) pad u.2.1 u.2.2.1 u.2.2.2.1 u.2.2.2.2.1 u.2.2.2.2.2.1 u.2.2.2.2.2.2.1 u.2.2.2.2.2.2.2.1 u.2.2.2.2.2.2.2.2.1 u.2.2.2.2.2.2.2.2.2.1 u.2.2.2.2.2.2.2.2.2.2.1 u.2.2.2.2.2.2.2.2.2.2.2.1 u.2.2.2.2.2.2.2.2.2.2.2.2.1 u.2.2.2.2.2.2.2.2.2.2.2.2.2 image isKept) := by
  refine CG.intro (by decide) (Nat.le_of_ble_eq_true rfl) (fun K X Y _ _ _ => ?_)
  refine jv_iload_n 0 X dX10_built_0 1 rfl ?_
  refine jv_fun 1 X (c_X10_isBridge E _ k) ws_X10_69 ⟨Nat.le_of_ble_eq_true rfl, Nat.le_of_ble_eq_true rfl⟩ ⟨rfl, rfl⟩ ⟨Nat.zero_le _, Nat.zero_le _⟩ dX10_built_1 rfl [] rfl (Nat.le_of_ble_eq_true rfl) ?_
  refine jv_z_ne 4 X dX10_built_4 9 (by decide) (fun c_1 => ?_) (fun c_1 => ?_)
  · obtain ⟨jk, h1jk, h2jk, rfl⟩ := nx_in (a := 0) (b := 3) rfl rfl (by decide) (by decide) c_1
    have hcjk : (nI jk).toNatClampNeg = jk := nI_clamp (by omega)
    refine jv_iload_n 9 X dX10_built_9 2 rfl ?_
    refine jv_iconst (v := 0) 10 X dX10_built_10 rfl ?_
    refine jv_iconst (v := 2) 11 X dX10_built_11 rfl ?_
    refine jv_fun 12 X (c_X10_in E _ what 0 2) ws_X10_57 ⟨Nat.le_of_ble_eq_true rfl, Nat.le_of_ble_eq_true rfl⟩ ⟨rfl, rfl⟩ ⟨Nat.zero_le _, Nat.zero_le _⟩ dX10_built_12 rfl [] rfl (Nat.le_of_ble_eq_true rfl) ?_
    refine jv_z_ne 15 X dX10_built_15 21 (by decide) (fun c_2 => ?_) (fun c_2 => ?_)
    · obtain ⟨jwhat, h1jwhat, h2jwhat, rfl⟩ := nx_in (a := 0) (b := 2) rfl rfl (by decide) (by decide) c_2
      have hcjwhat : (nI jwhat).toNatClampNeg = jwhat := nI_clamp (by omega)
      refine jv_aload_n 21 X dX10_built_21 0 rfl ?_
      refine jv_callW (w1 := bMd E a book ((f_bar pad week book now sg atp acts metAt metWho reason).2.2.2.1) week sights sight (nI sg) pad ((f_bar pad week book now sg atp acts metAt metWho reason).2.2.2.2.1) ((f_bar pad week book now sg atp acts metAt metWho reason).2.2.2.2.2.1) ((f_bar pad week book now sg atp acts metAt metWho reason).2.2.2.2.2.2) ((f_bar pad week book now sg atp acts metAt metWho reason).2.2.1) ((f_bar pad week book now sg atp acts metAt metWho reason).2.1) will fitting counts ring nxt wins ways nextWays image isKept) 22 X (c_X10_barOfWeeks E _ a book now week sights sight sg pad metAt metWho reason acts atp will fitting counts ring nxt wins ways nextWays image isKept (by omega) (by omega)) wv_X10_146 ⟨Nat.le_of_ble_eq_true rfl, Nat.le_of_ble_eq_true rfl⟩ ⟨rfl, rfl⟩ ⟨Nat.zero_le _, Nat.zero_le _⟩ dX10_built_22 rfl [] rfl (Nat.le_of_ble_eq_true rfl) 0 rfl rfl ?_
      refine jn_if_ge 25 X dX10_built_25 31 (by decide) (fun c_3 => ?_) (fun c_3 => ?_)
      · obtain ⟨hO, hO1, hO2, hO3, hO4⟩ := bar_y (by assumption)
        rw [hO1, hO2, hO3, hO4]
        refine jv_iload_n 31 X dX10_built_31 2 rfl ?_
        refine jv_iconst (v := 2) 32 X dX10_built_32 rfl ?_
        refine jn_icmp_ge 33 X dX10_built_33 50 (by decide) (fun c_4 => ?_) (fun c_4 => ?_)
        · have n_4 : 2 ≤ jwhat := (nx_le (a := 2) (b := jwhat) rfl rfl (by omega) (by omega)).mp c_4
          refine jv_aload_n 50 X dX10_built_50 0 rfl ?_
          refine jv_iload_n 51 X dX10_built_51 1 rfl ?_
          refine jv_callW (w1 := bMd E a book ((gwM pad week book sg reason).2.2.2.1) week sights sight (nI sg) pad ((gwM pad week book sg reason).2.2.2.2.1) ((gwM pad week book sg reason).2.2.2.2.2.1) ((f_bar pad week book now sg atp acts metAt metWho reason).2.2.2.2.2.2) (nI (gwM pad week book sg reason).2.2.1) ((f_bar pad week book now sg atp acts metAt metWho reason).2.1) will fitting counts ring nxt wins ways nextWays image isKept) 52 X (c_X10_hasMet E _ a book ((gwM pad week book sg reason).2.2.2.1) week sights sight (nI sg) pad ((gwM pad week book sg reason).2.2.2.2.1) ((gwM pad week book sg reason).2.2.2.2.2.1) ((f_bar pad week book now sg atp acts metAt metWho reason).2.2.2.2.2.2) (nI (gwM pad week book sg reason).2.2.1) ((f_bar pad week book now sg atp acts metAt metWho reason).2.1) will fitting counts ring nxt wins ways nextWays image isKept jk (by omega)) wv_X10_94 ⟨Nat.le_of_ble_eq_true rfl, Nat.le_of_ble_eq_true rfl⟩ ⟨rfl, rfl⟩ ⟨Nat.zero_le _, Nat.zero_le _⟩ dX10_built_52 rfl [] rfl (Nat.le_of_ble_eq_true rfl) 0 rfl rfl ?_
          refine jv_z_eq 55 X dX10_built_55 90 (by decide) (fun c_5 => ?_) (fun c_5 => ?_)
          · refine jv_bipush (v := (-6)) 90 X dX10_built_90 (by decide) ?_
            exact jv_iret 92 X Y rfl dX10_built_92 ((gwM pad week book sg reason).2.2.2.1, (gwM pad week book sg reason).2.2.2.2.1, (gwM pad week book sg reason).2.2.2.2.2.1, (f_bar pad week book now sg atp acts metAt metWho reason).2.2.2.2.2.2, (nI (gwM pad week book sg reason).2.2.1), (f_bar pad week book now sg atp acts metAt metWho reason).2.1, will, fitting, counts, ring, nxt, wins, ways, nextWays) (by first | (simp only [hO.1, hO.2, not_true_eq_false, not_false_eq_true, and_self, if_true, if_false, c_1, hcjk, c_2, hcjwhat, c_4, c_5]; done) | (simp [hO.1, hO.2, c_1, hcjk, c_2, hcjwhat, c_4, c_5]; done)) (by rfl)
          · refine jv_aload_n 58 X dX10_built_58 0 rfl ?_
            refine jv_get (v := .ref (a 2)) 59 X gf_X10_13 dX10_built_59 0 rfl rfl ?_
            refine jv_bipush (v := 26) 62 X dX10_built_62 (by decide) ?_
            refine jv_iload_n 64 X dX10_built_64 1 rfl ?_
            refine jv_iadd 65 X dX10_built_65 ?_
            refine jv_norm (x2 := nI (26 + jk)) (nx_add2 (a := 26) (b := jk) rfl rfl (by omega)) ?_
            refine jv_iald (f := (gwM pad week book sg reason).2.2.2.1) 66 X dX10_built_66 2 rfl (by decide) (26 + jk) rfl (by omega) ?_
            refine jv_aload_n 67 X dX10_built_67 0 rfl ?_
            refine jv_get (v := .ref (a 2)) 68 X gf_X10_13 dX10_built_68 0 rfl rfl ?_
            refine jv_bipush (v := 30) 71 X dX10_built_71 (by decide) ?_
            refine jv_iload_n 73 X dX10_built_73 1 rfl ?_
            refine jv_iadd 74 X dX10_built_74 ?_
            refine jv_norm (x2 := nI (30 + jk)) (nx_add2 (a := 30) (b := jk) rfl rfl (by omega)) ?_
            refine jv_iald (f := (gwM pad week book sg reason).2.2.2.1) 75 X dX10_built_75 2 rfl (by decide) (30 + jk) rfl (by omega) ?_
            refine jv_iadd 76 X dX10_built_76 ?_
            refine jv_aload_n 77 X dX10_built_77 0 rfl ?_
            refine jv_get (v := .ref (a 2)) 78 X gf_X10_13 dX10_built_78 0 rfl rfl ?_
            refine jv_bipush (v := 34) 81 X dX10_built_81 (by decide) ?_
            refine jv_iload_n 83 X dX10_built_83 1 rfl ?_
            refine jv_iadd 84 X dX10_built_84 ?_
            refine jv_norm (x2 := nI (34 + jk)) (nx_add2 (a := 34) (b := jk) rfl rfl (by omega)) ?_
            refine jv_iald (f := (gwM pad week book sg reason).2.2.2.1) 85 X dX10_built_85 2 rfl (by decide) (34 + jk) rfl (by omega) ?_
            refine jv_isub 86 X dX10_built_86 ?_
            refine jv_goto 87 X dX10_built_87 92 (by decide) ?_
            exact jv_iret 92 X Y rfl dX10_built_92 ((gwM pad week book sg reason).2.2.2.1, (gwM pad week book sg reason).2.2.2.2.1, (gwM pad week book sg reason).2.2.2.2.2.1, (f_bar pad week book now sg atp acts metAt metWho reason).2.2.2.2.2.2, (nI (gwM pad week book sg reason).2.2.1), (f_bar pad week book now sg atp acts metAt metWho reason).2.1, will, fitting, counts, ring, nxt, wins, ways, nextWays) (by first | (simp only [hO.1, hO.2, not_true_eq_false, not_false_eq_true, and_self, if_true, if_false, c_1, hcjk, c_2, hcjwhat, c_4, c_5]; done) | (simp [hO.1, hO.2, c_1, hcjk, c_2, hcjwhat, c_4, c_5]; done)) (by rfl)
        · have n_4 : ¬ 2 ≤ jwhat := fun zq => c_4 ((nx_le (a := 2) (b := jwhat) rfl rfl (by omega) (by omega)).mpr zq)
          refine jv_aload_n 36 X dX10_built_36 0 rfl ?_
          refine jv_get (v := .ref (a 2)) 37 X gf_X10_13 dX10_built_37 0 rfl rfl ?_
          refine jv_bipush (v := 26) 40 X dX10_built_40 (by decide) ?_
          refine jv_iconst (v := 4) 42 X dX10_built_42 rfl ?_
          refine jv_iload_n 43 X dX10_built_43 2 rfl ?_
          refine jv_imul 44 X dX10_built_44 ?_
          refine jv_norm (x2 := nI (4 * jwhat)) (nx_mul (a := 4) (b := jwhat) rfl rfl) ?_
          refine jv_iadd 45 X dX10_built_45 ?_
          refine jv_norm (x2 := nI (26 + (4 * jwhat))) (nx_add2 (a := 26) (b := (4 * jwhat)) rfl rfl (by omega)) ?_
          refine jv_iload_n 46 X dX10_built_46 1 rfl ?_
          refine jv_iadd 47 X dX10_built_47 ?_
          refine jv_norm (x2 := nI ((26 + (4 * jwhat)) + jk)) (nx_add2 (a := (26 + (4 * jwhat))) (b := jk) rfl rfl (by omega)) ?_
          refine jv_iald (f := (gwM pad week book sg reason).2.2.2.1) 48 X dX10_built_48 2 rfl (by decide) ((26 + (4 * jwhat)) + jk) rfl (by omega) ?_
          exact jv_iret 49 X Y rfl dX10_built_49 ((gwM pad week book sg reason).2.2.2.1, (gwM pad week book sg reason).2.2.2.2.1, (gwM pad week book sg reason).2.2.2.2.2.1, (f_bar pad week book now sg atp acts metAt metWho reason).2.2.2.2.2.2, (nI (gwM pad week book sg reason).2.2.1), (f_bar pad week book now sg atp acts metAt metWho reason).2.1, will, fitting, counts, ring, nxt, wins, ways, nextWays) (by first | (simp only [hO.1, hO.2, not_true_eq_false, not_false_eq_true, and_self, if_true, if_false, c_1, hcjk, c_2, hcjwhat, c_4]; done) | (simp [hO.1, hO.2, c_1, hcjk, c_2, hcjwhat, c_4]; done)) (by rfl)
      · refine jv_bipush (v := (-5)) 28 X dX10_built_28 (by decide) ?_
        exact jv_iret 30 X Y rfl dX10_built_30 ((f_bar pad week book now sg atp acts metAt metWho reason).2.2.2.1, (f_bar pad week book now sg atp acts metAt metWho reason).2.2.2.2.1, (f_bar pad week book now sg atp acts metAt metWho reason).2.2.2.2.2.1, (f_bar pad week book now sg atp acts metAt metWho reason).2.2.2.2.2.2, (f_bar pad week book now sg atp acts metAt metWho reason).2.2.1, (f_bar pad week book now sg atp acts metAt metWho reason).2.1, will, fitting, counts, ring, nxt, wins, ways, nextWays) (by have hN := bar_n c_3; unfold okM at hN; simp only [hN, not_true_eq_false, not_false_eq_true, and_self, if_true, if_false, c_1, hcjk, c_2, hcjwhat]) (by rfl)
    · refine jv_bipush (v := (-2)) 18 X dX10_built_18 (by decide) ?_
      exact jv_iret 20 X Y rfl dX10_built_20 (now, metAt, metWho, reason, acts, atp, will, fitting, counts, ring, nxt, wins, ways, nextWays) (by simp [lt_nle, -Int32.not_le, c_1, hcjk, c_2]) rfl
  · refine jv_iconst (v := (-1)) 7 X dX10_built_7 rfl ?_
    exact jv_iret 8 X Y rfl dX10_built_8 (now, metAt, metWho, reason, acts, atp, will, fitting, counts, ring, nxt, wins, ways, nextWays) (by simp [lt_nle, -Int32.not_le, c_1]) rfl
theorem c_X10_then (E : EE) (l : Launch) (a : Nat → Nat) (book : Nat → Int32) (now : Nat → Int32) (week : Nat → Int32) (sights : Int32) (sight : Nat → Int32) (sg : Nat) (pad : Nat → Int32) (metAt : Int32) (metWho : Int32) (reason : Int32) (acts : Int32) (atp : Int32) (will : Nat → Int32) (fitting : Nat → Int32) (counts : Nat → Int32) (ring : Nat → Int32) (nxt : Nat → Int32) (wins : Nat → Int32) (ways : Nat → Int64) (nextWays : Nat → Int64) (image : Nat → Int32) (isKept : Nat → Int32) (what : Int32) (hs : sg ≤ 60) (hD : dyOK book) : CG E l yX10_then cX10_then 2 (some .int) { frames := 5, cells := 0, slots := 0, locals := 111 } [.ref (a 0), .int what] (bMd E a book now week sights sight (nI sg) pad metAt metWho reason acts atp will fitting counts ring nxt wins ways nextWays image isKept) noB (fun _ : ScrM => some (.int (if ¬ (0 ≤ what ∧ what ≤ 3) then -2 else if (¬ 0 ≤ ftM pad sg ∧ ¬ 0 ≤ (gwM pad week book sg reason).1) then (if ¬ 2 ≤ what then (gwM pad week book sg reason).2.2.2.1 (38 + what.toNatClampNeg) else if what = 2 then (gwM pad week book sg reason).2.2.2.2.1 else (gwM pad week book sg reason).2.2.2.2.2.1) else -5))) (fun u : ScrM => bMd E a book u.1 week sights sight (nI sg) pad u.2.1 u.2.2.1 u.2.2.2.1 u.2.2.2.2.1 u.2.2.2.2.2.1 u.2.2.2.2.2.2.1 u.2.2.2.2.2.2.2.1 u.2.2.2.2.2.2.2.2.1 u.2.2.2.2.2.2.2.2.2.1 u.2.2.2.2.2.2.2.2.2.2.1 u.2.2.2.2.2.2.2.2.2.2.2.1 u.2.2.2.2.2.2.2.2.2.2.2.2.1 u.2.2.2.2.2.2.2.2.2.2.2.2.2 image isKept) := by
  refine CG.intro (by decide) (Nat.le_of_ble_eq_true rfl) (fun K X Y _ _ _ => ?_)
  refine jv_iload_n 0 X dX10_then_0 1 rfl ?_
  refine jv_iconst (v := 0) 1 X dX10_then_1 rfl ?_
  refine jv_iconst (v := 3) 2 X dX10_then_2 rfl ?_
  refine jv_fun 3 X (c_X10_in E _ what 0 3) ws_X10_57 ⟨Nat.le_of_ble_eq_true rfl, Nat.le_of_ble_eq_true rfl⟩ ⟨rfl, rfl⟩ ⟨Nat.zero_le _, Nat.zero_le _⟩ dX10_then_3 rfl [] rfl (Nat.le_of_ble_eq_true rfl) ?_
  refine jv_z_ne 6 X dX10_then_6 12 (by decide) (fun c_1 => ?_) (fun c_1 => ?_)
  · obtain ⟨jwhat, h1jwhat, h2jwhat, rfl⟩ := nx_in (a := 0) (b := 3) rfl rfl (by decide) (by decide) c_1
    have hcjwhat : (nI jwhat).toNatClampNeg = jwhat := nI_clamp (by omega)
    refine jv_aload_n 12 X dX10_then_12 0 rfl ?_
    refine jv_callW (w1 := bMd E a book ((f_bar pad week book now sg atp acts metAt metWho reason).2.2.2.1) week sights sight (nI sg) pad ((f_bar pad week book now sg atp acts metAt metWho reason).2.2.2.2.1) ((f_bar pad week book now sg atp acts metAt metWho reason).2.2.2.2.2.1) ((f_bar pad week book now sg atp acts metAt metWho reason).2.2.2.2.2.2) ((f_bar pad week book now sg atp acts metAt metWho reason).2.2.1) ((f_bar pad week book now sg atp acts metAt metWho reason).2.1) will fitting counts ring nxt wins ways nextWays image isKept) 13 X (c_X10_barOfWeeks E _ a book now week sights sight sg pad metAt metWho reason acts atp will fitting counts ring nxt wins ways nextWays image isKept (by omega) (by omega)) wv_X10_146 ⟨Nat.le_of_ble_eq_true rfl, Nat.le_of_ble_eq_true rfl⟩ ⟨rfl, rfl⟩ ⟨Nat.zero_le _, Nat.zero_le _⟩ dX10_then_13 rfl [] rfl (Nat.le_of_ble_eq_true rfl) 0 rfl rfl ?_
    refine jn_if_ge 16 X dX10_then_16 22 (by decide) (fun c_2 => ?_) (fun c_2 => ?_)
    · obtain ⟨hO, hO1, hO2, hO3, hO4⟩ := bar_y (by assumption)
      rw [hO1, hO2, hO3, hO4]
      refine jv_iload_n 22 X dX10_then_22 1 rfl ?_
      refine jv_iconst (v := 2) 23 X dX10_then_23 rfl ?_
      refine jn_icmp_ge 24 X dX10_then_24 39 (by decide) (fun c_3 => ?_) (fun c_3 => ?_)
      · have n_3 : 2 ≤ jwhat := (nx_le (a := 2) (b := jwhat) rfl rfl (by omega) (by omega)).mp c_3
        refine jv_iload_n 39 X dX10_then_39 1 rfl ?_
        refine jv_iconst (v := 2) 40 X dX10_then_40 rfl ?_
        refine jn_icmp_ne 41 X dX10_then_41 51 (by decide) (fun c_4 => ?_) (fun c_4 => ?_)
        · have n_4 : ¬ jwhat = 2 := fun zq => c_4 ((nx_eq (a := jwhat) (b := 2) rfl rfl (by omega) (by omega)).mpr zq)
          refine jv_aload_n 51 X dX10_then_51 0 rfl ?_
          refine jv_get (v := .int ((gwM pad week book sg reason).2.2.2.2.2.1)) 52 X gf_X10_87 dX10_then_52 0 rfl rfl ?_
          exact jv_iret 55 X Y rfl dX10_then_55 ((gwM pad week book sg reason).2.2.2.1, (gwM pad week book sg reason).2.2.2.2.1, (gwM pad week book sg reason).2.2.2.2.2.1, (f_bar pad week book now sg atp acts metAt metWho reason).2.2.2.2.2.2, (nI (gwM pad week book sg reason).2.2.1), (f_bar pad week book now sg atp acts metAt metWho reason).2.1, will, fitting, counts, ring, nxt, wins, ways, nextWays) (by first | (simp only [hO.1, hO.2, not_true_eq_false, not_false_eq_true, and_self, if_true, if_false, c_1, hcjwhat, c_3, c_4]; done) | (simp [hO.1, hO.2, c_1, hcjwhat, c_3, c_4]; done)) (by rfl)
        · have n_4 : jwhat = 2 := (nx_eq (a := jwhat) (b := 2) rfl rfl (by omega) (by omega)).mp c_4
          refine jv_aload_n 44 X dX10_then_44 0 rfl ?_
          refine jv_get (v := .int ((gwM pad week book sg reason).2.2.2.2.1)) 45 X gf_X10_84 dX10_then_45 0 rfl rfl ?_
          refine jv_goto 48 X dX10_then_48 55 (by decide) ?_
          exact jv_iret 55 X Y rfl dX10_then_55 ((gwM pad week book sg reason).2.2.2.1, (gwM pad week book sg reason).2.2.2.2.1, (gwM pad week book sg reason).2.2.2.2.2.1, (f_bar pad week book now sg atp acts metAt metWho reason).2.2.2.2.2.2, (nI (gwM pad week book sg reason).2.2.1), (f_bar pad week book now sg atp acts metAt metWho reason).2.1, will, fitting, counts, ring, nxt, wins, ways, nextWays) (by first | (simp only [hO.1, hO.2, not_true_eq_false, not_false_eq_true, and_self, if_true, if_false, c_1, hcjwhat, c_3, c_4]; done) | (simp [hO.1, hO.2, c_1, hcjwhat, c_3, c_4]; done)) (by rfl)
      · have n_3 : ¬ 2 ≤ jwhat := fun zq => c_3 ((nx_le (a := 2) (b := jwhat) rfl rfl (by omega) (by omega)).mpr zq)
        refine jv_aload_n 27 X dX10_then_27 0 rfl ?_
        refine jv_get (v := .ref (a 2)) 28 X gf_X10_13 dX10_then_28 0 rfl rfl ?_
        refine jv_bipush (v := 38) 31 X dX10_then_31 (by decide) ?_
        refine jv_iload_n 33 X dX10_then_33 1 rfl ?_
        refine jv_iadd 34 X dX10_then_34 ?_
        refine jv_norm (x2 := nI (38 + jwhat)) (nx_add2 (a := 38) (b := jwhat) rfl rfl (by omega)) ?_
        refine jv_iald (f := (gwM pad week book sg reason).2.2.2.1) 35 X dX10_then_35 2 rfl (by decide) (38 + jwhat) rfl (by omega) ?_
        refine jv_goto 36 X dX10_then_36 55 (by decide) ?_
        exact jv_iret 55 X Y rfl dX10_then_55 ((gwM pad week book sg reason).2.2.2.1, (gwM pad week book sg reason).2.2.2.2.1, (gwM pad week book sg reason).2.2.2.2.2.1, (f_bar pad week book now sg atp acts metAt metWho reason).2.2.2.2.2.2, (nI (gwM pad week book sg reason).2.2.1), (f_bar pad week book now sg atp acts metAt metWho reason).2.1, will, fitting, counts, ring, nxt, wins, ways, nextWays) (by first | (simp only [hO.1, hO.2, not_true_eq_false, not_false_eq_true, and_self, if_true, if_false, c_1, hcjwhat, c_3]; done) | (simp [hO.1, hO.2, c_1, hcjwhat, c_3]; done)) (by rfl)
    · refine jv_bipush (v := (-5)) 19 X dX10_then_19 (by decide) ?_
      exact jv_iret 21 X Y rfl dX10_then_21 ((f_bar pad week book now sg atp acts metAt metWho reason).2.2.2.1, (f_bar pad week book now sg atp acts metAt metWho reason).2.2.2.2.1, (f_bar pad week book now sg atp acts metAt metWho reason).2.2.2.2.2.1, (f_bar pad week book now sg atp acts metAt metWho reason).2.2.2.2.2.2, (f_bar pad week book now sg atp acts metAt metWho reason).2.2.1, (f_bar pad week book now sg atp acts metAt metWho reason).2.1, will, fitting, counts, ring, nxt, wins, ways, nextWays) (by have hN := bar_n c_2; unfold okM at hN; simp only [hN, not_true_eq_false, not_false_eq_true, and_self, if_true, if_false, c_1, hcjwhat]) (by rfl)
  · refine jv_bipush (v := (-2)) 9 X dX10_then_9 (by decide) ?_
    exact jv_iret 11 X Y rfl dX10_then_11 (now, metAt, metWho, reason, acts, atp, will, fitting, counts, ring, nxt, wins, ways, nextWays) (by simp [lt_nle, -Int32.not_le, c_1]) rfl
