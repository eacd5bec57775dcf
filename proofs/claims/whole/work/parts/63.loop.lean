-- the law's loop
theorem law_next {E : EE} {K : Ctx} {b : Nat} {g : Nat → Nat → Nat} {a : Nat → Nat} {k : Nat} (X : CX E K cL_law 4 RL room_1) (h : LawP E K b g a 18 (k + 1)) : LawP E K b g a 1192 k := by
  intro r k0 i0 k1 i1 sn pa signs kd on pl nm w1 w2 w3 w4 w5 tr ah lw ri mv hd book week sk sight pad image isKept u hR
  refine jv_iinc (v := nI (6 * (k + 1))) (lv2 := [(3, .int (nI (6 * (k + 1)))), (0, .ref b), (1, .ref (g 0 0)), (2, .ref (a 0))]) 1192 X dL_law_1192 3 rfl (by rw [Nat.mul_succ]; exact nx_add rfl rfl) (by decide) rfl ?_
  refine jv_goto 1195 X dL_law_1195 18 (by decide) ?_
  exact jv_lv [1, 2, 3, 0] rfl (h r k0 i0 k1 i1 sn pa signs kd on pl nm w1 w2 w3 w4 w5 tr ah lw ri mv hd book week sk sight pad image isKept u hR)
theorem law_cmp {k L : Nat} (hk : 6 * k ≤ 1000) (hL : L ≤ 384) : nI (6 * k) ≤ nI L - 6 ↔ 6 * k + 6 ≤ L := by
  have e : (nI L - 6).toInt = (L : Int) - (6 : Nat) := pk_sub_toInt (a := L) (b := 6) (by omega) (by omega)
  rw [Int32.le_iff_toInt_le, e, nI_toInt (by omega)]
  omega
set_option maxRecDepth 100000 in
set_option maxHeartbeats 4000000 in
theorem law_step {E : EE} {K : Ctx} {b L : Nat} {xs : Nat → Int32} {g : Nat → Nat → Nat} {a : Nat → Nat} {k : Nat} (X : CX E K cL_law 4 RL room_1) (S : SC K b L xs) {yk : Nat} (hY : YK K yk) (hk : 6 * k + 6 ≤ L) (hL : L ≤ 384) (h : LawP E K b g a 1192 k) : LawP E K b g a 27 k := by
  intro r k0 i0 k1 i1 sn pa signs kd on pl nm w1 w2 w3 w4 w5 tr ah lw ri mv hd book week sk sight pad image isKept u hR
  refine jv_aload_n 27 X dL_law_27 0 rfl ?_
  refine jv_iload_n 28 X dL_law_28 3 rfl ?_
  refine jv_sld 29 X S dL_law_29 (6 * k) rfl (by omega) (by omega) ?_
  refine jv_bipush (v := 63) 30 X dL_law_30 (by decide) ?_
  refine jv_iand 32 X dL_law_32 ?_
  generalize xs (6 * k) &&& 63 = w
  by_cases c0 : w = nI 0
  · subst c0
    exact jv_tabIn (off := 147) 33 X dL_law_33 180 (by decide) (by decide) rfl (by decide) (law_inch X S hk hL h r k0 i0 k1 i1 sn pa signs kd on pl nm w1 w2 w3 w4 w5 tr ah lw ri mv hd book week sk sight pad image isKept u hR)
  by_cases c1 : w = nI 1
  · subst c1
    exact jv_tabIn (off := 170) 33 X dL_law_33 203 (by decide) (by decide) rfl (by decide) (law_week X S hk hL h r k0 i0 k1 i1 sn pa signs kd on pl nm w1 w2 w3 w4 w5 tr ah lw ri mv hd book week sk sight pad image isKept u hR)
  by_cases c2 : w = nI 2
  · subst c2
    exact jv_tabIn (off := 203) 33 X dL_law_33 236 (by decide) (by decide) rfl (by decide) (law_one X S hk hL h r k0 i0 k1 i1 sn pa signs kd on pl nm w1 w2 w3 w4 w5 tr ah lw ri mv hd book week sk sight pad image isKept u hR)
  by_cases c3 : w = nI 3
  · subst c3
    exact jv_tabIn (off := 256) 33 X dL_law_33 289 (by decide) (by decide) rfl (by decide) (law_stick X S hk hL h r k0 i0 k1 i1 sn pa signs kd on pl nm w1 w2 w3 w4 w5 tr ah lw ri mv hd book week sk sight pad image isKept u hR)
  by_cases c4 : w = nI 4
  · subst c4
    exact jv_tabIn (off := 289) 33 X dL_law_33 322 (by decide) (by decide) rfl (by decide) (law_bridge X S hk hL h r k0 i0 k1 i1 sn pa signs kd on pl nm w1 w2 w3 w4 w5 tr ah lw ri mv hd book week sk sight pad image isKept u hR)
  by_cases c5 : w = nI 5
  · subst c5
    exact jv_tabIn (off := 322) 33 X dL_law_33 355 (by decide) (by decide) rfl (by decide) (law_say X S hk hL h r k0 i0 k1 i1 sn pa signs kd on pl nm w1 w2 w3 w4 w5 tr ah lw ri mv hd book week sk sight pad image isKept u hR)
  by_cases c6 : w = nI 6
  · subst c6
    exact jv_tabIn (off := 345) 33 X dL_law_33 378 (by decide) (by decide) rfl (by decide) (law_wipe X S hk hL h r k0 i0 k1 i1 sn pa signs kd on pl nm w1 w2 w3 w4 w5 tr ah lw ri mv hd book week sk sight pad image isKept u hR)
  by_cases c7 : w = nI 7
  · subst c7
    exact jv_tabIn (off := 358) 33 X dL_law_33 391 (by decide) (by decide) rfl (by decide) (law_fault X S hk hL h r k0 i0 k1 i1 sn pa signs kd on pl nm w1 w2 w3 w4 w5 tr ah lw ri mv hd book week sk sight pad image isKept u hR)
  by_cases c8 : w = nI 8
  · subst c8
    exact jv_tabIn (off := 371) 33 X dL_law_33 404 (by decide) (by decide) rfl (by decide) (law_judge X S hk hL h r k0 i0 k1 i1 sn pa signs kd on pl nm w1 w2 w3 w4 w5 tr ah lw ri mv hd book week sk sight pad image isKept u hR)
  by_cases c9 : w = nI 9
  · subst c9
    exact jv_tabIn (off := 394) 33 X dL_law_33 427 (by decide) (by decide) rfl (by decide) (law_done X S hk hL h r k0 i0 k1 i1 sn pa signs kd on pl nm w1 w2 w3 w4 w5 tr ah lw ri mv hd book week sk sight pad image isKept u hR)
  by_cases c10 : w = nI 10
  · subst c10
    exact jv_tabIn (off := 407) 33 X dL_law_33 440 (by decide) (by decide) rfl (by decide) (law_behind X S hk hL h r k0 i0 k1 i1 sn pa signs kd on pl nm w1 w2 w3 w4 w5 tr ah lw ri mv hd book week sk sight pad image isKept u hR)
  by_cases c11 : w = nI 11
  · subst c11
    exact jv_tabIn (off := 440) 33 X dL_law_33 473 (by decide) (by decide) rfl (by decide) (law_lies X S hk hL h r k0 i0 k1 i1 sn pa signs kd on pl nm w1 w2 w3 w4 w5 tr ah lw ri mv hd book week sk sight pad image isKept u hR)
  by_cases c12 : w = nI 12
  · subst c12
    exact jv_tabIn (off := 463) 33 X dL_law_33 496 (by decide) (by decide) rfl (by decide) (law_built X S hk hL h r k0 i0 k1 i1 sn pa signs kd on pl nm w1 w2 w3 w4 w5 tr ah lw ri mv hd book week sk sight pad image isKept u hR)
  by_cases c13 : w = nI 13
  · subst c13
    exact jv_tabIn (off := 496) 33 X dL_law_33 529 (by decide) (by decide) rfl (by decide) (law_then X S hk hL h r k0 i0 k1 i1 sn pa signs kd on pl nm w1 w2 w3 w4 w5 tr ah lw ri mv hd book week sk sight pad image isKept u hR)
  by_cases c14 : w = nI 14
  · subst c14
    exact jv_tabIn (off := 519) 33 X dL_law_33 552 (by decide) (by decide) rfl (by decide) (law_inches X S hk hL h r k0 i0 k1 i1 sn pa signs kd on pl nm w1 w2 w3 w4 w5 tr ah lw ri mv hd book week sk sight pad image isKept u hR)
  by_cases c15 : w = nI 15
  · subst c15
    exact jv_tabIn (off := 563) 33 X dL_law_33 596 (by decide) (by decide) rfl (by decide) (law_will X S hk hL h r k0 i0 k1 i1 sn pa signs kd on pl nm w1 w2 w3 w4 w5 tr ah lw ri mv hd book week sk sight pad image isKept u hR)
  by_cases c16 : w = nI 16
  · subst c16
    exact jv_tabIn (off := 586) 33 X dL_law_33 619 (by decide) (by decide) rfl (by decide) (law_sure X S hk hL h r k0 i0 k1 i1 sn pa signs kd on pl nm w1 w2 w3 w4 w5 tr ah lw ri mv hd book week sk sight pad image isKept u hR)
  by_cases c17 : w = nI 17
  · subst c17
    exact jv_tabIn (off := 620) 33 X dL_law_33 653 (by decide) (by decide) rfl (by decide) (law_when X S hk hL h r k0 i0 k1 i1 sn pa signs kd on pl nm w1 w2 w3 w4 w5 tr ah lw ri mv hd book week sk sight pad image isKept u hR)
  by_cases c18 : w = nI 18
  · subst c18
    exact jv_tabIn (off := 643) 33 X dL_law_33 676 (by decide) (by decide) rfl (by decide) (law_meet X S hk hL h r k0 i0 k1 i1 sn pa signs kd on pl nm w1 w2 w3 w4 w5 tr ah lw ri mv hd book week sk sight pad image isKept u hR)
  by_cases c19 : w = nI 19
  · subst c19
    exact jv_tabIn (off := 706) 33 X dL_law_33 739 (by decide) (by decide) rfl (by decide) (law_waste X S hk hL h r k0 i0 k1 i1 sn pa signs kd on pl nm w1 w2 w3 w4 w5 tr ah lw ri mv hd book week sk sight pad image isKept u hR)
  by_cases c20 : w = nI 20
  · subst c20
    exact jv_tabIn (off := 759) 33 X dL_law_33 792 (by decide) (by decide) rfl (by decide) (law_days X S hk hL h r k0 i0 k1 i1 sn pa signs kd on pl nm w1 w2 w3 w4 w5 tr ah lw ri mv hd book week sk sight pad image isKept u hR)
  by_cases c21 : w = nI 21
  · subst c21
    exact jv_tabIn (off := 802) 33 X dL_law_33 835 (by decide) (by decide) rfl (by decide) (law_seen X S hk hL h r k0 i0 k1 i1 sn pa signs kd on pl nm w1 w2 w3 w4 w5 tr ah lw ri mv hd book week sk sight pad image isKept u hR)
  by_cases c22 : w = nI 22
  · subst c22
    exact jv_tabIn (off := 835) 33 X dL_law_33 868 (by decide) (by decide) rfl (by decide) (law_forget X S hk hL h r k0 i0 k1 i1 sn pa signs kd on pl nm w1 w2 w3 w4 w5 tr ah lw ri mv hd book week sk sight pad image isKept u hR)
  by_cases c23 : w = nI 23
  · subst c23
    exact jv_tabIn (off := 848) 33 X dL_law_33 881 (by decide) (by decide) rfl (by decide) (law_fits X S hk hL h r k0 i0 k1 i1 sn pa signs kd on pl nm w1 w2 w3 w4 w5 tr ah lw ri mv hd book week sk sight pad image isKept u hR)
  by_cases c24 : w = nI 24
  · subst c24
    exact jv_tabIn (off := 871) 33 X dL_law_33 904 (by decide) (by decide) rfl (by decide) (law_ask X S hk hL h r k0 i0 k1 i1 sn pa signs kd on pl nm w1 w2 w3 w4 w5 tr ah lw ri mv hd book week sk sight pad image isKept u hR)
  by_cases c25 : w = nI 25
  · subst c25
    exact jv_tabIn (off := 894) 33 X dL_law_33 927 (by decide) (by decide) rfl (by decide) (law_settle X S hk hL h r k0 i0 k1 i1 sn pa signs kd on pl nm w1 w2 w3 w4 w5 tr ah lw ri mv hd book week sk sight pad image isKept u hR)
  by_cases c26 : w = nI 26
  · subst c26
    exact jv_tabIn (off := 927) 33 X dL_law_33 960 (by decide) (by decide) rfl (by decide) (law_settled X S hk hL h r k0 i0 k1 i1 sn pa signs kd on pl nm w1 w2 w3 w4 w5 tr ah lw ri mv hd book week sk sight pad image isKept u hR)
  by_cases c27 : w = nI 27
  · subst c27
    exact jv_tabIn (off := 940) 33 X dL_law_33 973 (by decide) (by decide) rfl (by decide) (law_halves X S hk hL h r k0 i0 k1 i1 sn pa signs kd on pl nm w1 w2 w3 w4 w5 tr ah lw ri mv hd book week sk sight pad image isKept u hR)
  by_cases c28 : w = nI 28
  · subst c28
    exact jv_tabIn (off := 983) 33 X dL_law_33 1016 (by decide) (by decide) rfl (by decide) (law_shake X S hk hL h r k0 i0 k1 i1 sn pa signs kd on pl nm w1 w2 w3 w4 w5 tr ah lw ri mv hd book week sk sight pad image isKept u hR)
  by_cases c29 : w = nI 29
  · subst c29
    exact jv_tabIn (off := 1047) 33 X dL_law_33 1080 (by decide) (by decide) rfl (by decide) (law_year X S hY hk hL h r k0 i0 k1 i1 sn pa signs kd on pl nm w1 w2 w3 w4 w5 tr ah lw ri mv hd book week sk sight pad image isKept u hR)
  by_cases c30 : w = nI 30
  · subst c30
    exact jv_tabIn (off := 1090) 33 X dL_law_33 1123 (by decide) (by decide) rfl (by decide) (law_image X S hk hL h r k0 i0 k1 i1 sn pa signs kd on pl nm w1 w2 w3 w4 w5 tr ah lw ri mv hd book week sk sight pad image isKept u hR)
  by_cases c31 : w = nI 31
  · subst c31
    exact jv_tabIn (off := 1113) 33 X dL_law_33 1146 (by decide) (by decide) rfl (by decide) (law_restore X S hk hL h r k0 i0 k1 i1 sn pa signs kd on pl nm w1 w2 w3 w4 w5 tr ah lw ri mv hd book week sk sight pad image isKept u hR)
  by_cases c32 : w = nI 32
  · subst c32
    exact jv_tabIn (off := 1136) 33 X dL_law_33 1169 (by decide) (by decide) rfl (by decide) (law_told X S hk hL h r k0 i0 k1 i1 sn pa signs kd on pl nm w1 w2 w3 w4 w5 tr ah lw ri mv hd book week sk sight pad image isKept u hR)
  refine jv_tabOut 33 X dL_law_33 1192 (tab_out 32 (fun j hj => ?_)) (by decide) (h r k0 i0 k1 i1 sn pa signs kd on pl nm w1 w2 w3 w4 w5 tr ah lw ri mv hd book week sk sight pad image isKept u hR)
  rcases (by omega : j = 0 ∨ j = 1 ∨ j = 2 ∨ j = 3 ∨ j = 4 ∨ j = 5 ∨ j = 6 ∨ j = 7 ∨ j = 8 ∨ j = 9 ∨ j = 10 ∨ j = 11 ∨ j = 12 ∨ j = 13 ∨ j = 14 ∨ j = 15 ∨ j = 16 ∨ j = 17 ∨ j = 18 ∨ j = 19 ∨ j = 20 ∨ j = 21 ∨ j = 22 ∨ j = 23 ∨ j = 24 ∨ j = 25 ∨ j = 26 ∨ j = 27 ∨ j = 28 ∨ j = 29 ∨ j = 30 ∨ j = 31 ∨ j = 32) with z | z | z | z | z | z | z | z | z | z | z | z | z | z | z | z | z | z | z | z | z | z | z | z | z | z | z | z | z | z | z | z | z
  · rw [z]; exact c0
  · rw [z]; exact c1
  · rw [z]; exact c2
  · rw [z]; exact c3
  · rw [z]; exact c4
  · rw [z]; exact c5
  · rw [z]; exact c6
  · rw [z]; exact c7
  · rw [z]; exact c8
  · rw [z]; exact c9
  · rw [z]; exact c10
  · rw [z]; exact c11
  · rw [z]; exact c12
  · rw [z]; exact c13
  · rw [z]; exact c14
  · rw [z]; exact c15
  · rw [z]; exact c16
  · rw [z]; exact c17
  · rw [z]; exact c18
  · rw [z]; exact c19
  · rw [z]; exact c20
  · rw [z]; exact c21
  · rw [z]; exact c22
  · rw [z]; exact c23
  · rw [z]; exact c24
  · rw [z]; exact c25
  · rw [z]; exact c26
  · rw [z]; exact c27
  · rw [z]; exact c28
  · rw [z]; exact c29
  · rw [z]; exact c30
  · rw [z]; exact c31
  · rw [z]; exact c32
theorem law_loop {E : EE} {K : Ctx} {b L : Nat} {xs : Nat → Int32} {g : Nat → Nat → Nat} {a : Nat → Nat} (X : CX E K cL_law 4 RL room_1) (S : SC K b L xs) {yk : Nat} (hY : YK K yk) (hL : L ≤ 384) (hend : ∀ (ws : va_W) (lv : List (Nat × Value)), JV E K 85 5993 ws lv 1199 [.int 1]) : ∀ (n k : Nat), 6 * k ≤ L + 6 → L + 6 ≤ 6 * k + n → LawP E K b g a 18 k := by
  intro n
  induction n with
  | zero =>
    intro k h1 h2
    intro r k0 i0 k1 i1 sn pa signs kd on pl nm w1 w2 w3 w4 w5 tr ah lw ri mv hd book week sk sight pad image isKept u hR
    refine jv_iload_n 18 X dL_law_18 3 rfl ?_
    refine jv_aload_n 19 X dL_law_19 0 rfl ?_
    refine jv_slen 20 X S dL_law_20 ?_
    refine jv_bipush (v := 6) 21 X dL_law_21 (by decide) ?_
    refine jv_isub 23 X dL_law_23 ?_
    refine jn_icmp_gt 24 X dL_law_24 1198 (by decide) (fun _ => ?_) (fun c => absurd ((law_cmp (by omega) hL).mp c) (by omega))
    exact jv_iconst (v := 1) 1198 X dL_law_1198 rfl (hend _ _)
  | succ n ih =>
    intro k h1 h2
    intro r k0 i0 k1 i1 sn pa signs kd on pl nm w1 w2 w3 w4 w5 tr ah lw ri mv hd book week sk sight pad image isKept u hR
    refine jv_iload_n 18 X dL_law_18 3 rfl ?_
    refine jv_aload_n 19 X dL_law_19 0 rfl ?_
    refine jv_slen 20 X S dL_law_20 ?_
    refine jv_bipush (v := 6) 21 X dL_law_21 (by decide) ?_
    refine jv_isub 23 X dL_law_23 ?_
    refine jn_icmp_gt 24 X dL_law_24 1198 (by decide) (fun _ => ?_) (fun c => ?_)
    · exact jv_iconst (v := 1) 1198 X dL_law_1198 rfl (hend _ _)
    · have hk := (law_cmp (by omega) hL).mp c
      exact law_step X S hY hk hL (law_next X (ih (k + 1) (by omega) (by omega))) r k0 i0 k1 i1 sn pa signs kd on pl nm w1 w2 w3 w4 w5 tr ah lw ri mv hd book week sk sight pad image isKept u hR
abbrev rl0 : Rl := (60, 0, 0, (fun _ => 0), (fun _ => 100), (fun _ => 0), (fun _ => 0), (fun _ => 0), (fun _ => 600), (fun _ => 0), (fun _ => 0), (fun _ => 0), (fun _ => 0))
theorem rr_0 : RR rl0 bk0 (fun _ => 0) (fun _ => 0) 0 := by
  refine ⟨⟨fun o ho => ?_, fun s hs => ?_, fun b hb => ?_, rfl, rfl, fun d _ => rfl⟩, ⟨rfl, by omega, fun i _ => ⟨rfl, rfl⟩, fun i hi => absurd hi (Nat.not_lt_zero _)⟩, inOK_of (j := 60) rfl (by decide) (by decide), ⟨rfl, by decide⟩, fun o _ => Or.inl rfl, fun s _ => ⟨rfl, show (0 : Int32).toNatClampNeg ≤ 1800 by decide⟩⟩
  · refine ⟨?_, ?_, ?_⟩
    · show (100 : Int32) = bk0 o
      unfold bk0; rw [if_pos ho]
    · show (0 : Int32) = bk0 (6 + o)
      unfold bk0; rw [if_neg (by omega), if_neg (by omega), if_neg (by omega)]
    · show (0 : Int32) = bk0 (12 + o)
      unfold bk0; rw [if_neg (by omega), if_neg (by omega), if_neg (by omega)]
  · show (0 : Int32) = bk0 (18 + s)
    unfold bk0; rw [if_neg (by omega), if_neg (by omega), if_neg (by omega)]
  · refine ⟨?_, ?_, ?_⟩
    · show (600 : Int32) = bk0 (34 + b)
      unfold bk0; rw [if_neg (by omega), if_pos (by omega)]
    · show (0 : Int32) = bk0 (26 + b)
      unfold bk0; rw [if_neg (by omega), if_neg (by omega), if_neg (by omega)]
    · show (0 : Int32) = bk0 (30 + b)
      unfold bk0; rw [if_neg (by omega), if_neg (by omega), if_neg (by omega)]
theorem rel_0 : REL rl0 0 rl0 0 rl0 0 (fun _ => 0) bk0 (fun _ => 0) 0 (fun _ => 0) (fun _ => 0) (fun _ => 0) (fun _ => 0) := ⟨rr_0, ⟨by omega, fun j hj => absurd hj (Nat.not_lt_zero _)⟩, ⟨rfl, rfl⟩, Or.inl rfl, Or.inl rfl⟩
theorem wB_sn (l : List va_W) (m : va_W) : wB l ++ m = wB (l ++ [m]) := by
  unfold wB
  rw [List.flatten_append]
  show _ = _ ++ (m ++ [])
  rw [List.append_nil]
abbrev scr0 : ScrM := ((fun _ => 0), 0, 0, 0, 0, 0, (fun _ => 0), (fun _ => 0), (fun _ => 0), (fun _ => 0), (fun _ => 0), (fun _ => 0), (fun _ => 0), (fun _ => 0))
set_option maxRecDepth 100000 in
set_option maxHeartbeats 4000000 in
theorem law_entry {E : EE} {K : Ctx} {b L : Nat} {xs : Nat → Int32} (X : CX E K cL_law 4 RL room_1) (S : SC K b L xs) {yk : Nat} (hY : YK K yk) (hL : L ≤ 384) (hend : ∀ (ws : va_W) (lv : List (Nat × Value)), JV E K 85 5993 ws lv 1199 [.int 1]) : JV E K 0 0 [] [(0, .ref b)] 0 [] := by
  refine jv_new 0 X wk_L_7 tyX9_ok dL_law_0 (fs := [.null, .null, .null, .null, .null, .null, .null, .null, .null, .null]) (by decide +kernel) ⟨by decide +kernel, by decide +kernel⟩ (fun q => ?_)
  refine jv_dup 3 X dL_law_3 rfl ?_
  refine jv_callI 4 X (c_X9_init E _ q) wi_L_9 ⟨Nat.le_of_ble_eq_true rfl, Nat.le_of_ble_eq_true rfl⟩ ⟨by decide +kernel, by decide +kernel⟩ dL_law_4 (Nat.le_of_ble_eq_true rfl) (fun v => ?_)
  refine jv_astore_n (lv2 := [(1, .ref q), (0, .ref b)]) 7 X dL_law_7 (by decide) rfl ?_
  refine jv_new 8 X wk_L_10 tyX10_ok dL_law_8 (fs := [.null, .null, .null, .int 0, .null, .int 0, .null, .int 0, .int 0, .int 0, .int 0, .int 0, .null, .null, .null, .null, .null, .null, .null, .null, .null, .null]) (by decide +kernel) ⟨by decide +kernel, by decide +kernel⟩ (fun q2 => ?_)
  refine jv_dup 11 X dL_law_11 rfl ?_
  refine jv_callI 12 X (c_X10_init E _ q2) wi_L_12 ⟨Nat.le_of_ble_eq_true rfl, Nat.le_of_ble_eq_true rfl⟩ ⟨by decide +kernel, by decide +kernel⟩ dL_law_12 (Nat.le_of_ble_eq_true rfl) (fun z => ?_)
  refine jv_astore_n (lv2 := [(2, .ref q2), (1, .ref q), (0, .ref b)]) 15 X dL_law_15 (by decide) rfl ?_
  refine jv_iconst (v := 0) 16 X dL_law_16 rfl ?_
  refine jv_istore_n (lv2 := [(3, .int 0), (2, .ref q2), (1, .ref q), (0, .ref b)]) 17 X dL_law_17 (by decide) rfl ?_
  refine jv_lv (lv' := [(0, .ref b), (1, .ref ((gL ([q] :: v)) 0 0)), (2, .ref ((adr (q2 :: z)) 0)), (3, .int (nI (6 * 0)))]) [3, 2, 1, 0] rfl ?_
  rw [List.nil_append, wB_sn]
  exact law_loop (g := (gL ([q] :: v))) (a := (adr (q2 :: z))) X S hY hL hend (L + 6) 0 (by omega) (by omega) rl0 0 rl0 0 rl0 0 0 (fun _ => 0) (fun _ => 0) (fun _ => 0) (fun _ => 0) (fun _ => 0) 0 0 0 0 0 rl0 ((fun _ => 0), (fun _ => 0), 0, 0) ((fun _ => 0), (fun _ => 0), (fun _ => 0)) ((fun _ => 0), (fun _ => 0)) (fun _ => 0) ((fun _ => 0), (fun _ => 0)) bk0 (fun _ => 0) 0 (fun _ => 0) (fun _ => 0) (fun _ => 0) (fun _ => 0) scr0 rel_0
