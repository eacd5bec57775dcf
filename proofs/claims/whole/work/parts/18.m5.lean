def f_oneAct (pad now : Nat → Int32) (p k : Nat) : Int32 × Nat × (Nat → Int32) := if pad (p + 1) = 61 then ((f_copy now k).1, p + 2, (f_copy now k).2) else if pad (p + 1) = 120 then ((f_lay now k).1, p + 2, (f_lay now k).2) else if pad (p + 1) = 43 then ((f_buy now k (pad (p + 2) - 48)).1, p + 3, (f_buy now k (pad (p + 2) - 48)).2) else if pad (p + 1) = 45 then ((f_sell now k (pad (p + 2) - 48)).1, p + 3, (f_sell now k (pad (p + 2) - 48)).2) else if pad (p + 1) = 47 then (0, p + 4, upd now (18 + plc pad p) ((pad (p + 3) - 48) * msM now k)) else ((f_build now k (plc pad p) (if pad (p + 1) = 40 then 26 else 30) (pad (p + 3) - 48)).1, p + 4, (f_build now k (plc pad p) (if pad (p + 1) = 40 then 26 else 30) (pad (p + 3) - 48)).2)
def f_act (pad week now : Nat → Int32) (p : Nat) : Int32 × Nat × (Nat → Int32) := if pad p = 46 then ((f_endDay now week (now 39).toNatClampNeg).1, p + 1, (f_endDay now week (now 39).toNatClampNeg).2) else if pad p = 60 then ((f_change now (-(pad (p + 1) - 48))).1, p + 2, (f_change now (-(pad (p + 1) - 48))).2) else if pad p = 62 then ((f_change now (pad (p + 1) - 48)).1, p + 2, (f_change now (pad (p + 1) - 48)).2) else f_oneAct pad now p (pad p - 65).toNatClampNeg
def fstM (fr ma mw : Int32) (c : Nat) : Int32 × Int32 := if 0 ≤ ma then (ma, mw) else if ((fr : Int32) >>> ((0 : Int32) &&& 31)) &&& 1 = 1 then (nI c, 0) else if ((fr : Int32) >>> ((1 : Int32) &&& 31)) &&& 1 = 1 then (nI c, 1) else if ((fr : Int32) >>> ((2 : Int32) &&& 31)) &&& 1 = 1 then (nI c, 2) else if ((fr : Int32) >>> ((3 : Int32) &&& 31)) &&& 1 = 1 then (nI c, 3) else (ma, mw)
def goM (pad week : Nat → Int32) (sg : Nat) : Nat → Nat → Nat → (Nat → Int32) → Int32 → Int32 → Int32 → Int32 × Nat × Nat × (Nat → Int32) × Int32 × Int32 × Int32
  | 0, p, c, now, ma, mw, rs => (-6, p, c, now, ma, mw, rs)
  | n + 1, p, c, now, ma, mw, rs => if sg ≤ p then (-6, p, c, now, ma, mw, rs) else if (f_act pad week now p).1 ≤ 0 then goM pad week sg n (f_act pad week now p).2.1 (c + 1) (f_act pad week now p).2.2 (fstM (metS (f_act pad week now p).2.2 &&& (metS now ^^^ (-1))) ma mw c).1 (fstM (metS (f_act pad week now p).2.2 &&& (metS now ^^^ (-1))) ma mw c).2 (f_act pad week now p).1 else (nI c, (f_act pad week now p).2.1, c, (f_act pad week now p).2.2, ma, mw, (f_act pad week now p).1)
def gwM (pad week book : Nat → Int32) (sg : Nat) (rs : Int32) : Int32 × Nat × Nat × (Nat → Int32) × Int32 × Int32 × Int32 := goM pad week sg (sg + 1) 0 0 book (-6) (-6) rs
theorem goM_s {pad week : Nat → Int32} {sg n p c p2 : Nat} {now nw : Nat → Int32} {ma mw rs r ma2 mw2 : Int32} (h1 : ¬ sg ≤ p) (hf : f_act pad week now p = (r, p2, nw)) (h2 : r ≤ 0) (h3 : fstM (metS nw &&& (metS now ^^^ (-1))) ma mw c = (ma2, mw2)) : goM pad week sg (n + 1) p c now ma mw rs = goM pad week sg n p2 (c + 1) nw ma2 mw2 r := by
  simp only [goM, hf, h3, if_neg h1, if_pos h2]
theorem goM_r {pad week : Nat → Int32} {sg n p c p2 : Nat} {now nw : Nat → Int32} {ma mw rs r : Int32} (h1 : ¬ sg ≤ p) (hf : f_act pad week now p = (r, p2, nw)) (h2 : ¬ r ≤ 0) : goM pad week sg (n + 1) p c now ma mw rs = (nI c, p2, c, nw, ma, mw, r) := by
  simp only [goM, hf, if_neg h1, if_neg h2]
theorem goM_e {pad week : Nat → Int32} {sg n p c : Nat} {now : Nat → Int32} {ma mw rs : Int32} (h1 : sg ≤ p) : goM pad week sg (n + 1) p c now ma mw rs = (-6, p, c, now, ma, mw, rs) := by
  simp only [goM, if_pos h1]
def dyOK (now : Nat → Int32) : Prop := now 39 = nI (now 39).toNatClampNeg ∧ (now 39).toNatClampNeg ≤ 999
theorem dyOK_of {now : Nat → Int32} {d : Nat} (h : now 39 = nI d) (hd : d ≤ 999) : dyOK now := by
  have e : (now 39).toNatClampNeg = d := by rw [h]; exact nI_clamp (by omega)
  exact ⟨by rw [e]; exact h, by rw [e]; exact hd⟩
theorem dyOK_c {now nw : Nat → Int32} (h : dyOK now) (e : nw 39 = now 39) : dyOK nw := by unfold dyOK; rw [e]; exact h
theorem dy_buy {now : Nat → Int32} {k : Nat} {n : Int32} (h : dyOK now) (hk : k < 6) : dyOK (f_buy now k n).2 := by
  unfold f_buy; split
  · exact h
  · split
    · exact h
    · exact dyOK_c h (by show upd _ _ _ 39 = _; rw [pk_un (by omega), pk_un (by omega)])
theorem dy_sell {now : Nat → Int32} {k : Nat} {n : Int32} (h : dyOK now) (hk : k < 6) : dyOK (f_sell now k n).2 := by
  unfold f_sell; split
  · exact h
  · split
    · exact h
    · exact dyOK_c h (by show upd _ _ _ 39 = _; rw [pk_un (by omega), pk_un (by omega)])
theorem dy_build {now : Nat → Int32} {k b e : Nat} {n : Int32} (h : dyOK now) (hb : b < 4) (he : e = 26 ∨ e = 30) : dyOK (f_build now k b e n).2 := by
  unfold f_build; split
  · exact h
  · exact dyOK_c h (by show upd _ _ _ 39 = _; rw [pk_un (by omega)])
theorem dy_change {now : Nat → Int32} {m : Int32} (h : dyOK now) : dyOK (f_change now m).2 := by
  by_cases e : now 38 = (if 0 ≤ m then 200 else 1)
  · rw [f_change, if_pos e]; exact h
  · rw [f_change, if_neg e]; exact dyOK_c h (by dsimp only; rw [pk_un (by omega)])
theorem dy_copy {now : Nat → Int32} {k : Nat} (h : dyOK now) (hk : k < 6) : dyOK (f_copy now k).2 := by
  unfold f_copy; split
  · exact h
  · exact dyOK_c h (by show upd _ _ _ 39 = _; rw [pk_un (by omega)])
theorem dy_lay {now : Nat → Int32} {k : Nat} (h : dyOK now) (hk : k < 6) : dyOK (f_lay now k).2 := by
  unfold f_lay; split
  · exact h
  · exact dyOK_c h (by show upd _ _ _ 39 = _; rw [pk_un (by omega)])
theorem dy_endDay {now week : Nat → Int32} {d : Nat} (h : dyOK now) : dyOK (f_endDay now week d).2 := by
  unfold f_endDay; split
  · exact h
  · rename_i hne
    have h1 : (now 39).toNatClampNeg ≠ 999 := fun e => hne (by rw [h.1, e]; rfl)
    refine dyOK_of (d := (now 39).toNatClampNeg + 1) ?_ (by have := h.2; omega)
    dsimp only
    rw [pk_us, ← nI_1, ← h.1]
theorem dy_oneAct {pad now : Nat → Int32} {p k : Nat} (h : dyOK now) (hk : k < 6) (hA : okA pad p) : dyOK (f_oneAct pad now p k).2.2 := by
  unfold f_oneAct
  split
  · exact dy_copy h hk
  split
  · exact dy_lay h hk
  split
  · exact dy_buy h hk
  split
  · exact dy_sell h hk
  split
  · rename_i h5
    exact dyOK_c h (by show upd _ _ _ 39 = _; rw [pk_un (by have := (okA_c hA h5).2.2; omega)])
  · rename_i h1 h2 h3 h4 h5
    exact dy_build h (okA_d hA h1 h2 h3 h4 h5).2.2 (by split <;> simp)
theorem WF_act {pad week now : Nat → Int32} {sg p : Nat} (h : WF pad sg p) (hlt : p < sg) (hs : sg ≤ 60) (hd : dyOK now) : WF pad sg (f_act pad week now p).2.1 ∧ p < (f_act pad week now p).2.1 ∧ dyOK (f_act pad week now p).2.2 := by
  unfold f_act
  split
  · rename_i h1
    refine ⟨?_, by simp, dy_endDay hd⟩
    rcases WF_tok h hlt with ⟨_, q⟩ | ⟨q, _⟩ | ⟨q, _⟩
    · exact q
    · rw [h1] at q; simp at q
    · rw [h1] at q; exact absurd q.1 (by decide)
  rename_i h1
  split
  · rename_i h2
    refine ⟨?_, by simp, dy_change hd⟩
    rcases WF_tok h hlt with ⟨q, _⟩ | ⟨_, _, _, q⟩ | ⟨q, _⟩
    · exact absurd q h1
    · exact q
    · rw [h2] at q; exact absurd q.1 (by decide)
  rename_i h2
  split
  · rename_i h3
    refine ⟨?_, by simp, dy_change hd⟩
    rcases WF_tok h hlt with ⟨q, _⟩ | ⟨_, _, _, q⟩ | ⟨q, _⟩
    · exact absurd q h1
    · exact q
    · rw [h3] at q; exact absurd q.1 (by decide)
  rename_i h3
  obtain ⟨hA, hp⟩ := WF_A h hlt hs h1 h2 h3
  have hk := (dig_nI (lo := 65) (hi := 70) (a := 65) (b := 70) rfl rfl (by decide) (by decide) hp).2
  refine ⟨?_, ?_, dy_oneAct hd (by omega) hA⟩
  · rcases WF_tok h hlt with ⟨q, _⟩ | ⟨q, _⟩ | ⟨_, _, q⟩
    · exact absurd q h1
    · rcases q with q | q <;> contradiction
    · unfold f_oneAct
      rcases q with ⟨q, w⟩ | ⟨q, _, _, w⟩ | ⟨q, _, _, _, w⟩ | ⟨q, _, _, _, w⟩
      · rcases q with q | q <;> simp [q] <;> exact w
      · rcases q with q | q <;> simp [q] <;> exact w
      · simp [q]; exact w
      · rcases q with q | q <;> simp [q] <;> exact w
  · unfold f_oneAct
    (repeat' split) <;> simp
theorem c_X10_oneAct (E : EE) (l : Launch) (a : Nat → Nat) (book : Nat → Int32) (now : Nat → Int32) (week : Nat → Int32) (sights : Int32) (sight : Nat → Int32) (signs : Int32) (pad : Nat → Int32) (metAt : Int32) (metWho : Int32) (reason : Int32) (acts : Int32) (p : Nat) (will : Nat → Int32) (fitting : Nat → Int32) (counts : Nat → Int32) (ring : Nat → Int32) (nxt : Nat → Int32) (wins : Nat → Int32) (ways : Nat → Int64) (nextWays : Nat → Int64) (image : Nat → Int32) (isKept : Nat → Int32) (k : Nat) (hk : k < 6) (hA : okA pad p) : CT E l yX10_oneAct cX10_oneAct 3 (some .int) { frames := 2, cells := 0, slots := 0, locals := 45 } [.ref (a 0), .int (nI k)] (bMd E a book now week sights sight signs pad metAt metWho reason acts (nI p) will fitting counts ring nxt wins ways nextWays image isKept) (some (.int ((f_oneAct pad now p k).1))) (bMd E a book ((f_oneAct pad now p k).2.2) week sights sight signs pad metAt metWho reason acts (nI (f_oneAct pad now p k).2.1) will fitting counts ring nxt wins ways nextWays image isKept) := by
  have hA1 := hA.1
  refine CT.intro (by decide) (Nat.le_of_ble_eq_true rfl) (fun K X Y => ?_)
  refine jv_aload_n 0 X dX10_oneAct_0 0 rfl ?_
  refine jv_get (v := .ref (a 5)) 1 X gf_X10_22 dX10_oneAct_1 0 rfl rfl ?_
  refine jv_aload_n 4 X dX10_oneAct_4 0 rfl ?_
  refine jv_get (v := .int (nI p)) 5 X gf_X10_100 dX10_oneAct_5 0 rfl rfl ?_
  refine jv_iconst (v := 1) 8 X dX10_oneAct_8 rfl ?_
  refine jv_iadd 9 X dX10_oneAct_9 ?_
  refine jv_norm (x2 := nI (p + 1)) (nx_add2 (a := p) (b := 1) rfl rfl (by omega)) ?_
  refine jv_iald (f := pad) 10 X dX10_oneAct_10 5 rfl (by decide) (p + 1) rfl (by omega) ?_
  refine jv_istore_n (lv2 := [(2, .int (pad (p + 1))), (0, .ref (a 0)), (1, .int (nI k))]) 11 X dX10_oneAct_11 (by decide) rfl ?_
  refine jv_iload_n 12 X dX10_oneAct_12 0 rfl ?_
  refine jv_bipush (v := 61) 13 X dX10_oneAct_13 (by decide) ?_
  refine jn_icmp_eq 15 X dX10_oneAct_15 24 (by decide) (fun c_1 => ?_) (fun c_1 => ?_)
  · refine jv_aload_n 24 X dX10_oneAct_24 1 rfl ?_
    refine jv_dup 25 X dX10_oneAct_25 rfl ?_
    refine jv_get (v := .int (nI p)) 26 X gf_X10_100 dX10_oneAct_26 0 rfl rfl ?_
    refine jv_iconst (v := 2) 29 X dX10_oneAct_29 rfl ?_
    refine jv_iadd 30 X dX10_oneAct_30 ?_
    refine jv_norm (x2 := nI (p + 2)) (nx_add2 (a := p) (b := 2) rfl rfl (by omega)) ?_
    refine jv_puti (ws2 := bMd E a book now week sights sight signs pad metAt metWho reason acts (nI (p + 2)) will fitting counts ring nxt wins ways nextWays image isKept) 31 X gf_X10_100 tyX10_ok nmX10 rfl rfl dX10_oneAct_31 0 rfl (Nat.le_of_ble_eq_true rfl) rfl ?_
    refine jv_iload_n 34 X dX10_oneAct_34 0 rfl ?_
    refine jv_bipush (v := 61) 35 X dX10_oneAct_35 (by decide) ?_
    refine jn_icmp_ne 37 X dX10_oneAct_37 48 (by decide) (fun c_2 => absurd c_1 c_2) (fun _ => ?_)
    refine jv_aload_n 40 X dX10_oneAct_40 1 rfl ?_
    refine jv_iload_n 41 X dX10_oneAct_41 2 rfl ?_
    refine jv_callW (w1 := bMd E a book ((f_copy now k).2) week sights sight signs pad metAt metWho reason acts (nI (p + 2)) will fitting counts ring nxt wins ways nextWays image isKept) 42 X (c_X10_copy E _ a book now week sights sight signs pad metAt metWho reason acts (nI (p + 2)) will fitting counts ring nxt wins ways nextWays image isKept k (by omega)) wv_X10_103 ⟨Nat.le_of_ble_eq_true rfl, Nat.le_of_ble_eq_true rfl⟩ ⟨rfl, rfl⟩ ⟨Nat.zero_le _, Nat.zero_le _⟩ dX10_oneAct_42 rfl [] rfl (Nat.le_of_ble_eq_true rfl) 0 rfl rfl ?_
    refine jv_goto 45 X dX10_oneAct_45 53 (by decide) ?_
    have hq : f_oneAct pad now p k = (((f_copy now k).1), (p + 2), (f_copy now k).2) := by simp [f_oneAct, lt_nle, -Int32.not_le, c_1]
    exact jv_iret 53 X Y rfl dX10_oneAct_53 () (by rw [hq]; try rfl) (by rw [hq]; try rfl)
  · refine jv_iload_n 18 X dX10_oneAct_18 0 rfl ?_
    refine jv_bipush (v := 120) 19 X dX10_oneAct_19 (by decide) ?_
    refine jn_icmp_ne 21 X dX10_oneAct_21 54 (by decide) (fun c_3 => ?_) (fun c_3 => ?_)
    · refine jv_iload_n 54 X dX10_oneAct_54 0 rfl ?_
      refine jv_bipush (v := 43) 55 X dX10_oneAct_55 (by decide) ?_
      refine jn_icmp_eq 57 X dX10_oneAct_57 66 (by decide) (fun c_4 => ?_) (fun c_4 => ?_)
      · have hA3 : p + 2 < 60 := okA_b hA (by first | exact Or.inl (by assumption) | exact Or.inr (by assumption))
        refine jv_aload_n 66 X dX10_oneAct_66 1 rfl ?_
        refine jv_dup 67 X dX10_oneAct_67 rfl ?_
        refine jv_get (v := .int (nI p)) 68 X gf_X10_100 dX10_oneAct_68 0 rfl rfl ?_
        refine jv_iconst (v := 3) 71 X dX10_oneAct_71 rfl ?_
        refine jv_iadd 72 X dX10_oneAct_72 ?_
        refine jv_norm (x2 := nI (p + 3)) (nx_add2 (a := p) (b := 3) rfl rfl (by omega)) ?_
        refine jv_puti (ws2 := bMd E a book now week sights sight signs pad metAt metWho reason acts (nI (p + 3)) will fitting counts ring nxt wins ways nextWays image isKept) 73 X gf_X10_100 tyX10_ok nmX10 rfl rfl dX10_oneAct_73 0 rfl (Nat.le_of_ble_eq_true rfl) rfl ?_
        refine jv_iload_n 76 X dX10_oneAct_76 0 rfl ?_
        refine jv_bipush (v := 43) 77 X dX10_oneAct_77 (by decide) ?_
        refine jn_icmp_ne 79 X dX10_oneAct_79 100 (by decide) (fun c_5 => absurd c_4 c_5) (fun _ => ?_)
        refine jv_aload_n 82 X dX10_oneAct_82 1 rfl ?_
        refine jv_iload_n 83 X dX10_oneAct_83 2 rfl ?_
        refine jv_aload_n 84 X dX10_oneAct_84 1 rfl ?_
        refine jv_aload_n 85 X dX10_oneAct_85 1 rfl ?_
        refine jv_get (v := .int (nI (p + 3))) 86 X gf_X10_100 dX10_oneAct_86 0 rfl rfl ?_
        refine jv_iconst (v := 1) 89 X dX10_oneAct_89 rfl ?_
        refine jv_isub 90 X dX10_oneAct_90 ?_
        refine jv_norm (x2 := nI (p + 2)) (nx_sub2 (a := (p + 3)) (b := 1) rfl rfl (by omega)) ?_
        refine jv_callW (w1 := bMd E a book now week sights sight signs pad metAt metWho reason acts (nI (p + 3)) will fitting counts ring nxt wins ways nextWays image isKept) 91 X (c_X10_numberAt E _ a book now week sights sight signs pad metAt metWho reason acts (nI (p + 3)) will fitting counts ring nxt wins ways nextWays image isKept (p + 2) (by omega)) wv_X10_109 ⟨Nat.le_of_ble_eq_true rfl, Nat.le_of_ble_eq_true rfl⟩ ⟨rfl, rfl⟩ ⟨Nat.zero_le _, Nat.zero_le _⟩ dX10_oneAct_91 rfl [.int (nI k), .ref (a 0)] rfl (Nat.le_of_ble_eq_true rfl) 0 rfl rfl ?_
        refine jv_callW (w1 := bMd E a book ((f_buy now k (pad (p + 2) - 48)).2) week sights sight signs pad metAt metWho reason acts (nI (p + 3)) will fitting counts ring nxt wins ways nextWays image isKept) 94 X (c_X10_buy E _ a book now week sights sight signs pad metAt metWho reason acts (nI (p + 3)) will fitting counts ring nxt wins ways nextWays image isKept k (pad (p + 2) - 48) (by omega)) wv_X10_112 ⟨Nat.le_of_ble_eq_true rfl, Nat.le_of_ble_eq_true rfl⟩ ⟨rfl, rfl⟩ ⟨Nat.zero_le _, Nat.zero_le _⟩ dX10_oneAct_94 rfl [] rfl (Nat.le_of_ble_eq_true rfl) 0 rfl rfl ?_
        refine jv_goto 97 X dX10_oneAct_97 115 (by decide) ?_
        have hq : f_oneAct pad now p k = (((f_buy now k (pad (p + 2) - 48)).1), (p + 3), (f_buy now k (pad (p + 2) - 48)).2) := by simp [f_oneAct, lt_nle, -Int32.not_le, c_1, c_3, c_4]
        exact jv_iret 115 X Y rfl dX10_oneAct_115 () (by rw [hq]; try rfl) (by rw [hq]; try rfl)
      · refine jv_iload_n 60 X dX10_oneAct_60 0 rfl ?_
        refine jv_bipush (v := 45) 61 X dX10_oneAct_61 (by decide) ?_
        refine jn_icmp_ne 63 X dX10_oneAct_63 116 (by decide) (fun c_6 => ?_) (fun c_6 => ?_)
        · refine jv_aload_n 116 X dX10_oneAct_116 1 rfl ?_
          refine jv_dup 117 X dX10_oneAct_117 rfl ?_
          refine jv_get (v := .int (nI p)) 118 X gf_X10_100 dX10_oneAct_118 0 rfl rfl ?_
          refine jv_iconst (v := 4) 121 X dX10_oneAct_121 rfl ?_
          refine jv_iadd 122 X dX10_oneAct_122 ?_
          refine jv_norm (x2 := nI (p + 4)) (nx_add2 (a := p) (b := 4) rfl rfl (by omega)) ?_
          refine jv_puti (ws2 := bMd E a book now week sights sight signs pad metAt metWho reason acts (nI (p + 4)) will fitting counts ring nxt wins ways nextWays image isKept) 123 X gf_X10_100 tyX10_ok nmX10 rfl rfl dX10_oneAct_123 0 rfl (Nat.le_of_ble_eq_true rfl) rfl ?_
          refine jv_iload_n 126 X dX10_oneAct_126 0 rfl ?_
          refine jv_bipush (v := 47) 127 X dX10_oneAct_127 (by decide) ?_
          refine jn_icmp_ne 129 X dX10_oneAct_129 168 (by decide) (fun c_7 => ?_) (fun c_7 => ?_)
          · obtain ⟨hA3, hA4, hA5⟩ := okA_d hA (by assumption) (by assumption) (by assumption) (by assumption) (by assumption)
            refine jv_aload_n 168 X dX10_oneAct_168 1 rfl ?_
            refine jv_iload_n 169 X dX10_oneAct_169 2 rfl ?_
            refine jv_aload_n 170 X dX10_oneAct_170 1 rfl ?_
            refine jv_aload_n 171 X dX10_oneAct_171 1 rfl ?_
            refine jv_get (v := .int (nI (p + 4))) 172 X gf_X10_100 dX10_oneAct_172 0 rfl rfl ?_
            refine jv_iconst (v := 2) 175 X dX10_oneAct_175 rfl ?_
            refine jv_isub 176 X dX10_oneAct_176 ?_
            refine jv_norm (x2 := nI (p + 2)) (nx_sub2 (a := (p + 4)) (b := 2) rfl rfl (by omega)) ?_
            refine jv_callW (w1 := bMd E a book now week sights sight signs pad metAt metWho reason acts (nI (p + 4)) will fitting counts ring nxt wins ways nextWays image isKept) 177 X (c_X10_numberAt E _ a book now week sights sight signs pad metAt metWho reason acts (nI (p + 4)) will fitting counts ring nxt wins ways nextWays image isKept (p + 2) (by omega)) wv_X10_109 ⟨Nat.le_of_ble_eq_true rfl, Nat.le_of_ble_eq_true rfl⟩ ⟨rfl, rfl⟩ ⟨Nat.zero_le _, Nat.zero_le _⟩ dX10_oneAct_177 rfl [.int (nI k), .ref (a 0)] rfl (Nat.le_of_ble_eq_true rfl) 0 rfl rfl ?_
            refine jv_norm (x2 := nI (plc pad p)) hA4 ?_
            refine jv_iload_n 180 X dX10_oneAct_180 0 rfl ?_
            refine jv_bipush (v := 40) 181 X dX10_oneAct_181 (by decide) ?_
            refine jn_icmp_ne 183 X dX10_oneAct_183 191 (by decide) (fun c_8 => ?_) (fun c_8 => ?_)
            · refine jv_bipush (v := 30) 191 X dX10_oneAct_191 (by decide) ?_
              refine jv_aload_n 193 X dX10_oneAct_193 1 rfl ?_
              refine jv_aload_n 194 X dX10_oneAct_194 1 rfl ?_
              refine jv_get (v := .int (nI (p + 4))) 195 X gf_X10_100 dX10_oneAct_195 0 rfl rfl ?_
              refine jv_iconst (v := 1) 198 X dX10_oneAct_198 rfl ?_
              refine jv_isub 199 X dX10_oneAct_199 ?_
              refine jv_norm (x2 := nI (p + 3)) (nx_sub2 (a := (p + 4)) (b := 1) rfl rfl (by omega)) ?_
              refine jv_callW (w1 := bMd E a book now week sights sight signs pad metAt metWho reason acts (nI (p + 4)) will fitting counts ring nxt wins ways nextWays image isKept) 200 X (c_X10_numberAt E _ a book now week sights sight signs pad metAt metWho reason acts (nI (p + 4)) will fitting counts ring nxt wins ways nextWays image isKept (p + 3) (by omega)) wv_X10_109 ⟨Nat.le_of_ble_eq_true rfl, Nat.le_of_ble_eq_true rfl⟩ ⟨rfl, rfl⟩ ⟨Nat.zero_le _, Nat.zero_le _⟩ dX10_oneAct_200 rfl [.int 30, .int (nI (plc pad p)), .int (nI k), .ref (a 0)] rfl (Nat.le_of_ble_eq_true rfl) 0 rfl rfl ?_
              refine jv_callW (w1 := bMd E a book ((f_build now k (plc pad p) 30 (pad (p + 3) - 48)).2) week sights sight signs pad metAt metWho reason acts (nI (p + 4)) will fitting counts ring nxt wins ways nextWays image isKept) 203 X (c_X10_build E _ a book now week sights sight signs pad metAt metWho reason acts (nI (p + 4)) will fitting counts ring nxt wins ways nextWays image isKept k (plc pad p) 30 (pad (p + 3) - 48) (by omega) (by omega) (by omega)) wv_X10_118 ⟨Nat.le_of_ble_eq_true rfl, Nat.le_of_ble_eq_true rfl⟩ ⟨rfl, rfl⟩ ⟨Nat.zero_le _, Nat.zero_le _⟩ dX10_oneAct_203 rfl [] rfl (Nat.le_of_ble_eq_true rfl) 0 rfl rfl ?_
              have hq : f_oneAct pad now p k = (((f_build now k (plc pad p) 30 (pad (p + 3) - 48)).1), (p + 4), (f_build now k (plc pad p) 30 (pad (p + 3) - 48)).2) := by simp [f_oneAct, lt_nle, -Int32.not_le, c_1, c_3, c_4, c_6, c_7, c_8]
              exact jv_iret 206 X Y rfl dX10_oneAct_206 () (by rw [hq]; try rfl) (by rw [hq]; try rfl)
            · refine jv_bipush (v := 26) 186 X dX10_oneAct_186 (by decide) ?_
              refine jv_goto 188 X dX10_oneAct_188 193 (by decide) ?_
              refine jv_aload_n 193 X dX10_oneAct_193 1 rfl ?_
              refine jv_aload_n 194 X dX10_oneAct_194 1 rfl ?_
              refine jv_get (v := .int (nI (p + 4))) 195 X gf_X10_100 dX10_oneAct_195 0 rfl rfl ?_
              refine jv_iconst (v := 1) 198 X dX10_oneAct_198 rfl ?_
              refine jv_isub 199 X dX10_oneAct_199 ?_
              refine jv_norm (x2 := nI (p + 3)) (nx_sub2 (a := (p + 4)) (b := 1) rfl rfl (by omega)) ?_
              refine jv_callW (w1 := bMd E a book now week sights sight signs pad metAt metWho reason acts (nI (p + 4)) will fitting counts ring nxt wins ways nextWays image isKept) 200 X (c_X10_numberAt E _ a book now week sights sight signs pad metAt metWho reason acts (nI (p + 4)) will fitting counts ring nxt wins ways nextWays image isKept (p + 3) (by omega)) wv_X10_109 ⟨Nat.le_of_ble_eq_true rfl, Nat.le_of_ble_eq_true rfl⟩ ⟨rfl, rfl⟩ ⟨Nat.zero_le _, Nat.zero_le _⟩ dX10_oneAct_200 rfl [.int 26, .int (nI (plc pad p)), .int (nI k), .ref (a 0)] rfl (Nat.le_of_ble_eq_true rfl) 0 rfl rfl ?_
              refine jv_callW (w1 := bMd E a book ((f_build now k (plc pad p) 26 (pad (p + 3) - 48)).2) week sights sight signs pad metAt metWho reason acts (nI (p + 4)) will fitting counts ring nxt wins ways nextWays image isKept) 203 X (c_X10_build E _ a book now week sights sight signs pad metAt metWho reason acts (nI (p + 4)) will fitting counts ring nxt wins ways nextWays image isKept k (plc pad p) 26 (pad (p + 3) - 48) (by omega) (by omega) (by omega)) wv_X10_118 ⟨Nat.le_of_ble_eq_true rfl, Nat.le_of_ble_eq_true rfl⟩ ⟨rfl, rfl⟩ ⟨Nat.zero_le _, Nat.zero_le _⟩ dX10_oneAct_203 rfl [] rfl (Nat.le_of_ble_eq_true rfl) 0 rfl rfl ?_
              have hq : f_oneAct pad now p k = (((f_build now k (plc pad p) 26 (pad (p + 3) - 48)).1), (p + 4), (f_build now k (plc pad p) 26 (pad (p + 3) - 48)).2) := by simp [f_oneAct, lt_nle, -Int32.not_le, c_1, c_3, c_4, c_6, c_7, c_8]
              exact jv_iret 206 X Y rfl dX10_oneAct_206 () (by rw [hq]; try rfl) (by rw [hq]; try rfl)
          · obtain ⟨hA3, hA4, hA5⟩ := okA_c hA (by assumption)
            refine jv_aload_n 132 X dX10_oneAct_132 1 rfl ?_
            refine jv_get (v := .ref (a 2)) 133 X gf_X10_13 dX10_oneAct_133 0 rfl rfl ?_
            refine jv_bipush (v := 18) 136 X dX10_oneAct_136 (by decide) ?_
            refine jv_aload_n 138 X dX10_oneAct_138 1 rfl ?_
            refine jv_aload_n 139 X dX10_oneAct_139 1 rfl ?_
            refine jv_get (v := .int (nI (p + 4))) 140 X gf_X10_100 dX10_oneAct_140 0 rfl rfl ?_
            refine jv_iconst (v := 2) 143 X dX10_oneAct_143 rfl ?_
            refine jv_isub 144 X dX10_oneAct_144 ?_
            refine jv_norm (x2 := nI (p + 2)) (nx_sub2 (a := (p + 4)) (b := 2) rfl rfl (by omega)) ?_
            refine jv_callW (w1 := bMd E a book now week sights sight signs pad metAt metWho reason acts (nI (p + 4)) will fitting counts ring nxt wins ways nextWays image isKept) 145 X (c_X10_numberAt E _ a book now week sights sight signs pad metAt metWho reason acts (nI (p + 4)) will fitting counts ring nxt wins ways nextWays image isKept (p + 2) (by omega)) wv_X10_109 ⟨Nat.le_of_ble_eq_true rfl, Nat.le_of_ble_eq_true rfl⟩ ⟨rfl, rfl⟩ ⟨Nat.zero_le _, Nat.zero_le _⟩ dX10_oneAct_145 rfl [.int 18, .ref (a 2)] rfl (Nat.le_of_ble_eq_true rfl) 0 rfl rfl ?_
            refine jv_norm (x2 := nI (plc pad p)) hA4 ?_
            refine jv_iadd 148 X dX10_oneAct_148 ?_
            refine jv_norm (x2 := nI (18 + (plc pad p))) (nx_add2 (a := 18) (b := (plc pad p)) rfl rfl (by omega)) ?_
            refine jv_aload_n 149 X dX10_oneAct_149 1 rfl ?_
            refine jv_aload_n 150 X dX10_oneAct_150 1 rfl ?_
            refine jv_get (v := .int (nI (p + 4))) 151 X gf_X10_100 dX10_oneAct_151 0 rfl rfl ?_
            refine jv_iconst (v := 1) 154 X dX10_oneAct_154 rfl ?_
            refine jv_isub 155 X dX10_oneAct_155 ?_
            refine jv_norm (x2 := nI (p + 3)) (nx_sub2 (a := (p + 4)) (b := 1) rfl rfl (by omega)) ?_
            refine jv_callW (w1 := bMd E a book now week sights sight signs pad metAt metWho reason acts (nI (p + 4)) will fitting counts ring nxt wins ways nextWays image isKept) 156 X (c_X10_numberAt E _ a book now week sights sight signs pad metAt metWho reason acts (nI (p + 4)) will fitting counts ring nxt wins ways nextWays image isKept (p + 3) (by omega)) wv_X10_109 ⟨Nat.le_of_ble_eq_true rfl, Nat.le_of_ble_eq_true rfl⟩ ⟨rfl, rfl⟩ ⟨Nat.zero_le _, Nat.zero_le _⟩ dX10_oneAct_156 rfl [.int (nI (18 + (plc pad p))), .ref (a 2)] rfl (Nat.le_of_ble_eq_true rfl) 0 rfl rfl ?_
            refine jv_aload_n 159 X dX10_oneAct_159 1 rfl ?_
            refine jv_iload_n 160 X dX10_oneAct_160 2 rfl ?_
            refine jv_callW (w1 := bMd E a book now week sights sight signs pad metAt metWho reason acts (nI (p + 4)) will fitting counts ring nxt wins ways nextWays image isKept) 161 X (c_X10_measureOf E _ a book now week sights sight signs pad metAt metWho reason acts (nI (p + 4)) will fitting counts ring nxt wins ways nextWays image isKept k (by omega)) wv_X10_90 ⟨Nat.le_of_ble_eq_true rfl, Nat.le_of_ble_eq_true rfl⟩ ⟨rfl, rfl⟩ ⟨Nat.zero_le _, Nat.zero_le _⟩ dX10_oneAct_161 rfl [.int (pad (p + 3) - 48), .int (nI (18 + (plc pad p))), .ref (a 2)] rfl (Nat.le_of_ble_eq_true rfl) 0 rfl rfl ?_
            refine jv_imul 164 X dX10_oneAct_164 ?_
            refine jv_iast (ws2 := bMd E a book (upd now (18 + (plc pad p)) ((pad (p + 3) - 48) * (msM now k))) week sights sight signs pad metAt metWho reason acts (nI (p + 4)) will fitting counts ring nxt wins ways nextWays image isKept) (f := now) 165 X dX10_oneAct_165 2 rfl (by decide) (18 + (plc pad p)) rfl (by omega) rfl ?_
            refine jv_iconst (v := 0) 166 X dX10_oneAct_166 rfl ?_
            have hq : f_oneAct pad now p k = (0, (p + 4), (upd now (18 + (plc pad p)) ((pad (p + 3) - 48) * (msM now k)))) := by simp [f_oneAct, lt_nle, -Int32.not_le, c_1, c_3, c_4, c_6, c_7]
            exact jv_iret 167 X Y rfl dX10_oneAct_167 () (by rw [hq]; try rfl) (by rw [hq]; try rfl)
        · have hA3 : p + 2 < 60 := okA_b hA (by first | exact Or.inl (by assumption) | exact Or.inr (by assumption))
          refine jv_aload_n 66 X dX10_oneAct_66 1 rfl ?_
          refine jv_dup 67 X dX10_oneAct_67 rfl ?_
          refine jv_get (v := .int (nI p)) 68 X gf_X10_100 dX10_oneAct_68 0 rfl rfl ?_
          refine jv_iconst (v := 3) 71 X dX10_oneAct_71 rfl ?_
          refine jv_iadd 72 X dX10_oneAct_72 ?_
          refine jv_norm (x2 := nI (p + 3)) (nx_add2 (a := p) (b := 3) rfl rfl (by omega)) ?_
          refine jv_puti (ws2 := bMd E a book now week sights sight signs pad metAt metWho reason acts (nI (p + 3)) will fitting counts ring nxt wins ways nextWays image isKept) 73 X gf_X10_100 tyX10_ok nmX10 rfl rfl dX10_oneAct_73 0 rfl (Nat.le_of_ble_eq_true rfl) rfl ?_
          refine jv_iload_n 76 X dX10_oneAct_76 0 rfl ?_
          refine jv_bipush (v := 43) 77 X dX10_oneAct_77 (by decide) ?_
          refine jn_icmp_ne 79 X dX10_oneAct_79 100 (by decide) (fun _ => ?_) (fun c_9 => absurd c_9 c_4)
          refine jv_aload_n 100 X dX10_oneAct_100 1 rfl ?_
          refine jv_iload_n 101 X dX10_oneAct_101 2 rfl ?_
          refine jv_aload_n 102 X dX10_oneAct_102 1 rfl ?_
          refine jv_aload_n 103 X dX10_oneAct_103 1 rfl ?_
          refine jv_get (v := .int (nI (p + 3))) 104 X gf_X10_100 dX10_oneAct_104 0 rfl rfl ?_
          refine jv_iconst (v := 1) 107 X dX10_oneAct_107 rfl ?_
          refine jv_isub 108 X dX10_oneAct_108 ?_
          refine jv_norm (x2 := nI (p + 2)) (nx_sub2 (a := (p + 3)) (b := 1) rfl rfl (by omega)) ?_
          refine jv_callW (w1 := bMd E a book now week sights sight signs pad metAt metWho reason acts (nI (p + 3)) will fitting counts ring nxt wins ways nextWays image isKept) 109 X (c_X10_numberAt E _ a book now week sights sight signs pad metAt metWho reason acts (nI (p + 3)) will fitting counts ring nxt wins ways nextWays image isKept (p + 2) (by omega)) wv_X10_109 ⟨Nat.le_of_ble_eq_true rfl, Nat.le_of_ble_eq_true rfl⟩ ⟨rfl, rfl⟩ ⟨Nat.zero_le _, Nat.zero_le _⟩ dX10_oneAct_109 rfl [.int (nI k), .ref (a 0)] rfl (Nat.le_of_ble_eq_true rfl) 0 rfl rfl ?_
          refine jv_callW (w1 := bMd E a book ((f_sell now k (pad (p + 2) - 48)).2) week sights sight signs pad metAt metWho reason acts (nI (p + 3)) will fitting counts ring nxt wins ways nextWays image isKept) 112 X (c_X10_sell E _ a book now week sights sight signs pad metAt metWho reason acts (nI (p + 3)) will fitting counts ring nxt wins ways nextWays image isKept k (pad (p + 2) - 48) (by omega)) wv_X10_115 ⟨Nat.le_of_ble_eq_true rfl, Nat.le_of_ble_eq_true rfl⟩ ⟨rfl, rfl⟩ ⟨Nat.zero_le _, Nat.zero_le _⟩ dX10_oneAct_112 rfl [] rfl (Nat.le_of_ble_eq_true rfl) 0 rfl rfl ?_
          have hq : f_oneAct pad now p k = (((f_sell now k (pad (p + 2) - 48)).1), (p + 3), (f_sell now k (pad (p + 2) - 48)).2) := by simp [f_oneAct, lt_nle, -Int32.not_le, c_1, c_3, c_4, c_6]
          exact jv_iret 115 X Y rfl dX10_oneAct_115 () (by rw [hq]; try rfl) (by rw [hq]; try rfl)
    · refine jv_aload_n 24 X dX10_oneAct_24 1 rfl ?_
      refine jv_dup 25 X dX10_oneAct_25 rfl ?_
      refine jv_get (v := .int (nI p)) 26 X gf_X10_100 dX10_oneAct_26 0 rfl rfl ?_
      refine jv_iconst (v := 2) 29 X dX10_oneAct_29 rfl ?_
      refine jv_iadd 30 X dX10_oneAct_30 ?_
      refine jv_norm (x2 := nI (p + 2)) (nx_add2 (a := p) (b := 2) rfl rfl (by omega)) ?_
      refine jv_puti (ws2 := bMd E a book now week sights sight signs pad metAt metWho reason acts (nI (p + 2)) will fitting counts ring nxt wins ways nextWays image isKept) 31 X gf_X10_100 tyX10_ok nmX10 rfl rfl dX10_oneAct_31 0 rfl (Nat.le_of_ble_eq_true rfl) rfl ?_
      refine jv_iload_n 34 X dX10_oneAct_34 0 rfl ?_
      refine jv_bipush (v := 61) 35 X dX10_oneAct_35 (by decide) ?_
      refine jn_icmp_ne 37 X dX10_oneAct_37 48 (by decide) (fun _ => ?_) (fun c_10 => absurd c_10 c_1)
      refine jv_aload_n 48 X dX10_oneAct_48 1 rfl ?_
      refine jv_iload_n 49 X dX10_oneAct_49 2 rfl ?_
      refine jv_callW (w1 := bMd E a book ((f_lay now k).2) week sights sight signs pad metAt metWho reason acts (nI (p + 2)) will fitting counts ring nxt wins ways nextWays image isKept) 50 X (c_X10_lay E _ a book now week sights sight signs pad metAt metWho reason acts (nI (p + 2)) will fitting counts ring nxt wins ways nextWays image isKept k (by omega)) wv_X10_106 ⟨Nat.le_of_ble_eq_true rfl, Nat.le_of_ble_eq_true rfl⟩ ⟨rfl, rfl⟩ ⟨Nat.zero_le _, Nat.zero_le _⟩ dX10_oneAct_50 rfl [] rfl (Nat.le_of_ble_eq_true rfl) 0 rfl rfl ?_
      have hq : f_oneAct pad now p k = (((f_lay now k).1), (p + 2), (f_lay now k).2) := by simp [f_oneAct, lt_nle, -Int32.not_le, c_1, c_3]
      exact jv_iret 53 X Y rfl dX10_oneAct_53 () (by rw [hq]; try rfl) (by rw [hq]; try rfl)
theorem c_X10_goWeeks (E : EE) (l : Launch) (a : Nat → Nat) (book : Nat → Int32) (now : Nat → Int32) (week : Nat → Int32) (sights : Int32) (sight : Nat → Int32) (sg : Nat) (pad : Nat → Int32) (metAt : Int32) (metWho : Int32) (reason : Int32) (acts : Int32) (atp : Int32) (will : Nat → Int32) (fitting : Nat → Int32) (counts : Nat → Int32) (ring : Nat → Int32) (nxt : Nat → Int32) (wins : Nat → Int32) (ways : Nat → Int64) (nextWays : Nat → Int64) (image : Nat → Int32) (isKept : Nat → Int32) (hs : sg ≤ 60) (hW : WF pad sg 0) (hD : dyOK book) : CT E l yX10_goWeeks cX10_goWeeks 5 (some .int) { frames := 3, cells := 0, slots := 0, locals := 67 } [.ref (a 0)] (bMd E a book now week sights sight (nI sg) pad metAt metWho reason acts atp will fitting counts ring nxt wins ways nextWays image isKept) (some (.int ((gwM pad week book sg reason).1))) (bMd E a book ((gwM pad week book sg reason).2.2.2.1) week sights sight (nI sg) pad ((gwM pad week book sg reason).2.2.2.2.1) ((gwM pad week book sg reason).2.2.2.2.2.1) ((gwM pad week book sg reason).2.2.2.2.2.2) (nI (gwM pad week book sg reason).2.2.1) (nI (gwM pad week book sg reason).2.1) will fitting counts ring nxt wins ways nextWays image isKept) := by
  refine CT.intro (by decide) (Nat.le_of_ble_eq_true rfl) (fun K X Y => ?_)
  refine jv_aload_n 0 X dX10_goWeeks_0 0 rfl ?_
  refine jv_callW (w1 := bMd E a book book week sights sight (nI sg) pad (-6) (-6) reason acts atp will fitting counts ring nxt wins ways nextWays image isKept) 1 X (c_X10_asNow E _ a book now week sights sight (nI sg) pad metAt metWho reason acts atp will fitting counts ring nxt wins ways nextWays image isKept) wv_X10_122 ⟨Nat.le_of_ble_eq_true rfl, Nat.le_of_ble_eq_true rfl⟩ ⟨rfl, rfl⟩ ⟨Nat.zero_le _, Nat.zero_le _⟩ dX10_goWeeks_1 rfl [] rfl (Nat.le_of_ble_eq_true rfl) 0 rfl rfl ?_
  refine jv_aload_n 4 X dX10_goWeeks_4 0 rfl ?_
  refine jv_iconst (v := 0) 5 X dX10_goWeeks_5 rfl ?_
  refine jv_puti (ws2 := bMd E a book book week sights sight (nI sg) pad (-6) (-6) reason 0 atp will fitting counts ring nxt wins ways nextWays image isKept) 6 X gf_X10_125 tyX10_ok nmX10 rfl rfl dX10_goWeeks_6 0 rfl (Nat.le_of_ble_eq_true rfl) rfl ?_
  refine jv_aload_n 9 X dX10_goWeeks_9 0 rfl ?_
  refine jv_iconst (v := 0) 10 X dX10_goWeeks_10 rfl ?_
  refine jv_puti (ws2 := bMd E a book book week sights sight (nI sg) pad (-6) (-6) reason 0 0 will fitting counts ring nxt wins ways nextWays image isKept) 11 X gf_X10_100 tyX10_ok nmX10 rfl rfl dX10_goWeeks_11 0 rfl (Nat.le_of_ble_eq_true rfl) rfl ?_
  have lp14 : ∀ (n14 : Nat) (p c : Nat) (nw : Nat → Int32) (ma mw rs : Int32), (c ≤ p) → (p ≤ sg) → (WF pad sg p) → (dyOK nw) → (goM pad week sg (sg + 1) 0 0 book (-6) (-6) reason = goM pad week sg n14 p c nw ma mw rs) → sg - p < n14 → JV E K 0 0 (bMd E a book nw week sights sight (nI sg) pad ma mw rs (nI c) (nI p) will fitting counts ring nxt wins ways nextWays image isKept) [(0, .ref (a 0))] 14 [] := by
    intro n14
    induction n14 with
    | zero => intro p c nw ma mw rs hc hp hW2 hD2 hI hm; exact absurd hm (Nat.not_lt_zero _)
    | succ n14 ih14 =>
      intro p c nw ma mw rs hc hp hW2 hD2 hI hm
      refine jv_aload_n 14 X dX10_goWeeks_14 0 rfl ?_
      refine jv_get (v := .int (nI p)) 15 X gf_X10_100 dX10_goWeeks_15 0 rfl rfl ?_
      refine jv_aload_n 18 X dX10_goWeeks_18 0 rfl ?_
      refine jv_get (v := .int (nI sg)) 19 X gf_X10_72 dX10_goWeeks_19 0 rfl rfl ?_
      refine jn_icmp_ge 22 X dX10_goWeeks_22 222 (by decide) (fun c_1 => ?_) (fun c_1 => ?_)
      · have n_1 : sg ≤ p := (nx_le (a := sg) (b := p) rfl rfl (by omega) (by omega)).mp c_1
        refine jv_bipush (v := (-6)) 222 X dX10_goWeeks_222 (by decide) ?_
        have hq : gwM pad week book sg reason = (-6, p, c, nw, ma, mw, rs) := hI.trans (goM_e (by assumption))
        exact jv_iret 224 X Y rfl dX10_goWeeks_224 () (by rw [hq]; try rfl) (by rw [hq]; try rfl)
      · have n_1 : ¬ sg ≤ p := fun zq => c_1 ((nx_le (a := sg) (b := p) rfl rfl (by omega) (by omega)).mpr zq)
        have hlt : ¬ sg ≤ p := by omega
        have hdy := hD2.1
        have hX := WF_act (week := week) hW2 (by omega) hs hD2
        refine jv_aload_n 25 X dX10_goWeeks_25 0 rfl ?_
        refine jv_get (v := .ref (a 5)) 26 X gf_X10_22 dX10_goWeeks_26 0 rfl rfl ?_
        refine jv_aload_n 29 X dX10_goWeeks_29 0 rfl ?_
        refine jv_get (v := .int (nI p)) 30 X gf_X10_100 dX10_goWeeks_30 0 rfl rfl ?_
        refine jv_iald (f := pad) 33 X dX10_goWeeks_33 5 rfl (by decide) p rfl (by omega) ?_
        refine jv_istore_n (lv2 := [(1, .int (pad p)), (0, .ref (a 0))]) 34 X dX10_goWeeks_34 (by decide) rfl ?_
        refine jv_aload_n 35 X dX10_goWeeks_35 1 rfl ?_
        refine jv_callW (w1 := bMd E a book nw week sights sight (nI sg) pad ma mw rs (nI c) (nI p) will fitting counts ring nxt wins ways nextWays image isKept) 36 X (c_X10_met E _ a book nw week sights sight (nI sg) pad ma mw rs (nI c) (nI p) will fitting counts ring nxt wins ways nextWays image isKept) wv_X10_128 ⟨Nat.le_of_ble_eq_true rfl, Nat.le_of_ble_eq_true rfl⟩ ⟨rfl, rfl⟩ ⟨Nat.zero_le _, Nat.zero_le _⟩ dX10_goWeeks_36 rfl [] rfl (Nat.le_of_ble_eq_true rfl) 0 rfl rfl ?_
        refine jv_istore_n (lv2 := [(2, .int (metS nw)), (1, .int (pad p)), (0, .ref (a 0))]) 39 X dX10_goWeeks_39 (by decide) rfl ?_
        refine jv_iload_n 40 X dX10_goWeeks_40 1 rfl ?_
        refine jv_bipush (v := 46) 41 X dX10_goWeeks_41 (by decide) ?_
        refine jn_icmp_ne 43 X dX10_goWeeks_43 67 (by decide) (fun c_2 => ?_) (fun c_2 => ?_)
        · refine jv_iload_n 67 X dX10_goWeeks_67 1 rfl ?_
          refine jv_bipush (v := 60) 68 X dX10_goWeeks_68 (by decide) ?_
          refine jn_icmp_eq 70 X dX10_goWeeks_70 79 (by decide) (fun c_3 => ?_) (fun c_3 => ?_)
          · have hp1 : p + 1 < sg := WF_B hW2 (by omega) (by first | exact Or.inl (by assumption) | exact Or.inr (by assumption))
            refine jv_aload_n 79 X dX10_goWeeks_79 2 rfl ?_
            refine jv_dup 80 X dX10_goWeeks_80 rfl ?_
            refine jv_get (v := .int (nI p)) 81 X gf_X10_100 dX10_goWeeks_81 0 rfl rfl ?_
            refine jv_iconst (v := 2) 84 X dX10_goWeeks_84 rfl ?_
            refine jv_iadd 85 X dX10_goWeeks_85 ?_
            refine jv_norm (x2 := nI (p + 2)) (nx_add2 (a := p) (b := 2) rfl rfl (by omega)) ?_
            refine jv_puti (ws2 := bMd E a book nw week sights sight (nI sg) pad ma mw rs (nI c) (nI (p + 2)) will fitting counts ring nxt wins ways nextWays image isKept) 86 X gf_X10_100 tyX10_ok nmX10 rfl rfl dX10_goWeeks_86 0 rfl (Nat.le_of_ble_eq_true rfl) rfl ?_
            refine jv_aload_n 89 X dX10_goWeeks_89 2 rfl ?_
            refine jv_aload_n 90 X dX10_goWeeks_90 2 rfl ?_
            refine jv_iload_n 91 X dX10_goWeeks_91 1 rfl ?_
            refine jv_bipush (v := 60) 92 X dX10_goWeeks_92 (by decide) ?_
            refine jn_icmp_ne 94 X dX10_goWeeks_94 111 (by decide) (fun c_4 => absurd c_3 c_4) (fun _ => ?_)
            refine jv_aload_n 97 X dX10_goWeeks_97 2 rfl ?_
            refine jv_aload_n 98 X dX10_goWeeks_98 2 rfl ?_
            refine jv_get (v := .int (nI (p + 2))) 99 X gf_X10_100 dX10_goWeeks_99 0 rfl rfl ?_
            refine jv_iconst (v := 1) 102 X dX10_goWeeks_102 rfl ?_
            refine jv_isub 103 X dX10_goWeeks_103 ?_
            refine jv_norm (x2 := nI (p + 1)) (nx_sub2 (a := (p + 2)) (b := 1) rfl rfl (by omega)) ?_
            refine jv_callW (w1 := bMd E a book nw week sights sight (nI sg) pad ma mw rs (nI c) (nI (p + 2)) will fitting counts ring nxt wins ways nextWays image isKept) 104 X (c_X10_numberAt E _ a book nw week sights sight (nI sg) pad ma mw rs (nI c) (nI (p + 2)) will fitting counts ring nxt wins ways nextWays image isKept (p + 1) (by omega)) wv_X10_109 ⟨Nat.le_of_ble_eq_true rfl, Nat.le_of_ble_eq_true rfl⟩ ⟨rfl, rfl⟩ ⟨Nat.zero_le _, Nat.zero_le _⟩ dX10_goWeeks_104 rfl [.ref (a 0), .ref (a 0)] rfl (Nat.le_of_ble_eq_true rfl) 0 rfl rfl ?_
            refine jv_ineg 107 X dX10_goWeeks_107 ?_
            refine jv_goto 108 X dX10_goWeeks_108 121 (by decide) ?_
            refine jv_callW (w1 := bMd E a book ((f_change nw (-(pad (p + 1) - 48))).2) week sights sight (nI sg) pad ma mw rs (nI c) (nI (p + 2)) will fitting counts ring nxt wins ways nextWays image isKept) 121 X (c_X10_change E _ a book nw week sights sight (nI sg) pad ma mw rs (nI c) (nI (p + 2)) will fitting counts ring nxt wins ways nextWays image isKept (-(pad (p + 1) - 48))) wv_X10_137 ⟨Nat.le_of_ble_eq_true rfl, Nat.le_of_ble_eq_true rfl⟩ ⟨rfl, rfl⟩ ⟨Nat.zero_le _, Nat.zero_le _⟩ dX10_goWeeks_121 rfl [.ref (a 0)] rfl (Nat.le_of_ble_eq_true rfl) 0 rfl rfl ?_
            refine jv_puti (ws2 := bMd E a book ((f_change nw (-(pad (p + 1) - 48))).2) week sights sight (nI sg) pad ma mw ((f_change nw (-(pad (p + 1) - 48))).1) (nI c) (nI (p + 2)) will fitting counts ring nxt wins ways nextWays image isKept) 124 X gf_X10_134 tyX10_ok nmX10 rfl rfl dX10_goWeeks_124 0 rfl (Nat.le_of_ble_eq_true rfl) rfl ?_
            refine jv_goto 127 X dX10_goWeeks_127 142 (by decide) ?_
            refine jv_aload_n 142 X dX10_goWeeks_142 2 rfl ?_
            refine jv_get (v := .int ((f_change nw (-(pad (p + 1) - 48))).1)) 143 X gf_X10_134 dX10_goWeeks_143 0 rfl rfl ?_
            refine jn_if_le 146 X dX10_goWeeks_146 154 (by decide) (fun c_5 => ?_) (fun c_5 => ?_)
            · refine jv_aload_n 154 X dX10_goWeeks_154 2 rfl ?_
              refine jv_callW (w1 := bMd E a book ((f_change nw (-(pad (p + 1) - 48))).2) week sights sight (nI sg) pad ma mw ((f_change nw (-(pad (p + 1) - 48))).1) (nI c) (nI (p + 2)) will fitting counts ring nxt wins ways nextWays image isKept) 155 X (c_X10_met E _ a book ((f_change nw (-(pad (p + 1) - 48))).2) week sights sight (nI sg) pad ma mw ((f_change nw (-(pad (p + 1) - 48))).1) (nI c) (nI (p + 2)) will fitting counts ring nxt wins ways nextWays image isKept) wv_X10_128 ⟨Nat.le_of_ble_eq_true rfl, Nat.le_of_ble_eq_true rfl⟩ ⟨rfl, rfl⟩ ⟨Nat.zero_le _, Nat.zero_le _⟩ dX10_goWeeks_155 rfl [] rfl (Nat.le_of_ble_eq_true rfl) 0 rfl rfl ?_
              refine jv_iload_n 158 X dX10_goWeeks_158 0 rfl ?_
              refine jv_iconst (v := (-1)) 159 X dX10_goWeeks_159 rfl ?_
              refine jv_ixor 160 X dX10_goWeeks_160 ?_
              refine jv_iand 161 X dX10_goWeeks_161 ?_
              refine jv_istore_n (lv2 := [(3, .int ((metS ((f_change nw (-(pad (p + 1) - 48))).2)) &&& ((metS nw) ^^^ (-1)))), (2, .int (metS nw)), (1, .int (pad p)), (0, .ref (a 0))]) 162 X dX10_goWeeks_162 (by decide) rfl ?_
              refine jv_iconst (v := 0) 163 X dX10_goWeeks_163 rfl ?_
              refine jv_istore (lv2 := [(4, .int 0), (3, .int ((metS ((f_change nw (-(pad (p + 1) - 48))).2)) &&& ((metS nw) ^^^ (-1)))), (2, .int (metS nw)), (1, .int (pad p)), (0, .ref (a 0))]) 164 X dX10_goWeeks_164 (by decide) rfl ?_
              refine jv_iload 166 X dX10_goWeeks_166 0 rfl ?_
              refine jv_iconst (v := 4) 168 X dX10_goWeeks_168 rfl ?_
              refine jn_icmp_ge 169 X dX10_goWeeks_169 209 (by decide) (fun c_6 => absurd c_6 (by decide)) (fun _ => ?_)
              refine jv_aload_n 172 X dX10_goWeeks_172 4 rfl ?_
              refine jv_get (v := .int ma) 173 X gf_X10_84 dX10_goWeeks_173 0 rfl rfl ?_
              refine jn_if_ge 176 X dX10_goWeeks_176 209 (by decide) (fun c_7 => ?_) (fun c_7 => ?_)
              · have hf : f_act pad week nw p = (((f_change nw (-(pad (p + 1) - 48))).1), (p + 2), (f_change nw (-(pad (p + 1) - 48))).2) := by simp [f_act, c_2, c_3]
                have hY : c + 1 ≤ (p + 2) ∧ (p + 2) ≤ sg ∧ WF pad sg (p + 2) ∧ dyOK ((f_change nw (-(pad (p + 1) - 48))).2) ∧ sg - (p + 2) < n14 := by
                  have h9 := hX
                  rw [hf] at h9
                  obtain ⟨h7, h8, h6⟩ := h9
                  have h5 := h7.1
                  dsimp only at h5 h6 h7 h8
                  exact ⟨by omega, h5, h7, h6, by omega⟩
                refine jv_aload_n 209 X dX10_goWeeks_209 4 rfl ?_
                refine jv_dup 210 X dX10_goWeeks_210 rfl ?_
                refine jv_get (v := .int (nI c)) 211 X gf_X10_125 dX10_goWeeks_211 0 rfl rfl ?_
                refine jv_iconst (v := 1) 214 X dX10_goWeeks_214 rfl ?_
                refine jv_iadd 215 X dX10_goWeeks_215 ?_
                refine jv_norm (x2 := nI (c + 1)) (nx_add2 (a := c) (b := 1) rfl rfl (by omega)) ?_
                refine jv_puti (ws2 := bMd E a book ((f_change nw (-(pad (p + 1) - 48))).2) week sights sight (nI sg) pad ma mw ((f_change nw (-(pad (p + 1) - 48))).1) (nI (c + 1)) (nI (p + 2)) will fitting counts ring nxt wins ways nextWays image isKept) 216 X gf_X10_125 tyX10_ok nmX10 rfl rfl dX10_goWeeks_216 0 rfl (Nat.le_of_ble_eq_true rfl) rfl ?_
                refine jv_goto 219 X dX10_goWeeks_219 14 (by decide) ?_
                exact jv_lv [4] rfl (ih14 (p + 2) (c + 1) ((f_change nw (-(pad (p + 1) - 48))).2) ma mw ((f_change nw (-(pad (p + 1) - 48))).1) (hY.1) (hY.2.1) (hY.2.2.1) (hY.2.2.2.1) (by rw [hI]; exact goM_s hlt hf c_5 (by simp only [fstM, c_7, if_true, if_false])) (hY.2.2.2.2))
              · refine jv_iload_n 179 X dX10_goWeeks_179 1 rfl ?_
                refine jv_iload 180 X dX10_goWeeks_180 0 rfl ?_
                refine jv_ishr 182 X dX10_goWeeks_182 ?_
                refine jv_iconst (v := 1) 183 X dX10_goWeeks_183 rfl ?_
                refine jv_iand 184 X dX10_goWeeks_184 ?_
                refine jv_iconst (v := 1) 185 X dX10_goWeeks_185 rfl ?_
                refine jn_icmp_ne 186 X dX10_goWeeks_186 203 (by decide) (fun c_8 => ?_) (fun c_8 => ?_)
                · refine jv_iinc (v := 1) (lv2 := [(4, .int 1), (3, .int ((metS ((f_change nw (-(pad (p + 1) - 48))).2)) &&& ((metS nw) ^^^ (-1)))), (2, .int (metS nw)), (1, .int (pad p)), (0, .ref (a 0))]) 203 X dX10_goWeeks_203 0 rfl (by decide) (by decide) rfl ?_
                  refine jv_goto 206 X dX10_goWeeks_206 166 (by decide) ?_
                  refine jv_iload 166 X dX10_goWeeks_166 0 rfl ?_
                  refine jv_iconst (v := 4) 168 X dX10_goWeeks_168 rfl ?_
                  refine jn_icmp_ge 169 X dX10_goWeeks_169 209 (by decide) (fun c_9 => absurd c_9 (by decide)) (fun _ => ?_)
                  refine jv_aload_n 172 X dX10_goWeeks_172 4 rfl ?_
                  refine jv_get (v := .int ma) 173 X gf_X10_84 dX10_goWeeks_173 0 rfl rfl ?_
                  refine jn_if_ge 176 X dX10_goWeeks_176 209 (by decide) (fun c_10 => absurd c_10 c_7) (fun _ => ?_)
                  refine jv_iload_n 179 X dX10_goWeeks_179 1 rfl ?_
                  refine jv_iload 180 X dX10_goWeeks_180 0 rfl ?_
                  refine jv_ishr 182 X dX10_goWeeks_182 ?_
                  refine jv_iconst (v := 1) 183 X dX10_goWeeks_183 rfl ?_
                  refine jv_iand 184 X dX10_goWeeks_184 ?_
                  refine jv_iconst (v := 1) 185 X dX10_goWeeks_185 rfl ?_
                  refine jn_icmp_ne 186 X dX10_goWeeks_186 203 (by decide) (fun c_11 => ?_) (fun c_11 => ?_)
                  · refine jv_iinc (v := 2) (lv2 := [(4, .int 2), (3, .int ((metS ((f_change nw (-(pad (p + 1) - 48))).2)) &&& ((metS nw) ^^^ (-1)))), (2, .int (metS nw)), (1, .int (pad p)), (0, .ref (a 0))]) 203 X dX10_goWeeks_203 0 rfl (by decide) (by decide) rfl ?_
                    refine jv_goto 206 X dX10_goWeeks_206 166 (by decide) ?_
                    refine jv_iload 166 X dX10_goWeeks_166 0 rfl ?_
                    refine jv_iconst (v := 4) 168 X dX10_goWeeks_168 rfl ?_
                    refine jn_icmp_ge 169 X dX10_goWeeks_169 209 (by decide) (fun c_12 => absurd c_12 (by decide)) (fun _ => ?_)
                    refine jv_aload_n 172 X dX10_goWeeks_172 4 rfl ?_
                    refine jv_get (v := .int ma) 173 X gf_X10_84 dX10_goWeeks_173 0 rfl rfl ?_
                    refine jn_if_ge 176 X dX10_goWeeks_176 209 (by decide) (fun c_13 => absurd c_13 c_7) (fun _ => ?_)
                    refine jv_iload_n 179 X dX10_goWeeks_179 1 rfl ?_
                    refine jv_iload 180 X dX10_goWeeks_180 0 rfl ?_
                    refine jv_ishr 182 X dX10_goWeeks_182 ?_
                    refine jv_iconst (v := 1) 183 X dX10_goWeeks_183 rfl ?_
                    refine jv_iand 184 X dX10_goWeeks_184 ?_
                    refine jv_iconst (v := 1) 185 X dX10_goWeeks_185 rfl ?_
                    refine jn_icmp_ne 186 X dX10_goWeeks_186 203 (by decide) (fun c_14 => ?_) (fun c_14 => ?_)
                    · refine jv_iinc (v := 3) (lv2 := [(4, .int 3), (3, .int ((metS ((f_change nw (-(pad (p + 1) - 48))).2)) &&& ((metS nw) ^^^ (-1)))), (2, .int (metS nw)), (1, .int (pad p)), (0, .ref (a 0))]) 203 X dX10_goWeeks_203 0 rfl (by decide) (by decide) rfl ?_
                      refine jv_goto 206 X dX10_goWeeks_206 166 (by decide) ?_
                      refine jv_iload 166 X dX10_goWeeks_166 0 rfl ?_
                      refine jv_iconst (v := 4) 168 X dX10_goWeeks_168 rfl ?_
                      refine jn_icmp_ge 169 X dX10_goWeeks_169 209 (by decide) (fun c_15 => absurd c_15 (by decide)) (fun _ => ?_)
                      refine jv_aload_n 172 X dX10_goWeeks_172 4 rfl ?_
                      refine jv_get (v := .int ma) 173 X gf_X10_84 dX10_goWeeks_173 0 rfl rfl ?_
                      refine jn_if_ge 176 X dX10_goWeeks_176 209 (by decide) (fun c_16 => absurd c_16 c_7) (fun _ => ?_)
                      refine jv_iload_n 179 X dX10_goWeeks_179 1 rfl ?_
                      refine jv_iload 180 X dX10_goWeeks_180 0 rfl ?_
                      refine jv_ishr 182 X dX10_goWeeks_182 ?_
                      refine jv_iconst (v := 1) 183 X dX10_goWeeks_183 rfl ?_
                      refine jv_iand 184 X dX10_goWeeks_184 ?_
                      refine jv_iconst (v := 1) 185 X dX10_goWeeks_185 rfl ?_
                      refine jn_icmp_ne 186 X dX10_goWeeks_186 203 (by decide) (fun c_17 => ?_) (fun c_17 => ?_)
                      · refine jv_iinc (v := 4) (lv2 := [(4, .int 4), (3, .int ((metS ((f_change nw (-(pad (p + 1) - 48))).2)) &&& ((metS nw) ^^^ (-1)))), (2, .int (metS nw)), (1, .int (pad p)), (0, .ref (a 0))]) 203 X dX10_goWeeks_203 0 rfl (by decide) (by decide) rfl ?_
                        refine jv_goto 206 X dX10_goWeeks_206 166 (by decide) ?_
                        refine jv_iload 166 X dX10_goWeeks_166 0 rfl ?_
                        refine jv_iconst (v := 4) 168 X dX10_goWeeks_168 rfl ?_
                        refine jn_icmp_ge 169 X dX10_goWeeks_169 209 (by decide) (fun _ => ?_) (fun c_18 => absurd c_18 (by decide))
                        have hf : f_act pad week nw p = (((f_change nw (-(pad (p + 1) - 48))).1), (p + 2), (f_change nw (-(pad (p + 1) - 48))).2) := by simp [f_act, c_2, c_3]
                        have hY : c + 1 ≤ (p + 2) ∧ (p + 2) ≤ sg ∧ WF pad sg (p + 2) ∧ dyOK ((f_change nw (-(pad (p + 1) - 48))).2) ∧ sg - (p + 2) < n14 := by
                          have h9 := hX
                          rw [hf] at h9
                          obtain ⟨h7, h8, h6⟩ := h9
                          have h5 := h7.1
                          dsimp only at h5 h6 h7 h8
                          exact ⟨by omega, h5, h7, h6, by omega⟩
                        refine jv_aload_n 209 X dX10_goWeeks_209 4 rfl ?_
                        refine jv_dup 210 X dX10_goWeeks_210 rfl ?_
                        refine jv_get (v := .int (nI c)) 211 X gf_X10_125 dX10_goWeeks_211 0 rfl rfl ?_
                        refine jv_iconst (v := 1) 214 X dX10_goWeeks_214 rfl ?_
                        refine jv_iadd 215 X dX10_goWeeks_215 ?_
                        refine jv_norm (x2 := nI (c + 1)) (nx_add2 (a := c) (b := 1) rfl rfl (by omega)) ?_
                        refine jv_puti (ws2 := bMd E a book ((f_change nw (-(pad (p + 1) - 48))).2) week sights sight (nI sg) pad ma mw ((f_change nw (-(pad (p + 1) - 48))).1) (nI (c + 1)) (nI (p + 2)) will fitting counts ring nxt wins ways nextWays image isKept) 216 X gf_X10_125 tyX10_ok nmX10 rfl rfl dX10_goWeeks_216 0 rfl (Nat.le_of_ble_eq_true rfl) rfl ?_
                        refine jv_goto 219 X dX10_goWeeks_219 14 (by decide) ?_
                        exact jv_lv [4] rfl (ih14 (p + 2) (c + 1) ((f_change nw (-(pad (p + 1) - 48))).2) ma mw ((f_change nw (-(pad (p + 1) - 48))).1) (hY.1) (hY.2.1) (hY.2.2.1) (hY.2.2.2.1) (by rw [hI]; exact goM_s hlt hf c_5 (by simp only [fstM, c_7, c_8, c_11, c_14, c_17, if_true, if_false])) (hY.2.2.2.2))
                      · refine jv_aload_n 189 X dX10_goWeeks_189 4 rfl ?_
                        refine jv_aload_n 190 X dX10_goWeeks_190 4 rfl ?_
                        refine jv_get (v := .int (nI c)) 191 X gf_X10_125 dX10_goWeeks_191 0 rfl rfl ?_
                        refine jv_puti (ws2 := bMd E a book ((f_change nw (-(pad (p + 1) - 48))).2) week sights sight (nI sg) pad (nI c) mw ((f_change nw (-(pad (p + 1) - 48))).1) (nI c) (nI (p + 2)) will fitting counts ring nxt wins ways nextWays image isKept) 194 X gf_X10_84 tyX10_ok nmX10 rfl rfl dX10_goWeeks_194 0 rfl (Nat.le_of_ble_eq_true rfl) rfl ?_
                        refine jv_aload_n 197 X dX10_goWeeks_197 4 rfl ?_
                        refine jv_iload 198 X dX10_goWeeks_198 0 rfl ?_
                        refine jv_puti (ws2 := bMd E a book ((f_change nw (-(pad (p + 1) - 48))).2) week sights sight (nI sg) pad (nI c) 3 ((f_change nw (-(pad (p + 1) - 48))).1) (nI c) (nI (p + 2)) will fitting counts ring nxt wins ways nextWays image isKept) 200 X gf_X10_87 tyX10_ok nmX10 rfl rfl dX10_goWeeks_200 0 rfl (Nat.le_of_ble_eq_true rfl) rfl ?_
                        refine jv_iinc (v := 4) (lv2 := [(4, .int 4), (3, .int ((metS ((f_change nw (-(pad (p + 1) - 48))).2)) &&& ((metS nw) ^^^ (-1)))), (2, .int (metS nw)), (1, .int (pad p)), (0, .ref (a 0))]) 203 X dX10_goWeeks_203 0 rfl (by decide) (by decide) rfl ?_
                        refine jv_goto 206 X dX10_goWeeks_206 166 (by decide) ?_
                        refine jv_iload 166 X dX10_goWeeks_166 0 rfl ?_
                        refine jv_iconst (v := 4) 168 X dX10_goWeeks_168 rfl ?_
                        refine jn_icmp_ge 169 X dX10_goWeeks_169 209 (by decide) (fun _ => ?_) (fun c_19 => absurd c_19 (by decide))
                        have hf : f_act pad week nw p = (((f_change nw (-(pad (p + 1) - 48))).1), (p + 2), (f_change nw (-(pad (p + 1) - 48))).2) := by simp [f_act, c_2, c_3]
                        have hY : c + 1 ≤ (p + 2) ∧ (p + 2) ≤ sg ∧ WF pad sg (p + 2) ∧ dyOK ((f_change nw (-(pad (p + 1) - 48))).2) ∧ sg - (p + 2) < n14 := by
                          have h9 := hX
                          rw [hf] at h9
                          obtain ⟨h7, h8, h6⟩ := h9
                          have h5 := h7.1
                          dsimp only at h5 h6 h7 h8
                          exact ⟨by omega, h5, h7, h6, by omega⟩
                        refine jv_aload_n 209 X dX10_goWeeks_209 4 rfl ?_
                        refine jv_dup 210 X dX10_goWeeks_210 rfl ?_
                        refine jv_get (v := .int (nI c)) 211 X gf_X10_125 dX10_goWeeks_211 0 rfl rfl ?_
                        refine jv_iconst (v := 1) 214 X dX10_goWeeks_214 rfl ?_
                        refine jv_iadd 215 X dX10_goWeeks_215 ?_
                        refine jv_norm (x2 := nI (c + 1)) (nx_add2 (a := c) (b := 1) rfl rfl (by omega)) ?_
                        refine jv_puti (ws2 := bMd E a book ((f_change nw (-(pad (p + 1) - 48))).2) week sights sight (nI sg) pad (nI c) 3 ((f_change nw (-(pad (p + 1) - 48))).1) (nI (c + 1)) (nI (p + 2)) will fitting counts ring nxt wins ways nextWays image isKept) 216 X gf_X10_125 tyX10_ok nmX10 rfl rfl dX10_goWeeks_216 0 rfl (Nat.le_of_ble_eq_true rfl) rfl ?_
                        refine jv_goto 219 X dX10_goWeeks_219 14 (by decide) ?_
                        exact jv_lv [4] rfl (ih14 (p + 2) (c + 1) ((f_change nw (-(pad (p + 1) - 48))).2) (nI c) 3 ((f_change nw (-(pad (p + 1) - 48))).1) (hY.1) (hY.2.1) (hY.2.2.1) (hY.2.2.2.1) (by rw [hI]; exact goM_s hlt hf c_5 (by simp only [fstM, c_7, c_8, c_11, c_14, c_17, if_true, if_false])) (hY.2.2.2.2))
                    · refine jv_aload_n 189 X dX10_goWeeks_189 4 rfl ?_
                      refine jv_aload_n 190 X dX10_goWeeks_190 4 rfl ?_
                      refine jv_get (v := .int (nI c)) 191 X gf_X10_125 dX10_goWeeks_191 0 rfl rfl ?_
                      refine jv_puti (ws2 := bMd E a book ((f_change nw (-(pad (p + 1) - 48))).2) week sights sight (nI sg) pad (nI c) mw ((f_change nw (-(pad (p + 1) - 48))).1) (nI c) (nI (p + 2)) will fitting counts ring nxt wins ways nextWays image isKept) 194 X gf_X10_84 tyX10_ok nmX10 rfl rfl dX10_goWeeks_194 0 rfl (Nat.le_of_ble_eq_true rfl) rfl ?_
                      refine jv_aload_n 197 X dX10_goWeeks_197 4 rfl ?_
                      refine jv_iload 198 X dX10_goWeeks_198 0 rfl ?_
                      refine jv_puti (ws2 := bMd E a book ((f_change nw (-(pad (p + 1) - 48))).2) week sights sight (nI sg) pad (nI c) 2 ((f_change nw (-(pad (p + 1) - 48))).1) (nI c) (nI (p + 2)) will fitting counts ring nxt wins ways nextWays image isKept) 200 X gf_X10_87 tyX10_ok nmX10 rfl rfl dX10_goWeeks_200 0 rfl (Nat.le_of_ble_eq_true rfl) rfl ?_
                      refine jv_iinc (v := 3) (lv2 := [(4, .int 3), (3, .int ((metS ((f_change nw (-(pad (p + 1) - 48))).2)) &&& ((metS nw) ^^^ (-1)))), (2, .int (metS nw)), (1, .int (pad p)), (0, .ref (a 0))]) 203 X dX10_goWeeks_203 0 rfl (by decide) (by decide) rfl ?_
                      refine jv_goto 206 X dX10_goWeeks_206 166 (by decide) ?_
                      refine jv_iload 166 X dX10_goWeeks_166 0 rfl ?_
                      refine jv_iconst (v := 4) 168 X dX10_goWeeks_168 rfl ?_
                      refine jn_icmp_ge 169 X dX10_goWeeks_169 209 (by decide) (fun c_20 => absurd c_20 (by decide)) (fun _ => ?_)
                      refine jv_aload_n 172 X dX10_goWeeks_172 4 rfl ?_
                      refine jv_get (v := .int (nI c)) 173 X gf_X10_84 dX10_goWeeks_173 0 rfl rfl ?_
                      refine jn_if_ge 176 X dX10_goWeeks_176 209 (by decide) (fun c_21 => ?_) (fun c_21 => absurd (nI_pos' (by omega)) c_21)
                      have n_21 : 0 ≤ c := (nx_le (a := 0) (b := c) rfl rfl (by omega) (by omega)).mp c_21
                      have hf : f_act pad week nw p = (((f_change nw (-(pad (p + 1) - 48))).1), (p + 2), (f_change nw (-(pad (p + 1) - 48))).2) := by simp [f_act, c_2, c_3]
                      have hY : c + 1 ≤ (p + 2) ∧ (p + 2) ≤ sg ∧ WF pad sg (p + 2) ∧ dyOK ((f_change nw (-(pad (p + 1) - 48))).2) ∧ sg - (p + 2) < n14 := by
                        have h9 := hX
                        rw [hf] at h9
                        obtain ⟨h7, h8, h6⟩ := h9
                        have h5 := h7.1
                        dsimp only at h5 h6 h7 h8
                        exact ⟨by omega, h5, h7, h6, by omega⟩
                      refine jv_aload_n 209 X dX10_goWeeks_209 4 rfl ?_
                      refine jv_dup 210 X dX10_goWeeks_210 rfl ?_
                      refine jv_get (v := .int (nI c)) 211 X gf_X10_125 dX10_goWeeks_211 0 rfl rfl ?_
                      refine jv_iconst (v := 1) 214 X dX10_goWeeks_214 rfl ?_
                      refine jv_iadd 215 X dX10_goWeeks_215 ?_
                      refine jv_norm (x2 := nI (c + 1)) (nx_add2 (a := c) (b := 1) rfl rfl (by omega)) ?_
                      refine jv_puti (ws2 := bMd E a book ((f_change nw (-(pad (p + 1) - 48))).2) week sights sight (nI sg) pad (nI c) 2 ((f_change nw (-(pad (p + 1) - 48))).1) (nI (c + 1)) (nI (p + 2)) will fitting counts ring nxt wins ways nextWays image isKept) 216 X gf_X10_125 tyX10_ok nmX10 rfl rfl dX10_goWeeks_216 0 rfl (Nat.le_of_ble_eq_true rfl) rfl ?_
                      refine jv_goto 219 X dX10_goWeeks_219 14 (by decide) ?_
                      exact jv_lv [4] rfl (ih14 (p + 2) (c + 1) ((f_change nw (-(pad (p + 1) - 48))).2) (nI c) 2 ((f_change nw (-(pad (p + 1) - 48))).1) (hY.1) (hY.2.1) (hY.2.2.1) (hY.2.2.2.1) (by rw [hI]; exact goM_s hlt hf c_5 (by simp only [fstM, c_7, c_8, c_11, c_14, if_true, if_false])) (hY.2.2.2.2))
                  · refine jv_aload_n 189 X dX10_goWeeks_189 4 rfl ?_
                    refine jv_aload_n 190 X dX10_goWeeks_190 4 rfl ?_
                    refine jv_get (v := .int (nI c)) 191 X gf_X10_125 dX10_goWeeks_191 0 rfl rfl ?_
                    refine jv_puti (ws2 := bMd E a book ((f_change nw (-(pad (p + 1) - 48))).2) week sights sight (nI sg) pad (nI c) mw ((f_change nw (-(pad (p + 1) - 48))).1) (nI c) (nI (p + 2)) will fitting counts ring nxt wins ways nextWays image isKept) 194 X gf_X10_84 tyX10_ok nmX10 rfl rfl dX10_goWeeks_194 0 rfl (Nat.le_of_ble_eq_true rfl) rfl ?_
                    refine jv_aload_n 197 X dX10_goWeeks_197 4 rfl ?_
                    refine jv_iload 198 X dX10_goWeeks_198 0 rfl ?_
                    refine jv_puti (ws2 := bMd E a book ((f_change nw (-(pad (p + 1) - 48))).2) week sights sight (nI sg) pad (nI c) 1 ((f_change nw (-(pad (p + 1) - 48))).1) (nI c) (nI (p + 2)) will fitting counts ring nxt wins ways nextWays image isKept) 200 X gf_X10_87 tyX10_ok nmX10 rfl rfl dX10_goWeeks_200 0 rfl (Nat.le_of_ble_eq_true rfl) rfl ?_
                    refine jv_iinc (v := 2) (lv2 := [(4, .int 2), (3, .int ((metS ((f_change nw (-(pad (p + 1) - 48))).2)) &&& ((metS nw) ^^^ (-1)))), (2, .int (metS nw)), (1, .int (pad p)), (0, .ref (a 0))]) 203 X dX10_goWeeks_203 0 rfl (by decide) (by decide) rfl ?_
                    refine jv_goto 206 X dX10_goWeeks_206 166 (by decide) ?_
                    refine jv_iload 166 X dX10_goWeeks_166 0 rfl ?_
                    refine jv_iconst (v := 4) 168 X dX10_goWeeks_168 rfl ?_
                    refine jn_icmp_ge 169 X dX10_goWeeks_169 209 (by decide) (fun c_22 => absurd c_22 (by decide)) (fun _ => ?_)
                    refine jv_aload_n 172 X dX10_goWeeks_172 4 rfl ?_
                    refine jv_get (v := .int (nI c)) 173 X gf_X10_84 dX10_goWeeks_173 0 rfl rfl ?_
                    refine jn_if_ge 176 X dX10_goWeeks_176 209 (by decide) (fun c_23 => ?_) (fun c_23 => absurd (nI_pos' (by omega)) c_23)
                    have n_23 : 0 ≤ c := (nx_le (a := 0) (b := c) rfl rfl (by omega) (by omega)).mp c_23
                    have hf : f_act pad week nw p = (((f_change nw (-(pad (p + 1) - 48))).1), (p + 2), (f_change nw (-(pad (p + 1) - 48))).2) := by simp [f_act, c_2, c_3]
                    have hY : c + 1 ≤ (p + 2) ∧ (p + 2) ≤ sg ∧ WF pad sg (p + 2) ∧ dyOK ((f_change nw (-(pad (p + 1) - 48))).2) ∧ sg - (p + 2) < n14 := by
                      have h9 := hX
                      rw [hf] at h9
                      obtain ⟨h7, h8, h6⟩ := h9
                      have h5 := h7.1
                      dsimp only at h5 h6 h7 h8
                      exact ⟨by omega, h5, h7, h6, by omega⟩
                    refine jv_aload_n 209 X dX10_goWeeks_209 4 rfl ?_
                    refine jv_dup 210 X dX10_goWeeks_210 rfl ?_
                    refine jv_get (v := .int (nI c)) 211 X gf_X10_125 dX10_goWeeks_211 0 rfl rfl ?_
                    refine jv_iconst (v := 1) 214 X dX10_goWeeks_214 rfl ?_
                    refine jv_iadd 215 X dX10_goWeeks_215 ?_
                    refine jv_norm (x2 := nI (c + 1)) (nx_add2 (a := c) (b := 1) rfl rfl (by omega)) ?_
                    refine jv_puti (ws2 := bMd E a book ((f_change nw (-(pad (p + 1) - 48))).2) week sights sight (nI sg) pad (nI c) 1 ((f_change nw (-(pad (p + 1) - 48))).1) (nI (c + 1)) (nI (p + 2)) will fitting counts ring nxt wins ways nextWays image isKept) 216 X gf_X10_125 tyX10_ok nmX10 rfl rfl dX10_goWeeks_216 0 rfl (Nat.le_of_ble_eq_true rfl) rfl ?_
                    refine jv_goto 219 X dX10_goWeeks_219 14 (by decide) ?_
                    exact jv_lv [4] rfl (ih14 (p + 2) (c + 1) ((f_change nw (-(pad (p + 1) - 48))).2) (nI c) 1 ((f_change nw (-(pad (p + 1) - 48))).1) (hY.1) (hY.2.1) (hY.2.2.1) (hY.2.2.2.1) (by rw [hI]; exact goM_s hlt hf c_5 (by simp only [fstM, c_7, c_8, c_11, if_true, if_false])) (hY.2.2.2.2))
                · refine jv_aload_n 189 X dX10_goWeeks_189 4 rfl ?_
                  refine jv_aload_n 190 X dX10_goWeeks_190 4 rfl ?_
                  refine jv_get (v := .int (nI c)) 191 X gf_X10_125 dX10_goWeeks_191 0 rfl rfl ?_
                  refine jv_puti (ws2 := bMd E a book ((f_change nw (-(pad (p + 1) - 48))).2) week sights sight (nI sg) pad (nI c) mw ((f_change nw (-(pad (p + 1) - 48))).1) (nI c) (nI (p + 2)) will fitting counts ring nxt wins ways nextWays image isKept) 194 X gf_X10_84 tyX10_ok nmX10 rfl rfl dX10_goWeeks_194 0 rfl (Nat.le_of_ble_eq_true rfl) rfl ?_
                  refine jv_aload_n 197 X dX10_goWeeks_197 4 rfl ?_
                  refine jv_iload 198 X dX10_goWeeks_198 0 rfl ?_
                  refine jv_puti (ws2 := bMd E a book ((f_change nw (-(pad (p + 1) - 48))).2) week sights sight (nI sg) pad (nI c) 0 ((f_change nw (-(pad (p + 1) - 48))).1) (nI c) (nI (p + 2)) will fitting counts ring nxt wins ways nextWays image isKept) 200 X gf_X10_87 tyX10_ok nmX10 rfl rfl dX10_goWeeks_200 0 rfl (Nat.le_of_ble_eq_true rfl) rfl ?_
                  refine jv_iinc (v := 1) (lv2 := [(4, .int 1), (3, .int ((metS ((f_change nw (-(pad (p + 1) - 48))).2)) &&& ((metS nw) ^^^ (-1)))), (2, .int (metS nw)), (1, .int (pad p)), (0, .ref (a 0))]) 203 X dX10_goWeeks_203 0 rfl (by decide) (by decide) rfl ?_
                  refine jv_goto 206 X dX10_goWeeks_206 166 (by decide) ?_
                  refine jv_iload 166 X dX10_goWeeks_166 0 rfl ?_
                  refine jv_iconst (v := 4) 168 X dX10_goWeeks_168 rfl ?_
                  refine jn_icmp_ge 169 X dX10_goWeeks_169 209 (by decide) (fun c_24 => absurd c_24 (by decide)) (fun _ => ?_)
                  refine jv_aload_n 172 X dX10_goWeeks_172 4 rfl ?_
                  refine jv_get (v := .int (nI c)) 173 X gf_X10_84 dX10_goWeeks_173 0 rfl rfl ?_
                  refine jn_if_ge 176 X dX10_goWeeks_176 209 (by decide) (fun c_25 => ?_) (fun c_25 => absurd (nI_pos' (by omega)) c_25)
                  have n_25 : 0 ≤ c := (nx_le (a := 0) (b := c) rfl rfl (by omega) (by omega)).mp c_25
                  have hf : f_act pad week nw p = (((f_change nw (-(pad (p + 1) - 48))).1), (p + 2), (f_change nw (-(pad (p + 1) - 48))).2) := by simp [f_act, c_2, c_3]
                  have hY : c + 1 ≤ (p + 2) ∧ (p + 2) ≤ sg ∧ WF pad sg (p + 2) ∧ dyOK ((f_change nw (-(pad (p + 1) - 48))).2) ∧ sg - (p + 2) < n14 := by
                    have h9 := hX
                    rw [hf] at h9
                    obtain ⟨h7, h8, h6⟩ := h9
                    have h5 := h7.1
                    dsimp only at h5 h6 h7 h8
                    exact ⟨by omega, h5, h7, h6, by omega⟩
                  refine jv_aload_n 209 X dX10_goWeeks_209 4 rfl ?_
                  refine jv_dup 210 X dX10_goWeeks_210 rfl ?_
                  refine jv_get (v := .int (nI c)) 211 X gf_X10_125 dX10_goWeeks_211 0 rfl rfl ?_
                  refine jv_iconst (v := 1) 214 X dX10_goWeeks_214 rfl ?_
                  refine jv_iadd 215 X dX10_goWeeks_215 ?_
                  refine jv_norm (x2 := nI (c + 1)) (nx_add2 (a := c) (b := 1) rfl rfl (by omega)) ?_
                  refine jv_puti (ws2 := bMd E a book ((f_change nw (-(pad (p + 1) - 48))).2) week sights sight (nI sg) pad (nI c) 0 ((f_change nw (-(pad (p + 1) - 48))).1) (nI (c + 1)) (nI (p + 2)) will fitting counts ring nxt wins ways nextWays image isKept) 216 X gf_X10_125 tyX10_ok nmX10 rfl rfl dX10_goWeeks_216 0 rfl (Nat.le_of_ble_eq_true rfl) rfl ?_
                  refine jv_goto 219 X dX10_goWeeks_219 14 (by decide) ?_
                  exact jv_lv [4] rfl (ih14 (p + 2) (c + 1) ((f_change nw (-(pad (p + 1) - 48))).2) (nI c) 0 ((f_change nw (-(pad (p + 1) - 48))).1) (hY.1) (hY.2.1) (hY.2.2.1) (hY.2.2.2.1) (by rw [hI]; exact goM_s hlt hf c_5 (by simp only [fstM, c_7, c_8, if_true, if_false])) (hY.2.2.2.2))
            · refine jv_aload_n 149 X dX10_goWeeks_149 2 rfl ?_
              refine jv_get (v := .int (nI c)) 150 X gf_X10_125 dX10_goWeeks_150 0 rfl rfl ?_
              have hf : f_act pad week nw p = (((f_change nw (-(pad (p + 1) - 48))).1), (p + 2), (f_change nw (-(pad (p + 1) - 48))).2) := by simp [f_act, c_2, c_3]
              have hq : gwM pad week book sg reason = (nI c, (p + 2), c, (f_change nw (-(pad (p + 1) - 48))).2, ma, mw, ((f_change nw (-(pad (p + 1) - 48))).1)) := hI.trans (goM_r hlt hf (by assumption))
              exact jv_iret 153 X Y rfl dX10_goWeeks_153 () (by rw [hq]; try rfl) (by rw [hq]; try rfl)
          · refine jv_iload_n 73 X dX10_goWeeks_73 1 rfl ?_
            refine jv_bipush (v := 62) 74 X dX10_goWeeks_74 (by decide) ?_
            refine jn_icmp_ne 76 X dX10_goWeeks_76 130 (by decide) (fun c_26 => ?_) (fun c_26 => ?_)
            · obtain ⟨hA, hA2⟩ := WF_A hW2 (by omega) hs (by assumption) (by assumption) (by assumption)
              obtain ⟨hk, hk2⟩ := dig_nI (lo := 65) (hi := 70) (a := 65) (b := 70) rfl rfl (by decide) (by decide) hA2
              refine jv_aload_n 130 X dX10_goWeeks_130 2 rfl ?_
              refine jv_aload_n 131 X dX10_goWeeks_131 2 rfl ?_
              refine jv_iload_n 132 X dX10_goWeeks_132 1 rfl ?_
              refine jv_bipush (v := 65) 133 X dX10_goWeeks_133 (by decide) ?_
              refine jv_isub 135 X dX10_goWeeks_135 ?_
              refine jv_norm (x2 := nI (pad p - 65).toNatClampNeg) hk ?_
              refine jv_callW (w1 := bMd E a book ((f_oneAct pad nw p ((pad p - 65).toNatClampNeg)).2.2) week sights sight (nI sg) pad ma mw rs (nI c) (nI (f_oneAct pad nw p ((pad p - 65).toNatClampNeg)).2.1) will fitting counts ring nxt wins ways nextWays image isKept) 136 X (c_X10_oneAct E _ a book nw week sights sight (nI sg) pad ma mw rs (nI c) p will fitting counts ring nxt wins ways nextWays image isKept ((pad p - 65).toNatClampNeg) (by omega) hA) wv_X10_140 ⟨Nat.le_of_ble_eq_true rfl, Nat.le_of_ble_eq_true rfl⟩ ⟨rfl, rfl⟩ ⟨Nat.zero_le _, Nat.zero_le _⟩ dX10_goWeeks_136 rfl [.ref (a 0)] rfl (Nat.le_of_ble_eq_true rfl) 0 rfl rfl ?_
              refine jv_puti (ws2 := bMd E a book ((f_oneAct pad nw p ((pad p - 65).toNatClampNeg)).2.2) week sights sight (nI sg) pad ma mw ((f_oneAct pad nw p ((pad p - 65).toNatClampNeg)).1) (nI c) (nI (f_oneAct pad nw p ((pad p - 65).toNatClampNeg)).2.1) will fitting counts ring nxt wins ways nextWays image isKept) 139 X gf_X10_134 tyX10_ok nmX10 rfl rfl dX10_goWeeks_139 0 rfl (Nat.le_of_ble_eq_true rfl) rfl ?_
              refine jv_aload_n 142 X dX10_goWeeks_142 2 rfl ?_
              refine jv_get (v := .int ((f_oneAct pad nw p ((pad p - 65).toNatClampNeg)).1)) 143 X gf_X10_134 dX10_goWeeks_143 0 rfl rfl ?_
              refine jn_if_le 146 X dX10_goWeeks_146 154 (by decide) (fun c_27 => ?_) (fun c_27 => ?_)
              · refine jv_aload_n 154 X dX10_goWeeks_154 2 rfl ?_
                refine jv_callW (w1 := bMd E a book ((f_oneAct pad nw p ((pad p - 65).toNatClampNeg)).2.2) week sights sight (nI sg) pad ma mw ((f_oneAct pad nw p ((pad p - 65).toNatClampNeg)).1) (nI c) (nI (f_oneAct pad nw p ((pad p - 65).toNatClampNeg)).2.1) will fitting counts ring nxt wins ways nextWays image isKept) 155 X (c_X10_met E _ a book ((f_oneAct pad nw p ((pad p - 65).toNatClampNeg)).2.2) week sights sight (nI sg) pad ma mw ((f_oneAct pad nw p ((pad p - 65).toNatClampNeg)).1) (nI c) (nI (f_oneAct pad nw p ((pad p - 65).toNatClampNeg)).2.1) will fitting counts ring nxt wins ways nextWays image isKept) wv_X10_128 ⟨Nat.le_of_ble_eq_true rfl, Nat.le_of_ble_eq_true rfl⟩ ⟨rfl, rfl⟩ ⟨Nat.zero_le _, Nat.zero_le _⟩ dX10_goWeeks_155 rfl [] rfl (Nat.le_of_ble_eq_true rfl) 0 rfl rfl ?_
                refine jv_iload_n 158 X dX10_goWeeks_158 0 rfl ?_
                refine jv_iconst (v := (-1)) 159 X dX10_goWeeks_159 rfl ?_
                refine jv_ixor 160 X dX10_goWeeks_160 ?_
                refine jv_iand 161 X dX10_goWeeks_161 ?_
                refine jv_istore_n (lv2 := [(3, .int ((metS ((f_oneAct pad nw p ((pad p - 65).toNatClampNeg)).2.2)) &&& ((metS nw) ^^^ (-1)))), (2, .int (metS nw)), (1, .int (pad p)), (0, .ref (a 0))]) 162 X dX10_goWeeks_162 (by decide) rfl ?_
                refine jv_iconst (v := 0) 163 X dX10_goWeeks_163 rfl ?_
                refine jv_istore (lv2 := [(4, .int 0), (3, .int ((metS ((f_oneAct pad nw p ((pad p - 65).toNatClampNeg)).2.2)) &&& ((metS nw) ^^^ (-1)))), (2, .int (metS nw)), (1, .int (pad p)), (0, .ref (a 0))]) 164 X dX10_goWeeks_164 (by decide) rfl ?_
                refine jv_iload 166 X dX10_goWeeks_166 0 rfl ?_
                refine jv_iconst (v := 4) 168 X dX10_goWeeks_168 rfl ?_
                refine jn_icmp_ge 169 X dX10_goWeeks_169 209 (by decide) (fun c_28 => absurd c_28 (by decide)) (fun _ => ?_)
                refine jv_aload_n 172 X dX10_goWeeks_172 4 rfl ?_
                refine jv_get (v := .int ma) 173 X gf_X10_84 dX10_goWeeks_173 0 rfl rfl ?_
                refine jn_if_ge 176 X dX10_goWeeks_176 209 (by decide) (fun c_29 => ?_) (fun c_29 => ?_)
                · have hf : f_act pad week nw p = (((f_oneAct pad nw p ((pad p - 65).toNatClampNeg)).1), (f_oneAct pad nw p ((pad p - 65).toNatClampNeg)).2.1, (f_oneAct pad nw p ((pad p - 65).toNatClampNeg)).2.2) := by simp [f_act, c_2, c_3, c_26]
                  have hY : c + 1 ≤ ((f_oneAct pad nw p ((pad p - 65).toNatClampNeg)).2.1) ∧ ((f_oneAct pad nw p ((pad p - 65).toNatClampNeg)).2.1) ≤ sg ∧ WF pad sg ((f_oneAct pad nw p ((pad p - 65).toNatClampNeg)).2.1) ∧ dyOK ((f_oneAct pad nw p ((pad p - 65).toNatClampNeg)).2.2) ∧ sg - ((f_oneAct pad nw p ((pad p - 65).toNatClampNeg)).2.1) < n14 := by
                    have h9 := hX
                    rw [hf] at h9
                    obtain ⟨h7, h8, h6⟩ := h9
                    have h5 := h7.1
                    dsimp only at h5 h6 h7 h8
                    exact ⟨by omega, h5, h7, h6, by omega⟩
                  refine jv_aload_n 209 X dX10_goWeeks_209 4 rfl ?_
                  refine jv_dup 210 X dX10_goWeeks_210 rfl ?_
                  refine jv_get (v := .int (nI c)) 211 X gf_X10_125 dX10_goWeeks_211 0 rfl rfl ?_
                  refine jv_iconst (v := 1) 214 X dX10_goWeeks_214 rfl ?_
                  refine jv_iadd 215 X dX10_goWeeks_215 ?_
                  refine jv_norm (x2 := nI (c + 1)) (nx_add2 (a := c) (b := 1) rfl rfl (by omega)) ?_
                  refine jv_puti (ws2 := bMd E a book ((f_oneAct pad nw p ((pad p - 65).toNatClampNeg)).2.2) week sights sight (nI sg) pad ma mw ((f_oneAct pad nw p ((pad p - 65).toNatClampNeg)).1) (nI (c + 1)) (nI (f_oneAct pad nw p ((pad p - 65).toNatClampNeg)).2.1) will fitting counts ring nxt wins ways nextWays image isKept) 216 X gf_X10_125 tyX10_ok nmX10 rfl rfl dX10_goWeeks_216 0 rfl (Nat.le_of_ble_eq_true rfl) rfl ?_
                  refine jv_goto 219 X dX10_goWeeks_219 14 (by decide) ?_
                  exact jv_lv [4] rfl (ih14 ((f_oneAct pad nw p ((pad p - 65).toNatClampNeg)).2.1) (c + 1) ((f_oneAct pad nw p ((pad p - 65).toNatClampNeg)).2.2) ma mw ((f_oneAct pad nw p ((pad p - 65).toNatClampNeg)).1) (hY.1) (hY.2.1) (hY.2.2.1) (hY.2.2.2.1) (by rw [hI]; exact goM_s hlt hf c_27 (by simp only [fstM, c_29, if_true, if_false])) (hY.2.2.2.2))
                · refine jv_iload_n 179 X dX10_goWeeks_179 1 rfl ?_
                  refine jv_iload 180 X dX10_goWeeks_180 0 rfl ?_
                  refine jv_ishr 182 X dX10_goWeeks_182 ?_
                  refine jv_iconst (v := 1) 183 X dX10_goWeeks_183 rfl ?_
                  refine jv_iand 184 X dX10_goWeeks_184 ?_
                  refine jv_iconst (v := 1) 185 X dX10_goWeeks_185 rfl ?_
                  refine jn_icmp_ne 186 X dX10_goWeeks_186 203 (by decide) (fun c_30 => ?_) (fun c_30 => ?_)
                  · refine jv_iinc (v := 1) (lv2 := [(4, .int 1), (3, .int ((metS ((f_oneAct pad nw p ((pad p - 65).toNatClampNeg)).2.2)) &&& ((metS nw) ^^^ (-1)))), (2, .int (metS nw)), (1, .int (pad p)), (0, .ref (a 0))]) 203 X dX10_goWeeks_203 0 rfl (by decide) (by decide) rfl ?_
                    refine jv_goto 206 X dX10_goWeeks_206 166 (by decide) ?_
                    refine jv_iload 166 X dX10_goWeeks_166 0 rfl ?_
                    refine jv_iconst (v := 4) 168 X dX10_goWeeks_168 rfl ?_
                    refine jn_icmp_ge 169 X dX10_goWeeks_169 209 (by decide) (fun c_31 => absurd c_31 (by decide)) (fun _ => ?_)
                    refine jv_aload_n 172 X dX10_goWeeks_172 4 rfl ?_
                    refine jv_get (v := .int ma) 173 X gf_X10_84 dX10_goWeeks_173 0 rfl rfl ?_
                    refine jn_if_ge 176 X dX10_goWeeks_176 209 (by decide) (fun c_32 => absurd c_32 c_29) (fun _ => ?_)
                    refine jv_iload_n 179 X dX10_goWeeks_179 1 rfl ?_
                    refine jv_iload 180 X dX10_goWeeks_180 0 rfl ?_
                    refine jv_ishr 182 X dX10_goWeeks_182 ?_
                    refine jv_iconst (v := 1) 183 X dX10_goWeeks_183 rfl ?_
                    refine jv_iand 184 X dX10_goWeeks_184 ?_
                    refine jv_iconst (v := 1) 185 X dX10_goWeeks_185 rfl ?_
                    refine jn_icmp_ne 186 X dX10_goWeeks_186 203 (by decide) (fun c_33 => ?_) (fun c_33 => ?_)
                    · refine jv_iinc (v := 2) (lv2 := [(4, .int 2), (3, .int ((metS ((f_oneAct pad nw p ((pad p - 65).toNatClampNeg)).2.2)) &&& ((metS nw) ^^^ (-1)))), (2, .int (metS nw)), (1, .int (pad p)), (0, .ref (a 0))]) 203 X dX10_goWeeks_203 0 rfl (by decide) (by decide) rfl ?_
                      refine jv_goto 206 X dX10_goWeeks_206 166 (by decide) ?_
                      refine jv_iload 166 X dX10_goWeeks_166 0 rfl ?_
                      refine jv_iconst (v := 4) 168 X dX10_goWeeks_168 rfl ?_
                      refine jn_icmp_ge 169 X dX10_goWeeks_169 209 (by decide) (fun c_34 => absurd c_34 (by decide)) (fun _ => ?_)
                      refine jv_aload_n 172 X dX10_goWeeks_172 4 rfl ?_
                      refine jv_get (v := .int ma) 173 X gf_X10_84 dX10_goWeeks_173 0 rfl rfl ?_
                      refine jn_if_ge 176 X dX10_goWeeks_176 209 (by decide) (fun c_35 => absurd c_35 c_29) (fun _ => ?_)
                      refine jv_iload_n 179 X dX10_goWeeks_179 1 rfl ?_
                      refine jv_iload 180 X dX10_goWeeks_180 0 rfl ?_
                      refine jv_ishr 182 X dX10_goWeeks_182 ?_
                      refine jv_iconst (v := 1) 183 X dX10_goWeeks_183 rfl ?_
                      refine jv_iand 184 X dX10_goWeeks_184 ?_
                      refine jv_iconst (v := 1) 185 X dX10_goWeeks_185 rfl ?_
                      refine jn_icmp_ne 186 X dX10_goWeeks_186 203 (by decide) (fun c_36 => ?_) (fun c_36 => ?_)
                      · refine jv_iinc (v := 3) (lv2 := [(4, .int 3), (3, .int ((metS ((f_oneAct pad nw p ((pad p - 65).toNatClampNeg)).2.2)) &&& ((metS nw) ^^^ (-1)))), (2, .int (metS nw)), (1, .int (pad p)), (0, .ref (a 0))]) 203 X dX10_goWeeks_203 0 rfl (by decide) (by decide) rfl ?_
                        refine jv_goto 206 X dX10_goWeeks_206 166 (by decide) ?_
                        refine jv_iload 166 X dX10_goWeeks_166 0 rfl ?_
                        refine jv_iconst (v := 4) 168 X dX10_goWeeks_168 rfl ?_
                        refine jn_icmp_ge 169 X dX10_goWeeks_169 209 (by decide) (fun c_37 => absurd c_37 (by decide)) (fun _ => ?_)
                        refine jv_aload_n 172 X dX10_goWeeks_172 4 rfl ?_
                        refine jv_get (v := .int ma) 173 X gf_X10_84 dX10_goWeeks_173 0 rfl rfl ?_
                        refine jn_if_ge 176 X dX10_goWeeks_176 209 (by decide) (fun c_38 => absurd c_38 c_29) (fun _ => ?_)
                        refine jv_iload_n 179 X dX10_goWeeks_179 1 rfl ?_
                        refine jv_iload 180 X dX10_goWeeks_180 0 rfl ?_
                        refine jv_ishr 182 X dX10_goWeeks_182 ?_
                        refine jv_iconst (v := 1) 183 X dX10_goWeeks_183 rfl ?_
                        refine jv_iand 184 X dX10_goWeeks_184 ?_
                        refine jv_iconst (v := 1) 185 X dX10_goWeeks_185 rfl ?_
                        refine jn_icmp_ne 186 X dX10_goWeeks_186 203 (by decide) (fun c_39 => ?_) (fun c_39 => ?_)
                        · refine jv_iinc (v := 4) (lv2 := [(4, .int 4), (3, .int ((metS ((f_oneAct pad nw p ((pad p - 65).toNatClampNeg)).2.2)) &&& ((metS nw) ^^^ (-1)))), (2, .int (metS nw)), (1, .int (pad p)), (0, .ref (a 0))]) 203 X dX10_goWeeks_203 0 rfl (by decide) (by decide) rfl ?_
                          refine jv_goto 206 X dX10_goWeeks_206 166 (by decide) ?_
                          refine jv_iload 166 X dX10_goWeeks_166 0 rfl ?_
                          refine jv_iconst (v := 4) 168 X dX10_goWeeks_168 rfl ?_
                          refine jn_icmp_ge 169 X dX10_goWeeks_169 209 (by decide) (fun _ => ?_) (fun c_40 => absurd c_40 (by decide))
                          have hf : f_act pad week nw p = (((f_oneAct pad nw p ((pad p - 65).toNatClampNeg)).1), (f_oneAct pad nw p ((pad p - 65).toNatClampNeg)).2.1, (f_oneAct pad nw p ((pad p - 65).toNatClampNeg)).2.2) := by simp [f_act, c_2, c_3, c_26]
                          have hY : c + 1 ≤ ((f_oneAct pad nw p ((pad p - 65).toNatClampNeg)).2.1) ∧ ((f_oneAct pad nw p ((pad p - 65).toNatClampNeg)).2.1) ≤ sg ∧ WF pad sg ((f_oneAct pad nw p ((pad p - 65).toNatClampNeg)).2.1) ∧ dyOK ((f_oneAct pad nw p ((pad p - 65).toNatClampNeg)).2.2) ∧ sg - ((f_oneAct pad nw p ((pad p - 65).toNatClampNeg)).2.1) < n14 := by
                            have h9 := hX
                            rw [hf] at h9
                            obtain ⟨h7, h8, h6⟩ := h9
                            have h5 := h7.1
                            dsimp only at h5 h6 h7 h8
                            exact ⟨by omega, h5, h7, h6, by omega⟩
                          refine jv_aload_n 209 X dX10_goWeeks_209 4 rfl ?_
                          refine jv_dup 210 X dX10_goWeeks_210 rfl ?_
                          refine jv_get (v := .int (nI c)) 211 X gf_X10_125 dX10_goWeeks_211 0 rfl rfl ?_
                          refine jv_iconst (v := 1) 214 X dX10_goWeeks_214 rfl ?_
                          refine jv_iadd 215 X dX10_goWeeks_215 ?_
                          refine jv_norm (x2 := nI (c + 1)) (nx_add2 (a := c) (b := 1) rfl rfl (by omega)) ?_
                          refine jv_puti (ws2 := bMd E a book ((f_oneAct pad nw p ((pad p - 65).toNatClampNeg)).2.2) week sights sight (nI sg) pad ma mw ((f_oneAct pad nw p ((pad p - 65).toNatClampNeg)).1) (nI (c + 1)) (nI (f_oneAct pad nw p ((pad p - 65).toNatClampNeg)).2.1) will fitting counts ring nxt wins ways nextWays image isKept) 216 X gf_X10_125 tyX10_ok nmX10 rfl rfl dX10_goWeeks_216 0 rfl (Nat.le_of_ble_eq_true rfl) rfl ?_
                          refine jv_goto 219 X dX10_goWeeks_219 14 (by decide) ?_
                          exact jv_lv [4] rfl (ih14 ((f_oneAct pad nw p ((pad p - 65).toNatClampNeg)).2.1) (c + 1) ((f_oneAct pad nw p ((pad p - 65).toNatClampNeg)).2.2) ma mw ((f_oneAct pad nw p ((pad p - 65).toNatClampNeg)).1) (hY.1) (hY.2.1) (hY.2.2.1) (hY.2.2.2.1) (by rw [hI]; exact goM_s hlt hf c_27 (by simp only [fstM, c_29, c_30, c_33, c_36, c_39, if_true, if_false])) (hY.2.2.2.2))
                        · refine jv_aload_n 189 X dX10_goWeeks_189 4 rfl ?_
                          refine jv_aload_n 190 X dX10_goWeeks_190 4 rfl ?_
                          refine jv_get (v := .int (nI c)) 191 X gf_X10_125 dX10_goWeeks_191 0 rfl rfl ?_
                          refine jv_puti (ws2 := bMd E a book ((f_oneAct pad nw p ((pad p - 65).toNatClampNeg)).2.2) week sights sight (nI sg) pad (nI c) mw ((f_oneAct pad nw p ((pad p - 65).toNatClampNeg)).1) (nI c) (nI (f_oneAct pad nw p ((pad p - 65).toNatClampNeg)).2.1) will fitting counts ring nxt wins ways nextWays image isKept) 194 X gf_X10_84 tyX10_ok nmX10 rfl rfl dX10_goWeeks_194 0 rfl (Nat.le_of_ble_eq_true rfl) rfl ?_
                          refine jv_aload_n 197 X dX10_goWeeks_197 4 rfl ?_
                          refine jv_iload 198 X dX10_goWeeks_198 0 rfl ?_
                          refine jv_puti (ws2 := bMd E a book ((f_oneAct pad nw p ((pad p - 65).toNatClampNeg)).2.2) week sights sight (nI sg) pad (nI c) 3 ((f_oneAct pad nw p ((pad p - 65).toNatClampNeg)).1) (nI c) (nI (f_oneAct pad nw p ((pad p - 65).toNatClampNeg)).2.1) will fitting counts ring nxt wins ways nextWays image isKept) 200 X gf_X10_87 tyX10_ok nmX10 rfl rfl dX10_goWeeks_200 0 rfl (Nat.le_of_ble_eq_true rfl) rfl ?_
                          refine jv_iinc (v := 4) (lv2 := [(4, .int 4), (3, .int ((metS ((f_oneAct pad nw p ((pad p - 65).toNatClampNeg)).2.2)) &&& ((metS nw) ^^^ (-1)))), (2, .int (metS nw)), (1, .int (pad p)), (0, .ref (a 0))]) 203 X dX10_goWeeks_203 0 rfl (by decide) (by decide) rfl ?_
                          refine jv_goto 206 X dX10_goWeeks_206 166 (by decide) ?_
                          refine jv_iload 166 X dX10_goWeeks_166 0 rfl ?_
                          refine jv_iconst (v := 4) 168 X dX10_goWeeks_168 rfl ?_
                          refine jn_icmp_ge 169 X dX10_goWeeks_169 209 (by decide) (fun _ => ?_) (fun c_41 => absurd c_41 (by decide))
                          have hf : f_act pad week nw p = (((f_oneAct pad nw p ((pad p - 65).toNatClampNeg)).1), (f_oneAct pad nw p ((pad p - 65).toNatClampNeg)).2.1, (f_oneAct pad nw p ((pad p - 65).toNatClampNeg)).2.2) := by simp [f_act, c_2, c_3, c_26]
                          have hY : c + 1 ≤ ((f_oneAct pad nw p ((pad p - 65).toNatClampNeg)).2.1) ∧ ((f_oneAct pad nw p ((pad p - 65).toNatClampNeg)).2.1) ≤ sg ∧ WF pad sg ((f_oneAct pad nw p ((pad p - 65).toNatClampNeg)).2.1) ∧ dyOK ((f_oneAct pad nw p ((pad p - 65).toNatClampNeg)).2.2) ∧ sg - ((f_oneAct pad nw p ((pad p - 65).toNatClampNeg)).2.1) < n14 := by
                            have h9 := hX
                            rw [hf] at h9
                            obtain ⟨h7, h8, h6⟩ := h9
                            have h5 := h7.1
                            dsimp only at h5 h6 h7 h8
                            exact ⟨by omega, h5, h7, h6, by omega⟩
                          refine jv_aload_n 209 X dX10_goWeeks_209 4 rfl ?_
                          refine jv_dup 210 X dX10_goWeeks_210 rfl ?_
                          refine jv_get (v := .int (nI c)) 211 X gf_X10_125 dX10_goWeeks_211 0 rfl rfl ?_
                          refine jv_iconst (v := 1) 214 X dX10_goWeeks_214 rfl ?_
                          refine jv_iadd 215 X dX10_goWeeks_215 ?_
                          refine jv_norm (x2 := nI (c + 1)) (nx_add2 (a := c) (b := 1) rfl rfl (by omega)) ?_
                          refine jv_puti (ws2 := bMd E a book ((f_oneAct pad nw p ((pad p - 65).toNatClampNeg)).2.2) week sights sight (nI sg) pad (nI c) 3 ((f_oneAct pad nw p ((pad p - 65).toNatClampNeg)).1) (nI (c + 1)) (nI (f_oneAct pad nw p ((pad p - 65).toNatClampNeg)).2.1) will fitting counts ring nxt wins ways nextWays image isKept) 216 X gf_X10_125 tyX10_ok nmX10 rfl rfl dX10_goWeeks_216 0 rfl (Nat.le_of_ble_eq_true rfl) rfl ?_
                          refine jv_goto 219 X dX10_goWeeks_219 14 (by decide) ?_
                          exact jv_lv [4] rfl (ih14 ((f_oneAct pad nw p ((pad p - 65).toNatClampNeg)).2.1) (c + 1) ((f_oneAct pad nw p ((pad p - 65).toNatClampNeg)).2.2) (nI c) 3 ((f_oneAct pad nw p ((pad p - 65).toNatClampNeg)).1) (hY.1) (hY.2.1) (hY.2.2.1) (hY.2.2.2.1) (by rw [hI]; exact goM_s hlt hf c_27 (by simp only [fstM, c_29, c_30, c_33, c_36, c_39, if_true, if_false])) (hY.2.2.2.2))
                      · refine jv_aload_n 189 X dX10_goWeeks_189 4 rfl ?_
                        refine jv_aload_n 190 X dX10_goWeeks_190 4 rfl ?_
                        refine jv_get (v := .int (nI c)) 191 X gf_X10_125 dX10_goWeeks_191 0 rfl rfl ?_
                        refine jv_puti (ws2 := bMd E a book ((f_oneAct pad nw p ((pad p - 65).toNatClampNeg)).2.2) week sights sight (nI sg) pad (nI c) mw ((f_oneAct pad nw p ((pad p - 65).toNatClampNeg)).1) (nI c) (nI (f_oneAct pad nw p ((pad p - 65).toNatClampNeg)).2.1) will fitting counts ring nxt wins ways nextWays image isKept) 194 X gf_X10_84 tyX10_ok nmX10 rfl rfl dX10_goWeeks_194 0 rfl (Nat.le_of_ble_eq_true rfl) rfl ?_
                        refine jv_aload_n 197 X dX10_goWeeks_197 4 rfl ?_
                        refine jv_iload 198 X dX10_goWeeks_198 0 rfl ?_
                        refine jv_puti (ws2 := bMd E a book ((f_oneAct pad nw p ((pad p - 65).toNatClampNeg)).2.2) week sights sight (nI sg) pad (nI c) 2 ((f_oneAct pad nw p ((pad p - 65).toNatClampNeg)).1) (nI c) (nI (f_oneAct pad nw p ((pad p - 65).toNatClampNeg)).2.1) will fitting counts ring nxt wins ways nextWays image isKept) 200 X gf_X10_87 tyX10_ok nmX10 rfl rfl dX10_goWeeks_200 0 rfl (Nat.le_of_ble_eq_true rfl) rfl ?_
                        refine jv_iinc (v := 3) (lv2 := [(4, .int 3), (3, .int ((metS ((f_oneAct pad nw p ((pad p - 65).toNatClampNeg)).2.2)) &&& ((metS nw) ^^^ (-1)))), (2, .int (metS nw)), (1, .int (pad p)), (0, .ref (a 0))]) 203 X dX10_goWeeks_203 0 rfl (by decide) (by decide) rfl ?_
                        refine jv_goto 206 X dX10_goWeeks_206 166 (by decide) ?_
                        refine jv_iload 166 X dX10_goWeeks_166 0 rfl ?_
                        refine jv_iconst (v := 4) 168 X dX10_goWeeks_168 rfl ?_
                        refine jn_icmp_ge 169 X dX10_goWeeks_169 209 (by decide) (fun c_42 => absurd c_42 (by decide)) (fun _ => ?_)
                        refine jv_aload_n 172 X dX10_goWeeks_172 4 rfl ?_
                        refine jv_get (v := .int (nI c)) 173 X gf_X10_84 dX10_goWeeks_173 0 rfl rfl ?_
                        refine jn_if_ge 176 X dX10_goWeeks_176 209 (by decide) (fun c_43 => ?_) (fun c_43 => absurd (nI_pos' (by omega)) c_43)
                        have n_43 : 0 ≤ c := (nx_le (a := 0) (b := c) rfl rfl (by omega) (by omega)).mp c_43
                        have hf : f_act pad week nw p = (((f_oneAct pad nw p ((pad p - 65).toNatClampNeg)).1), (f_oneAct pad nw p ((pad p - 65).toNatClampNeg)).2.1, (f_oneAct pad nw p ((pad p - 65).toNatClampNeg)).2.2) := by simp [f_act, c_2, c_3, c_26]
                        have hY : c + 1 ≤ ((f_oneAct pad nw p ((pad p - 65).toNatClampNeg)).2.1) ∧ ((f_oneAct pad nw p ((pad p - 65).toNatClampNeg)).2.1) ≤ sg ∧ WF pad sg ((f_oneAct pad nw p ((pad p - 65).toNatClampNeg)).2.1) ∧ dyOK ((f_oneAct pad nw p ((pad p - 65).toNatClampNeg)).2.2) ∧ sg - ((f_oneAct pad nw p ((pad p - 65).toNatClampNeg)).2.1) < n14 := by
                          have h9 := hX
                          rw [hf] at h9
                          obtain ⟨h7, h8, h6⟩ := h9
                          have h5 := h7.1
                          dsimp only at h5 h6 h7 h8
                          exact ⟨by omega, h5, h7, h6, by omega⟩
                        refine jv_aload_n 209 X dX10_goWeeks_209 4 rfl ?_
                        refine jv_dup 210 X dX10_goWeeks_210 rfl ?_
                        refine jv_get (v := .int (nI c)) 211 X gf_X10_125 dX10_goWeeks_211 0 rfl rfl ?_
                        refine jv_iconst (v := 1) 214 X dX10_goWeeks_214 rfl ?_
                        refine jv_iadd 215 X dX10_goWeeks_215 ?_
                        refine jv_norm (x2 := nI (c + 1)) (nx_add2 (a := c) (b := 1) rfl rfl (by omega)) ?_
                        refine jv_puti (ws2 := bMd E a book ((f_oneAct pad nw p ((pad p - 65).toNatClampNeg)).2.2) week sights sight (nI sg) pad (nI c) 2 ((f_oneAct pad nw p ((pad p - 65).toNatClampNeg)).1) (nI (c + 1)) (nI (f_oneAct pad nw p ((pad p - 65).toNatClampNeg)).2.1) will fitting counts ring nxt wins ways nextWays image isKept) 216 X gf_X10_125 tyX10_ok nmX10 rfl rfl dX10_goWeeks_216 0 rfl (Nat.le_of_ble_eq_true rfl) rfl ?_
                        refine jv_goto 219 X dX10_goWeeks_219 14 (by decide) ?_
                        exact jv_lv [4] rfl (ih14 ((f_oneAct pad nw p ((pad p - 65).toNatClampNeg)).2.1) (c + 1) ((f_oneAct pad nw p ((pad p - 65).toNatClampNeg)).2.2) (nI c) 2 ((f_oneAct pad nw p ((pad p - 65).toNatClampNeg)).1) (hY.1) (hY.2.1) (hY.2.2.1) (hY.2.2.2.1) (by rw [hI]; exact goM_s hlt hf c_27 (by simp only [fstM, c_29, c_30, c_33, c_36, if_true, if_false])) (hY.2.2.2.2))
                    · refine jv_aload_n 189 X dX10_goWeeks_189 4 rfl ?_
                      refine jv_aload_n 190 X dX10_goWeeks_190 4 rfl ?_
                      refine jv_get (v := .int (nI c)) 191 X gf_X10_125 dX10_goWeeks_191 0 rfl rfl ?_
                      refine jv_puti (ws2 := bMd E a book ((f_oneAct pad nw p ((pad p - 65).toNatClampNeg)).2.2) week sights sight (nI sg) pad (nI c) mw ((f_oneAct pad nw p ((pad p - 65).toNatClampNeg)).1) (nI c) (nI (f_oneAct pad nw p ((pad p - 65).toNatClampNeg)).2.1) will fitting counts ring nxt wins ways nextWays image isKept) 194 X gf_X10_84 tyX10_ok nmX10 rfl rfl dX10_goWeeks_194 0 rfl (Nat.le_of_ble_eq_true rfl) rfl ?_
                      refine jv_aload_n 197 X dX10_goWeeks_197 4 rfl ?_
                      refine jv_iload 198 X dX10_goWeeks_198 0 rfl ?_
                      refine jv_puti (ws2 := bMd E a book ((f_oneAct pad nw p ((pad p - 65).toNatClampNeg)).2.2) week sights sight (nI sg) pad (nI c) 1 ((f_oneAct pad nw p ((pad p - 65).toNatClampNeg)).1) (nI c) (nI (f_oneAct pad nw p ((pad p - 65).toNatClampNeg)).2.1) will fitting counts ring nxt wins ways nextWays image isKept) 200 X gf_X10_87 tyX10_ok nmX10 rfl rfl dX10_goWeeks_200 0 rfl (Nat.le_of_ble_eq_true rfl) rfl ?_
                      refine jv_iinc (v := 2) (lv2 := [(4, .int 2), (3, .int ((metS ((f_oneAct pad nw p ((pad p - 65).toNatClampNeg)).2.2)) &&& ((metS nw) ^^^ (-1)))), (2, .int (metS nw)), (1, .int (pad p)), (0, .ref (a 0))]) 203 X dX10_goWeeks_203 0 rfl (by decide) (by decide) rfl ?_
                      refine jv_goto 206 X dX10_goWeeks_206 166 (by decide) ?_
                      refine jv_iload 166 X dX10_goWeeks_166 0 rfl ?_
                      refine jv_iconst (v := 4) 168 X dX10_goWeeks_168 rfl ?_
                      refine jn_icmp_ge 169 X dX10_goWeeks_169 209 (by decide) (fun c_44 => absurd c_44 (by decide)) (fun _ => ?_)
                      refine jv_aload_n 172 X dX10_goWeeks_172 4 rfl ?_
                      refine jv_get (v := .int (nI c)) 173 X gf_X10_84 dX10_goWeeks_173 0 rfl rfl ?_
                      refine jn_if_ge 176 X dX10_goWeeks_176 209 (by decide) (fun c_45 => ?_) (fun c_45 => absurd (nI_pos' (by omega)) c_45)
                      have n_45 : 0 ≤ c := (nx_le (a := 0) (b := c) rfl rfl (by omega) (by omega)).mp c_45
                      have hf : f_act pad week nw p = (((f_oneAct pad nw p ((pad p - 65).toNatClampNeg)).1), (f_oneAct pad nw p ((pad p - 65).toNatClampNeg)).2.1, (f_oneAct pad nw p ((pad p - 65).toNatClampNeg)).2.2) := by simp [f_act, c_2, c_3, c_26]
                      have hY : c + 1 ≤ ((f_oneAct pad nw p ((pad p - 65).toNatClampNeg)).2.1) ∧ ((f_oneAct pad nw p ((pad p - 65).toNatClampNeg)).2.1) ≤ sg ∧ WF pad sg ((f_oneAct pad nw p ((pad p - 65).toNatClampNeg)).2.1) ∧ dyOK ((f_oneAct pad nw p ((pad p - 65).toNatClampNeg)).2.2) ∧ sg - ((f_oneAct pad nw p ((pad p - 65).toNatClampNeg)).2.1) < n14 := by
                        have h9 := hX
                        rw [hf] at h9
                        obtain ⟨h7, h8, h6⟩ := h9
                        have h5 := h7.1
                        dsimp only at h5 h6 h7 h8
                        exact ⟨by omega, h5, h7, h6, by omega⟩
                      refine jv_aload_n 209 X dX10_goWeeks_209 4 rfl ?_
                      refine jv_dup 210 X dX10_goWeeks_210 rfl ?_
                      refine jv_get (v := .int (nI c)) 211 X gf_X10_125 dX10_goWeeks_211 0 rfl rfl ?_
                      refine jv_iconst (v := 1) 214 X dX10_goWeeks_214 rfl ?_
                      refine jv_iadd 215 X dX10_goWeeks_215 ?_
                      refine jv_norm (x2 := nI (c + 1)) (nx_add2 (a := c) (b := 1) rfl rfl (by omega)) ?_
                      refine jv_puti (ws2 := bMd E a book ((f_oneAct pad nw p ((pad p - 65).toNatClampNeg)).2.2) week sights sight (nI sg) pad (nI c) 1 ((f_oneAct pad nw p ((pad p - 65).toNatClampNeg)).1) (nI (c + 1)) (nI (f_oneAct pad nw p ((pad p - 65).toNatClampNeg)).2.1) will fitting counts ring nxt wins ways nextWays image isKept) 216 X gf_X10_125 tyX10_ok nmX10 rfl rfl dX10_goWeeks_216 0 rfl (Nat.le_of_ble_eq_true rfl) rfl ?_
                      refine jv_goto 219 X dX10_goWeeks_219 14 (by decide) ?_
                      exact jv_lv [4] rfl (ih14 ((f_oneAct pad nw p ((pad p - 65).toNatClampNeg)).2.1) (c + 1) ((f_oneAct pad nw p ((pad p - 65).toNatClampNeg)).2.2) (nI c) 1 ((f_oneAct pad nw p ((pad p - 65).toNatClampNeg)).1) (hY.1) (hY.2.1) (hY.2.2.1) (hY.2.2.2.1) (by rw [hI]; exact goM_s hlt hf c_27 (by simp only [fstM, c_29, c_30, c_33, if_true, if_false])) (hY.2.2.2.2))
                  · refine jv_aload_n 189 X dX10_goWeeks_189 4 rfl ?_
                    refine jv_aload_n 190 X dX10_goWeeks_190 4 rfl ?_
                    refine jv_get (v := .int (nI c)) 191 X gf_X10_125 dX10_goWeeks_191 0 rfl rfl ?_
                    refine jv_puti (ws2 := bMd E a book ((f_oneAct pad nw p ((pad p - 65).toNatClampNeg)).2.2) week sights sight (nI sg) pad (nI c) mw ((f_oneAct pad nw p ((pad p - 65).toNatClampNeg)).1) (nI c) (nI (f_oneAct pad nw p ((pad p - 65).toNatClampNeg)).2.1) will fitting counts ring nxt wins ways nextWays image isKept) 194 X gf_X10_84 tyX10_ok nmX10 rfl rfl dX10_goWeeks_194 0 rfl (Nat.le_of_ble_eq_true rfl) rfl ?_
                    refine jv_aload_n 197 X dX10_goWeeks_197 4 rfl ?_
                    refine jv_iload 198 X dX10_goWeeks_198 0 rfl ?_
                    refine jv_puti (ws2 := bMd E a book ((f_oneAct pad nw p ((pad p - 65).toNatClampNeg)).2.2) week sights sight (nI sg) pad (nI c) 0 ((f_oneAct pad nw p ((pad p - 65).toNatClampNeg)).1) (nI c) (nI (f_oneAct pad nw p ((pad p - 65).toNatClampNeg)).2.1) will fitting counts ring nxt wins ways nextWays image isKept) 200 X gf_X10_87 tyX10_ok nmX10 rfl rfl dX10_goWeeks_200 0 rfl (Nat.le_of_ble_eq_true rfl) rfl ?_
                    refine jv_iinc (v := 1) (lv2 := [(4, .int 1), (3, .int ((metS ((f_oneAct pad nw p ((pad p - 65).toNatClampNeg)).2.2)) &&& ((metS nw) ^^^ (-1)))), (2, .int (metS nw)), (1, .int (pad p)), (0, .ref (a 0))]) 203 X dX10_goWeeks_203 0 rfl (by decide) (by decide) rfl ?_
                    refine jv_goto 206 X dX10_goWeeks_206 166 (by decide) ?_
                    refine jv_iload 166 X dX10_goWeeks_166 0 rfl ?_
                    refine jv_iconst (v := 4) 168 X dX10_goWeeks_168 rfl ?_
                    refine jn_icmp_ge 169 X dX10_goWeeks_169 209 (by decide) (fun c_46 => absurd c_46 (by decide)) (fun _ => ?_)
                    refine jv_aload_n 172 X dX10_goWeeks_172 4 rfl ?_
                    refine jv_get (v := .int (nI c)) 173 X gf_X10_84 dX10_goWeeks_173 0 rfl rfl ?_
                    refine jn_if_ge 176 X dX10_goWeeks_176 209 (by decide) (fun c_47 => ?_) (fun c_47 => absurd (nI_pos' (by omega)) c_47)
                    have n_47 : 0 ≤ c := (nx_le (a := 0) (b := c) rfl rfl (by omega) (by omega)).mp c_47
                    have hf : f_act pad week nw p = (((f_oneAct pad nw p ((pad p - 65).toNatClampNeg)).1), (f_oneAct pad nw p ((pad p - 65).toNatClampNeg)).2.1, (f_oneAct pad nw p ((pad p - 65).toNatClampNeg)).2.2) := by simp [f_act, c_2, c_3, c_26]
                    have hY : c + 1 ≤ ((f_oneAct pad nw p ((pad p - 65).toNatClampNeg)).2.1) ∧ ((f_oneAct pad nw p ((pad p - 65).toNatClampNeg)).2.1) ≤ sg ∧ WF pad sg ((f_oneAct pad nw p ((pad p - 65).toNatClampNeg)).2.1) ∧ dyOK ((f_oneAct pad nw p ((pad p - 65).toNatClampNeg)).2.2) ∧ sg - ((f_oneAct pad nw p ((pad p - 65).toNatClampNeg)).2.1) < n14 := by
                      have h9 := hX
                      rw [hf] at h9
                      obtain ⟨h7, h8, h6⟩ := h9
                      have h5 := h7.1
                      dsimp only at h5 h6 h7 h8
                      exact ⟨by omega, h5, h7, h6, by omega⟩
                    refine jv_aload_n 209 X dX10_goWeeks_209 4 rfl ?_
                    refine jv_dup 210 X dX10_goWeeks_210 rfl ?_
                    refine jv_get (v := .int (nI c)) 211 X gf_X10_125 dX10_goWeeks_211 0 rfl rfl ?_
                    refine jv_iconst (v := 1) 214 X dX10_goWeeks_214 rfl ?_
                    refine jv_iadd 215 X dX10_goWeeks_215 ?_
                    refine jv_norm (x2 := nI (c + 1)) (nx_add2 (a := c) (b := 1) rfl rfl (by omega)) ?_
                    refine jv_puti (ws2 := bMd E a book ((f_oneAct pad nw p ((pad p - 65).toNatClampNeg)).2.2) week sights sight (nI sg) pad (nI c) 0 ((f_oneAct pad nw p ((pad p - 65).toNatClampNeg)).1) (nI (c + 1)) (nI (f_oneAct pad nw p ((pad p - 65).toNatClampNeg)).2.1) will fitting counts ring nxt wins ways nextWays image isKept) 216 X gf_X10_125 tyX10_ok nmX10 rfl rfl dX10_goWeeks_216 0 rfl (Nat.le_of_ble_eq_true rfl) rfl ?_
                    refine jv_goto 219 X dX10_goWeeks_219 14 (by decide) ?_
                    exact jv_lv [4] rfl (ih14 ((f_oneAct pad nw p ((pad p - 65).toNatClampNeg)).2.1) (c + 1) ((f_oneAct pad nw p ((pad p - 65).toNatClampNeg)).2.2) (nI c) 0 ((f_oneAct pad nw p ((pad p - 65).toNatClampNeg)).1) (hY.1) (hY.2.1) (hY.2.2.1) (hY.2.2.2.1) (by rw [hI]; exact goM_s hlt hf c_27 (by simp only [fstM, c_29, c_30, if_true, if_false])) (hY.2.2.2.2))
              · refine jv_aload_n 149 X dX10_goWeeks_149 2 rfl ?_
                refine jv_get (v := .int (nI c)) 150 X gf_X10_125 dX10_goWeeks_150 0 rfl rfl ?_
                have hf : f_act pad week nw p = (((f_oneAct pad nw p ((pad p - 65).toNatClampNeg)).1), (f_oneAct pad nw p ((pad p - 65).toNatClampNeg)).2.1, (f_oneAct pad nw p ((pad p - 65).toNatClampNeg)).2.2) := by simp [f_act, c_2, c_3, c_26]
                have hq : gwM pad week book sg reason = (nI c, (f_oneAct pad nw p ((pad p - 65).toNatClampNeg)).2.1, c, (f_oneAct pad nw p ((pad p - 65).toNatClampNeg)).2.2, ma, mw, ((f_oneAct pad nw p ((pad p - 65).toNatClampNeg)).1)) := hI.trans (goM_r hlt hf (by assumption))
                exact jv_iret 153 X Y rfl dX10_goWeeks_153 () (by rw [hq]; try rfl) (by rw [hq]; try rfl)
            · have hp1 : p + 1 < sg := WF_B hW2 (by omega) (by first | exact Or.inl (by assumption) | exact Or.inr (by assumption))
              refine jv_aload_n 79 X dX10_goWeeks_79 2 rfl ?_
              refine jv_dup 80 X dX10_goWeeks_80 rfl ?_
              refine jv_get (v := .int (nI p)) 81 X gf_X10_100 dX10_goWeeks_81 0 rfl rfl ?_
              refine jv_iconst (v := 2) 84 X dX10_goWeeks_84 rfl ?_
              refine jv_iadd 85 X dX10_goWeeks_85 ?_
              refine jv_norm (x2 := nI (p + 2)) (nx_add2 (a := p) (b := 2) rfl rfl (by omega)) ?_
              refine jv_puti (ws2 := bMd E a book nw week sights sight (nI sg) pad ma mw rs (nI c) (nI (p + 2)) will fitting counts ring nxt wins ways nextWays image isKept) 86 X gf_X10_100 tyX10_ok nmX10 rfl rfl dX10_goWeeks_86 0 rfl (Nat.le_of_ble_eq_true rfl) rfl ?_
              refine jv_aload_n 89 X dX10_goWeeks_89 2 rfl ?_
              refine jv_aload_n 90 X dX10_goWeeks_90 2 rfl ?_
              refine jv_iload_n 91 X dX10_goWeeks_91 1 rfl ?_
              refine jv_bipush (v := 60) 92 X dX10_goWeeks_92 (by decide) ?_
              refine jn_icmp_ne 94 X dX10_goWeeks_94 111 (by decide) (fun _ => ?_) (fun c_48 => absurd c_48 c_3)
              refine jv_aload_n 111 X dX10_goWeeks_111 2 rfl ?_
              refine jv_aload_n 112 X dX10_goWeeks_112 2 rfl ?_
              refine jv_get (v := .int (nI (p + 2))) 113 X gf_X10_100 dX10_goWeeks_113 0 rfl rfl ?_
              refine jv_iconst (v := 1) 116 X dX10_goWeeks_116 rfl ?_
              refine jv_isub 117 X dX10_goWeeks_117 ?_
              refine jv_norm (x2 := nI (p + 1)) (nx_sub2 (a := (p + 2)) (b := 1) rfl rfl (by omega)) ?_
              refine jv_callW (w1 := bMd E a book nw week sights sight (nI sg) pad ma mw rs (nI c) (nI (p + 2)) will fitting counts ring nxt wins ways nextWays image isKept) 118 X (c_X10_numberAt E _ a book nw week sights sight (nI sg) pad ma mw rs (nI c) (nI (p + 2)) will fitting counts ring nxt wins ways nextWays image isKept (p + 1) (by omega)) wv_X10_109 ⟨Nat.le_of_ble_eq_true rfl, Nat.le_of_ble_eq_true rfl⟩ ⟨rfl, rfl⟩ ⟨Nat.zero_le _, Nat.zero_le _⟩ dX10_goWeeks_118 rfl [.ref (a 0), .ref (a 0)] rfl (Nat.le_of_ble_eq_true rfl) 0 rfl rfl ?_
              refine jv_callW (w1 := bMd E a book ((f_change nw (pad (p + 1) - 48)).2) week sights sight (nI sg) pad ma mw rs (nI c) (nI (p + 2)) will fitting counts ring nxt wins ways nextWays image isKept) 121 X (c_X10_change E _ a book nw week sights sight (nI sg) pad ma mw rs (nI c) (nI (p + 2)) will fitting counts ring nxt wins ways nextWays image isKept (pad (p + 1) - 48)) wv_X10_137 ⟨Nat.le_of_ble_eq_true rfl, Nat.le_of_ble_eq_true rfl⟩ ⟨rfl, rfl⟩ ⟨Nat.zero_le _, Nat.zero_le _⟩ dX10_goWeeks_121 rfl [.ref (a 0)] rfl (Nat.le_of_ble_eq_true rfl) 0 rfl rfl ?_
              refine jv_puti (ws2 := bMd E a book ((f_change nw (pad (p + 1) - 48)).2) week sights sight (nI sg) pad ma mw ((f_change nw (pad (p + 1) - 48)).1) (nI c) (nI (p + 2)) will fitting counts ring nxt wins ways nextWays image isKept) 124 X gf_X10_134 tyX10_ok nmX10 rfl rfl dX10_goWeeks_124 0 rfl (Nat.le_of_ble_eq_true rfl) rfl ?_
              refine jv_goto 127 X dX10_goWeeks_127 142 (by decide) ?_
              refine jv_aload_n 142 X dX10_goWeeks_142 2 rfl ?_
              refine jv_get (v := .int ((f_change nw (pad (p + 1) - 48)).1)) 143 X gf_X10_134 dX10_goWeeks_143 0 rfl rfl ?_
              refine jn_if_le 146 X dX10_goWeeks_146 154 (by decide) (fun c_49 => ?_) (fun c_49 => ?_)
              · refine jv_aload_n 154 X dX10_goWeeks_154 2 rfl ?_
                refine jv_callW (w1 := bMd E a book ((f_change nw (pad (p + 1) - 48)).2) week sights sight (nI sg) pad ma mw ((f_change nw (pad (p + 1) - 48)).1) (nI c) (nI (p + 2)) will fitting counts ring nxt wins ways nextWays image isKept) 155 X (c_X10_met E _ a book ((f_change nw (pad (p + 1) - 48)).2) week sights sight (nI sg) pad ma mw ((f_change nw (pad (p + 1) - 48)).1) (nI c) (nI (p + 2)) will fitting counts ring nxt wins ways nextWays image isKept) wv_X10_128 ⟨Nat.le_of_ble_eq_true rfl, Nat.le_of_ble_eq_true rfl⟩ ⟨rfl, rfl⟩ ⟨Nat.zero_le _, Nat.zero_le _⟩ dX10_goWeeks_155 rfl [] rfl (Nat.le_of_ble_eq_true rfl) 0 rfl rfl ?_
                refine jv_iload_n 158 X dX10_goWeeks_158 0 rfl ?_
                refine jv_iconst (v := (-1)) 159 X dX10_goWeeks_159 rfl ?_
                refine jv_ixor 160 X dX10_goWeeks_160 ?_
                refine jv_iand 161 X dX10_goWeeks_161 ?_
                refine jv_istore_n (lv2 := [(3, .int ((metS ((f_change nw (pad (p + 1) - 48)).2)) &&& ((metS nw) ^^^ (-1)))), (2, .int (metS nw)), (1, .int (pad p)), (0, .ref (a 0))]) 162 X dX10_goWeeks_162 (by decide) rfl ?_
                refine jv_iconst (v := 0) 163 X dX10_goWeeks_163 rfl ?_
                refine jv_istore (lv2 := [(4, .int 0), (3, .int ((metS ((f_change nw (pad (p + 1) - 48)).2)) &&& ((metS nw) ^^^ (-1)))), (2, .int (metS nw)), (1, .int (pad p)), (0, .ref (a 0))]) 164 X dX10_goWeeks_164 (by decide) rfl ?_
                refine jv_iload 166 X dX10_goWeeks_166 0 rfl ?_
                refine jv_iconst (v := 4) 168 X dX10_goWeeks_168 rfl ?_
                refine jn_icmp_ge 169 X dX10_goWeeks_169 209 (by decide) (fun c_50 => absurd c_50 (by decide)) (fun _ => ?_)
                refine jv_aload_n 172 X dX10_goWeeks_172 4 rfl ?_
                refine jv_get (v := .int ma) 173 X gf_X10_84 dX10_goWeeks_173 0 rfl rfl ?_
                refine jn_if_ge 176 X dX10_goWeeks_176 209 (by decide) (fun c_51 => ?_) (fun c_51 => ?_)
                · have hf : f_act pad week nw p = (((f_change nw (pad (p + 1) - 48)).1), (p + 2), (f_change nw (pad (p + 1) - 48)).2) := by simp [f_act, c_2, c_3, c_26]
                  have hY : c + 1 ≤ (p + 2) ∧ (p + 2) ≤ sg ∧ WF pad sg (p + 2) ∧ dyOK ((f_change nw (pad (p + 1) - 48)).2) ∧ sg - (p + 2) < n14 := by
                    have h9 := hX
                    rw [hf] at h9
                    obtain ⟨h7, h8, h6⟩ := h9
                    have h5 := h7.1
                    dsimp only at h5 h6 h7 h8
                    exact ⟨by omega, h5, h7, h6, by omega⟩
                  refine jv_aload_n 209 X dX10_goWeeks_209 4 rfl ?_
                  refine jv_dup 210 X dX10_goWeeks_210 rfl ?_
                  refine jv_get (v := .int (nI c)) 211 X gf_X10_125 dX10_goWeeks_211 0 rfl rfl ?_
                  refine jv_iconst (v := 1) 214 X dX10_goWeeks_214 rfl ?_
                  refine jv_iadd 215 X dX10_goWeeks_215 ?_
                  refine jv_norm (x2 := nI (c + 1)) (nx_add2 (a := c) (b := 1) rfl rfl (by omega)) ?_
                  refine jv_puti (ws2 := bMd E a book ((f_change nw (pad (p + 1) - 48)).2) week sights sight (nI sg) pad ma mw ((f_change nw (pad (p + 1) - 48)).1) (nI (c + 1)) (nI (p + 2)) will fitting counts ring nxt wins ways nextWays image isKept) 216 X gf_X10_125 tyX10_ok nmX10 rfl rfl dX10_goWeeks_216 0 rfl (Nat.le_of_ble_eq_true rfl) rfl ?_
                  refine jv_goto 219 X dX10_goWeeks_219 14 (by decide) ?_
                  exact jv_lv [4] rfl (ih14 (p + 2) (c + 1) ((f_change nw (pad (p + 1) - 48)).2) ma mw ((f_change nw (pad (p + 1) - 48)).1) (hY.1) (hY.2.1) (hY.2.2.1) (hY.2.2.2.1) (by rw [hI]; exact goM_s hlt hf c_49 (by simp only [fstM, c_51, if_true, if_false])) (hY.2.2.2.2))
                · refine jv_iload_n 179 X dX10_goWeeks_179 1 rfl ?_
                  refine jv_iload 180 X dX10_goWeeks_180 0 rfl ?_
                  refine jv_ishr 182 X dX10_goWeeks_182 ?_
                  refine jv_iconst (v := 1) 183 X dX10_goWeeks_183 rfl ?_
                  refine jv_iand 184 X dX10_goWeeks_184 ?_
                  refine jv_iconst (v := 1) 185 X dX10_goWeeks_185 rfl ?_
                  refine jn_icmp_ne 186 X dX10_goWeeks_186 203 (by decide) (fun c_52 => ?_) (fun c_52 => ?_)
                  · refine jv_iinc (v := 1) (lv2 := [(4, .int 1), (3, .int ((metS ((f_change nw (pad (p + 1) - 48)).2)) &&& ((metS nw) ^^^ (-1)))), (2, .int (metS nw)), (1, .int (pad p)), (0, .ref (a 0))]) 203 X dX10_goWeeks_203 0 rfl (by decide) (by decide) rfl ?_
                    refine jv_goto 206 X dX10_goWeeks_206 166 (by decide) ?_
                    refine jv_iload 166 X dX10_goWeeks_166 0 rfl ?_
                    refine jv_iconst (v := 4) 168 X dX10_goWeeks_168 rfl ?_
                    refine jn_icmp_ge 169 X dX10_goWeeks_169 209 (by decide) (fun c_53 => absurd c_53 (by decide)) (fun _ => ?_)
                    refine jv_aload_n 172 X dX10_goWeeks_172 4 rfl ?_
                    refine jv_get (v := .int ma) 173 X gf_X10_84 dX10_goWeeks_173 0 rfl rfl ?_
                    refine jn_if_ge 176 X dX10_goWeeks_176 209 (by decide) (fun c_54 => absurd c_54 c_51) (fun _ => ?_)
                    refine jv_iload_n 179 X dX10_goWeeks_179 1 rfl ?_
                    refine jv_iload 180 X dX10_goWeeks_180 0 rfl ?_
                    refine jv_ishr 182 X dX10_goWeeks_182 ?_
                    refine jv_iconst (v := 1) 183 X dX10_goWeeks_183 rfl ?_
                    refine jv_iand 184 X dX10_goWeeks_184 ?_
                    refine jv_iconst (v := 1) 185 X dX10_goWeeks_185 rfl ?_
                    refine jn_icmp_ne 186 X dX10_goWeeks_186 203 (by decide) (fun c_55 => ?_) (fun c_55 => ?_)
                    · refine jv_iinc (v := 2) (lv2 := [(4, .int 2), (3, .int ((metS ((f_change nw (pad (p + 1) - 48)).2)) &&& ((metS nw) ^^^ (-1)))), (2, .int (metS nw)), (1, .int (pad p)), (0, .ref (a 0))]) 203 X dX10_goWeeks_203 0 rfl (by decide) (by decide) rfl ?_
                      refine jv_goto 206 X dX10_goWeeks_206 166 (by decide) ?_
                      refine jv_iload 166 X dX10_goWeeks_166 0 rfl ?_
                      refine jv_iconst (v := 4) 168 X dX10_goWeeks_168 rfl ?_
                      refine jn_icmp_ge 169 X dX10_goWeeks_169 209 (by decide) (fun c_56 => absurd c_56 (by decide)) (fun _ => ?_)
                      refine jv_aload_n 172 X dX10_goWeeks_172 4 rfl ?_
                      refine jv_get (v := .int ma) 173 X gf_X10_84 dX10_goWeeks_173 0 rfl rfl ?_
                      refine jn_if_ge 176 X dX10_goWeeks_176 209 (by decide) (fun c_57 => absurd c_57 c_51) (fun _ => ?_)
                      refine jv_iload_n 179 X dX10_goWeeks_179 1 rfl ?_
                      refine jv_iload 180 X dX10_goWeeks_180 0 rfl ?_
                      refine jv_ishr 182 X dX10_goWeeks_182 ?_
                      refine jv_iconst (v := 1) 183 X dX10_goWeeks_183 rfl ?_
                      refine jv_iand 184 X dX10_goWeeks_184 ?_
                      refine jv_iconst (v := 1) 185 X dX10_goWeeks_185 rfl ?_
                      refine jn_icmp_ne 186 X dX10_goWeeks_186 203 (by decide) (fun c_58 => ?_) (fun c_58 => ?_)
                      · refine jv_iinc (v := 3) (lv2 := [(4, .int 3), (3, .int ((metS ((f_change nw (pad (p + 1) - 48)).2)) &&& ((metS nw) ^^^ (-1)))), (2, .int (metS nw)), (1, .int (pad p)), (0, .ref (a 0))]) 203 X dX10_goWeeks_203 0 rfl (by decide) (by decide) rfl ?_
                        refine jv_goto 206 X dX10_goWeeks_206 166 (by decide) ?_
                        refine jv_iload 166 X dX10_goWeeks_166 0 rfl ?_
                        refine jv_iconst (v := 4) 168 X dX10_goWeeks_168 rfl ?_
                        refine jn_icmp_ge 169 X dX10_goWeeks_169 209 (by decide) (fun c_59 => absurd c_59 (by decide)) (fun _ => ?_)
                        refine jv_aload_n 172 X dX10_goWeeks_172 4 rfl ?_
                        refine jv_get (v := .int ma) 173 X gf_X10_84 dX10_goWeeks_173 0 rfl rfl ?_
                        refine jn_if_ge 176 X dX10_goWeeks_176 209 (by decide) (fun c_60 => absurd c_60 c_51) (fun _ => ?_)
                        refine jv_iload_n 179 X dX10_goWeeks_179 1 rfl ?_
                        refine jv_iload 180 X dX10_goWeeks_180 0 rfl ?_
                        refine jv_ishr 182 X dX10_goWeeks_182 ?_
                        refine jv_iconst (v := 1) 183 X dX10_goWeeks_183 rfl ?_
                        refine jv_iand 184 X dX10_goWeeks_184 ?_
                        refine jv_iconst (v := 1) 185 X dX10_goWeeks_185 rfl ?_
                        refine jn_icmp_ne 186 X dX10_goWeeks_186 203 (by decide) (fun c_61 => ?_) (fun c_61 => ?_)
                        · refine jv_iinc (v := 4) (lv2 := [(4, .int 4), (3, .int ((metS ((f_change nw (pad (p + 1) - 48)).2)) &&& ((metS nw) ^^^ (-1)))), (2, .int (metS nw)), (1, .int (pad p)), (0, .ref (a 0))]) 203 X dX10_goWeeks_203 0 rfl (by decide) (by decide) rfl ?_
                          refine jv_goto 206 X dX10_goWeeks_206 166 (by decide) ?_
                          refine jv_iload 166 X dX10_goWeeks_166 0 rfl ?_
                          refine jv_iconst (v := 4) 168 X dX10_goWeeks_168 rfl ?_
                          refine jn_icmp_ge 169 X dX10_goWeeks_169 209 (by decide) (fun _ => ?_) (fun c_62 => absurd c_62 (by decide))
                          have hf : f_act pad week nw p = (((f_change nw (pad (p + 1) - 48)).1), (p + 2), (f_change nw (pad (p + 1) - 48)).2) := by simp [f_act, c_2, c_3, c_26]
                          have hY : c + 1 ≤ (p + 2) ∧ (p + 2) ≤ sg ∧ WF pad sg (p + 2) ∧ dyOK ((f_change nw (pad (p + 1) - 48)).2) ∧ sg - (p + 2) < n14 := by
                            have h9 := hX
                            rw [hf] at h9
                            obtain ⟨h7, h8, h6⟩ := h9
                            have h5 := h7.1
                            dsimp only at h5 h6 h7 h8
                            exact ⟨by omega, h5, h7, h6, by omega⟩
                          refine jv_aload_n 209 X dX10_goWeeks_209 4 rfl ?_
                          refine jv_dup 210 X dX10_goWeeks_210 rfl ?_
                          refine jv_get (v := .int (nI c)) 211 X gf_X10_125 dX10_goWeeks_211 0 rfl rfl ?_
                          refine jv_iconst (v := 1) 214 X dX10_goWeeks_214 rfl ?_
                          refine jv_iadd 215 X dX10_goWeeks_215 ?_
                          refine jv_norm (x2 := nI (c + 1)) (nx_add2 (a := c) (b := 1) rfl rfl (by omega)) ?_
                          refine jv_puti (ws2 := bMd E a book ((f_change nw (pad (p + 1) - 48)).2) week sights sight (nI sg) pad ma mw ((f_change nw (pad (p + 1) - 48)).1) (nI (c + 1)) (nI (p + 2)) will fitting counts ring nxt wins ways nextWays image isKept) 216 X gf_X10_125 tyX10_ok nmX10 rfl rfl dX10_goWeeks_216 0 rfl (Nat.le_of_ble_eq_true rfl) rfl ?_
                          refine jv_goto 219 X dX10_goWeeks_219 14 (by decide) ?_
                          exact jv_lv [4] rfl (ih14 (p + 2) (c + 1) ((f_change nw (pad (p + 1) - 48)).2) ma mw ((f_change nw (pad (p + 1) - 48)).1) (hY.1) (hY.2.1) (hY.2.2.1) (hY.2.2.2.1) (by rw [hI]; exact goM_s hlt hf c_49 (by simp only [fstM, c_51, c_52, c_55, c_58, c_61, if_true, if_false])) (hY.2.2.2.2))
                        · refine jv_aload_n 189 X dX10_goWeeks_189 4 rfl ?_
                          refine jv_aload_n 190 X dX10_goWeeks_190 4 rfl ?_
                          refine jv_get (v := .int (nI c)) 191 X gf_X10_125 dX10_goWeeks_191 0 rfl rfl ?_
                          refine jv_puti (ws2 := bMd E a book ((f_change nw (pad (p + 1) - 48)).2) week sights sight (nI sg) pad (nI c) mw ((f_change nw (pad (p + 1) - 48)).1) (nI c) (nI (p + 2)) will fitting counts ring nxt wins ways nextWays image isKept) 194 X gf_X10_84 tyX10_ok nmX10 rfl rfl dX10_goWeeks_194 0 rfl (Nat.le_of_ble_eq_true rfl) rfl ?_
                          refine jv_aload_n 197 X dX10_goWeeks_197 4 rfl ?_
                          refine jv_iload 198 X dX10_goWeeks_198 0 rfl ?_
                          refine jv_puti (ws2 := bMd E a book ((f_change nw (pad (p + 1) - 48)).2) week sights sight (nI sg) pad (nI c) 3 ((f_change nw (pad (p + 1) - 48)).1) (nI c) (nI (p + 2)) will fitting counts ring nxt wins ways nextWays image isKept) 200 X gf_X10_87 tyX10_ok nmX10 rfl rfl dX10_goWeeks_200 0 rfl (Nat.le_of_ble_eq_true rfl) rfl ?_
                          refine jv_iinc (v := 4) (lv2 := [(4, .int 4), (3, .int ((metS ((f_change nw (pad (p + 1) - 48)).2)) &&& ((metS nw) ^^^ (-1)))), (2, .int (metS nw)), (1, .int (pad p)), (0, .ref (a 0))]) 203 X dX10_goWeeks_203 0 rfl (by decide) (by decide) rfl ?_
                          refine jv_goto 206 X dX10_goWeeks_206 166 (by decide) ?_
                          refine jv_iload 166 X dX10_goWeeks_166 0 rfl ?_
                          refine jv_iconst (v := 4) 168 X dX10_goWeeks_168 rfl ?_
                          refine jn_icmp_ge 169 X dX10_goWeeks_169 209 (by decide) (fun _ => ?_) (fun c_63 => absurd c_63 (by decide))
                          have hf : f_act pad week nw p = (((f_change nw (pad (p + 1) - 48)).1), (p + 2), (f_change nw (pad (p + 1) - 48)).2) := by simp [f_act, c_2, c_3, c_26]
                          have hY : c + 1 ≤ (p + 2) ∧ (p + 2) ≤ sg ∧ WF pad sg (p + 2) ∧ dyOK ((f_change nw (pad (p + 1) - 48)).2) ∧ sg - (p + 2) < n14 := by
                            have h9 := hX
                            rw [hf] at h9
                            obtain ⟨h7, h8, h6⟩ := h9
                            have h5 := h7.1
                            dsimp only at h5 h6 h7 h8
                            exact ⟨by omega, h5, h7, h6, by omega⟩
                          refine jv_aload_n 209 X dX10_goWeeks_209 4 rfl ?_
                          refine jv_dup 210 X dX10_goWeeks_210 rfl ?_
                          refine jv_get (v := .int (nI c)) 211 X gf_X10_125 dX10_goWeeks_211 0 rfl rfl ?_
                          refine jv_iconst (v := 1) 214 X dX10_goWeeks_214 rfl ?_
                          refine jv_iadd 215 X dX10_goWeeks_215 ?_
                          refine jv_norm (x2 := nI (c + 1)) (nx_add2 (a := c) (b := 1) rfl rfl (by omega)) ?_
                          refine jv_puti (ws2 := bMd E a book ((f_change nw (pad (p + 1) - 48)).2) week sights sight (nI sg) pad (nI c) 3 ((f_change nw (pad (p + 1) - 48)).1) (nI (c + 1)) (nI (p + 2)) will fitting counts ring nxt wins ways nextWays image isKept) 216 X gf_X10_125 tyX10_ok nmX10 rfl rfl dX10_goWeeks_216 0 rfl (Nat.le_of_ble_eq_true rfl) rfl ?_
                          refine jv_goto 219 X dX10_goWeeks_219 14 (by decide) ?_
                          exact jv_lv [4] rfl (ih14 (p + 2) (c + 1) ((f_change nw (pad (p + 1) - 48)).2) (nI c) 3 ((f_change nw (pad (p + 1) - 48)).1) (hY.1) (hY.2.1) (hY.2.2.1) (hY.2.2.2.1) (by rw [hI]; exact goM_s hlt hf c_49 (by simp only [fstM, c_51, c_52, c_55, c_58, c_61, if_true, if_false])) (hY.2.2.2.2))
                      · refine jv_aload_n 189 X dX10_goWeeks_189 4 rfl ?_
                        refine jv_aload_n 190 X dX10_goWeeks_190 4 rfl ?_
                        refine jv_get (v := .int (nI c)) 191 X gf_X10_125 dX10_goWeeks_191 0 rfl rfl ?_
                        refine jv_puti (ws2 := bMd E a book ((f_change nw (pad (p + 1) - 48)).2) week sights sight (nI sg) pad (nI c) mw ((f_change nw (pad (p + 1) - 48)).1) (nI c) (nI (p + 2)) will fitting counts ring nxt wins ways nextWays image isKept) 194 X gf_X10_84 tyX10_ok nmX10 rfl rfl dX10_goWeeks_194 0 rfl (Nat.le_of_ble_eq_true rfl) rfl ?_
                        refine jv_aload_n 197 X dX10_goWeeks_197 4 rfl ?_
                        refine jv_iload 198 X dX10_goWeeks_198 0 rfl ?_
                        refine jv_puti (ws2 := bMd E a book ((f_change nw (pad (p + 1) - 48)).2) week sights sight (nI sg) pad (nI c) 2 ((f_change nw (pad (p + 1) - 48)).1) (nI c) (nI (p + 2)) will fitting counts ring nxt wins ways nextWays image isKept) 200 X gf_X10_87 tyX10_ok nmX10 rfl rfl dX10_goWeeks_200 0 rfl (Nat.le_of_ble_eq_true rfl) rfl ?_
                        refine jv_iinc (v := 3) (lv2 := [(4, .int 3), (3, .int ((metS ((f_change nw (pad (p + 1) - 48)).2)) &&& ((metS nw) ^^^ (-1)))), (2, .int (metS nw)), (1, .int (pad p)), (0, .ref (a 0))]) 203 X dX10_goWeeks_203 0 rfl (by decide) (by decide) rfl ?_
                        refine jv_goto 206 X dX10_goWeeks_206 166 (by decide) ?_
                        refine jv_iload 166 X dX10_goWeeks_166 0 rfl ?_
                        refine jv_iconst (v := 4) 168 X dX10_goWeeks_168 rfl ?_
                        refine jn_icmp_ge 169 X dX10_goWeeks_169 209 (by decide) (fun c_64 => absurd c_64 (by decide)) (fun _ => ?_)
                        refine jv_aload_n 172 X dX10_goWeeks_172 4 rfl ?_
                        refine jv_get (v := .int (nI c)) 173 X gf_X10_84 dX10_goWeeks_173 0 rfl rfl ?_
                        refine jn_if_ge 176 X dX10_goWeeks_176 209 (by decide) (fun c_65 => ?_) (fun c_65 => absurd (nI_pos' (by omega)) c_65)
                        have n_65 : 0 ≤ c := (nx_le (a := 0) (b := c) rfl rfl (by omega) (by omega)).mp c_65
                        have hf : f_act pad week nw p = (((f_change nw (pad (p + 1) - 48)).1), (p + 2), (f_change nw (pad (p + 1) - 48)).2) := by simp [f_act, c_2, c_3, c_26]
                        have hY : c + 1 ≤ (p + 2) ∧ (p + 2) ≤ sg ∧ WF pad sg (p + 2) ∧ dyOK ((f_change nw (pad (p + 1) - 48)).2) ∧ sg - (p + 2) < n14 := by
                          have h9 := hX
                          rw [hf] at h9
                          obtain ⟨h7, h8, h6⟩ := h9
                          have h5 := h7.1
                          dsimp only at h5 h6 h7 h8
                          exact ⟨by omega, h5, h7, h6, by omega⟩
                        refine jv_aload_n 209 X dX10_goWeeks_209 4 rfl ?_
                        refine jv_dup 210 X dX10_goWeeks_210 rfl ?_
                        refine jv_get (v := .int (nI c)) 211 X gf_X10_125 dX10_goWeeks_211 0 rfl rfl ?_
                        refine jv_iconst (v := 1) 214 X dX10_goWeeks_214 rfl ?_
                        refine jv_iadd 215 X dX10_goWeeks_215 ?_
                        refine jv_norm (x2 := nI (c + 1)) (nx_add2 (a := c) (b := 1) rfl rfl (by omega)) ?_
                        refine jv_puti (ws2 := bMd E a book ((f_change nw (pad (p + 1) - 48)).2) week sights sight (nI sg) pad (nI c) 2 ((f_change nw (pad (p + 1) - 48)).1) (nI (c + 1)) (nI (p + 2)) will fitting counts ring nxt wins ways nextWays image isKept) 216 X gf_X10_125 tyX10_ok nmX10 rfl rfl dX10_goWeeks_216 0 rfl (Nat.le_of_ble_eq_true rfl) rfl ?_
                        refine jv_goto 219 X dX10_goWeeks_219 14 (by decide) ?_
                        exact jv_lv [4] rfl (ih14 (p + 2) (c + 1) ((f_change nw (pad (p + 1) - 48)).2) (nI c) 2 ((f_change nw (pad (p + 1) - 48)).1) (hY.1) (hY.2.1) (hY.2.2.1) (hY.2.2.2.1) (by rw [hI]; exact goM_s hlt hf c_49 (by simp only [fstM, c_51, c_52, c_55, c_58, if_true, if_false])) (hY.2.2.2.2))
                    · refine jv_aload_n 189 X dX10_goWeeks_189 4 rfl ?_
                      refine jv_aload_n 190 X dX10_goWeeks_190 4 rfl ?_
                      refine jv_get (v := .int (nI c)) 191 X gf_X10_125 dX10_goWeeks_191 0 rfl rfl ?_
                      refine jv_puti (ws2 := bMd E a book ((f_change nw (pad (p + 1) - 48)).2) week sights sight (nI sg) pad (nI c) mw ((f_change nw (pad (p + 1) - 48)).1) (nI c) (nI (p + 2)) will fitting counts ring nxt wins ways nextWays image isKept) 194 X gf_X10_84 tyX10_ok nmX10 rfl rfl dX10_goWeeks_194 0 rfl (Nat.le_of_ble_eq_true rfl) rfl ?_
                      refine jv_aload_n 197 X dX10_goWeeks_197 4 rfl ?_
                      refine jv_iload 198 X dX10_goWeeks_198 0 rfl ?_
                      refine jv_puti (ws2 := bMd E a book ((f_change nw (pad (p + 1) - 48)).2) week sights sight (nI sg) pad (nI c) 1 ((f_change nw (pad (p + 1) - 48)).1) (nI c) (nI (p + 2)) will fitting counts ring nxt wins ways nextWays image isKept) 200 X gf_X10_87 tyX10_ok nmX10 rfl rfl dX10_goWeeks_200 0 rfl (Nat.le_of_ble_eq_true rfl) rfl ?_
                      refine jv_iinc (v := 2) (lv2 := [(4, .int 2), (3, .int ((metS ((f_change nw (pad (p + 1) - 48)).2)) &&& ((metS nw) ^^^ (-1)))), (2, .int (metS nw)), (1, .int (pad p)), (0, .ref (a 0))]) 203 X dX10_goWeeks_203 0 rfl (by decide) (by decide) rfl ?_
                      refine jv_goto 206 X dX10_goWeeks_206 166 (by decide) ?_
                      refine jv_iload 166 X dX10_goWeeks_166 0 rfl ?_
                      refine jv_iconst (v := 4) 168 X dX10_goWeeks_168 rfl ?_
                      refine jn_icmp_ge 169 X dX10_goWeeks_169 209 (by decide) (fun c_66 => absurd c_66 (by decide)) (fun _ => ?_)
                      refine jv_aload_n 172 X dX10_goWeeks_172 4 rfl ?_
                      refine jv_get (v := .int (nI c)) 173 X gf_X10_84 dX10_goWeeks_173 0 rfl rfl ?_
                      refine jn_if_ge 176 X dX10_goWeeks_176 209 (by decide) (fun c_67 => ?_) (fun c_67 => absurd (nI_pos' (by omega)) c_67)
                      have n_67 : 0 ≤ c := (nx_le (a := 0) (b := c) rfl rfl (by omega) (by omega)).mp c_67
                      have hf : f_act pad week nw p = (((f_change nw (pad (p + 1) - 48)).1), (p + 2), (f_change nw (pad (p + 1) - 48)).2) := by simp [f_act, c_2, c_3, c_26]
                      have hY : c + 1 ≤ (p + 2) ∧ (p + 2) ≤ sg ∧ WF pad sg (p + 2) ∧ dyOK ((f_change nw (pad (p + 1) - 48)).2) ∧ sg - (p + 2) < n14 := by
                        have h9 := hX
                        rw [hf] at h9
                        obtain ⟨h7, h8, h6⟩ := h9
                        have h5 := h7.1
                        dsimp only at h5 h6 h7 h8
                        exact ⟨by omega, h5, h7, h6, by omega⟩
                      refine jv_aload_n 209 X dX10_goWeeks_209 4 rfl ?_
                      refine jv_dup 210 X dX10_goWeeks_210 rfl ?_
                      refine jv_get (v := .int (nI c)) 211 X gf_X10_125 dX10_goWeeks_211 0 rfl rfl ?_
                      refine jv_iconst (v := 1) 214 X dX10_goWeeks_214 rfl ?_
                      refine jv_iadd 215 X dX10_goWeeks_215 ?_
                      refine jv_norm (x2 := nI (c + 1)) (nx_add2 (a := c) (b := 1) rfl rfl (by omega)) ?_
                      refine jv_puti (ws2 := bMd E a book ((f_change nw (pad (p + 1) - 48)).2) week sights sight (nI sg) pad (nI c) 1 ((f_change nw (pad (p + 1) - 48)).1) (nI (c + 1)) (nI (p + 2)) will fitting counts ring nxt wins ways nextWays image isKept) 216 X gf_X10_125 tyX10_ok nmX10 rfl rfl dX10_goWeeks_216 0 rfl (Nat.le_of_ble_eq_true rfl) rfl ?_
                      refine jv_goto 219 X dX10_goWeeks_219 14 (by decide) ?_
                      exact jv_lv [4] rfl (ih14 (p + 2) (c + 1) ((f_change nw (pad (p + 1) - 48)).2) (nI c) 1 ((f_change nw (pad (p + 1) - 48)).1) (hY.1) (hY.2.1) (hY.2.2.1) (hY.2.2.2.1) (by rw [hI]; exact goM_s hlt hf c_49 (by simp only [fstM, c_51, c_52, c_55, if_true, if_false])) (hY.2.2.2.2))
                  · refine jv_aload_n 189 X dX10_goWeeks_189 4 rfl ?_
                    refine jv_aload_n 190 X dX10_goWeeks_190 4 rfl ?_
                    refine jv_get (v := .int (nI c)) 191 X gf_X10_125 dX10_goWeeks_191 0 rfl rfl ?_
                    refine jv_puti (ws2 := bMd E a book ((f_change nw (pad (p + 1) - 48)).2) week sights sight (nI sg) pad (nI c) mw ((f_change nw (pad (p + 1) - 48)).1) (nI c) (nI (p + 2)) will fitting counts ring nxt wins ways nextWays image isKept) 194 X gf_X10_84 tyX10_ok nmX10 rfl rfl dX10_goWeeks_194 0 rfl (Nat.le_of_ble_eq_true rfl) rfl ?_
                    refine jv_aload_n 197 X dX10_goWeeks_197 4 rfl ?_
                    refine jv_iload 198 X dX10_goWeeks_198 0 rfl ?_
                    refine jv_puti (ws2 := bMd E a book ((f_change nw (pad (p + 1) - 48)).2) week sights sight (nI sg) pad (nI c) 0 ((f_change nw (pad (p + 1) - 48)).1) (nI c) (nI (p + 2)) will fitting counts ring nxt wins ways nextWays image isKept) 200 X gf_X10_87 tyX10_ok nmX10 rfl rfl dX10_goWeeks_200 0 rfl (Nat.le_of_ble_eq_true rfl) rfl ?_
                    refine jv_iinc (v := 1) (lv2 := [(4, .int 1), (3, .int ((metS ((f_change nw (pad (p + 1) - 48)).2)) &&& ((metS nw) ^^^ (-1)))), (2, .int (metS nw)), (1, .int (pad p)), (0, .ref (a 0))]) 203 X dX10_goWeeks_203 0 rfl (by decide) (by decide) rfl ?_
                    refine jv_goto 206 X dX10_goWeeks_206 166 (by decide) ?_
                    refine jv_iload 166 X dX10_goWeeks_166 0 rfl ?_
                    refine jv_iconst (v := 4) 168 X dX10_goWeeks_168 rfl ?_
                    refine jn_icmp_ge 169 X dX10_goWeeks_169 209 (by decide) (fun c_68 => absurd c_68 (by decide)) (fun _ => ?_)
                    refine jv_aload_n 172 X dX10_goWeeks_172 4 rfl ?_
                    refine jv_get (v := .int (nI c)) 173 X gf_X10_84 dX10_goWeeks_173 0 rfl rfl ?_
                    refine jn_if_ge 176 X dX10_goWeeks_176 209 (by decide) (fun c_69 => ?_) (fun c_69 => absurd (nI_pos' (by omega)) c_69)
                    have n_69 : 0 ≤ c := (nx_le (a := 0) (b := c) rfl rfl (by omega) (by omega)).mp c_69
                    have hf : f_act pad week nw p = (((f_change nw (pad (p + 1) - 48)).1), (p + 2), (f_change nw (pad (p + 1) - 48)).2) := by simp [f_act, c_2, c_3, c_26]
                    have hY : c + 1 ≤ (p + 2) ∧ (p + 2) ≤ sg ∧ WF pad sg (p + 2) ∧ dyOK ((f_change nw (pad (p + 1) - 48)).2) ∧ sg - (p + 2) < n14 := by
                      have h9 := hX
                      rw [hf] at h9
                      obtain ⟨h7, h8, h6⟩ := h9
                      have h5 := h7.1
                      dsimp only at h5 h6 h7 h8
                      exact ⟨by omega, h5, h7, h6, by omega⟩
                    refine jv_aload_n 209 X dX10_goWeeks_209 4 rfl ?_
                    refine jv_dup 210 X dX10_goWeeks_210 rfl ?_
                    refine jv_get (v := .int (nI c)) 211 X gf_X10_125 dX10_goWeeks_211 0 rfl rfl ?_
                    refine jv_iconst (v := 1) 214 X dX10_goWeeks_214 rfl ?_
                    refine jv_iadd 215 X dX10_goWeeks_215 ?_
                    refine jv_norm (x2 := nI (c + 1)) (nx_add2 (a := c) (b := 1) rfl rfl (by omega)) ?_
                    refine jv_puti (ws2 := bMd E a book ((f_change nw (pad (p + 1) - 48)).2) week sights sight (nI sg) pad (nI c) 0 ((f_change nw (pad (p + 1) - 48)).1) (nI (c + 1)) (nI (p + 2)) will fitting counts ring nxt wins ways nextWays image isKept) 216 X gf_X10_125 tyX10_ok nmX10 rfl rfl dX10_goWeeks_216 0 rfl (Nat.le_of_ble_eq_true rfl) rfl ?_
                    refine jv_goto 219 X dX10_goWeeks_219 14 (by decide) ?_
                    exact jv_lv [4] rfl (ih14 (p + 2) (c + 1) ((f_change nw (pad (p + 1) - 48)).2) (nI c) 0 ((f_change nw (pad (p + 1) - 48)).1) (hY.1) (hY.2.1) (hY.2.2.1) (hY.2.2.2.1) (by rw [hI]; exact goM_s hlt hf c_49 (by simp only [fstM, c_51, c_52, if_true, if_false])) (hY.2.2.2.2))
              · refine jv_aload_n 149 X dX10_goWeeks_149 2 rfl ?_
                refine jv_get (v := .int (nI c)) 150 X gf_X10_125 dX10_goWeeks_150 0 rfl rfl ?_
                have hf : f_act pad week nw p = (((f_change nw (pad (p + 1) - 48)).1), (p + 2), (f_change nw (pad (p + 1) - 48)).2) := by simp [f_act, c_2, c_3, c_26]
                have hq : gwM pad week book sg reason = (nI c, (p + 2), c, (f_change nw (pad (p + 1) - 48)).2, ma, mw, ((f_change nw (pad (p + 1) - 48)).1)) := hI.trans (goM_r hlt hf (by assumption))
                exact jv_iret 153 X Y rfl dX10_goWeeks_153 () (by rw [hq]; try rfl) (by rw [hq]; try rfl)
        · refine jv_aload_n 46 X dX10_goWeeks_46 2 rfl ?_
          refine jv_dup 47 X dX10_goWeeks_47 rfl ?_
          refine jv_get (v := .int (nI p)) 48 X gf_X10_100 dX10_goWeeks_48 0 rfl rfl ?_
          refine jv_iconst (v := 1) 51 X dX10_goWeeks_51 rfl ?_
          refine jv_iadd 52 X dX10_goWeeks_52 ?_
          refine jv_norm (x2 := nI (p + 1)) (nx_add2 (a := p) (b := 1) rfl rfl (by omega)) ?_
          refine jv_puti (ws2 := bMd E a book nw week sights sight (nI sg) pad ma mw rs (nI c) (nI (p + 1)) will fitting counts ring nxt wins ways nextWays image isKept) 53 X gf_X10_100 tyX10_ok nmX10 rfl rfl dX10_goWeeks_53 0 rfl (Nat.le_of_ble_eq_true rfl) rfl ?_
          refine jv_aload_n 56 X dX10_goWeeks_56 2 rfl ?_
          refine jv_aload_n 57 X dX10_goWeeks_57 2 rfl ?_
          refine jv_callW (w1 := bMd E a book ((f_endDay nw week ((nw 39).toNatClampNeg)).2) week sights sight (nI sg) pad ma mw rs (nI c) (nI (p + 1)) will fitting counts ring nxt wins ways nextWays image isKept) 58 X (c_X10_endDay E _ a book nw week sights sight (nI sg) pad ma mw rs (nI c) (nI (p + 1)) will fitting counts ring nxt wins ways nextWays image isKept ((nw 39).toNatClampNeg) hD2.1 hD2.2) wv_X10_131 ⟨Nat.le_of_ble_eq_true rfl, Nat.le_of_ble_eq_true rfl⟩ ⟨rfl, rfl⟩ ⟨Nat.zero_le _, Nat.zero_le _⟩ dX10_goWeeks_58 rfl [.ref (a 0)] rfl (Nat.le_of_ble_eq_true rfl) 0 rfl rfl ?_
          refine jv_puti (ws2 := bMd E a book ((f_endDay nw week ((nw 39).toNatClampNeg)).2) week sights sight (nI sg) pad ma mw ((f_endDay nw week ((nw 39).toNatClampNeg)).1) (nI c) (nI (p + 1)) will fitting counts ring nxt wins ways nextWays image isKept) 61 X gf_X10_134 tyX10_ok nmX10 rfl rfl dX10_goWeeks_61 0 rfl (Nat.le_of_ble_eq_true rfl) rfl ?_
          refine jv_goto 64 X dX10_goWeeks_64 142 (by decide) ?_
          refine jv_aload_n 142 X dX10_goWeeks_142 2 rfl ?_
          refine jv_get (v := .int ((f_endDay nw week ((nw 39).toNatClampNeg)).1)) 143 X gf_X10_134 dX10_goWeeks_143 0 rfl rfl ?_
          refine jn_if_le 146 X dX10_goWeeks_146 154 (by decide) (fun c_70 => ?_) (fun c_70 => ?_)
          · refine jv_aload_n 154 X dX10_goWeeks_154 2 rfl ?_
            refine jv_callW (w1 := bMd E a book ((f_endDay nw week ((nw 39).toNatClampNeg)).2) week sights sight (nI sg) pad ma mw ((f_endDay nw week ((nw 39).toNatClampNeg)).1) (nI c) (nI (p + 1)) will fitting counts ring nxt wins ways nextWays image isKept) 155 X (c_X10_met E _ a book ((f_endDay nw week ((nw 39).toNatClampNeg)).2) week sights sight (nI sg) pad ma mw ((f_endDay nw week ((nw 39).toNatClampNeg)).1) (nI c) (nI (p + 1)) will fitting counts ring nxt wins ways nextWays image isKept) wv_X10_128 ⟨Nat.le_of_ble_eq_true rfl, Nat.le_of_ble_eq_true rfl⟩ ⟨rfl, rfl⟩ ⟨Nat.zero_le _, Nat.zero_le _⟩ dX10_goWeeks_155 rfl [] rfl (Nat.le_of_ble_eq_true rfl) 0 rfl rfl ?_
            refine jv_iload_n 158 X dX10_goWeeks_158 0 rfl ?_
            refine jv_iconst (v := (-1)) 159 X dX10_goWeeks_159 rfl ?_
            refine jv_ixor 160 X dX10_goWeeks_160 ?_
            refine jv_iand 161 X dX10_goWeeks_161 ?_
            refine jv_istore_n (lv2 := [(3, .int ((metS ((f_endDay nw week ((nw 39).toNatClampNeg)).2)) &&& ((metS nw) ^^^ (-1)))), (2, .int (metS nw)), (1, .int (pad p)), (0, .ref (a 0))]) 162 X dX10_goWeeks_162 (by decide) rfl ?_
            refine jv_iconst (v := 0) 163 X dX10_goWeeks_163 rfl ?_
            refine jv_istore (lv2 := [(4, .int 0), (3, .int ((metS ((f_endDay nw week ((nw 39).toNatClampNeg)).2)) &&& ((metS nw) ^^^ (-1)))), (2, .int (metS nw)), (1, .int (pad p)), (0, .ref (a 0))]) 164 X dX10_goWeeks_164 (by decide) rfl ?_
            refine jv_iload 166 X dX10_goWeeks_166 0 rfl ?_
            refine jv_iconst (v := 4) 168 X dX10_goWeeks_168 rfl ?_
            refine jn_icmp_ge 169 X dX10_goWeeks_169 209 (by decide) (fun c_71 => absurd c_71 (by decide)) (fun _ => ?_)
            refine jv_aload_n 172 X dX10_goWeeks_172 4 rfl ?_
            refine jv_get (v := .int ma) 173 X gf_X10_84 dX10_goWeeks_173 0 rfl rfl ?_
            refine jn_if_ge 176 X dX10_goWeeks_176 209 (by decide) (fun c_72 => ?_) (fun c_72 => ?_)
            · have hf : f_act pad week nw p = (((f_endDay nw week ((nw 39).toNatClampNeg)).1), (p + 1), (f_endDay nw week ((nw 39).toNatClampNeg)).2) := by simp [f_act, c_2]
              have hY : c + 1 ≤ (p + 1) ∧ (p + 1) ≤ sg ∧ WF pad sg (p + 1) ∧ dyOK ((f_endDay nw week ((nw 39).toNatClampNeg)).2) ∧ sg - (p + 1) < n14 := by
                have h9 := hX
                rw [hf] at h9
                obtain ⟨h7, h8, h6⟩ := h9
                have h5 := h7.1
                dsimp only at h5 h6 h7 h8
                exact ⟨by omega, h5, h7, h6, by omega⟩
              refine jv_aload_n 209 X dX10_goWeeks_209 4 rfl ?_
              refine jv_dup 210 X dX10_goWeeks_210 rfl ?_
              refine jv_get (v := .int (nI c)) 211 X gf_X10_125 dX10_goWeeks_211 0 rfl rfl ?_
              refine jv_iconst (v := 1) 214 X dX10_goWeeks_214 rfl ?_
              refine jv_iadd 215 X dX10_goWeeks_215 ?_
              refine jv_norm (x2 := nI (c + 1)) (nx_add2 (a := c) (b := 1) rfl rfl (by omega)) ?_
              refine jv_puti (ws2 := bMd E a book ((f_endDay nw week ((nw 39).toNatClampNeg)).2) week sights sight (nI sg) pad ma mw ((f_endDay nw week ((nw 39).toNatClampNeg)).1) (nI (c + 1)) (nI (p + 1)) will fitting counts ring nxt wins ways nextWays image isKept) 216 X gf_X10_125 tyX10_ok nmX10 rfl rfl dX10_goWeeks_216 0 rfl (Nat.le_of_ble_eq_true rfl) rfl ?_
              refine jv_goto 219 X dX10_goWeeks_219 14 (by decide) ?_
              exact jv_lv [4] rfl (ih14 (p + 1) (c + 1) ((f_endDay nw week ((nw 39).toNatClampNeg)).2) ma mw ((f_endDay nw week ((nw 39).toNatClampNeg)).1) (hY.1) (hY.2.1) (hY.2.2.1) (hY.2.2.2.1) (by rw [hI]; exact goM_s hlt hf c_70 (by simp only [fstM, c_72, if_true, if_false])) (hY.2.2.2.2))
            · refine jv_iload_n 179 X dX10_goWeeks_179 1 rfl ?_
              refine jv_iload 180 X dX10_goWeeks_180 0 rfl ?_
              refine jv_ishr 182 X dX10_goWeeks_182 ?_
              refine jv_iconst (v := 1) 183 X dX10_goWeeks_183 rfl ?_
              refine jv_iand 184 X dX10_goWeeks_184 ?_
              refine jv_iconst (v := 1) 185 X dX10_goWeeks_185 rfl ?_
              refine jn_icmp_ne 186 X dX10_goWeeks_186 203 (by decide) (fun c_73 => ?_) (fun c_73 => ?_)
              · refine jv_iinc (v := 1) (lv2 := [(4, .int 1), (3, .int ((metS ((f_endDay nw week ((nw 39).toNatClampNeg)).2)) &&& ((metS nw) ^^^ (-1)))), (2, .int (metS nw)), (1, .int (pad p)), (0, .ref (a 0))]) 203 X dX10_goWeeks_203 0 rfl (by decide) (by decide) rfl ?_
                refine jv_goto 206 X dX10_goWeeks_206 166 (by decide) ?_
                refine jv_iload 166 X dX10_goWeeks_166 0 rfl ?_
                refine jv_iconst (v := 4) 168 X dX10_goWeeks_168 rfl ?_
                refine jn_icmp_ge 169 X dX10_goWeeks_169 209 (by decide) (fun c_74 => absurd c_74 (by decide)) (fun _ => ?_)
                refine jv_aload_n 172 X dX10_goWeeks_172 4 rfl ?_
                refine jv_get (v := .int ma) 173 X gf_X10_84 dX10_goWeeks_173 0 rfl rfl ?_
                refine jn_if_ge 176 X dX10_goWeeks_176 209 (by decide) (fun c_75 => absurd c_75 c_72) (fun _ => ?_)
                refine jv_iload_n 179 X dX10_goWeeks_179 1 rfl ?_
                refine jv_iload 180 X dX10_goWeeks_180 0 rfl ?_
                refine jv_ishr 182 X dX10_goWeeks_182 ?_
                refine jv_iconst (v := 1) 183 X dX10_goWeeks_183 rfl ?_
                refine jv_iand 184 X dX10_goWeeks_184 ?_
                refine jv_iconst (v := 1) 185 X dX10_goWeeks_185 rfl ?_
                refine jn_icmp_ne 186 X dX10_goWeeks_186 203 (by decide) (fun c_76 => ?_) (fun c_76 => ?_)
                · refine jv_iinc (v := 2) (lv2 := [(4, .int 2), (3, .int ((metS ((f_endDay nw week ((nw 39).toNatClampNeg)).2)) &&& ((metS nw) ^^^ (-1)))), (2, .int (metS nw)), (1, .int (pad p)), (0, .ref (a 0))]) 203 X dX10_goWeeks_203 0 rfl (by decide) (by decide) rfl ?_
                  refine jv_goto 206 X dX10_goWeeks_206 166 (by decide) ?_
                  refine jv_iload 166 X dX10_goWeeks_166 0 rfl ?_
                  refine jv_iconst (v := 4) 168 X dX10_goWeeks_168 rfl ?_
                  refine jn_icmp_ge 169 X dX10_goWeeks_169 209 (by decide) (fun c_77 => absurd c_77 (by decide)) (fun _ => ?_)
                  refine jv_aload_n 172 X dX10_goWeeks_172 4 rfl ?_
                  refine jv_get (v := .int ma) 173 X gf_X10_84 dX10_goWeeks_173 0 rfl rfl ?_
                  refine jn_if_ge 176 X dX10_goWeeks_176 209 (by decide) (fun c_78 => absurd c_78 c_72) (fun _ => ?_)
                  refine jv_iload_n 179 X dX10_goWeeks_179 1 rfl ?_
                  refine jv_iload 180 X dX10_goWeeks_180 0 rfl ?_
                  refine jv_ishr 182 X dX10_goWeeks_182 ?_
                  refine jv_iconst (v := 1) 183 X dX10_goWeeks_183 rfl ?_
                  refine jv_iand 184 X dX10_goWeeks_184 ?_
                  refine jv_iconst (v := 1) 185 X dX10_goWeeks_185 rfl ?_
                  refine jn_icmp_ne 186 X dX10_goWeeks_186 203 (by decide) (fun c_79 => ?_) (fun c_79 => ?_)
                  · refine jv_iinc (v := 3) (lv2 := [(4, .int 3), (3, .int ((metS ((f_endDay nw week ((nw 39).toNatClampNeg)).2)) &&& ((metS nw) ^^^ (-1)))), (2, .int (metS nw)), (1, .int (pad p)), (0, .ref (a 0))]) 203 X dX10_goWeeks_203 0 rfl (by decide) (by decide) rfl ?_
                    refine jv_goto 206 X dX10_goWeeks_206 166 (by decide) ?_
                    refine jv_iload 166 X dX10_goWeeks_166 0 rfl ?_
                    refine jv_iconst (v := 4) 168 X dX10_goWeeks_168 rfl ?_
                    refine jn_icmp_ge 169 X dX10_goWeeks_169 209 (by decide) (fun c_80 => absurd c_80 (by decide)) (fun _ => ?_)
                    refine jv_aload_n 172 X dX10_goWeeks_172 4 rfl ?_
                    refine jv_get (v := .int ma) 173 X gf_X10_84 dX10_goWeeks_173 0 rfl rfl ?_
                    refine jn_if_ge 176 X dX10_goWeeks_176 209 (by decide) (fun c_81 => absurd c_81 c_72) (fun _ => ?_)
                    refine jv_iload_n 179 X dX10_goWeeks_179 1 rfl ?_
                    refine jv_iload 180 X dX10_goWeeks_180 0 rfl ?_
                    refine jv_ishr 182 X dX10_goWeeks_182 ?_
                    refine jv_iconst (v := 1) 183 X dX10_goWeeks_183 rfl ?_
                    refine jv_iand 184 X dX10_goWeeks_184 ?_
                    refine jv_iconst (v := 1) 185 X dX10_goWeeks_185 rfl ?_
                    refine jn_icmp_ne 186 X dX10_goWeeks_186 203 (by decide) (fun c_82 => ?_) (fun c_82 => ?_)
                    · refine jv_iinc (v := 4) (lv2 := [(4, .int 4), (3, .int ((metS ((f_endDay nw week ((nw 39).toNatClampNeg)).2)) &&& ((metS nw) ^^^ (-1)))), (2, .int (metS nw)), (1, .int (pad p)), (0, .ref (a 0))]) 203 X dX10_goWeeks_203 0 rfl (by decide) (by decide) rfl ?_
                      refine jv_goto 206 X dX10_goWeeks_206 166 (by decide) ?_
                      refine jv_iload 166 X dX10_goWeeks_166 0 rfl ?_
                      refine jv_iconst (v := 4) 168 X dX10_goWeeks_168 rfl ?_
                      refine jn_icmp_ge 169 X dX10_goWeeks_169 209 (by decide) (fun _ => ?_) (fun c_83 => absurd c_83 (by decide))
                      have hf : f_act pad week nw p = (((f_endDay nw week ((nw 39).toNatClampNeg)).1), (p + 1), (f_endDay nw week ((nw 39).toNatClampNeg)).2) := by simp [f_act, c_2]
                      have hY : c + 1 ≤ (p + 1) ∧ (p + 1) ≤ sg ∧ WF pad sg (p + 1) ∧ dyOK ((f_endDay nw week ((nw 39).toNatClampNeg)).2) ∧ sg - (p + 1) < n14 := by
                        have h9 := hX
                        rw [hf] at h9
                        obtain ⟨h7, h8, h6⟩ := h9
                        have h5 := h7.1
                        dsimp only at h5 h6 h7 h8
                        exact ⟨by omega, h5, h7, h6, by omega⟩
                      refine jv_aload_n 209 X dX10_goWeeks_209 4 rfl ?_
                      refine jv_dup 210 X dX10_goWeeks_210 rfl ?_
                      refine jv_get (v := .int (nI c)) 211 X gf_X10_125 dX10_goWeeks_211 0 rfl rfl ?_
                      refine jv_iconst (v := 1) 214 X dX10_goWeeks_214 rfl ?_
                      refine jv_iadd 215 X dX10_goWeeks_215 ?_
                      refine jv_norm (x2 := nI (c + 1)) (nx_add2 (a := c) (b := 1) rfl rfl (by omega)) ?_
                      refine jv_puti (ws2 := bMd E a book ((f_endDay nw week ((nw 39).toNatClampNeg)).2) week sights sight (nI sg) pad ma mw ((f_endDay nw week ((nw 39).toNatClampNeg)).1) (nI (c + 1)) (nI (p + 1)) will fitting counts ring nxt wins ways nextWays image isKept) 216 X gf_X10_125 tyX10_ok nmX10 rfl rfl dX10_goWeeks_216 0 rfl (Nat.le_of_ble_eq_true rfl) rfl ?_
                      refine jv_goto 219 X dX10_goWeeks_219 14 (by decide) ?_
                      exact jv_lv [4] rfl (ih14 (p + 1) (c + 1) ((f_endDay nw week ((nw 39).toNatClampNeg)).2) ma mw ((f_endDay nw week ((nw 39).toNatClampNeg)).1) (hY.1) (hY.2.1) (hY.2.2.1) (hY.2.2.2.1) (by rw [hI]; exact goM_s hlt hf c_70 (by simp only [fstM, c_72, c_73, c_76, c_79, c_82, if_true, if_false])) (hY.2.2.2.2))
                    · refine jv_aload_n 189 X dX10_goWeeks_189 4 rfl ?_
                      refine jv_aload_n 190 X dX10_goWeeks_190 4 rfl ?_
                      refine jv_get (v := .int (nI c)) 191 X gf_X10_125 dX10_goWeeks_191 0 rfl rfl ?_
                      refine jv_puti (ws2 := bMd E a book ((f_endDay nw week ((nw 39).toNatClampNeg)).2) week sights sight (nI sg) pad (nI c) mw ((f_endDay nw week ((nw 39).toNatClampNeg)).1) (nI c) (nI (p + 1)) will fitting counts ring nxt wins ways nextWays image isKept) 194 X gf_X10_84 tyX10_ok nmX10 rfl rfl dX10_goWeeks_194 0 rfl (Nat.le_of_ble_eq_true rfl) rfl ?_
                      refine jv_aload_n 197 X dX10_goWeeks_197 4 rfl ?_
                      refine jv_iload 198 X dX10_goWeeks_198 0 rfl ?_
                      refine jv_puti (ws2 := bMd E a book ((f_endDay nw week ((nw 39).toNatClampNeg)).2) week sights sight (nI sg) pad (nI c) 3 ((f_endDay nw week ((nw 39).toNatClampNeg)).1) (nI c) (nI (p + 1)) will fitting counts ring nxt wins ways nextWays image isKept) 200 X gf_X10_87 tyX10_ok nmX10 rfl rfl dX10_goWeeks_200 0 rfl (Nat.le_of_ble_eq_true rfl) rfl ?_
                      refine jv_iinc (v := 4) (lv2 := [(4, .int 4), (3, .int ((metS ((f_endDay nw week ((nw 39).toNatClampNeg)).2)) &&& ((metS nw) ^^^ (-1)))), (2, .int (metS nw)), (1, .int (pad p)), (0, .ref (a 0))]) 203 X dX10_goWeeks_203 0 rfl (by decide) (by decide) rfl ?_
                      refine jv_goto 206 X dX10_goWeeks_206 166 (by decide) ?_
                      refine jv_iload 166 X dX10_goWeeks_166 0 rfl ?_
                      refine jv_iconst (v := 4) 168 X dX10_goWeeks_168 rfl ?_
                      refine jn_icmp_ge 169 X dX10_goWeeks_169 209 (by decide) (fun _ => ?_) (fun c_84 => absurd c_84 (by decide))
                      have hf : f_act pad week nw p = (((f_endDay nw week ((nw 39).toNatClampNeg)).1), (p + 1), (f_endDay nw week ((nw 39).toNatClampNeg)).2) := by simp [f_act, c_2]
                      have hY : c + 1 ≤ (p + 1) ∧ (p + 1) ≤ sg ∧ WF pad sg (p + 1) ∧ dyOK ((f_endDay nw week ((nw 39).toNatClampNeg)).2) ∧ sg - (p + 1) < n14 := by
                        have h9 := hX
                        rw [hf] at h9
                        obtain ⟨h7, h8, h6⟩ := h9
                        have h5 := h7.1
                        dsimp only at h5 h6 h7 h8
                        exact ⟨by omega, h5, h7, h6, by omega⟩
                      refine jv_aload_n 209 X dX10_goWeeks_209 4 rfl ?_
                      refine jv_dup 210 X dX10_goWeeks_210 rfl ?_
                      refine jv_get (v := .int (nI c)) 211 X gf_X10_125 dX10_goWeeks_211 0 rfl rfl ?_
                      refine jv_iconst (v := 1) 214 X dX10_goWeeks_214 rfl ?_
                      refine jv_iadd 215 X dX10_goWeeks_215 ?_
                      refine jv_norm (x2 := nI (c + 1)) (nx_add2 (a := c) (b := 1) rfl rfl (by omega)) ?_
                      refine jv_puti (ws2 := bMd E a book ((f_endDay nw week ((nw 39).toNatClampNeg)).2) week sights sight (nI sg) pad (nI c) 3 ((f_endDay nw week ((nw 39).toNatClampNeg)).1) (nI (c + 1)) (nI (p + 1)) will fitting counts ring nxt wins ways nextWays image isKept) 216 X gf_X10_125 tyX10_ok nmX10 rfl rfl dX10_goWeeks_216 0 rfl (Nat.le_of_ble_eq_true rfl) rfl ?_
                      refine jv_goto 219 X dX10_goWeeks_219 14 (by decide) ?_
                      exact jv_lv [4] rfl (ih14 (p + 1) (c + 1) ((f_endDay nw week ((nw 39).toNatClampNeg)).2) (nI c) 3 ((f_endDay nw week ((nw 39).toNatClampNeg)).1) (hY.1) (hY.2.1) (hY.2.2.1) (hY.2.2.2.1) (by rw [hI]; exact goM_s hlt hf c_70 (by simp only [fstM, c_72, c_73, c_76, c_79, c_82, if_true, if_false])) (hY.2.2.2.2))
                  · refine jv_aload_n 189 X dX10_goWeeks_189 4 rfl ?_
                    refine jv_aload_n 190 X dX10_goWeeks_190 4 rfl ?_
                    refine jv_get (v := .int (nI c)) 191 X gf_X10_125 dX10_goWeeks_191 0 rfl rfl ?_
                    refine jv_puti (ws2 := bMd E a book ((f_endDay nw week ((nw 39).toNatClampNeg)).2) week sights sight (nI sg) pad (nI c) mw ((f_endDay nw week ((nw 39).toNatClampNeg)).1) (nI c) (nI (p + 1)) will fitting counts ring nxt wins ways nextWays image isKept) 194 X gf_X10_84 tyX10_ok nmX10 rfl rfl dX10_goWeeks_194 0 rfl (Nat.le_of_ble_eq_true rfl) rfl ?_
                    refine jv_aload_n 197 X dX10_goWeeks_197 4 rfl ?_
                    refine jv_iload 198 X dX10_goWeeks_198 0 rfl ?_
                    refine jv_puti (ws2 := bMd E a book ((f_endDay nw week ((nw 39).toNatClampNeg)).2) week sights sight (nI sg) pad (nI c) 2 ((f_endDay nw week ((nw 39).toNatClampNeg)).1) (nI c) (nI (p + 1)) will fitting counts ring nxt wins ways nextWays image isKept) 200 X gf_X10_87 tyX10_ok nmX10 rfl rfl dX10_goWeeks_200 0 rfl (Nat.le_of_ble_eq_true rfl) rfl ?_
                    refine jv_iinc (v := 3) (lv2 := [(4, .int 3), (3, .int ((metS ((f_endDay nw week ((nw 39).toNatClampNeg)).2)) &&& ((metS nw) ^^^ (-1)))), (2, .int (metS nw)), (1, .int (pad p)), (0, .ref (a 0))]) 203 X dX10_goWeeks_203 0 rfl (by decide) (by decide) rfl ?_
                    refine jv_goto 206 X dX10_goWeeks_206 166 (by decide) ?_
                    refine jv_iload 166 X dX10_goWeeks_166 0 rfl ?_
                    refine jv_iconst (v := 4) 168 X dX10_goWeeks_168 rfl ?_
                    refine jn_icmp_ge 169 X dX10_goWeeks_169 209 (by decide) (fun c_85 => absurd c_85 (by decide)) (fun _ => ?_)
                    refine jv_aload_n 172 X dX10_goWeeks_172 4 rfl ?_
                    refine jv_get (v := .int (nI c)) 173 X gf_X10_84 dX10_goWeeks_173 0 rfl rfl ?_
                    refine jn_if_ge 176 X dX10_goWeeks_176 209 (by decide) (fun c_86 => ?_) (fun c_86 => absurd (nI_pos' (by omega)) c_86)
                    have n_86 : 0 ≤ c := (nx_le (a := 0) (b := c) rfl rfl (by omega) (by omega)).mp c_86
                    have hf : f_act pad week nw p = (((f_endDay nw week ((nw 39).toNatClampNeg)).1), (p + 1), (f_endDay nw week ((nw 39).toNatClampNeg)).2) := by simp [f_act, c_2]
                    have hY : c + 1 ≤ (p + 1) ∧ (p + 1) ≤ sg ∧ WF pad sg (p + 1) ∧ dyOK ((f_endDay nw week ((nw 39).toNatClampNeg)).2) ∧ sg - (p + 1) < n14 := by
                      have h9 := hX
                      rw [hf] at h9
                      obtain ⟨h7, h8, h6⟩ := h9
                      have h5 := h7.1
                      dsimp only at h5 h6 h7 h8
                      exact ⟨by omega, h5, h7, h6, by omega⟩
                    refine jv_aload_n 209 X dX10_goWeeks_209 4 rfl ?_
                    refine jv_dup 210 X dX10_goWeeks_210 rfl ?_
                    refine jv_get (v := .int (nI c)) 211 X gf_X10_125 dX10_goWeeks_211 0 rfl rfl ?_
                    refine jv_iconst (v := 1) 214 X dX10_goWeeks_214 rfl ?_
                    refine jv_iadd 215 X dX10_goWeeks_215 ?_
                    refine jv_norm (x2 := nI (c + 1)) (nx_add2 (a := c) (b := 1) rfl rfl (by omega)) ?_
                    refine jv_puti (ws2 := bMd E a book ((f_endDay nw week ((nw 39).toNatClampNeg)).2) week sights sight (nI sg) pad (nI c) 2 ((f_endDay nw week ((nw 39).toNatClampNeg)).1) (nI (c + 1)) (nI (p + 1)) will fitting counts ring nxt wins ways nextWays image isKept) 216 X gf_X10_125 tyX10_ok nmX10 rfl rfl dX10_goWeeks_216 0 rfl (Nat.le_of_ble_eq_true rfl) rfl ?_
                    refine jv_goto 219 X dX10_goWeeks_219 14 (by decide) ?_
                    exact jv_lv [4] rfl (ih14 (p + 1) (c + 1) ((f_endDay nw week ((nw 39).toNatClampNeg)).2) (nI c) 2 ((f_endDay nw week ((nw 39).toNatClampNeg)).1) (hY.1) (hY.2.1) (hY.2.2.1) (hY.2.2.2.1) (by rw [hI]; exact goM_s hlt hf c_70 (by simp only [fstM, c_72, c_73, c_76, c_79, if_true, if_false])) (hY.2.2.2.2))
                · refine jv_aload_n 189 X dX10_goWeeks_189 4 rfl ?_
                  refine jv_aload_n 190 X dX10_goWeeks_190 4 rfl ?_
                  refine jv_get (v := .int (nI c)) 191 X gf_X10_125 dX10_goWeeks_191 0 rfl rfl ?_
                  refine jv_puti (ws2 := bMd E a book ((f_endDay nw week ((nw 39).toNatClampNeg)).2) week sights sight (nI sg) pad (nI c) mw ((f_endDay nw week ((nw 39).toNatClampNeg)).1) (nI c) (nI (p + 1)) will fitting counts ring nxt wins ways nextWays image isKept) 194 X gf_X10_84 tyX10_ok nmX10 rfl rfl dX10_goWeeks_194 0 rfl (Nat.le_of_ble_eq_true rfl) rfl ?_
                  refine jv_aload_n 197 X dX10_goWeeks_197 4 rfl ?_
                  refine jv_iload 198 X dX10_goWeeks_198 0 rfl ?_
                  refine jv_puti (ws2 := bMd E a book ((f_endDay nw week ((nw 39).toNatClampNeg)).2) week sights sight (nI sg) pad (nI c) 1 ((f_endDay nw week ((nw 39).toNatClampNeg)).1) (nI c) (nI (p + 1)) will fitting counts ring nxt wins ways nextWays image isKept) 200 X gf_X10_87 tyX10_ok nmX10 rfl rfl dX10_goWeeks_200 0 rfl (Nat.le_of_ble_eq_true rfl) rfl ?_
                  refine jv_iinc (v := 2) (lv2 := [(4, .int 2), (3, .int ((metS ((f_endDay nw week ((nw 39).toNatClampNeg)).2)) &&& ((metS nw) ^^^ (-1)))), (2, .int (metS nw)), (1, .int (pad p)), (0, .ref (a 0))]) 203 X dX10_goWeeks_203 0 rfl (by decide) (by decide) rfl ?_
                  refine jv_goto 206 X dX10_goWeeks_206 166 (by decide) ?_
                  refine jv_iload 166 X dX10_goWeeks_166 0 rfl ?_
                  refine jv_iconst (v := 4) 168 X dX10_goWeeks_168 rfl ?_
                  refine jn_icmp_ge 169 X dX10_goWeeks_169 209 (by decide) (fun c_87 => absurd c_87 (by decide)) (fun _ => ?_)
                  refine jv_aload_n 172 X dX10_goWeeks_172 4 rfl ?_
                  refine jv_get (v := .int (nI c)) 173 X gf_X10_84 dX10_goWeeks_173 0 rfl rfl ?_
                  refine jn_if_ge 176 X dX10_goWeeks_176 209 (by decide) (fun c_88 => ?_) (fun c_88 => absurd (nI_pos' (by omega)) c_88)
                  have n_88 : 0 ≤ c := (nx_le (a := 0) (b := c) rfl rfl (by omega) (by omega)).mp c_88
                  have hf : f_act pad week nw p = (((f_endDay nw week ((nw 39).toNatClampNeg)).1), (p + 1), (f_endDay nw week ((nw 39).toNatClampNeg)).2) := by simp [f_act, c_2]
                  have hY : c + 1 ≤ (p + 1) ∧ (p + 1) ≤ sg ∧ WF pad sg (p + 1) ∧ dyOK ((f_endDay nw week ((nw 39).toNatClampNeg)).2) ∧ sg - (p + 1) < n14 := by
                    have h9 := hX
                    rw [hf] at h9
                    obtain ⟨h7, h8, h6⟩ := h9
                    have h5 := h7.1
                    dsimp only at h5 h6 h7 h8
                    exact ⟨by omega, h5, h7, h6, by omega⟩
                  refine jv_aload_n 209 X dX10_goWeeks_209 4 rfl ?_
                  refine jv_dup 210 X dX10_goWeeks_210 rfl ?_
                  refine jv_get (v := .int (nI c)) 211 X gf_X10_125 dX10_goWeeks_211 0 rfl rfl ?_
                  refine jv_iconst (v := 1) 214 X dX10_goWeeks_214 rfl ?_
                  refine jv_iadd 215 X dX10_goWeeks_215 ?_
                  refine jv_norm (x2 := nI (c + 1)) (nx_add2 (a := c) (b := 1) rfl rfl (by omega)) ?_
                  refine jv_puti (ws2 := bMd E a book ((f_endDay nw week ((nw 39).toNatClampNeg)).2) week sights sight (nI sg) pad (nI c) 1 ((f_endDay nw week ((nw 39).toNatClampNeg)).1) (nI (c + 1)) (nI (p + 1)) will fitting counts ring nxt wins ways nextWays image isKept) 216 X gf_X10_125 tyX10_ok nmX10 rfl rfl dX10_goWeeks_216 0 rfl (Nat.le_of_ble_eq_true rfl) rfl ?_
                  refine jv_goto 219 X dX10_goWeeks_219 14 (by decide) ?_
                  exact jv_lv [4] rfl (ih14 (p + 1) (c + 1) ((f_endDay nw week ((nw 39).toNatClampNeg)).2) (nI c) 1 ((f_endDay nw week ((nw 39).toNatClampNeg)).1) (hY.1) (hY.2.1) (hY.2.2.1) (hY.2.2.2.1) (by rw [hI]; exact goM_s hlt hf c_70 (by simp only [fstM, c_72, c_73, c_76, if_true, if_false])) (hY.2.2.2.2))
              · refine jv_aload_n 189 X dX10_goWeeks_189 4 rfl ?_
                refine jv_aload_n 190 X dX10_goWeeks_190 4 rfl ?_
                refine jv_get (v := .int (nI c)) 191 X gf_X10_125 dX10_goWeeks_191 0 rfl rfl ?_
                refine jv_puti (ws2 := bMd E a book ((f_endDay nw week ((nw 39).toNatClampNeg)).2) week sights sight (nI sg) pad (nI c) mw ((f_endDay nw week ((nw 39).toNatClampNeg)).1) (nI c) (nI (p + 1)) will fitting counts ring nxt wins ways nextWays image isKept) 194 X gf_X10_84 tyX10_ok nmX10 rfl rfl dX10_goWeeks_194 0 rfl (Nat.le_of_ble_eq_true rfl) rfl ?_
                refine jv_aload_n 197 X dX10_goWeeks_197 4 rfl ?_
                refine jv_iload 198 X dX10_goWeeks_198 0 rfl ?_
                refine jv_puti (ws2 := bMd E a book ((f_endDay nw week ((nw 39).toNatClampNeg)).2) week sights sight (nI sg) pad (nI c) 0 ((f_endDay nw week ((nw 39).toNatClampNeg)).1) (nI c) (nI (p + 1)) will fitting counts ring nxt wins ways nextWays image isKept) 200 X gf_X10_87 tyX10_ok nmX10 rfl rfl dX10_goWeeks_200 0 rfl (Nat.le_of_ble_eq_true rfl) rfl ?_
                refine jv_iinc (v := 1) (lv2 := [(4, .int 1), (3, .int ((metS ((f_endDay nw week ((nw 39).toNatClampNeg)).2)) &&& ((metS nw) ^^^ (-1)))), (2, .int (metS nw)), (1, .int (pad p)), (0, .ref (a 0))]) 203 X dX10_goWeeks_203 0 rfl (by decide) (by decide) rfl ?_
                refine jv_goto 206 X dX10_goWeeks_206 166 (by decide) ?_
                refine jv_iload 166 X dX10_goWeeks_166 0 rfl ?_
                refine jv_iconst (v := 4) 168 X dX10_goWeeks_168 rfl ?_
                refine jn_icmp_ge 169 X dX10_goWeeks_169 209 (by decide) (fun c_89 => absurd c_89 (by decide)) (fun _ => ?_)
                refine jv_aload_n 172 X dX10_goWeeks_172 4 rfl ?_
                refine jv_get (v := .int (nI c)) 173 X gf_X10_84 dX10_goWeeks_173 0 rfl rfl ?_
                refine jn_if_ge 176 X dX10_goWeeks_176 209 (by decide) (fun c_90 => ?_) (fun c_90 => absurd (nI_pos' (by omega)) c_90)
                have n_90 : 0 ≤ c := (nx_le (a := 0) (b := c) rfl rfl (by omega) (by omega)).mp c_90
                have hf : f_act pad week nw p = (((f_endDay nw week ((nw 39).toNatClampNeg)).1), (p + 1), (f_endDay nw week ((nw 39).toNatClampNeg)).2) := by simp [f_act, c_2]
                have hY : c + 1 ≤ (p + 1) ∧ (p + 1) ≤ sg ∧ WF pad sg (p + 1) ∧ dyOK ((f_endDay nw week ((nw 39).toNatClampNeg)).2) ∧ sg - (p + 1) < n14 := by
                  have h9 := hX
                  rw [hf] at h9
                  obtain ⟨h7, h8, h6⟩ := h9
                  have h5 := h7.1
                  dsimp only at h5 h6 h7 h8
                  exact ⟨by omega, h5, h7, h6, by omega⟩
                refine jv_aload_n 209 X dX10_goWeeks_209 4 rfl ?_
                refine jv_dup 210 X dX10_goWeeks_210 rfl ?_
                refine jv_get (v := .int (nI c)) 211 X gf_X10_125 dX10_goWeeks_211 0 rfl rfl ?_
                refine jv_iconst (v := 1) 214 X dX10_goWeeks_214 rfl ?_
                refine jv_iadd 215 X dX10_goWeeks_215 ?_
                refine jv_norm (x2 := nI (c + 1)) (nx_add2 (a := c) (b := 1) rfl rfl (by omega)) ?_
                refine jv_puti (ws2 := bMd E a book ((f_endDay nw week ((nw 39).toNatClampNeg)).2) week sights sight (nI sg) pad (nI c) 0 ((f_endDay nw week ((nw 39).toNatClampNeg)).1) (nI (c + 1)) (nI (p + 1)) will fitting counts ring nxt wins ways nextWays image isKept) 216 X gf_X10_125 tyX10_ok nmX10 rfl rfl dX10_goWeeks_216 0 rfl (Nat.le_of_ble_eq_true rfl) rfl ?_
                refine jv_goto 219 X dX10_goWeeks_219 14 (by decide) ?_
                exact jv_lv [4] rfl (ih14 (p + 1) (c + 1) ((f_endDay nw week ((nw 39).toNatClampNeg)).2) (nI c) 0 ((f_endDay nw week ((nw 39).toNatClampNeg)).1) (hY.1) (hY.2.1) (hY.2.2.1) (hY.2.2.2.1) (by rw [hI]; exact goM_s hlt hf c_70 (by simp only [fstM, c_72, c_73, if_true, if_false])) (hY.2.2.2.2))
          · refine jv_aload_n 149 X dX10_goWeeks_149 2 rfl ?_
            refine jv_get (v := .int (nI c)) 150 X gf_X10_125 dX10_goWeeks_150 0 rfl rfl ?_
            have hf : f_act pad week nw p = (((f_endDay nw week ((nw 39).toNatClampNeg)).1), (p + 1), (f_endDay nw week ((nw 39).toNatClampNeg)).2) := by simp [f_act, c_2]
            have hq : gwM pad week book sg reason = (nI c, (p + 1), c, (f_endDay nw week ((nw 39).toNatClampNeg)).2, ma, mw, ((f_endDay nw week ((nw 39).toNatClampNeg)).1)) := hI.trans (goM_r hlt hf (by assumption))
            exact jv_iret 153 X Y rfl dX10_goWeeks_153 () (by rw [hq]; try rfl) (by rw [hq]; try rfl)
  exact jv_lv [0] rfl (lp14 _ 0 0 book (-6) (-6) reason (by omega) (by omega) hW hD rfl (Nat.lt_succ_self _))
