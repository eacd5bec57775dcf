theorem itE_inv {σ ρ : Type} {f : Nat → σ → ρ ⊕ σ} {P : Nat → σ → Prop} (hs : ∀ i s s2, P i s → f i s = .inr s2 → P (i + 1) s2) : ∀ (n i : Nat) (s t : σ), P i s → itE f n i s = .inr t → P (i + n) t
  | 0, i, s, t, h, e => by cases e; exact h
  | n + 1, i, s, t, h, e => by
    cases hf : f i s with
    | inl r => rw [itE_l hf] at e; cases e
    | inr s2 =>
      rw [itE_r hf] at e
      have := itE_inv hs n (i + 1) s2 t (hs i s s2 h hf) e
      rwa [show i + 1 + n = i + (n + 1) by omega] at this
theorem itE_invl {σ ρ : Type} {f : Nat → σ → ρ ⊕ σ} {P : Nat → σ → Prop} (hs : ∀ i s s2, P i s → f i s = .inr s2 → P (i + 1) s2) : ∀ (n i : Nat) (s : σ) (r : ρ), P i s → itE f n i s = .inl r → ∃ j s2, i ≤ j ∧ j < i + n ∧ P j s2 ∧ f j s2 = .inl r
  | 0, i, s, r, h, e => by cases e
  | n + 1, i, s, r, h, e => by
    cases hf : f i s with
    | inl r2 => rw [itE_l hf] at e; cases e; exact ⟨i, s, Nat.le_refl _, by omega, h, hf⟩
    | inr s2 =>
      rw [itE_r hf] at e
      obtain ⟨j, s3, h1, h2, h3, h4⟩ := itE_invl hs n (i + 1) s2 r (hs i s s2 h hf) e
      exact ⟨j, s3, by omega, by omega, h3, h4⟩
def onK (on : Nat → Int32) (c : Nat) : Prop := on c = nI (on c).toNatClampNeg ∧ (on c).toNatClampNeg < 6
def rdI (k : Nat) (x : PS) : Prop := x.2.1 ≤ k ∧ (∀ i, i < x.2.1 → okK x.2.2.1 x.2.2.2.1 x.2.2.2.2.1 i) ∧ ((x.1 = 1 ∨ x.1 = 2) → onK x.2.2.2.1 x.2.1 ∧ x.2.2.2.2.1 x.2.1 = 0) ∧ (x.1 = 3 → okK x.2.2.1 x.2.2.2.1 x.2.2.2.2.1 x.2.1)
theorem okK_c {kd kd2 on on2 pl pl2 : Nat → Int32} {i : Nat} (h : okK kd on pl i) (h1 : kd2 i = kd i) (h2 : on2 i = on i) (h3 : pl2 i = pl i) : okK kd2 on2 pl2 i := by
  unfold okK at h ⊢
  rw [h1, h2, h3]
  exact h
theorem on_0 : (0 : Int32) = nI (0 : Int32).toNatClampNeg ∧ (0 : Int32).toNatClampNeg < 6 := by decide
theorem pl_0 : (0 : Int32).toNatClampNeg = 0 := rfl
theorem rdI_s {signs : Nat → Int32} (k : Nat) (x y : PS) (h : rdI k x) (hq4 : x.1 < 4) (e : rdS signs k x = .inr y) : rdI (k + 1) y := by
  obtain ⟨q, c, kd, on, pl, nm⟩ := x
  dsimp only at hq4
  obtain ⟨h1, h2, h3, h4⟩ := h
  dsimp only at h1 h2 h3 h4
  unfold rdS at e
  dsimp only at e
  split at e
  · cases e
  rename_i hne
  have e2 := Sum.inr.inj e
  subst e2
  clear e
  unfold pdStep at hne ⊢
  split
  · -- begin
    unfold pdBegin
    split
    · rename_i hA
      refine ⟨by show c ≤ k + 1; omega, fun i hi => ?_, fun _ => ⟨?_, ?_⟩, fun z => by cases z⟩
      · have hi : i < c := hi
        exact okK_c (h2 i hi) (pk_un (by omega)) (by show upd (upd on c 0) c (signs k - 65) i = on i; rw [pk_un (by omega), pk_un (by omega)]) (pk_un (by omega))
      · have e := dig_nI (lo := 65) (hi := 70) (a := 65) (b := 70) rfl rfl (by decide) (by decide) hA
        show onK (upd (upd on c 0) c (signs k - 65)) c
        unfold onK
        rw [pk_us]
        exact ⟨e.1, by have := e.2; omega⟩
      · show upd pl c 0 c = 0
        exact pk_us
    split
    · rename_i hB
      refine ⟨by show c ≤ k + 1; omega, fun i hi => ?_, (fun z => by rcases z with z | z <;> cases z), fun _ => ?_⟩
      · have hi : i < c := hi
        exact okK_c (h2 i hi) (pk_un (by omega)) (pk_un (by omega)) (pk_un (by omega))
      · show okK (upd kd c (signs k)) (upd on c 0) (upd pl c 0) c
        unfold okK
        rw [pk_us, pk_us, pk_us]
        exact ⟨on_0, by decide, fun _ => by rw [pl_0]; omega, fun _ => by rw [pl_0]; omega⟩
    split
    · refine ⟨by show c + 1 ≤ k + 1; omega, fun i hi => ?_, (fun z => by rcases z with z | z <;> cases z), fun z => by cases z⟩
      have hi : i < c + 1 := hi
      rcases Nat.lt_or_ge i c with q1 | q1
      · exact okK_c (h2 i q1) (pk_un (by omega)) (pk_un (by omega)) (pk_un (by omega))
      · rw [show i = c by omega]
        show okK (upd kd c (signs k)) (upd on c 0) (upd pl c 0) c
        unfold okK
        rw [pk_us, pk_us, pk_us]
        exact ⟨on_0, by decide, fun _ => by rw [pl_0]; omega, fun _ => by rw [pl_0]; omega⟩
    · rename_i hq _ _ _
      rw [if_pos hq] at hne
      exact absurd (by unfold pdBegin; rw [if_neg (by assumption), if_neg (by assumption), if_neg (by assumption)]) hne
  split
  · rename_i hq0 hq1
    obtain ⟨g1, g2⟩ := h3 (Or.inl hq1)
    unfold pdVerb
    split
    · refine ⟨by show c ≤ k + 1; omega, fun i hi => ?_, fun _ => ⟨g1, g2⟩, fun z => by cases z⟩
      have hi : i < c := hi
      exact okK_c (h2 i hi) (pk_un (by omega)) rfl rfl
    split
    · refine ⟨by show c ≤ k + 1; omega, fun i hi => ?_, (fun z => by rcases z with z | z <;> cases z), fun _ => ?_⟩
      · have hi : i < c := hi
        exact okK_c (h2 i hi) (pk_un (by omega)) rfl rfl
      · show okK (upd kd c (signs k)) on pl c
        unfold okK
        rw [pk_us, g2]
        exact ⟨g1, by decide, fun _ => by rw [pl_0]; omega, fun _ => by rw [pl_0]; omega⟩
    split
    · refine ⟨by show c + 1 ≤ k + 1; omega, fun i hi => ?_, (fun z => by rcases z with z | z <;> cases z), fun z => by cases z⟩
      have hi : i < c + 1 := hi
      rcases Nat.lt_or_ge i c with q1 | q1
      · exact okK_c (h2 i q1) (pk_un (by omega)) rfl rfl
      · rw [show i = c by omega]
        show okK (upd kd c (signs k)) on pl c
        unfold okK
        rw [pk_us, g2]
        exact ⟨g1, by decide, fun _ => by rw [pl_0]; omega, fun _ => by rw [pl_0]; omega⟩
    · rw [if_neg hq0, if_pos hq1] at hne
      exact absurd (by unfold pdVerb; rw [if_neg (by assumption), if_neg (by assumption), if_neg (by assumption)]) hne
  split
  · rename_i hq0 hq1 hq2
    obtain ⟨g1, g2⟩ := h3 (Or.inr hq2)
    unfold pdPlace
    by_cases hz : 48 ≤ signs k ∧ signs k ≤ (if kd c = 47 then 55 else 51)
    · rw [if_pos hz]
      refine ⟨by show c ≤ k + 1; omega, fun i hi => ?_, (fun z => by rcases z with z | z <;> cases z), fun _ => ?_⟩
      · have hi : i < c := hi
        exact okK_c (h2 i hi) rfl rfl (pk_un (by omega))
      · show okK kd on (upd pl c (signs k - 48)) c
        unfold okK
        rw [pk_us]
        by_cases h47 : kd c = 47
        · rw [if_pos h47] at hz
          have e := dig_nI (lo := 48) (hi := 55) (a := 48) (b := 55) rfl rfl (by decide) (by decide) hz
          exact ⟨g1, e.1, fun z => by rw [h47] at z; exact absurd z (by decide), fun _ => by have := e.2; omega⟩
        · rw [if_neg h47] at hz
          have e := dig_nI (lo := 48) (hi := 51) (a := 48) (b := 51) rfl rfl (by decide) (by decide) hz
          exact ⟨g1, e.1, fun z => by have := e.2; omega, fun z => absurd z h47⟩
    · rw [if_neg hq0, if_neg hq1, if_pos hq2] at hne
      exact absurd (by unfold pdPlace; rw [if_neg hz]) hne
  · rename_i hq0 hq1 hq2
    unfold pdNum
    split
    · by_cases hq3 : q = 3
      · refine ⟨by show c + 1 ≤ k + 1; omega, fun i hi => ?_, (fun z => by rcases z with z | z <;> cases z), fun z => by cases z⟩
        have hi : i < c + 1 := hi
        rcases Nat.lt_or_ge i c with q1 | q1
        · exact h2 i q1
        · rw [show i = c by omega]; exact h4 hq3
      · omega
    · rw [if_neg hq0, if_neg hq1, if_neg hq2] at hne
      exact absurd (by unfold pdNum; rw [if_neg (by assumption)]) hne
theorem rdJ_s {signs : Nat → Int32} (k : Nat) (x y : PS) (h : rdI k x ∧ x.1 < 4) (e : rdS signs k x = .inr y) : rdI (k + 1) y ∧ y.1 < 4 := by
  refine ⟨rdI_s k x y h.1 h.2 e, ?_⟩
  unfold rdS at e
  split at e
  · cases e
  · rename_i hne
    have e2 := Sum.inr.inj e
    rw [← e2]
    have := (pdStep_le (q := x.1) (c := x.2.1) (kd := x.2.2.1) (on := x.2.2.2.1) (pl := x.2.2.2.2.1) (nm := x.2.2.2.2.2) (s := signs k)).1
    omega
theorem rd_ok {signs kd on pl nm : Nat → Int32} {sn : Nat} (hs : sn ≤ 60) (h : (rdC signs sn kd on pl nm).1 = -6) : (∀ i, i < (rdC signs sn kd on pl nm).2.2.1 → okK (rdC signs sn kd on pl nm).2.2.2.1 (rdC signs sn kd on pl nm).2.2.2.2.1 (rdC signs sn kd on pl nm).2.2.2.2.2.1 i) ∧ (rdC signs sn kd on pl nm).2.2.1 ≤ sn := by
  have h0 : rdI 0 (0, 0, kd, on, pl, nm) ∧ (0, 0, kd, on, pl, nm).1 < 4 := ⟨⟨Nat.le_refl 0, fun i hi => absurd hi (Nat.not_lt_zero i), (fun z => by rcases z with z | z <;> cases z), fun z => by cases z⟩, by show 0 < 4; decide⟩
  unfold rdC at h ⊢
  cases e : itE (rdS signs) sn 0 (0, 0, kd, on, pl, nm) with
  | inl r =>
    rw [e] at h
    obtain ⟨j, s2, h1, h2, h3, h4⟩ := itE_invl (P := fun k x => rdI k x ∧ x.1 < 4) rdJ_s sn 0 _ r h0 e
    unfold rdS at h4
    split at h4
    · have e5 := Sum.inl.inj h4
      rw [← e5] at h
      have h6 : nI j = -6 := h
      exact absurd (h6 ▸ nI_pos' (n := j) (by omega)) (by decide)
    · cases h4
  | inr y =>
    have h1 := itE_inv (P := fun k x => rdI k x ∧ x.1 < 4) rdJ_s sn 0 _ y h0 e
    rw [Nat.zero_add] at h1
    exact ⟨h1.1.2.1, h1.1.1⟩
theorem dy_ac {r : Rl} {kind n : Int32} {o p : Nat} (h : dyC r) (h0 : hdF r kind o p n = 0) : dyC (acF r kind o p n) := by
  obtain ⟨inch, day, sights, week, purse, cloth, ruler, stick, span, west, east, sightDay, sightInch⟩ := r
  by_cases hk : kind = 46
  · subst hk
    have h1 : ¬ 999 ≤ day := by
      intro z
      have h2 : hdF (inch, day, sights, week, purse, cloth, ruler, stick, span, west, east, sightDay, sightInch) 46 o p n = 6 := by simp [hdF, z]
      rw [h2] at h0
      exact absurd h0 (by decide)
    obtain ⟨g1, g2⟩ := h
    dsimp only at g1 g2
    have g3 : day.toNatClampNeg ≠ 999 := fun z => h1 (by rw [g1, z]; exact Int32.le_refl _)
    have e : acF (inch, day, sights, week, purse, cloth, ruler, stick, span, west, east, sightDay, sightInch) 46 o p n = (clampI (inch + week (day.toNatClampNeg % 7)), day + 1, sights, week, purse, cloth, ruler, stick, span, west, east, sightDay, sightInch) := by simp [acF]
    rw [e]
    have e2 : day + 1 = nI (day.toNatClampNeg + 1) := by rw [← nI_1, ← g1]
    unfold dyC
    dsimp only
    rw [e2, nI_clamp (by omega)]
    exact ⟨rfl, by omega⟩
  · unfold acF
    dsimp only
    (repeat' split) <;> first | exact h | contradiction
theorem dy_ta {kd on pl nm : Nat → Int32} {i : Nat} {r : Rl} {sa wy ma mb : Int32} (h : dyC r) : dyC (taF kd on pl nm i (r, sa, wy, ma, mb)).1 := by
  unfold taF
  split
  · rename_i h0; exact dy_ac h h0
  · exact h
theorem c_X8_tryOut (E : EE) (l : Launch) (w : Nat) (t : Nat → Nat) (wacts : Int32) (stuckAct : Int32) (why : Int32) (metAct : Int32) (metBridge : Int32) (r : Rl) (v : Nat → Nat) (o : Rl) (b : Nat → Nat) (sn : Nat) (acts : Int32) (signs : Nat → Int32) (kinds : Nat → Int32) (ones : Nat → Int32) (places : Nat → Int32) (numbers : Nat → Int32) (hs : sn ≤ 60) (hDo : dyC o) : CT E l yX8_tryOut cX8_tryOut 4 (some .boolean) { frames := 5, cells := 0, slots := 0, locals := 113 } [.ref w, .ref (v 0), .ref (b 0)] (wB [bWk w (t 0) wacts stuckAct why metAct metBridge, tRl E t r, tRl E v o, bPd E b (nI sn) acts signs kinds ones places numbers]) (some (.int (zI (((rdC signs sn kinds ones places numbers).1 = -6))))) (wB [bWk w (t 0) (if ((rdC signs sn kinds ones places numbers).1 = -6) then nI (rdC signs sn kinds ones places numbers).2.2.1 else wacts) (if ((rdC signs sn kinds ones places numbers).1 = -6) then (toC (rdC signs sn kinds ones places numbers).2.2.2.1 (rdC signs sn kinds ones places numbers).2.2.2.2.1 (rdC signs sn kinds ones places numbers).2.2.2.2.2.1 (rdC signs sn kinds ones places numbers).2.2.2.2.2.2 (rdC signs sn kinds ones places numbers).2.2.1 ((rdC signs sn kinds ones places numbers).2.2.1 + 1) 0 (o, -6, -6, -6, -6)).2.1 else -6) (if ((rdC signs sn kinds ones places numbers).1 = -6) then (toC (rdC signs sn kinds ones places numbers).2.2.2.1 (rdC signs sn kinds ones places numbers).2.2.2.2.1 (rdC signs sn kinds ones places numbers).2.2.2.2.2.1 (rdC signs sn kinds ones places numbers).2.2.2.2.2.2 (rdC signs sn kinds ones places numbers).2.2.1 ((rdC signs sn kinds ones places numbers).2.2.1 + 1) 0 (o, -6, -6, -6, -6)).2.2.1 else -6) (if ((rdC signs sn kinds ones places numbers).1 = -6) then (toC (rdC signs sn kinds ones places numbers).2.2.2.1 (rdC signs sn kinds ones places numbers).2.2.2.2.1 (rdC signs sn kinds ones places numbers).2.2.2.2.2.1 (rdC signs sn kinds ones places numbers).2.2.2.2.2.2 (rdC signs sn kinds ones places numbers).2.2.1 ((rdC signs sn kinds ones places numbers).2.2.1 + 1) 0 (o, -6, -6, -6, -6)).2.2.2.1 else -6) (if ((rdC signs sn kinds ones places numbers).1 = -6) then (toC (rdC signs sn kinds ones places numbers).2.2.2.1 (rdC signs sn kinds ones places numbers).2.2.2.2.1 (rdC signs sn kinds ones places numbers).2.2.2.2.2.1 (rdC signs sn kinds ones places numbers).2.2.2.2.2.2 (rdC signs sn kinds ones places numbers).2.2.1 ((rdC signs sn kinds ones places numbers).2.2.1 + 1) 0 (o, -6, -6, -6, -6)).2.2.2.2 else -6), tRl E t (if ((rdC signs sn kinds ones places numbers).1 = -6) then (toC (rdC signs sn kinds ones places numbers).2.2.2.1 (rdC signs sn kinds ones places numbers).2.2.2.2.1 (rdC signs sn kinds ones places numbers).2.2.2.2.2.1 (rdC signs sn kinds ones places numbers).2.2.2.2.2.2 (rdC signs sn kinds ones places numbers).2.2.1 ((rdC signs sn kinds ones places numbers).2.2.1 + 1) 0 (o, -6, -6, -6, -6)).1 else r), tRl E v o, bPd E b (nI sn) (nI (rdC signs sn kinds ones places numbers).2.2.1) signs ((rdC signs sn kinds ones places numbers).2.2.2.1) ((rdC signs sn kinds ones places numbers).2.2.2.2.1) ((rdC signs sn kinds ones places numbers).2.2.2.2.2.1) ((rdC signs sn kinds ones places numbers).2.2.2.2.2.2)]) := by
  refine CT.intro (by decide +kernel) (Nat.le_of_ble_eq_true rfl) (fun K X Y => ?_)
  refine jv_aload_n 0 X dX8_tryOut_0 0 rfl ?_
  refine jv_bipush (v := (-6)) 1 X dX8_tryOut_1 (by decide) ?_
  refine jv_puti (ws2 := wB [bWk w (t 0) wacts (-6) why metAct metBridge, tRl E t r, tRl E v o, bPd E b (nI sn) acts signs kinds ones places numbers]) 3 X gf_X8_18 tyX8_ok nmX8 rfl rfl dX8_tryOut_3 0 rfl (Nat.le_of_ble_eq_true rfl) rfl ?_
  refine jv_aload_n 6 X dX8_tryOut_6 0 rfl ?_
  refine jv_bipush (v := (-6)) 7 X dX8_tryOut_7 (by decide) ?_
  refine jv_puti (ws2 := wB [bWk w (t 0) wacts (-6) (-6) metAct metBridge, tRl E t r, tRl E v o, bPd E b (nI sn) acts signs kinds ones places numbers]) 9 X gf_X8_22 tyX8_ok nmX8 rfl rfl dX8_tryOut_9 0 rfl (Nat.le_of_ble_eq_true rfl) rfl ?_
  refine jv_aload_n 12 X dX8_tryOut_12 0 rfl ?_
  refine jv_bipush (v := (-6)) 13 X dX8_tryOut_13 (by decide) ?_
  refine jv_puti (ws2 := wB [bWk w (t 0) wacts (-6) (-6) (-6) metBridge, tRl E t r, tRl E v o, bPd E b (nI sn) acts signs kinds ones places numbers]) 15 X gf_X8_25 tyX8_ok nmX8 rfl rfl dX8_tryOut_15 0 rfl (Nat.le_of_ble_eq_true rfl) rfl ?_
  refine jv_aload_n 18 X dX8_tryOut_18 0 rfl ?_
  refine jv_bipush (v := (-6)) 19 X dX8_tryOut_19 (by decide) ?_
  refine jv_puti (ws2 := wB [bWk w (t 0) wacts (-6) (-6) (-6) (-6), tRl E t r, tRl E v o, bPd E b (nI sn) acts signs kinds ones places numbers]) 21 X gf_X8_28 tyX8_ok nmX8 rfl rfl dX8_tryOut_21 0 rfl (Nat.le_of_ble_eq_true rfl) rfl ?_
  refine jv_aload_n 24 X dX8_tryOut_24 2 rfl ?_
  refine jv_callB1 (wl2 := [bWk w (t 0) wacts (-6) (-6) (-6) (-6), tRl E t r, tRl E v o, bPd E b (nI sn) (nI (rdC signs sn kinds ones places numbers).2.2.1) signs ((rdC signs sn kinds ones places numbers).2.2.2.1) ((rdC signs sn kinds ones places numbers).2.2.2.2.1) ((rdC signs sn kinds ones places numbers).2.2.2.2.2.1) ((rdC signs sn kinds ones places numbers).2.2.2.2.2.2)]) 25 X (c_X4_read E _ b sn acts signs kinds ones places numbers (by omega)) wv_X8_31 ⟨Nat.le_of_ble_eq_true rfl, Nat.le_of_ble_eq_true rfl⟩ ⟨rfl, rfl⟩ ⟨Nat.zero_le _, Nat.zero_le _⟩ dX8_tryOut_25 rfl [] rfl (Nat.le_of_ble_eq_true rfl) 3 rfl [(b 0), (b 1), (b 2), (b 3), (b 4), (b 5)] rfl rfl rfl rfl rfl ?_
  refine jv_bipush (v := (-6)) 28 X dX8_tryOut_28 (by decide) ?_
  refine jn_icmp_eq 30 X dX8_tryOut_30 35 (by decide) (fun c_1 => ?_) (fun c_1 => ?_)
  · have hF : (rdC signs sn kinds ones places numbers).1 = -6 := by assumption
    obtain ⟨hok, hle⟩ := rd_ok hs hF
    refine jv_aload_n 35 X dX8_tryOut_35 0 rfl ?_
    refine jv_get (v := .ref (t 0)) 36 X gf_X8_12 dX8_tryOut_36 0 rfl rfl ?_
    refine jv_aload_n 39 X dX8_tryOut_39 1 rfl ?_
    refine jv_callB (wl2 := [bWk w (t 0) wacts (-6) (-6) (-6) (-6), tRl E t o, tRl E v o, bPd E b (nI sn) (nI (rdC signs sn kinds ones places numbers).2.2.1) signs ((rdC signs sn kinds ones places numbers).2.2.2.1) ((rdC signs sn kinds ones places numbers).2.2.2.2.1) ((rdC signs sn kinds ones places numbers).2.2.2.2.2.1) ((rdC signs sn kinds ones places numbers).2.2.2.2.2.2)]) 40 X (c_X5_become E _ t r v o) wv_X8_37 ⟨Nat.le_of_ble_eq_true rfl, Nat.le_of_ble_eq_true rfl⟩ ⟨rfl, rfl⟩ ⟨Nat.zero_le _, Nat.zero_le _⟩ dX8_tryOut_40 rfl [] rfl (Nat.le_of_ble_eq_true rfl) [1, 2] rfl rfl [[(t 0), (t 1), (t 2), (t 3), (t 4), (t 5), (t 6), (t 7), (t 8), (t 9), (t 10)], [(v 0), (v 1), (v 2), (v 3), (v 4), (v 5), (v 6), (v 7), (v 8), (v 9), (v 10)]] rfl rfl 1 rfl rfl rfl rfl ?_
    refine jv_aload_n 43 X dX8_tryOut_43 0 rfl ?_
    refine jv_aload_n 44 X dX8_tryOut_44 2 rfl ?_
    refine jv_get (v := .int (nI ((rdC signs sn kinds ones places numbers).2.2.1))) 45 X gf_X8_41 dX8_tryOut_45 23 rfl rfl ?_
    refine jv_puti (ws2 := wB [bWk w (t 0) (nI ((rdC signs sn kinds ones places numbers).2.2.1)) (-6) (-6) (-6) (-6), tRl E t o, tRl E v o, bPd E b (nI sn) (nI (rdC signs sn kinds ones places numbers).2.2.1) signs ((rdC signs sn kinds ones places numbers).2.2.2.1) ((rdC signs sn kinds ones places numbers).2.2.2.2.1) ((rdC signs sn kinds ones places numbers).2.2.2.2.2.1) ((rdC signs sn kinds ones places numbers).2.2.2.2.2.2)]) 48 X gf_X8_44 tyX8_ok nmX8 rfl rfl dX8_tryOut_48 0 rfl (Nat.le_of_ble_eq_true rfl) rfl ?_
    refine jv_iconst (v := 0) 51 X dX8_tryOut_51 rfl ?_
    refine jv_istore_n (lv2 := [(3, .int 0), (0, .ref w), (1, .ref (v 0)), (2, .ref (b 0))]) 52 X dX8_tryOut_52 (by decide) rfl ?_
    have lp53 : ∀ (n53 : Nat) (i : Nat) (x : Rl) (sa wy ma mb : Int32), (i ≤ (rdC signs sn kinds ones places numbers).2.2.1) → (dyC x) → (toC (rdC signs sn kinds ones places numbers).2.2.2.1 (rdC signs sn kinds ones places numbers).2.2.2.2.1 (rdC signs sn kinds ones places numbers).2.2.2.2.2.1 (rdC signs sn kinds ones places numbers).2.2.2.2.2.2 (rdC signs sn kinds ones places numbers).2.2.1 ((rdC signs sn kinds ones places numbers).2.2.1 + 1) 0 (o, -6, -6, -6, -6) = toC (rdC signs sn kinds ones places numbers).2.2.2.1 (rdC signs sn kinds ones places numbers).2.2.2.2.1 (rdC signs sn kinds ones places numbers).2.2.2.2.2.1 (rdC signs sn kinds ones places numbers).2.2.2.2.2.2 (rdC signs sn kinds ones places numbers).2.2.1 n53 i (x, sa, wy, ma, mb)) → (rdC signs sn kinds ones places numbers).2.2.1 - i < n53 → JV E K 0 0 (wB [bWk w (t 0) (nI ((rdC signs sn kinds ones places numbers).2.2.1)) sa wy ma mb, tRl E t x, tRl E v o, bPd E b (nI sn) (nI (rdC signs sn kinds ones places numbers).2.2.1) signs ((rdC signs sn kinds ones places numbers).2.2.2.1) ((rdC signs sn kinds ones places numbers).2.2.2.2.1) ((rdC signs sn kinds ones places numbers).2.2.2.2.2.1) ((rdC signs sn kinds ones places numbers).2.2.2.2.2.2)]) [(0, .ref w), (1, .ref (v 0)), (2, .ref (b 0)), (3, .int (nI i))] 53 [] := by
      intro n53
      induction n53 with
      | zero => intro i x sa wy ma mb hi hDx hI hm; exact absurd hm (Nat.not_lt_zero _)
      | succ n53 ih53 =>
        intro i x sa wy ma mb hi hDx hI hm
        refine jv_iload_n 53 X dX8_tryOut_53 3 rfl ?_
        refine jv_aload_n 54 X dX8_tryOut_54 0 rfl ?_
        refine jv_get (v := .int (nI ((rdC signs sn kinds ones places numbers).2.2.1))) 55 X gf_X8_44 dX8_tryOut_55 0 rfl rfl ?_
        refine jn_icmp_ge 58 X dX8_tryOut_58 82 (by decide) (fun c_2 => ?_) (fun c_2 => ?_)
        · have n_2 : ((rdC signs sn kinds ones places numbers).2.2.1) ≤ i := (nx_le (a := ((rdC signs sn kinds ones places numbers).2.2.1)) (b := i) rfl rfl (by omega) (by omega)).mp c_2
          refine jv_iconst (v := 1) 82 X dX8_tryOut_82 rfl ?_
          have hq : toC (rdC signs sn kinds ones places numbers).2.2.2.1 (rdC signs sn kinds ones places numbers).2.2.2.2.1 (rdC signs sn kinds ones places numbers).2.2.2.2.2.1 (rdC signs sn kinds ones places numbers).2.2.2.2.2.2 (rdC signs sn kinds ones places numbers).2.2.1 ((rdC signs sn kinds ones places numbers).2.2.1 + 1) 0 (o, -6, -6, -6, -6) = (x, sa, wy, ma, mb) := hI.trans (toC_e (fun z => absurd z.1 (by omega)))
          exact jv_zret 83 X Y rfl rfl dX8_tryOut_83 () (by rw [zI_t hF]) (by simp only [if_pos hF, hq])
        · have n_2 : ¬ ((rdC signs sn kinds ones places numbers).2.2.1) ≤ i := fun zq => c_2 ((nx_le (a := ((rdC signs sn kinds ones places numbers).2.2.1)) (b := i) rfl rfl (by omega) (by omega)).mpr zq)
          refine jv_aload_n 61 X dX8_tryOut_61 0 rfl ?_
          refine jv_get (v := .int sa) 62 X gf_X8_18 dX8_tryOut_62 0 rfl rfl ?_
          refine jv_bipush (v := (-6)) 65 X dX8_tryOut_65 (by decide) ?_
          refine jn_icmp_ne 67 X dX8_tryOut_67 82 (by decide) (fun c_3 => ?_) (fun c_3 => ?_)
          · refine jv_iconst (v := 1) 82 X dX8_tryOut_82 rfl ?_
            have hq : toC (rdC signs sn kinds ones places numbers).2.2.2.1 (rdC signs sn kinds ones places numbers).2.2.2.2.1 (rdC signs sn kinds ones places numbers).2.2.2.2.2.1 (rdC signs sn kinds ones places numbers).2.2.2.2.2.2 (rdC signs sn kinds ones places numbers).2.2.1 ((rdC signs sn kinds ones places numbers).2.2.1 + 1) 0 (o, -6, -6, -6, -6) = (x, sa, wy, ma, mb) := hI.trans (toC_e (fun z => c_3 z.2))
            exact jv_zret 83 X Y rfl rfl dX8_tryOut_83 () (by rw [zI_t hF]) (by simp only [if_pos hF, hq])
          · have hsa : sa = -6 := c_3
            refine jv_aload_n 70 X dX8_tryOut_70 0 rfl ?_
            refine jv_aload_n 71 X dX8_tryOut_71 2 rfl ?_
            refine jv_iload_n 72 X dX8_tryOut_72 3 rfl ?_
            refine jv_callB (wl2 := [bWk w (t 0) (nI ((rdC signs sn kinds ones places numbers).2.2.1)) ((taF ((rdC signs sn kinds ones places numbers).2.2.2.1) ((rdC signs sn kinds ones places numbers).2.2.2.2.1) ((rdC signs sn kinds ones places numbers).2.2.2.2.2.1) ((rdC signs sn kinds ones places numbers).2.2.2.2.2.2) i (x, sa, wy, ma, mb)).2.1) ((taF ((rdC signs sn kinds ones places numbers).2.2.2.1) ((rdC signs sn kinds ones places numbers).2.2.2.2.1) ((rdC signs sn kinds ones places numbers).2.2.2.2.2.1) ((rdC signs sn kinds ones places numbers).2.2.2.2.2.2) i (x, sa, wy, ma, mb)).2.2.1) ((taF ((rdC signs sn kinds ones places numbers).2.2.2.1) ((rdC signs sn kinds ones places numbers).2.2.2.2.1) ((rdC signs sn kinds ones places numbers).2.2.2.2.2.1) ((rdC signs sn kinds ones places numbers).2.2.2.2.2.2) i (x, sa, wy, ma, mb)).2.2.2.1) ((taF ((rdC signs sn kinds ones places numbers).2.2.2.1) ((rdC signs sn kinds ones places numbers).2.2.2.2.1) ((rdC signs sn kinds ones places numbers).2.2.2.2.2.1) ((rdC signs sn kinds ones places numbers).2.2.2.2.2.2) i (x, sa, wy, ma, mb)).2.2.2.2), tRl E t ((taF ((rdC signs sn kinds ones places numbers).2.2.2.1) ((rdC signs sn kinds ones places numbers).2.2.2.2.1) ((rdC signs sn kinds ones places numbers).2.2.2.2.2.1) ((rdC signs sn kinds ones places numbers).2.2.2.2.2.2) i (x, sa, wy, ma, mb)).1), tRl E v o, bPd E b (nI sn) (nI (rdC signs sn kinds ones places numbers).2.2.1) signs ((rdC signs sn kinds ones places numbers).2.2.2.1) ((rdC signs sn kinds ones places numbers).2.2.2.2.1) ((rdC signs sn kinds ones places numbers).2.2.2.2.2.1) ((rdC signs sn kinds ones places numbers).2.2.2.2.2.2)]) 73 X (c_X8_tryAct E _ w t (nI ((rdC signs sn kinds ones places numbers).2.2.1)) sa wy ma mb x b (nI sn) (nI (rdC signs sn kinds ones places numbers).2.2.1) signs ((rdC signs sn kinds ones places numbers).2.2.2.1) ((rdC signs sn kinds ones places numbers).2.2.2.2.1) ((rdC signs sn kinds ones places numbers).2.2.2.2.2.1) ((rdC signs sn kinds ones places numbers).2.2.2.2.2.2) i (by omega) (hok i (by omega)) hDx) wv_X8_45 ⟨Nat.le_of_ble_eq_true rfl, Nat.le_of_ble_eq_true rfl⟩ ⟨rfl, rfl⟩ ⟨Nat.zero_le _, Nat.zero_le _⟩ dX8_tryOut_73 rfl [] rfl (Nat.le_of_ble_eq_true rfl) [0, 1, 3] rfl rfl [[w], [(t 0), (t 1), (t 2), (t 3), (t 4), (t 5), (t 6), (t 7), (t 8), (t 9), (t 10)], [(b 0), (b 1), (b 2), (b 3), (b 4), (b 5)]] rfl rfl 0 rfl rfl rfl rfl ?_
            refine jv_iinc (v := (nI (i + 1))) (lv2 := [(3, .int (nI (i + 1))), (0, .ref w), (1, .ref (v 0)), (2, .ref (b 0))]) 76 X dX8_tryOut_76 3 rfl (nx_inc _) (by decide) rfl ?_
            refine jv_goto 79 X dX8_tryOut_79 53 (by decide) ?_
            exact jv_lv [1, 2, 3, 0] rfl (ih53 (i + 1) ((taF (rdC signs sn kinds ones places numbers).2.2.2.1 (rdC signs sn kinds ones places numbers).2.2.2.2.1 (rdC signs sn kinds ones places numbers).2.2.2.2.2.1 (rdC signs sn kinds ones places numbers).2.2.2.2.2.2 i (x, sa, wy, ma, mb)).1) ((taF (rdC signs sn kinds ones places numbers).2.2.2.1 (rdC signs sn kinds ones places numbers).2.2.2.2.1 (rdC signs sn kinds ones places numbers).2.2.2.2.2.1 (rdC signs sn kinds ones places numbers).2.2.2.2.2.2 i (x, sa, wy, ma, mb)).2.1) ((taF (rdC signs sn kinds ones places numbers).2.2.2.1 (rdC signs sn kinds ones places numbers).2.2.2.2.1 (rdC signs sn kinds ones places numbers).2.2.2.2.2.1 (rdC signs sn kinds ones places numbers).2.2.2.2.2.2 i (x, sa, wy, ma, mb)).2.2.1) ((taF (rdC signs sn kinds ones places numbers).2.2.2.1 (rdC signs sn kinds ones places numbers).2.2.2.2.1 (rdC signs sn kinds ones places numbers).2.2.2.2.2.1 (rdC signs sn kinds ones places numbers).2.2.2.2.2.2 i (x, sa, wy, ma, mb)).2.2.2.1) ((taF (rdC signs sn kinds ones places numbers).2.2.2.1 (rdC signs sn kinds ones places numbers).2.2.2.2.1 (rdC signs sn kinds ones places numbers).2.2.2.2.2.1 (rdC signs sn kinds ones places numbers).2.2.2.2.2.2 i (x, sa, wy, ma, mb)).2.2.2.2) (by omega) (dy_ta hDx) (by rw [hI]; exact toC_s (by omega) hsa) (by omega))
    exact jv_lv [1, 2, 3, 0] rfl (lp53 _ 0 o (-6) (-6) (-6) (-6) (by omega) hDo rfl (Nat.lt_succ_self _))
  · refine jv_iconst (v := 0) 33 X dX8_tryOut_33 rfl ?_
    have hF : ¬ (rdC signs sn kinds ones places numbers).1 = -6 := by assumption
    exact jv_zret 34 X Y rfl rfl dX8_tryOut_34 () (by rw [zI_f hF]) (by simp only [if_neg hF])
