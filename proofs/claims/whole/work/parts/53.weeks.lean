-- the weeks of the class against those of the model
def mB (b0 b1 b2 b3 : Bool) : Int32 := ((((0 ||| (if b0 = true then ((1 : Int32) <<< ((0 : Int32) &&& 31)) else 0)) ||| (if b1 = true then ((1 : Int32) <<< ((1 : Int32) &&& 31)) else 0)) ||| (if b2 = true then ((1 : Int32) <<< ((2 : Int32) &&& 31)) else 0)) ||| (if b3 = true then ((1 : Int32) <<< ((3 : Int32) &&& 31)) else 0))
theorem if_d {P : Prop} [Decidable P] {a b : Int32} : (if P then a else b) = (if decide P = true then a else b) := by
  by_cases h : P
  · rw [if_pos h, if_pos (decide_eq_true h)]
  · rw [if_neg h, if_neg (by rw [decide_eq_true_eq]; exact h)]
theorem met_B (now : Nat → Int32) : metS now = mB (hmB now 0) (hmB now 1) (hmB now 2) (hmB now 3) := by
  unfold metS mB hmB
  rw [if_d (P := now (34 + 0) ≤ now (26 + 0) + now (30 + 0)), if_d (P := now (34 + 1) ≤ now (26 + 1) + now (30 + 1)), if_d (P := now (34 + 2) ≤ now (26 + 2) + now (30 + 2)), if_d (P := now (34 + 3) ≤ now (26 + 3) + now (30 + 3))]
theorem fr_same : ∀ b0 b1 b2 b3 : Bool, mB b0 b1 b2 b3 &&& (mB b0 b1 b2 b3 ^^^ (-1)) = 0 := by decide +kernel
theorem fr_0 : ∀ x b1 b2 b3 : Bool, mB x b1 b2 b3 &&& (mB false b1 b2 b3 ^^^ (-1)) = if x = true then 1 else 0 := by decide +kernel
theorem fr_1 : ∀ b0 x b2 b3 : Bool, mB b0 x b2 b3 &&& (mB b0 false b2 b3 ^^^ (-1)) = if x = true then 2 else 0 := by decide +kernel
theorem fr_2 : ∀ b0 b1 x b3 : Bool, mB b0 b1 x b3 &&& (mB b0 b1 false b3 ^^^ (-1)) = if x = true then 4 else 0 := by decide +kernel
theorem fr_3 : ∀ b0 b1 b2 x : Bool, mB b0 b1 b2 x &&& (mB b0 b1 b2 false ^^^ (-1)) = if x = true then 8 else 0 := by decide +kernel
theorem fs_0 {ma mw : Int32} {c : Nat} : fstM 0 ma mw c = (ma, mw) := by
  unfold fstM
  by_cases m : 0 ≤ ma
  · rw [if_pos m]
  · rw [if_neg m, if_neg (by decide), if_neg (by decide), if_neg (by decide), if_neg (by decide)]
theorem fs_1 {ma mw : Int32} {c : Nat} (m : ¬ 0 ≤ ma) : fstM 1 ma mw c = (nI c, nI 0) := by
  unfold fstM
  rw [if_neg m, if_pos (by decide)]; rfl
theorem fs_2 {ma mw : Int32} {c : Nat} (m : ¬ 0 ≤ ma) : fstM 2 ma mw c = (nI c, nI 1) := by
  unfold fstM
  rw [if_neg m, if_neg (by decide), if_pos (by decide)]; rfl
theorem fs_4 {ma mw : Int32} {c : Nat} (m : ¬ 0 ≤ ma) : fstM 4 ma mw c = (nI c, nI 2) := by
  unfold fstM
  rw [if_neg m, if_neg (by decide), if_neg (by decide), if_pos (by decide)]; rfl
theorem fs_8 {ma mw : Int32} {c : Nat} (m : ¬ 0 ≤ ma) : fstM 8 ma mw c = (nI c, nI 3) := by
  unfold fstM
  rw [if_neg m, if_neg (by decide), if_neg (by decide), if_neg (by decide), if_pos (by decide)]; rfl
theorem fs_p {fr ma mw : Int32} {c : Nat} (m : 0 ≤ ma) : fstM fr ma mw c = (ma, mw) := if_pos m
theorem fs_x {x : Bool} {v ma mw : Int32} {c p : Nat} (h : ¬ 0 ≤ ma → fstM v ma mw c = (nI c, nI p)) : fstM (if x = true then v else 0) ma mw c = if 0 ≤ ma then (ma, mw) else if x = true then (nI c, nI p) else (ma, mw) := by
  by_cases m : 0 ≤ ma
  · rw [if_pos m]; exact fs_p m
  · rw [if_neg m]
    cases x
    · rw [if_neg (by decide), if_neg (by decide)]; exact fs_0
    · rw [if_pos rfl, if_pos rfl]; exact h m
theorem fs_same {now nw : Nat → Int32} (he : ∀ b, b < 4 → hmB nw b = hmB now b) (ma mw : Int32) (c : Nat) : fstM (metS nw &&& (metS now ^^^ (-1))) ma mw c = (ma, mw) := by
  rw [met_B, met_B, he 0 (by decide), he 1 (by decide), he 2 (by decide), he 3 (by decide), fr_same]
  exact fs_0
theorem fs_all {now nw : Nat → Int32} {p : Nat} (hp : p < 4) (h0 : hmB now p = false) (he : ∀ b, b < 4 → b ≠ p → hmB nw b = hmB now b) (ma mw : Int32) (c : Nat) : fstM (metS nw &&& (metS now ^^^ (-1))) ma mw c = if 0 ≤ ma then (ma, mw) else if hmB nw p = true then (nI c, nI p) else (ma, mw) := by
  rw [met_B, met_B]
  rcases (by omega : p = 0 ∨ p = 1 ∨ p = 2 ∨ p = 3) with z | z | z | z
  · subst z
    rw [he 1 (by decide) (by decide), he 2 (by decide) (by decide), he 3 (by decide) (by decide), h0, fr_0]
    exact fs_x fs_1
  · subst z
    rw [he 0 (by decide) (by decide), he 2 (by decide) (by decide), he 3 (by decide) (by decide), h0, fr_1]
    exact fs_x fs_2
  · subst z
    rw [he 0 (by decide) (by decide), he 1 (by decide) (by decide), he 3 (by decide) (by decide), h0, fr_2]
    exact fs_x fs_4
  · subst z
    rw [he 0 (by decide) (by decide), he 1 (by decide) (by decide), he 2 (by decide) (by decide), h0, fr_3]
    exact fs_x fs_8
theorem dg_9 {x : Int32} (h : 49 ≤ x ∧ x ≤ 57) : ∃ j : Nat, 1 ≤ j ∧ j ≤ 9 ∧ x - 48 = nI j := by
  obtain ⟨j, h1, h2, rfl⟩ := nx_in (a := 49) (b := 57) rfl rfl (by decide) (by decide) h
  exact ⟨j - 48, by omega, by omega, nx_sub rfl rfl (by omega)⟩
theorem tk_act {pad kd on pl nm week now sight : Nat → Int32} {sk c p p2 : Nat} {r : Rl} (hT : TK pad kd on pl nm c p p2) (hR : RR r now week sight sk) : ∃ f : Int32 × (Nat → Int32), f_act pad week now p = (f.1, p2, f.2) ∧ AR r now week sight sk (kd c) (on c).toNatClampNeg (pl c).toNatClampNeg (nm c) f ∧ ((kd c = 40 ∨ kd c = 41) → (pl c).toNatClampNeg < 4) := by
  rcases hT with ⟨h46, hk, e⟩ | ⟨hb, hk, hn, hd, e⟩ | ⟨hA, ho, hk, q⟩
  · subst e
    refine ⟨f_endDay now week (now 39).toNatClampNeg, if_pos h46, ?_, fun z => ?_⟩
    · rw [hk]; exact a_end hR _ _ _
    · rw [hk] at z; exact absurd z (by decide)
  · subst e
    obtain ⟨j, j1, j9, ej⟩ := dg_9 hd
    rcases hb with hb | hb
    · refine ⟨f_change now (-(nI j)), ?_, ?_, fun z => ?_⟩
      · unfold f_act
        rw [if_neg (by rw [hb]; decide), if_pos hb, ej]
      · rw [hk, hb, hn, ej]; exact a_less hR _ _ j1 j9
      · rw [hk, hb] at z; exact absurd z (by decide)
    · refine ⟨f_change now (nI j), ?_, ?_, fun z => ?_⟩
      · unfold f_act
        rw [if_neg (by rw [hb]; decide), if_neg (by rw [hb]; decide), if_pos hb, ej]
      · rw [hk, hb, hn, ej]; exact a_more hR _ _ j9
      · rw [hk, hb] at z; exact absurd z (by decide)
  · have ho6 : (pad p - 65).toNatClampNeg < 6 := by
      have e : (pad p - 65).toNatClampNeg ≤ 70 - 65 := (dig_nI (lo := 65) (hi := 70) (a := 65) (b := 70) rfl rfl (by decide) (by decide) hA).2
      omega
    have hf : f_act pad week now p = f_oneAct pad now p (pad p - 65).toNatClampNeg := by
      unfold f_act
      rw [if_neg (fun z => by rw [z] at hA; exact absurd hA (by decide)), if_neg (fun z => by rw [z] at hA; exact absurd hA (by decide)), if_neg (fun z => by rw [z] at hA; exact absurd hA (by decide))]
    rw [hf, ho, hk]
    unfold f_oneAct
    rcases q with ⟨q, e⟩ | ⟨q, hn, hd, e⟩ | ⟨q, hl, hn, hl2, hd, e⟩ | ⟨q, hl, hn, hl2, hd, e⟩
    · subst e
      rcases q with q | q
      · refine ⟨f_copy now (pad p - 65).toNatClampNeg, if_pos q, ?_, fun z => ?_⟩
        · rw [q]; exact a_copy hR ho6 _ _
        · rw [q] at z; exact absurd z (by decide)
      · refine ⟨f_lay now (pad p - 65).toNatClampNeg, ?_, ?_, fun z => ?_⟩
        · rw [if_neg (by rw [q]; decide), if_pos q]
        · rw [q]; exact a_lay hR ho6 _ _
        · rw [q] at z; exact absurd z (by decide)
    · subst e
      rcases q with q | q
      · refine ⟨f_buy now (pad p - 65).toNatClampNeg (pad (p + 2) - 48), ?_, ?_, fun z => ?_⟩
        · rw [if_neg (by rw [q]; decide), if_neg (by rw [q]; decide), if_pos q]
        · rw [q, hn]; exact a_buy hR ho6 _ _
        · rw [q] at z; exact absurd z (by decide)
      · refine ⟨f_sell now (pad p - 65).toNatClampNeg (pad (p + 2) - 48), ?_, ?_, fun z => ?_⟩
        · rw [if_neg (by rw [q]; decide), if_neg (by rw [q]; decide), if_neg (by rw [q]; decide), if_pos q]
        · rw [q, hn]; exact a_sell hR ho6 _ _
        · rw [q] at z; exact absurd z (by decide)
    · subst e
      obtain ⟨j, j1, j9, ej⟩ := dg_9 hd
      have e8 : (pad (p + 2) - 48).toNatClampNeg ≤ 55 - 48 := (dig_nI (lo := 48) (hi := 55) (a := 48) (b := 55) rfl rfl (by decide) (by decide) hl2).2
      refine ⟨(0, upd now (18 + plc pad p) ((pad (p + 3) - 48) * msM now (pad p - 65).toNatClampNeg)), ?_, ?_, fun z => ?_⟩
      · rw [if_neg (by rw [q]; decide), if_neg (by rw [q]; decide), if_neg (by rw [q]; decide), if_neg (by rw [q]; decide), if_pos q]
      · rw [q, hl, hn, ej]
        exact a_cut hR ho6 (show (pad (p + 2) - 48).toNatClampNeg < 8 by omega) j9
      · rw [q] at z; exact absurd z (by decide)
    · subst e
      have e4 : (pad (p + 2) - 48).toNatClampNeg < 4 := by
        have e8 : (pad (p + 2) - 48).toNatClampNeg ≤ 51 - 48 := (dig_nI (lo := 48) (hi := 51) (a := 48) (b := 51) rfl rfl (by decide) (by decide) hl2).2
        omega
      rcases q with q | q
      · refine ⟨f_build now (pad p - 65).toNatClampNeg (plc pad p) 26 (pad (p + 3) - 48), ?_, ?_, fun z => ?_⟩
        · rw [if_neg (by rw [q]; decide), if_neg (by rw [q]; decide), if_neg (by rw [q]; decide), if_neg (by rw [q]; decide), if_neg (by rw [q]; decide), if_pos q]
        · rw [q, hl, hn]
          exact a_west hR ho6 e4 _
        · rw [hl]; exact e4
      · refine ⟨f_build now (pad p - 65).toNatClampNeg (plc pad p) 30 (pad (p + 3) - 48), ?_, ?_, fun z => ?_⟩
        · rw [if_neg (by rw [q]; decide), if_neg (by rw [q]; decide), if_neg (by rw [q]; decide), if_neg (by rw [q]; decide), if_neg (by rw [q]; decide), if_neg (by rw [q]; decide)]
        · rw [q, hl, hn]
          exact a_east hR ho6 e4 _
        · rw [hl]; exact e4
theorem toC_x {kd on pl nm : Nat → Int32} {c i : Nat} {x : Rl × Int32 × Int32 × Int32 × Int32} (h : ¬ x.2.1 = -6) : ∀ n, toC kd on pl nm c n i x = x
  | 0 => rfl
  | _ + 1 => toC_e (fun z => h z.2)
theorem nn_0 {n : Nat} (h : n < 2147483648) : (0 : Int32) ≤ nI n := (nx_le (a := 0) (b := n) rfl rfl (by decide) h).mpr (Nat.zero_le n)
theorem nn_6 {x : Int32} (h : 0 ≤ x) : ¬ x = -6 := fun z => by rw [z] at h; exact absurd h (by decide)
/-- what the class comes to, and the model -/
def GS (X : Rl × Int32 × Int32 × Int32 × Int32) (Y : Int32 × Nat × Nat × (Nat → Int32) × Int32 × Int32 × Int32) (week sight : Nat → Int32) (sk C : Nat) (wy : Int32) : Prop := (X.2.1 = -6 ∧ Y.1 = -6 ∧ X.2.2.1 = wy ∧ RR X.1 Y.2.2.2.1 week sight sk ∧ X.2.2.2.1 = Y.2.2.2.2.1 ∧ X.2.2.2.2 = Y.2.2.2.2.2.1 ∧ Y.2.2.1 = C) ∨ (X.2.1 = Y.1 ∧ 0 ≤ Y.1 ∧ X.2.2.1 = Y.2.2.2.2.2.2)
theorem gw_sim {pad kd on pl nm week sight : Nat → Int32} {sg sk C : Nat} (hC : C < 2147483648) : ∀ (n i p f1 f2 : Nat) (r : Rl) (now : Nat → Int32) (wy ma mb rs : Int32), CH pad kd on pl nm sg n i p → i + n = C → n < f1 → n < f2 → RR r now week sight sk → (ma = -6 ∨ 0 ≤ ma) → GS (toC kd on pl nm C f1 i (r, -6, wy, ma, mb)) (goM pad week sg f2 p i now ma mb rs) week sight sk C wy
  | 0, i, p, f1 + 1, f2 + 1, r, now, wy, ma, mb, rs, hc, hi, _, _, hR, _ => by
    rw [toC_e (by rintro ⟨z, _⟩; omega), goM_e (Nat.le_of_eq hc.symm)]
    exact Or.inl ⟨rfl, rfl, rfl, hR, rfl, rfl, by omega⟩
  | n + 1, i, p, f1 + 1, f2 + 1, r, now, wy, ma, mb, rs, hc, hi, h1, h2, hR, hm => by
    obtain ⟨hlt, p2, hT, hc2⟩ := hc
    obtain ⟨f, e1, ⟨a1, a2, a3, a4, a5, a6⟩, hp4⟩ := tk_act hT hR
    rw [toC_s (by omega) rfl]
    by_cases z : f.1 = 0
    · have z0 : hdF r (kd i) (on i).toNatClampNeg (pl i).toNatClampNeg (nm i) = 0 := a1.trans z
      have hle : f.1 ≤ 0 := by rw [z]; decide
      have hR2 := a3 z
      by_cases k : kd i = 40 ∨ kd i = 41
      · have hfs := fs_all (hp4 k) (a6 z k) (fun b hb hne => a5 z b hb (fun _ => hne)) ma mb i
        have hmm : hmC (acF r (kd i) (on i).toNatClampNeg (pl i).toNatClampNeg (nm i)) (pl i).toNatClampNeg = hmB f.2 (pl i).toNatClampNeg := hm_eq hR2.1 (hp4 k)
        by_cases m : 0 ≤ ma
        · rw [if_pos m] at hfs
          rw [taF_1 z0 (fun y => nn_6 m y.2.1), goM_s (Nat.not_le.mpr hlt) e1 hle hfs]
          exact gw_sim hC n (i + 1) p2 f1 f2 _ _ wy ma mb f.1 hc2 (by omega) (by omega) (by omega) hR2 hm
        · have m6 : ma = -6 := hm.resolve_right m
          rw [if_neg m] at hfs
          by_cases x : hmB f.2 (pl i).toNatClampNeg = true
          · rw [if_pos x] at hfs
            rw [taF_2 z0 ⟨k, m6, hmm.trans x⟩, goM_s (Nat.not_le.mpr hlt) e1 hle hfs]
            exact gw_sim hC n (i + 1) p2 f1 f2 _ _ wy _ _ f.1 hc2 (by omega) (by omega) (by omega) hR2 (Or.inr (nn_0 (by omega)))
          · rw [if_neg x] at hfs
            rw [taF_1 z0 (fun y => x (hmm.symm.trans y.2.2)), goM_s (Nat.not_le.mpr hlt) e1 hle hfs]
            exact gw_sim hC n (i + 1) p2 f1 f2 _ _ wy ma mb f.1 hc2 (by omega) (by omega) (by omega) hR2 hm
      · have hfs := fs_same (now := now) (nw := f.2) (fun b hb => a5 z b hb (fun y => absurd y k)) ma mb i
        rw [taF_1 z0 (fun y => k y.1), goM_s (Nat.not_le.mpr hlt) e1 hle hfs]
        exact gw_sim hC n (i + 1) p2 f1 f2 _ _ wy ma mb f.1 hc2 (by omega) (by omega) (by omega) hR2 hm
    · have z0 : ¬ hdF r (kd i) (on i).toNatClampNeg (pl i).toNatClampNeg (nm i) = 0 := fun y => z (a1.symm.trans y)
      have hlt0 : ¬ f.1 ≤ 0 := Int32.not_le.mpr (a2.resolve_left z)
      rw [taF_0 z0, goM_r (Nat.not_le.mpr hlt) e1 hlt0, toC_x (nn_6 (nn_0 (by omega)))]
      exact Or.inr ⟨rfl, nn_0 (by omega), a1⟩
/-- the weeks on the pad: both as they are told -/
theorem r_wk {signs pad kd on pl nm book week sight : Nat → Int32} {sn sk : Nat} {r : Rl} (hs : sn ≤ 60) (hp : ∀ j, j < sn → signs j = pad j) (hR : RR r book week sight sk) (rs : Int32) : (flC signs sn kd on pl nm ↔ ¬ 0 ≤ ftM pad sn) ∧ (¬ 0 ≤ ftM pad sn → ∃ C, (rdC signs sn kd on pl nm).2.2.1 = C ∧ GS (tyC signs sn kd on pl nm r) (gwM pad week book sn rs) week sight sk C (-6)) := by
  have e0 := rd_cg hp kd on pl nm
  have e1 := r_fault hp kd on pl nm
  refine ⟨⟨fun h h0 => ?_, fun h => ?_⟩, fun h => ?_⟩
  · have h2 : ftM pad sn = -6 := e1.symm.trans h
    exact nn_6 h0 h2
  · obtain ⟨n, kd2, on2, pl2, nm2, e, _⟩ := rd_all hs h kd on pl nm
    show (rdC signs sn kd on pl nm).1 = -6
    rw [e0, e]
  · obtain ⟨n, kd2, on2, pl2, nm2, e, h1, h2⟩ := rd_all hs h kd on pl nm
    have e2 : rdC signs sn kd on pl nm = (-6, 0, n, kd2, on2, pl2, nm2) := e0.trans e
    refine ⟨n, by rw [e2], ?_⟩
    unfold tyC gwM
    rw [e2]
    dsimp only
    exact gw_sim (C := n) (by omega) n 0 0 (n + 1) (sn + 1) r book (-6) (-6) (-6) rs h2 (by omega) (by omega) (by omega) hR (Or.inl rfl)
