-- what each operation answers, of class and model, and what holds behind it
section OPS
variable {r : Rl} {k0 : Int32} {i0 : Rl} {k1 : Int32} {i1 : Rl} {sn : Nat} {signs book week : Nat → Int32} {sk : Nat} {sight pad image isKept : Nat → Int32}
theorem x_rr {r2 : Rl} {book2 week2 sight2 : Nat → Int32} {sk2 : Nat} (h : REL r k0 i0 k1 i1 sn signs book week sk sight pad image isKept) (h2 : RR r2 book2 week2 sight2 sk2) : REL r2 k0 i0 k1 i1 sn signs book2 week2 sk2 sight2 pad image isKept := ⟨h2, h.2⟩
theorem x_dyC (h : REL r k0 i0 k1 i1 sn signs book week sk sight pad image isKept) : dyC r := h.1.2.2.2.1
theorem x_dyOK (h : REL r k0 i0 k1 i1 sn signs book week sk sight pad image isKept) : dyOK book := by
  have h1 := h.1.2.2.2.1
  have h2 : r.2.1 = book 39 := h.1.1.2.2.2.2.1
  unfold dyC at h1
  unfold dyOK
  rw [← h2]; exact h1
theorem x_in (h : REL r k0 i0 k1 i1 sn signs book week sk sight pad image isKept) : inOK r.1 := h.1.2.2.1
theorem x_inM (h : REL r k0 i0 k1 i1 sn signs book week sk sight pad image isKept) : inOK (book 38) := by
  have h2 : r.1 = book 38 := h.1.1.2.2.2.1
  rw [← h2]; exact h.1.2.2.1
theorem x_st (h : REL r k0 i0 k1 i1 sn signs book week sk sight pad image isKept) : ∀ s, s < 8 → r.2.2.2.2.2.2.2.1 s = nI (r.2.2.2.2.2.2.2.1 s).toNatClampNeg ∧ (r.2.2.2.2.2.2.2.1 s).toNatClampNeg ≤ 1800 := h.1.2.2.2.2.2
theorem x_stM (h : REL r k0 i0 k1 i1 sn signs book week sk sight pad image isKept) : ∀ s, s < 8 → 0 ≤ book (18 + s) := fun s hs => by
  have h1 := x_st h s hs
  have h2 : r.2.2.2.2.2.2.2.1 s = book (18 + s) := h.1.1.2.1 s hs
  rw [← h2, h1.1]
  exact nn_0 (by omega)
theorem x_ms (h : REL r k0 i0 k1 i1 sn signs book week sk sight pad image isKept) : ∀ o, o < 6 → inOK (msC r o) := fun o ho => ms_ok h.1.2.2 ho
theorem x_msM (h : REL r k0 i0 k1 i1 sn signs book week sk sight pad image isKept) : ∀ o, o < 6 → inOK (msM book o) := fun o ho => by
  rw [← ms_eq h.1.1 ho]; exact ms_ok h.1.2.2 ho
theorem x_ske (h : REL r k0 i0 k1 i1 sn signs book week sk sight pad image isKept) : r.2.2.1.toNatClampNeg = sk := by
  have h1 : r.2.2.1 = nI sk := h.1.2.1.1
  have h2 : sk ≤ 8 := h.1.2.1.2.1
  rw [h1]; exact nI_clamp (by omega)
theorem x_sk (h : REL r k0 i0 k1 i1 sn signs book week sk sight pad image isKept) : r.2.2.1 = nI r.2.2.1.toNatClampNeg ∧ r.2.2.1.toNatClampNeg ≤ 8 := by
  have h1 : r.2.2.1 = nI sk := h.1.2.1.1
  have h2 : sk ≤ 8 := h.1.2.1.2.1
  rw [x_ske h]; exact ⟨h1, h2⟩
theorem x_sk8 (h : REL r k0 i0 k1 i1 sn signs book week sk sight pad image isKept) : sk ≤ 8 := h.1.2.1.2.1
theorem x_sn (h : REL r k0 i0 k1 i1 sn signs book week sk sight pad image isKept) : sn ≤ 60 := h.2.1.1
theorem o_say (h : REL r k0 i0 k1 i1 sn signs book week sk sight pad image isKept) (v : Int32) : (if 33 ≤ v ∧ v ≤ 126 then (if 60 ≤ sn then -4 else nI (sn + 1)) else -2) = (f_say sn pad v).1 ∧ (if 33 ≤ v ∧ v ≤ 126 then (if 60 ≤ sn then nI sn else nI (sn + 1)) else nI sn) = nI (f_say sn pad v).2.1 ∧ REL r k0 i0 k1 i1 (f_say sn pad v).2.1 (if 33 ≤ v ∧ v ≤ 126 then (if 60 ≤ sn then signs else upd signs sn v) else signs) book week sk sight (f_say sn pad v).2.2 image isKept := by
  obtain ⟨e1, e2, e3⟩ := r_say h.2.1 v
  exact ⟨e1, e2, h.1, e3, h.2.2⟩
theorem o_wipe (h : REL r k0 i0 k1 i1 sn signs book week sk sight pad image isKept) : REL r k0 i0 k1 i1 0 signs book week sk sight pad image isKept := ⟨h.1, ⟨by omega, fun j hj => absurd hj (Nat.not_lt_zero _)⟩, h.2.2⟩
-- weeks
theorem w_ok (h : REL r k0 i0 k1 i1 sn signs book week sk sight pad image isKept) (kd on pl nm : Nat → Int32) (rs : Int32) : (acC signs sn kd on pl nm r ↔ (¬ 0 ≤ ftM pad sn ∧ ¬ 0 ≤ (gwM pad week book sn rs).1)) ∧ (acC signs sn kd on pl nm r → RR (tyC signs sn kd on pl nm r).1 (gwM pad week book sn rs).2.2.2.1 week sight sk ∧ (tyC signs sn kd on pl nm r).2.2.2.1 = (gwM pad week book sn rs).2.2.2.2.1 ∧ (tyC signs sn kd on pl nm r).2.2.2.2 = (gwM pad week book sn rs).2.2.2.2.2.1 ∧ (rdC signs sn kd on pl nm).2.2.1 = (gwM pad week book sn rs).2.2.1) := by
  obtain ⟨h1, h2⟩ := r_wk (kd := kd) (on := on) (pl := pl) (nm := nm) h.2.1.1 h.2.1.2 h.1 rs
  by_cases c : 0 ≤ ftM pad sn
  · have hn : ¬ acC signs sn kd on pl nm r := fun z => h1.mp z.1 c
    exact ⟨⟨fun z => absurd z hn, fun z => absurd c z.1⟩, fun z => absurd z hn⟩
  · obtain ⟨C, e0, hG⟩ := h2 c
    rcases hG with ⟨a1, a2, a3, a4, a5, a6, a7⟩ | ⟨a1, a2, a3⟩
    · refine ⟨⟨fun _ => ⟨c, by rw [a2]; decide⟩, fun _ => ⟨h1.mpr c, a1⟩⟩, fun _ => ⟨a4, a5, a6, e0.trans a7.symm⟩⟩
    · have hn : ¬ acC signs sn kd on pl nm r := fun z => nn_6 a2 (a1.symm.trans z.2)
      exact ⟨⟨fun z => absurd z hn, fun z => absurd a2 z.2⟩, fun z => absurd z hn⟩
theorem o_judge (h : REL r k0 i0 k1 i1 sn signs book week sk sight pad image isKept) (kd on pl nm : Nat → Int32) (rs what : Int32) : (if 0 ≤ what ∧ what ≤ 1 then (if flC signs sn kd on pl nm then (if what = 0 then (tyC signs sn kd on pl nm r).2.1 else (tyC signs sn kd on pl nm r).2.2.1) else -5) else -2) = (if ¬ (0 ≤ what ∧ what ≤ 1) then -2 else if 0 ≤ ftM pad sn then -5 else if 0 ≤ (gwM pad week book sn rs).1 ∧ ¬ what = 0 then (gwM pad week book sn rs).2.2.2.2.2.2 else (gwM pad week book sn rs).1) := by
  obtain ⟨h1, h2⟩ := r_wk (kd := kd) (on := on) (pl := pl) (nm := nm) h.2.1.1 h.2.1.2 h.1 rs
  by_cases w : 0 ≤ what ∧ what ≤ 1
  · rw [if_pos w, if_neg (not_not_intro w)]
    by_cases c : 0 ≤ ftM pad sn
    · rw [if_neg (fun z => h1.mp z c), if_pos c]
    · rw [if_pos (h1.mpr c), if_neg c]
      obtain ⟨C, e0, hG⟩ := h2 c
      rcases hG with ⟨a1, a2, a3, _⟩ | ⟨a1, a2, a3⟩
      · rw [a1, a2, a3, if_neg (c := 0 ≤ (-6 : Int32) ∧ ¬ what = 0) (fun z => absurd z.1 (by decide))]
        split <;> rfl
      · rw [a1, a3]
        by_cases z : what = 0
        · rw [if_pos z, if_neg (fun y => y.2 z)]
        · rw [if_neg z, if_pos ⟨a2, z⟩]
  · rw [if_neg w, if_pos w]
theorem o_done (h : REL r k0 i0 k1 i1 sn signs book week sk sight pad image isKept) (kd on pl nm : Nat → Int32) (rs : Int32) : (if acC signs sn kd on pl nm r then nI (rdC signs sn kd on pl nm).2.2.1 else -5) = (if (¬ 0 ≤ ftM pad sn ∧ ¬ 0 ≤ (gwM pad week book sn rs).1) then nI (gwM pad week book sn rs).2.2.1 else -5) ∧ ∃ sn2, (if acC signs sn kd on pl nm r then 0 else nI sn) = nI sn2 ∧ (if (¬ 0 ≤ ftM pad sn ∧ ¬ 0 ≤ (gwM pad week book sn rs).1) then 0 else nI sn) = nI sn2 ∧ REL (if acC signs sn kd on pl nm r then (tyC signs sn kd on pl nm r).1 else r) k0 i0 k1 i1 sn2 signs (if (¬ 0 ≤ ftM pad sn ∧ ¬ 0 ≤ (gwM pad week book sn rs).1) then (gwM pad week book sn rs).2.2.2.1 else book) week sk sight pad image isKept := by
  obtain ⟨h1, h2⟩ := w_ok h kd on pl nm rs
  by_cases c : acC signs sn kd on pl nm r
  · have d := h1.mp c
    obtain ⟨a1, a2, a3, a4⟩ := h2 c
    rw [if_pos c, if_pos c, if_pos c, if_pos d, if_pos d, if_pos d, a4]
    exact ⟨rfl, 0, rfl, rfl, x_rr (o_wipe h) a1⟩
  · have d : ¬ (¬ 0 ≤ ftM pad sn ∧ ¬ 0 ≤ (gwM pad week book sn rs).1) := fun z => c (h1.mpr z)
    rw [if_neg c, if_neg c, if_neg c, if_neg d, if_neg d, if_neg d]
    exact ⟨rfl, sn, rfl, rfl, h⟩
theorem o_behind (h : REL r k0 i0 k1 i1 sn signs book week sk sight pad image isKept) (kd on pl nm : Nat → Int32) (rs o what : Int32) : (if 0 ≤ o ∧ o ≤ 5 then (if 0 ≤ what ∧ what ≤ 2 then (if acC signs sn kd on pl nm r then (if what.toNatClampNeg = 0 then (tyC signs sn kd on pl nm r).1.2.2.2.2.1 o.toNatClampNeg else if what.toNatClampNeg = 1 then (tyC signs sn kd on pl nm r).1.2.2.2.2.2.1 o.toNatClampNeg else if what.toNatClampNeg = 2 then (tyC signs sn kd on pl nm r).1.2.2.2.2.2.2.1 o.toNatClampNeg else if what.toNatClampNeg = 3 then msC (tyC signs sn kd on pl nm r).1 o.toNatClampNeg else -2) else -5) else -2) else -1) = (if ¬ (0 ≤ o ∧ o ≤ 5) then -1 else if ¬ (0 ≤ what ∧ what ≤ 2) then -2 else if (¬ 0 ≤ ftM pad sn ∧ ¬ 0 ≤ (gwM pad week book sn rs).1) then (gwM pad week book sn rs).2.2.2.1 (6 * what.toNatClampNeg + o.toNatClampNeg) else -5) := by
  obtain ⟨h1, h2⟩ := w_ok h kd on pl nm rs
  by_cases a : 0 ≤ o ∧ o ≤ 5
  · rw [if_pos a, if_neg (not_not_intro a)]
    by_cases w : 0 ≤ what ∧ what ≤ 2
    · rw [if_pos w, if_neg (not_not_intro w)]
      by_cases c : acC signs sn kd on pl nm r
      · rw [if_pos c, if_pos (h1.mp c)]
        obtain ⟨a1, _⟩ := h2 c
        obtain ⟨j, -, j2, rfl⟩ := nx_in (a := 0) (b := 5) rfl rfl (by decide) (by decide) a
        obtain ⟨y, -, y2, rfl⟩ := nx_in (a := 0) (b := 2) rfl rfl (by decide) (by decide) w
        rw [nI_clamp (by omega), nI_clamp (by omega)]
        have hN := a1.1.1 j (by omega)
        rcases (by omega : y = 0 ∨ y = 1 ∨ y = 2) with z | z | z <;> subst z
        · rw [if_pos rfl, show 6 * 0 + j = j by omega]; exact hN.1
        · rw [if_neg (by decide), if_pos rfl]; exact hN.2.1
        · rw [if_neg (by decide), if_neg (by decide), if_pos rfl]; exact hN.2.2
      · rw [if_neg c, if_neg (fun z => c (h1.mpr z))]
    · rw [if_neg w, if_pos w]
  · rw [if_neg a, if_pos a]
theorem o_lies (h : REL r k0 i0 k1 i1 sn signs book week sk sight pad image isKept) (kd on pl nm : Nat → Int32) (rs k : Int32) : (if 0 ≤ k ∧ k ≤ 7 then (if acC signs sn kd on pl nm r then (tyC signs sn kd on pl nm r).1.2.2.2.2.2.2.2.1 k.toNatClampNeg else -5) else -1) = (if ¬ (0 ≤ k ∧ k ≤ 7) then -1 else if (¬ 0 ≤ ftM pad sn ∧ ¬ 0 ≤ (gwM pad week book sn rs).1) then (gwM pad week book sn rs).2.2.2.1 (18 + k.toNatClampNeg) else -5) := by
  obtain ⟨h1, h2⟩ := w_ok h kd on pl nm rs
  by_cases a : 0 ≤ k ∧ k ≤ 7
  · rw [if_pos a, if_neg (not_not_intro a)]
    by_cases c : acC signs sn kd on pl nm r
    · rw [if_pos c, if_pos (h1.mp c)]
      obtain ⟨a1, _⟩ := h2 c
      obtain ⟨j, -, j2, rfl⟩ := nx_in (a := 0) (b := 7) rfl rfl (by decide) (by decide) a
      rw [nI_clamp (by omega)]
      exact a1.1.2.1 j (by omega)
    · rw [if_neg c, if_neg (fun z => c (h1.mpr z))]
  · rw [if_neg a, if_pos a]
theorem o_built (h : REL r k0 i0 k1 i1 sn signs book week sk sight pad image isKept) (kd on pl nm : Nat → Int32) (rs p what : Int32) : (if 0 ≤ p ∧ p ≤ 3 then (if 0 ≤ what ∧ what ≤ 2 then (if acC signs sn kd on pl nm r then (if what = 2 then (if hmC (tyC signs sn kd on pl nm r).1 p.toNatClampNeg = true then (tyC signs sn kd on pl nm r).1.2.2.2.2.2.2.2.2.2.1 p.toNatClampNeg + (tyC signs sn kd on pl nm r).1.2.2.2.2.2.2.2.2.2.2.1 p.toNatClampNeg - (tyC signs sn kd on pl nm r).1.2.2.2.2.2.2.2.2.1 p.toNatClampNeg else -6) else if what = 0 then (tyC signs sn kd on pl nm r).1.2.2.2.2.2.2.2.2.2.1 p.toNatClampNeg else (tyC signs sn kd on pl nm r).1.2.2.2.2.2.2.2.2.2.2.1 p.toNatClampNeg) else -5) else -2) else -1) = (if ¬ (0 ≤ p ∧ p ≤ 3) then -1 else if ¬ (0 ≤ what ∧ what ≤ 2) then -2 else if (¬ 0 ≤ ftM pad sn ∧ ¬ 0 ≤ (gwM pad week book sn rs).1) then (if ¬ 2 ≤ what then (gwM pad week book sn rs).2.2.2.1 (26 + 4 * what.toNatClampNeg + p.toNatClampNeg) else if (gwM pad week book sn rs).2.2.2.1 (34 + p.toNatClampNeg) ≤ (gwM pad week book sn rs).2.2.2.1 (26 + p.toNatClampNeg) + (gwM pad week book sn rs).2.2.2.1 (30 + p.toNatClampNeg) then (gwM pad week book sn rs).2.2.2.1 (26 + p.toNatClampNeg) + (gwM pad week book sn rs).2.2.2.1 (30 + p.toNatClampNeg) - (gwM pad week book sn rs).2.2.2.1 (34 + p.toNatClampNeg) else -6) else -5) := by
  obtain ⟨h1, h2⟩ := w_ok h kd on pl nm rs
  by_cases a : 0 ≤ p ∧ p ≤ 3
  · rw [if_pos a, if_neg (not_not_intro a)]
    by_cases w : 0 ≤ what ∧ what ≤ 2
    · rw [if_pos w, if_neg (not_not_intro w)]
      by_cases c : acC signs sn kd on pl nm r
      · rw [if_pos c, if_pos (h1.mp c)]
        obtain ⟨a1, _⟩ := h2 c
        obtain ⟨j, -, j2, rfl⟩ := nx_in (a := 0) (b := 3) rfl rfl (by decide) (by decide) a
        obtain ⟨y, -, y2, rfl⟩ := nx_in (a := 0) (b := 2) rfl rfl (by decide) (by decide) w
        rw [nI_clamp (show j < 2 ^ 31 by omega), nI_clamp (show y < 2 ^ 31 by omega)]
        have hN := a1.1.2.2.1 j (by omega)
        have hm := hm_eq a1.1 (show j < 4 by omega)
        generalize (tyC signs sn kd on pl nm r).1 = R at hN hm ⊢
        generalize (gwM pad week book sn rs).2.2.2.1 = N at hN hm ⊢
        have e1 : R.2.2.2.2.2.2.2.2.1 j = N (34 + j) := hN.1
        have e2 : R.2.2.2.2.2.2.2.2.2.1 j = N (26 + j) := hN.2.1
        have e3 : R.2.2.2.2.2.2.2.2.2.2.1 j = N (30 + j) := hN.2.2
        rw [e1, e2, e3, hm]
        rcases (by omega : y = 0 ∨ y = 1 ∨ y = 2) with z | z | z <;> subst z
        · rw [if_neg (c := nI 0 = 2) (by decide), if_pos (c := nI 0 = 0) (by decide), if_pos (c := ¬ 2 ≤ nI 0) (by decide)]
        · rw [if_neg (c := nI 1 = 2) (by decide), if_neg (c := nI 1 = 0) (by decide), if_pos (c := ¬ 2 ≤ nI 1) (by decide)]
        · rw [if_pos (c := nI 2 = 2) (by decide), if_neg (c := ¬ 2 ≤ nI 2) (by decide)]
          by_cases q : N (34 + j) ≤ N (26 + j) + N (30 + j)
          · rw [if_pos q, if_pos (decide_eq_true q)]
          · rw [if_neg q, if_neg (by rw [decide_eq_true_eq]; exact q)]
      · rw [if_neg c, if_neg (fun z => c (h1.mpr z))]
    · rw [if_neg w, if_pos w]
  · rw [if_neg a, if_pos a]
theorem o_then (h : REL r k0 i0 k1 i1 sn signs book week sk sight pad image isKept) (kd on pl nm : Nat → Int32) (rs what : Int32) : (if 0 ≤ what ∧ what ≤ 3 then (if acC signs sn kd on pl nm r then (if what = 0 then (tyC signs sn kd on pl nm r).1.1 else if what = 1 then (tyC signs sn kd on pl nm r).1.2.1 else if what = 2 then (tyC signs sn kd on pl nm r).2.2.2.1 else (tyC signs sn kd on pl nm r).2.2.2.2) else -5) else -2) = (if ¬ (0 ≤ what ∧ what ≤ 3) then -2 else if (¬ 0 ≤ ftM pad sn ∧ ¬ 0 ≤ (gwM pad week book sn rs).1) then (if ¬ 2 ≤ what then (gwM pad week book sn rs).2.2.2.1 (38 + what.toNatClampNeg) else if what = 2 then (gwM pad week book sn rs).2.2.2.2.1 else (gwM pad week book sn rs).2.2.2.2.2.1) else -5) := by
  obtain ⟨h1, h2⟩ := w_ok h kd on pl nm rs
  by_cases w : 0 ≤ what ∧ what ≤ 3
  · rw [if_pos w, if_neg (not_not_intro w)]
    by_cases c : acC signs sn kd on pl nm r
    · rw [if_pos c, if_pos (h1.mp c)]
      obtain ⟨a1, a2, a3, _⟩ := h2 c
      obtain ⟨y, -, y2, rfl⟩ := nx_in (a := 0) (b := 3) rfl rfl (by decide) (by decide) w
      rw [nI_clamp (show y < 2 ^ 31 by omega), a2, a3]
      have e1 : (tyC signs sn kd on pl nm r).1.1 = (gwM pad week book sn rs).2.2.2.1 38 := a1.1.2.2.2.1
      have e2 : (tyC signs sn kd on pl nm r).1.2.1 = (gwM pad week book sn rs).2.2.2.1 39 := a1.1.2.2.2.2.1
      rw [e1, e2]
      rcases (by omega : y = 0 ∨ y = 1 ∨ y = 2 ∨ y = 3) with z | z | z | z <;> subst z
      · rw [if_pos (c := nI 0 = 0) (by decide), if_pos (c := ¬ 2 ≤ nI 0) (by decide)]
      · rw [if_neg (c := nI 1 = 0) (by decide), if_pos (c := nI 1 = 1) (by decide), if_pos (c := ¬ 2 ≤ nI 1) (by decide)]
      · rw [if_neg (c := nI 2 = 0) (by decide), if_neg (c := nI 2 = 1) (by decide), if_pos (c := nI 2 = 2) (by decide), if_neg (c := ¬ 2 ≤ nI 2) (by decide)]
      · rw [if_neg (c := nI 3 = 0) (by decide), if_neg (c := nI 3 = 1) (by decide), if_neg (c := nI 3 = 2) (by decide), if_neg (c := ¬ 2 ≤ nI 3) (by decide)]
    · rw [if_neg c, if_neg (fun z => c (h1.mpr z))]
  · rw [if_neg w, if_pos w]
theorem o_inches (h : REL r k0 i0 k1 i1 sn signs book week sk sight pad image isKept) (k j part : Int32) : (if ¬ ((0 ≤ k ∧ k ≤ 7) ∧ (0 ≤ j ∧ j ≤ 5)) then -1000000000000000001 else if ¬ (0 ≤ part ∧ part ≤ 1) then -1000000000000000002 else lowM (r.2.2.2.2.2.2.2.1 k.toNatClampNeg).toNatClampNeg (msC r j.toNatClampNeg).toNatClampNeg part) = (if ¬ ((0 ≤ k ∧ k ≤ 7) ∧ (0 ≤ j ∧ j ≤ 5)) then -1000000000000000001 else if ¬ (0 ≤ part ∧ part ≤ 1) then -1000000000000000002 else lowM (book (18 + k.toNatClampNeg)).toNatClampNeg (msM book j.toNatClampNeg).toNatClampNeg part) := by
  by_cases a : (0 ≤ k ∧ k ≤ 7) ∧ (0 ≤ j ∧ j ≤ 5)
  · obtain ⟨x, -, x2, e1⟩ := nx_in (a := 0) (b := 7) rfl rfl (by decide) (by decide) a.1
    obtain ⟨y, -, y2, e2⟩ := nx_in (a := 0) (b := 5) rfl rfl (by decide) (by decide) a.2
    have e3 : k.toNatClampNeg = x := by rw [e1]; exact nI_clamp (by omega)
    have e4 : j.toNatClampNeg = y := by rw [e2]; exact nI_clamp (by omega)
    have e5 : r.2.2.2.2.2.2.2.1 x = book (18 + x) := h.1.1.2.1 x (by omega)
    rw [e3, e4, e5, ms_eq h.1.1 (show y < 6 by omega)]
  · rw [if_pos a, if_pos a]
theorem o_waste (h : REL r k0 i0 k1 i1 sn signs book week sk sight pad image isKept) (k p q what : Int32) : (if ¬ (0 ≤ k ∧ k ≤ 7) then -1 else if (1 ≤ p ∧ p ≤ 20) ∧ (1 ≤ q ∧ q ≤ 20) ∧ (0 ≤ what ∧ what ≤ 1) then (if what = 1 then nI (wtM (r.2.2.2.2.2.2.2.1 k.toNatClampNeg).toNatClampNeg (p.toNatClampNeg * r.1.toNatClampNeg) (q.toNatClampNeg * r.1.toNatClampNeg)).2 else nI (wtM (r.2.2.2.2.2.2.2.1 k.toNatClampNeg).toNatClampNeg (p.toNatClampNeg * r.1.toNatClampNeg) (q.toNatClampNeg * r.1.toNatClampNeg)).1) else -2) = (if ¬ (0 ≤ k ∧ k ≤ 7) then -1 else if (1 ≤ p ∧ p ≤ 20) ∧ (1 ≤ q ∧ q ≤ 20) ∧ (0 ≤ what ∧ what ≤ 1) then (if what = 0 then nI (wtM (book (18 + k.toNatClampNeg)).toNatClampNeg (p.toNatClampNeg * (book 38).toNatClampNeg) (q.toNatClampNeg * (book 38).toNatClampNeg)).1 else nI (wtM (book (18 + k.toNatClampNeg)).toNatClampNeg (p.toNatClampNeg * (book 38).toNatClampNeg) (q.toNatClampNeg * (book 38).toNatClampNeg)).2) else -2) := by
  by_cases a : 0 ≤ k ∧ k ≤ 7
  · obtain ⟨x, -, x2, e1⟩ := nx_in (a := 0) (b := 7) rfl rfl (by decide) (by decide) a
    have e3 : k.toNatClampNeg = x := by rw [e1]; exact nI_clamp (by omega)
    have e5 : r.2.2.2.2.2.2.2.1 x = book (18 + x) := h.1.1.2.1 x (by omega)
    have e6 : r.1 = book 38 := h.1.1.2.2.2.1
    rw [e3, e5, e6]
    by_cases w : (1 ≤ p ∧ p ≤ 20) ∧ (1 ≤ q ∧ q ≤ 20) ∧ (0 ≤ what ∧ what ≤ 1)
    · rw [if_pos w, if_pos w]
      obtain ⟨y, -, y2, rfl⟩ := nx_in (a := 0) (b := 1) rfl rfl (by decide) (by decide) w.2.2
      rcases (by omega : y = 0 ∨ y = 1) with z | z <;> subst z
      · rw [if_neg (c := nI 0 = 1) (by decide), if_pos (c := nI 0 = 0) (by decide)]
      · rw [if_pos (c := nI 1 = 1) (by decide), if_neg (c := nI 1 = 0) (by decide)]
    · rw [if_neg w, if_neg w]
  · rw [if_pos a, if_pos a]
theorem o_wl (h : REL r k0 i0 k1 i1 sn signs book week sk sight pad image isKept) : wlF r.2.2.2.1 r.1 r.2.1.toNatClampNeg = wlF week (book 38) (book 39).toNatClampNeg := wl_eqf h.1.1
theorem o_settle (h : REL r k0 i0 k1 i1 sn signs book week sk sight pad image isKept) (k n : Int32) : (if ¬ (0 ≤ k ∧ k ≤ 5) then -1 else if 0 ≤ n ∧ n ≤ 99 then rgI (msC r) n.toNatClampNeg k.toNatClampNeg else -2) = (if ¬ (0 ≤ k ∧ k ≤ 5) then -1 else if 0 ≤ n ∧ n ≤ 99 then rgI (msM book) n.toNatClampNeg k.toNatClampNeg else -2) := by
  by_cases a : 0 ≤ k ∧ k ≤ 5
  · obtain ⟨x, -, x2, e1⟩ := nx_in (a := 0) (b := 5) rfl rfl (by decide) (by decide) a
    have e3 : k.toNatClampNeg = x := by rw [e1]; exact nI_clamp (by omega)
    rw [e3, r_settle h.1 _ (show x < 6 by omega)]
  · rw [if_pos a, if_pos a]
theorem o_halves (mv wins : Nat → Int32) (n k what : Int32) : (if (0 ≤ n ∧ n ≤ 200) ∧ (1 ≤ k ∧ k ≤ 9) ∧ (0 ≤ what ∧ what ≤ 1) then (if what = 1 then (fmF mv n.toNatClampNeg k.toNatClampNeg) else if (fmF mv n.toNatClampNeg k.toNatClampNeg) = -6 then 0 else 1) else -2) = (if (0 ≤ n ∧ n ≤ 200) ∧ (1 ≤ k ∧ k ≤ 9) ∧ (0 ≤ what ∧ what ≤ 1) then (if what = 1 then hvM wins n.toNatClampNeg k.toNatClampNeg else if 0 ≤ hvM wins n.toNatClampNeg k.toNatClampNeg then 1 else 0) else -2) := by
  by_cases a : (0 ≤ n ∧ n ≤ 200) ∧ (1 ≤ k ∧ k ≤ 9) ∧ (0 ≤ what ∧ what ≤ 1)
  · obtain ⟨x, -, x2, e1⟩ := nx_in (a := 1) (b := 9) rfl rfl (by decide) (by decide) a.2.1
    have e3 : k.toNatClampNeg = x := by rw [e1]; exact nI_clamp (by omega)
    obtain ⟨q1, q2⟩ := r_halves (mv := mv) (w := wins) (n := n.toNatClampNeg) (k := k.toNatClampNeg) (by omega)
    rw [if_pos a, if_pos a, ← q1]
    generalize fmF mv n.toNatClampNeg k.toNatClampNeg = f at q2 ⊢
    by_cases w : what = 1
    · rw [if_pos w, if_pos w]
    · rw [if_neg w, if_neg w]
      rcases q2 with z | z
      · rw [if_pos z, if_neg (by rw [z]; decide)]
      · rw [if_neg (nn_6 z), if_pos z]
  · rw [if_neg a, if_neg a]
theorem o_shake (n o b k part : Int32) : (if (0 ≤ n ∧ n ≤ 12) ∧ (0 ≤ o ∧ o ≤ 10) ∧ (0 ≤ b ∧ b ≤ 10 - o) ∧ (0 ≤ k ∧ k ≤ 12) ∧ (0 ≤ part ∧ part ≤ 1) then lowM (suN (swI o.toNatClampNeg b.toNatClampNeg n.toNatClampNeg) k.toNatClampNeg) (10 ^ n.toNatClampNeg) part else -1000000000000000002) = (if (0 ≤ n ∧ n ≤ 12) ∧ (0 ≤ o ∧ o ≤ 10) ∧ (0 ≤ b ∧ b ≤ 10) ∧ o + b ≤ 10 ∧ (0 ≤ k ∧ k ≤ 12) ∧ (0 ≤ part ∧ part ≤ 1) then lowM (suN (swI o.toNatClampNeg b.toNatClampNeg n.toNatClampNeg) k.toNatClampNeg) (10 ^ n.toNatClampNeg) part else -1000000000000000002) := by
  by_cases a : (0 ≤ n ∧ n ≤ 12) ∧ (0 ≤ o ∧ o ≤ 10) ∧ (0 ≤ b ∧ b ≤ 10 - o) ∧ (0 ≤ k ∧ k ≤ 12) ∧ (0 ≤ part ∧ part ≤ 1)
  · have q := (sh_p a.2.1).mp a.2.2.1
    rw [if_pos a, if_pos ⟨a.1, a.2.1, q.1, q.2, a.2.2.2⟩]
  · rw [if_neg a, if_neg (fun z => a ⟨z.1, z.2.1, (sh_p z.2.1).mpr ⟨z.2.2.1, z.2.2.2.1⟩, z.2.2.2.2⟩)]
theorem o_year (h : REL r k0 i0 k1 i1 sn signs book week sk sight pad image isKept) (seed m what : Int32) : (if (0 ≤ seed ∧ seed ≤ 9999) ∧ (1 ≤ m ∧ m ≤ 99) ∧ (0 ≤ what ∧ what ≤ 2) then (if what = 0 then (itr ydS m.toNatClampNeg (seed.toNatClampNeg, r)).2.1 else if what = 1 then coM (itr ydS m.toNatClampNeg (seed.toNatClampNeg, r)).2.2.2.2.2.1 else mbC (itr ydS m.toNatClampNeg (seed.toNatClampNeg, r)).2) else -2) = (if (0 ≤ seed ∧ seed ≤ 9999) ∧ (1 ≤ m ∧ m ≤ 99) ∧ (0 ≤ what ∧ what ≤ 2) then (if what = 0 then (yrM week book seed.toNatClampNeg m.toNatClampNeg).2 38 else if what = 1 then coM (yrM week book seed.toNatClampNeg m.toNatClampNeg).2 else btM (metS (yrM week book seed.toNatClampNeg m.toNatClampNeg).2)) else -2) := by
  obtain ⟨_, hR⟩ := r_year h.1 seed.toNatClampNeg m.toNatClampNeg
  have e1 : (itr ydS m.toNatClampNeg (seed.toNatClampNeg, r)).2.1 = (yrM week book seed.toNatClampNeg m.toNatClampNeg).2 38 := hR.1.2.2.2.1
  have e2 : coM (itr ydS m.toNatClampNeg (seed.toNatClampNeg, r)).2.2.2.2.2.1 = coM (yrM week book seed.toNatClampNeg m.toNatClampNeg).2 := co_eq hR.1
  rw [e1, e2, mb_eq hR.1]
theorem o_fits (h : REL r k0 i0 k1 i1 sn signs book week sk sight pad image isKept) (i : Int32) : (if i = -1 then hmF (loF r.2.2.2.2.2.2.2.2.2.2.2.1 r.2.2.2.2.2.2.2.2.2.2.2.2 r.2.2.1.toNatClampNeg) (moF r.2.2.2.2.2.2.2.2.2.2.2.1 r.2.2.2.2.2.2.2.2.2.2.2.2 r.2.2.1.toNatClampNeg) else if 0 ≤ i then laF (loF r.2.2.2.2.2.2.2.2.2.2.2.1 r.2.2.2.2.2.2.2.2.2.2.2.2 r.2.2.1.toNatClampNeg) (moF r.2.2.2.2.2.2.2.2.2.2.2.1 r.2.2.2.2.2.2.2.2.2.2.2.2 r.2.2.1.toNatClampNeg) i.toNatClampNeg else -6) = fiM sight sk i := by
  rw [x_ske h]
  exact r_fits (sg_of h.1.2.1) i
theorem o_ask (h : REL r k0 i0 k1 i1 sn signs book week sk sight pad image isKept) (fitting : Nat → Int32) (what : Int32) : (if 0 ≤ what ∧ what ≤ 1 then (if hmF (loF r.2.2.2.2.2.2.2.2.2.2.2.1 r.2.2.2.2.2.2.2.2.2.2.2.2 r.2.2.1.toNatClampNeg) (moF r.2.2.2.2.2.2.2.2.2.2.2.1 r.2.2.2.2.2.2.2.2.2.2.2.2 r.2.2.1.toNatClampNeg) = 0 then -6 else if what = 0 then nI (bdF (loF r.2.2.2.2.2.2.2.2.2.2.2.1 r.2.2.2.2.2.2.2.2.2.2.2.2 r.2.2.1.toNatClampNeg) (moF r.2.2.2.2.2.2.2.2.2.2.2.1 r.2.2.2.2.2.2.2.2.2.2.2.2 r.2.2.1.toNatClampNeg)).1 else mlF (loF r.2.2.2.2.2.2.2.2.2.2.2.1 r.2.2.2.2.2.2.2.2.2.2.2.2 r.2.2.1.toNatClampNeg) (moF r.2.2.2.2.2.2.2.2.2.2.2.1 r.2.2.2.2.2.2.2.2.2.2.2.2 r.2.2.1.toNatClampNeg) (bdF (loF r.2.2.2.2.2.2.2.2.2.2.2.1 r.2.2.2.2.2.2.2.2.2.2.2.2 r.2.2.1.toNatClampNeg) (moF r.2.2.2.2.2.2.2.2.2.2.2.1 r.2.2.2.2.2.2.2.2.2.2.2.2 r.2.2.1.toNatClampNeg)).1) else -2) = (if ¬ (0 ≤ what ∧ what ≤ 1) then -2 else if (akM (ffM sight sk fitting).2 (ffM sight sk fitting).1).1 < 0 ∨ what = 0 then (akM (ffM sight sk fitting).2 (ffM sight sk fitting).1).1 else (akM (ffM sight sk fitting).2 (ffM sight sk fitting).1).2) := by
  rw [x_ske h]
  exact r_ask (sg_of h.1.2.1) fitting what
end OPS
