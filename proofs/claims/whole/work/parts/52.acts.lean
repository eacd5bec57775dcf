-- an act of the class against one of the model
section FR
variable {inch day sights : Int32} {wk purse cloth ruler stick span west east sd si : Nat → Int32} {now week : Nat → Int32}
theorem RN_pc (h : RN (inch, day, sights, wk, purse, cloth, ruler, stick, span, west, east, sd, si) now week) {o : Nat} (ho : o < 6) (x y : Int32) : RN (inch, day, sights, wk, upd purse o x, upd cloth o y, ruler, stick, span, west, east, sd, si) (upd (upd now o x) (6 + o) y) week := by
  obtain ⟨a1, a2, a3, a4, a5, a6⟩ := h
  refine ⟨fun j hj => ?_, fun s hs => ?_, fun b hb => ?_, ?_, ?_, a6⟩
  · show upd purse o x j = _ ∧ upd cloth o y j = _ ∧ ruler j = _
    by_cases z : j = o
    · subst z
      refine ⟨?_, ?_, ?_⟩
      · rw [pk_us, pk_un (by omega), pk_us]
      · rw [pk_us, pk_us]
      · rw [pk_un (by omega), pk_un (by omega)]; exact (a1 j hj).2.2
    · refine ⟨?_, ?_, ?_⟩
      · rw [pk_un z, pk_un (by omega), pk_un (by omega)]; exact (a1 j hj).1
      · rw [pk_un z, pk_un (by omega), pk_un (by omega)]; exact (a1 j hj).2.1
      · rw [pk_un (by omega), pk_un (by omega)]; exact (a1 j hj).2.2
  · rw [pk_un (by omega), pk_un (by omega)]; exact a2 s hs
  · rw [pk_un (by omega), pk_un (by omega), pk_un (by omega), pk_un (by omega), pk_un (by omega), pk_un (by omega)]; exact a3 b hb
  · rw [pk_un (by omega), pk_un (by omega)]; exact a4
  · rw [pk_un (by omega), pk_un (by omega)]; exact a5
theorem RN_ru (h : RN (inch, day, sights, wk, purse, cloth, ruler, stick, span, west, east, sd, si) now week) {o : Nat} (ho : o < 6) (x : Int32) : RN (inch, day, sights, wk, purse, cloth, upd ruler o x, stick, span, west, east, sd, si) (upd now (12 + o) x) week := by
  obtain ⟨a1, a2, a3, a4, a5, a6⟩ := h
  refine ⟨fun j hj => ?_, fun s hs => ?_, fun b hb => ?_, ?_, ?_, a6⟩
  · show purse j = _ ∧ cloth j = _ ∧ upd ruler o x j = _
    refine ⟨?_, ?_, ?_⟩
    · rw [pk_un (by omega)]; exact (a1 j hj).1
    · rw [pk_un (by omega)]; exact (a1 j hj).2.1
    · by_cases z : j = o
      · subst z
        rw [pk_us, pk_us]
      · rw [pk_un z, pk_un (by omega)]; exact (a1 j hj).2.2
  · rw [pk_un (by omega)]; exact a2 s hs
  · rw [pk_un (by omega), pk_un (by omega), pk_un (by omega)]; exact a3 b hb
  · rw [pk_un (by omega)]; exact a4
  · rw [pk_un (by omega)]; exact a5
theorem RN_st (h : RN (inch, day, sights, wk, purse, cloth, ruler, stick, span, west, east, sd, si) now week) {p : Nat} (hp : p < 8) (x : Int32) : RN (inch, day, sights, wk, purse, cloth, ruler, upd stick p x, span, west, east, sd, si) (upd now (18 + p) x) week := by
  obtain ⟨a1, a2, a3, a4, a5, a6⟩ := h
  refine ⟨fun j hj => ?_, fun s hs => ?_, fun b hb => ?_, ?_, ?_, a6⟩
  · rw [pk_un (by omega), pk_un (by omega), pk_un (by omega)]; exact a1 j hj
  · show upd stick p x s = _
    by_cases z : s = p
    · subst z
      rw [pk_us, pk_us]
    · rw [pk_un z, pk_un (by omega)]; exact a2 s hs
  · rw [pk_un (by omega), pk_un (by omega), pk_un (by omega)]; exact a3 b hb
  · rw [pk_un (by omega)]; exact a4
  · rw [pk_un (by omega)]; exact a5
theorem RN_we (h : RN (inch, day, sights, wk, purse, cloth, ruler, stick, span, west, east, sd, si) now week) {p : Nat} (hp : p < 4) (x : Int32) : RN (inch, day, sights, wk, purse, cloth, ruler, stick, span, upd west p x, east, sd, si) (upd now (26 + p) x) week := by
  obtain ⟨a1, a2, a3, a4, a5, a6⟩ := h
  refine ⟨fun j hj => ?_, fun s hs => ?_, fun b hb => ?_, ?_, ?_, a6⟩
  · rw [pk_un (by omega), pk_un (by omega), pk_un (by omega)]; exact a1 j hj
  · rw [pk_un (by omega)]; exact a2 s hs
  · show span b = _ ∧ upd west p x b = _ ∧ east b = _
    refine ⟨?_, ?_, ?_⟩
    · rw [pk_un (by omega)]; exact (a3 b hb).1
    · by_cases z : b = p
      · subst z
        rw [pk_us, pk_us]
      · rw [pk_un z, pk_un (by omega)]; exact (a3 b hb).2.1
    · rw [pk_un (by omega)]; exact (a3 b hb).2.2
  · rw [pk_un (by omega)]; exact a4
  · rw [pk_un (by omega)]; exact a5
theorem RN_ea (h : RN (inch, day, sights, wk, purse, cloth, ruler, stick, span, west, east, sd, si) now week) {p : Nat} (hp : p < 4) (x : Int32) : RN (inch, day, sights, wk, purse, cloth, ruler, stick, span, west, upd east p x, sd, si) (upd now (30 + p) x) week := by
  obtain ⟨a1, a2, a3, a4, a5, a6⟩ := h
  refine ⟨fun j hj => ?_, fun s hs => ?_, fun b hb => ?_, ?_, ?_, a6⟩
  · rw [pk_un (by omega), pk_un (by omega), pk_un (by omega)]; exact a1 j hj
  · rw [pk_un (by omega)]; exact a2 s hs
  · show span b = _ ∧ west b = _ ∧ upd east p x b = _
    refine ⟨?_, ?_, ?_⟩
    · rw [pk_un (by omega)]; exact (a3 b hb).1
    · rw [pk_un (by omega)]; exact (a3 b hb).2.1
    · by_cases z : b = p
      · subst z
        rw [pk_us, pk_us]
      · rw [pk_un z, pk_un (by omega)]; exact (a3 b hb).2.2
  · rw [pk_un (by omega)]; exact a4
  · rw [pk_un (by omega)]; exact a5
theorem RN_in (h : RN (inch, day, sights, wk, purse, cloth, ruler, stick, span, west, east, sd, si) now week) (x : Int32) : RN (x, day, sights, wk, purse, cloth, ruler, stick, span, west, east, sd, si) (upd now 38 x) week := by
  obtain ⟨a1, a2, a3, a4, a5, a6⟩ := h
  refine ⟨fun j hj => ?_, fun s hs => ?_, fun b hb => ?_, pk_us.symm, ?_, a6⟩
  · rw [pk_un (by omega), pk_un (by omega), pk_un (by omega)]; exact a1 j hj
  · rw [pk_un (by omega)]; exact a2 s hs
  · rw [pk_un (by omega), pk_un (by omega), pk_un (by omega)]; exact a3 b hb
  · rw [pk_un (by omega)]; exact a5
theorem RN_dy (h : RN (inch, day, sights, wk, purse, cloth, ruler, stick, span, west, east, sd, si) now week) (x : Int32) : RN (inch, x, sights, wk, purse, cloth, ruler, stick, span, west, east, sd, si) (upd now 39 x) week := by
  obtain ⟨a1, a2, a3, a4, a5, a6⟩ := h
  refine ⟨fun j hj => ?_, fun s hs => ?_, fun b hb => ?_, ?_, pk_us.symm, a6⟩
  · rw [pk_un (by omega), pk_un (by omega), pk_un (by omega)]; exact a1 j hj
  · rw [pk_un (by omega)]; exact a2 s hs
  · rw [pk_un (by omega), pk_un (by omega), pk_un (by omega)]; exact a3 b hb
  · rw [pk_un (by omega)]; exact a4
end FR
def hmB (now : Nat → Int32) (b : Nat) : Bool := decide (now (34 + b) ≤ now (26 + b) + now (30 + b))
theorem hm_c {now nw : Nat → Int32} {b : Nat} (h1 : nw (34 + b) = now (34 + b)) (h2 : nw (26 + b) = now (26 + b)) (h3 : nw (30 + b) = now (30 + b)) : hmB nw b = hmB now b := by
  unfold hmB; rw [h1, h2, h3]
/-- an act of the class and what the model does for it -/
def AR (r : Rl) (now week sight : Nat → Int32) (sk : Nat) (kind : Int32) (o p : Nat) (n : Int32) (f : Int32 × (Nat → Int32)) : Prop := hdF r kind o p n = f.1 ∧ (f.1 = 0 ∨ 0 < f.1) ∧ (f.1 = 0 → RR (acF r kind o p n) f.2 week sight sk) ∧ (¬ f.1 = 0 → f.2 = now) ∧ (f.1 = 0 → ∀ b, b < 4 → (kind = 40 ∨ kind = 41 → b ≠ p) → hmB f.2 b = hmB now b) ∧ (f.1 = 0 → kind = 40 ∨ kind = 41 → hmB now p = false)
theorem AR_n {r : Rl} {now week sight : Nat → Int32} {sk : Nat} {kind : Int32} {o p : Nat} {n x : Int32} (h : hdF r kind o p n = x) (hx : 0 < x) : AR r now week sight sk kind o p n (x, now) := by
  have h0 : ¬ x = 0 := fun z => by rw [z] at hx; exact absurd hx (by decide)
  exact ⟨h, Or.inr hx, fun z => absurd z h0, fun _ => rfl, fun z => absurd z h0, fun z => absurd z h0⟩
theorem a_buy {r : Rl} {now week sight : Nat → Int32} {sk : Nat} (h : RR r now week sight sk) {o : Nat} (ho : o < 6) (p : Nat) (n : Int32) : AR r now week sight sk 43 o p n (f_buy now o n) := by
  obtain ⟨inch, day, sights, wk, purse, cloth, ruler, stick, span, west, east, sd, si⟩ := r
  obtain ⟨hN, hS, hO⟩ := h
  have e1 : purse o = now o := (hN.1 o ho).1
  have e2 : cloth o = now (6 + o) := (hN.1 o ho).2.1
  have e3 : inch = now 38 := hN.2.2.2.1
  have hh : hdF (inch, day, sights, wk, purse, cloth, ruler, stick, span, west, east, sd, si) 43 o p n = (if ¬ n ≤ now o then 1 else if ¬ now (6 + o) + n * now 38 ≤ 99999 then 2 else 0) := by
    unfold hdF
    dsimp only
    rw [if_neg (by decide), if_pos rfl, e1, e2, e3]
  have ha : acF (inch, day, sights, wk, purse, cloth, ruler, stick, span, west, east, sd, si) 43 o p n = (inch, day, sights, wk, upd purse o (now o - n), upd cloth o (now (6 + o) + n * now 38), ruler, stick, span, west, east, sd, si) := by
    unfold acF
    dsimp only
    rw [if_neg (by decide), if_neg (by decide), if_pos rfl, e1, e2, e3]
  unfold f_buy
  by_cases c1 : n ≤ now o
  · rw [if_neg (not_not_intro c1)] at hh ⊢
    by_cases c2 : now (6 + o) + n * now 38 ≤ 99999
    · rw [if_neg (not_not_intro c2)] at hh ⊢
      refine ⟨hh, Or.inl rfl, fun _ => ?_, fun z => absurd rfl z, fun _ b hb _ => ?_, fun _ z => absurd z (by decide)⟩
      · rw [ha]
        exact ⟨RN_pc hN ho _ _, hS, hO⟩
      · dsimp only
        exact hm_c (by rw [pk_un (by omega), pk_un (by omega)]) (by rw [pk_un (by omega), pk_un (by omega)]) (by rw [pk_un (by omega), pk_un (by omega)])
    · rw [if_pos c2] at hh ⊢
      exact AR_n hh (by decide)
  · rw [if_pos c1] at hh ⊢
    exact AR_n hh (by decide)
theorem a_sell {r : Rl} {now week sight : Nat → Int32} {sk : Nat} (h : RR r now week sight sk) {o : Nat} (ho : o < 6) (p : Nat) (n : Int32) : AR r now week sight sk 45 o p n (f_sell now o n) := by
  have e4 := ms_eq h.1 ho
  obtain ⟨inch, day, sights, wk, purse, cloth, ruler, stick, span, west, east, sd, si⟩ := r
  obtain ⟨hN, hS, hO⟩ := h
  have e1 : purse o = now o := (hN.1 o ho).1
  have e2 : cloth o = now (6 + o) := (hN.1 o ho).2.1
  have hh : hdF (inch, day, sights, wk, purse, cloth, ruler, stick, span, west, east, sd, si) 45 o p n = (if ¬ n * msM now o ≤ now (6 + o) then 1 else if ¬ now o + n ≤ 9999 then 2 else 0) := by
    unfold hdF
    dsimp only
    rw [if_neg (by decide), if_neg (by decide), if_pos rfl, e1, e2, e4]
  have ha : acF (inch, day, sights, wk, purse, cloth, ruler, stick, span, west, east, sd, si) 45 o p n = (inch, day, sights, wk, upd purse o (now o + n), upd cloth o (now (6 + o) - n * msM now o), ruler, stick, span, west, east, sd, si) := by
    unfold acF
    dsimp only
    rw [if_neg (by decide), if_neg (by decide), if_neg (by decide), if_pos rfl, e1, e2, e4]
  unfold f_sell
  by_cases c1 : n * msM now o ≤ now (6 + o)
  · rw [if_neg (not_not_intro c1)] at hh ⊢
    by_cases c2 : now o + n ≤ 9999
    · rw [if_neg (not_not_intro c2)] at hh ⊢
      refine ⟨hh, Or.inl rfl, fun _ => ?_, fun z => absurd rfl z, fun _ b hb _ => ?_, fun _ z => absurd z (by decide)⟩
      · rw [ha]
        exact ⟨RN_pc hN ho _ _, hS, hO⟩
      · dsimp only
        exact hm_c (by rw [pk_un (by omega), pk_un (by omega)]) (by rw [pk_un (by omega), pk_un (by omega)]) (by rw [pk_un (by omega), pk_un (by omega)])
    · rw [if_pos c2] at hh ⊢
      exact AR_n hh (by decide)
  · rw [if_pos c1] at hh ⊢
    exact AR_n hh (by decide)
theorem a_west {r : Rl} {now week sight : Nat → Int32} {sk : Nat} (h : RR r now week sight sk) {o p : Nat} (ho : o < 6) (hp : p < 4) (n : Int32) : AR r now week sight sk 40 o p n (f_build now o p 26 n) := by
  have e4 := ms_eq h.1 ho
  have e5 := hm_eq h.1 hp
  obtain ⟨inch, day, sights, wk, purse, cloth, ruler, stick, span, west, east, sd, si⟩ := r
  obtain ⟨hN, hS, hO⟩ := h
  have e1 : west p = now (26 + p) := (hN.2.2.1 p hp).2.1
  have hh : hdF (inch, day, sights, wk, purse, cloth, ruler, stick, span, west, east, sd, si) 40 o p n = (if now (34 + p) ≤ now (26 + p) + now (30 + p) then 3 else 0) := by
    unfold hdF
    dsimp only
    rw [if_pos (by decide), e5]
    by_cases z : now (34 + p) ≤ now (26 + p) + now (30 + p)
    · rw [if_pos z, if_pos (decide_eq_true z)]
    · rw [if_neg z, if_neg (by rw [decide_eq_true_eq]; exact z)]
  have ha : acF (inch, day, sights, wk, purse, cloth, ruler, stick, span, west, east, sd, si) 40 o p n = (inch, day, sights, wk, purse, cloth, ruler, stick, span, upd west p (now (26 + p) + n * msM now o), east, sd, si) := by
    unfold acF
    dsimp only
    rw [if_pos rfl, e1, e4]
  unfold f_build
  by_cases c1 : now (34 + p) ≤ now (26 + p) + now (30 + p)
  · rw [if_pos c1] at hh ⊢
    exact AR_n hh (by decide)
  · rw [if_neg c1] at hh ⊢
    refine ⟨hh, Or.inl rfl, fun _ => ?_, fun z => absurd rfl z, fun _ b hb z => ?_, fun _ _ => decide_eq_false c1⟩
    · rw [ha]
      exact ⟨RN_we hN hp _, hS, hO⟩
    · have z2 := z (Or.inl rfl)
      dsimp only
      exact hm_c (by rw [pk_un (by omega)]) (by rw [pk_un (by omega)]) (by rw [pk_un (by omega)])
theorem a_east {r : Rl} {now week sight : Nat → Int32} {sk : Nat} (h : RR r now week sight sk) {o p : Nat} (ho : o < 6) (hp : p < 4) (n : Int32) : AR r now week sight sk 41 o p n (f_build now o p 30 n) := by
  have e4 := ms_eq h.1 ho
  have e5 := hm_eq h.1 hp
  obtain ⟨inch, day, sights, wk, purse, cloth, ruler, stick, span, west, east, sd, si⟩ := r
  obtain ⟨hN, hS, hO⟩ := h
  have e1 : east p = now (30 + p) := (hN.2.2.1 p hp).2.2
  have hh : hdF (inch, day, sights, wk, purse, cloth, ruler, stick, span, west, east, sd, si) 41 o p n = (if now (34 + p) ≤ now (26 + p) + now (30 + p) then 3 else 0) := by
    unfold hdF
    dsimp only
    rw [if_pos (by decide), e5]
    by_cases z : now (34 + p) ≤ now (26 + p) + now (30 + p)
    · rw [if_pos z, if_pos (decide_eq_true z)]
    · rw [if_neg z, if_neg (by rw [decide_eq_true_eq]; exact z)]
  have ha : acF (inch, day, sights, wk, purse, cloth, ruler, stick, span, west, east, sd, si) 41 o p n = (inch, day, sights, wk, purse, cloth, ruler, stick, span, west, upd east p (now (30 + p) + n * msM now o), sd, si) := by
    unfold acF
    dsimp only
    rw [if_neg (by decide), if_pos rfl, e1, e4]
  unfold f_build
  by_cases c1 : now (34 + p) ≤ now (26 + p) + now (30 + p)
  · rw [if_pos c1] at hh ⊢
    exact AR_n hh (by decide)
  · rw [if_neg c1] at hh ⊢
    refine ⟨hh, Or.inl rfl, fun _ => ?_, fun z => absurd rfl z, fun _ b hb z => ?_, fun _ _ => decide_eq_false c1⟩
    · rw [ha]
      exact ⟨RN_ea hN hp _, hS, hO⟩
    · have z2 := z (Or.inr rfl)
      dsimp only
      exact hm_c (by rw [pk_un (by omega)]) (by rw [pk_un (by omega)]) (by rw [pk_un (by omega)])
theorem cl_ok (x : Int32) : inOK (clampI x) := by
  obtain ⟨j, h1, h2, h3⟩ := clampI_in x
  exact inOK_of h3 h1 h2
theorem a_less {r : Rl} {now week sight : Nat → Int32} {sk : Nat} (h : RR r now week sight sk) (o p : Nat) {j : Nat} (h1 : 1 ≤ j) (h9 : j ≤ 9) : AR r now week sight sk 60 o p (nI j) (f_change now (-(nI j))) := by
  obtain ⟨inch, day, sights, wk, purse, cloth, ruler, stick, span, west, east, sd, si⟩ := r
  obtain ⟨hN, hS, o1, o2, o3, o4⟩ := h
  have e3 : inch = now 38 := hN.2.2.2.1
  have hn : ¬ (0 : Int32) ≤ -(nI j) := by
    rcases (by omega : j = 1 ∨ j = 2 ∨ j = 3 ∨ j = 4 ∨ j = 5 ∨ j = 6 ∨ j = 7 ∨ j = 8 ∨ j = 9) with z | z | z | z | z | z | z | z | z <;> rw [z] <;> decide
  have hh : hdF (inch, day, sights, wk, purse, cloth, ruler, stick, span, west, east, sd, si) 60 o p (nI j) = (if now 38 = 1 then 4 else 0) := by
    unfold hdF
    dsimp only
    rw [if_neg (by decide), if_neg (by decide), if_neg (by decide), if_neg (by decide), if_pos rfl, e3]
  have ha : acF (inch, day, sights, wk, purse, cloth, ruler, stick, span, west, east, sd, si) 60 o p (nI j) = (clampI (now 38 + -(nI j)), day, sights, wk, purse, cloth, ruler, stick, span, west, east, sd, si) := by
    unfold acF
    dsimp only
    rw [if_neg (by decide), if_neg (by decide), if_neg (by decide), if_neg (by decide), if_neg (by decide), if_neg (by decide), if_pos rfl, e3, Int32.sub_eq_add_neg]
  unfold f_change
  rw [if_neg hn]
  by_cases c1 : now 38 = 1
  · rw [if_pos c1] at hh ⊢
    exact AR_n hh (by decide)
  · rw [if_neg c1] at hh ⊢
    refine ⟨hh, Or.inl rfl, fun _ => ?_, fun z => absurd rfl z, fun _ b hb z => ?_, fun _ z => absurd z (by decide)⟩
    · rw [ha]
      exact ⟨RN_in hN _, hS, cl_ok _, o2, o3, o4⟩
    · dsimp only
      exact hm_c (by rw [pk_un (by omega)]) (by rw [pk_un (by omega)]) (by rw [pk_un (by omega)])
theorem a_more {r : Rl} {now week sight : Nat → Int32} {sk : Nat} (h : RR r now week sight sk) (o p : Nat) {j : Nat} (h9 : j ≤ 9) : AR r now week sight sk 62 o p (nI j) (f_change now (nI j)) := by
  obtain ⟨inch, day, sights, wk, purse, cloth, ruler, stick, span, west, east, sd, si⟩ := r
  obtain ⟨hN, hS, o1, o2, o3, o4⟩ := h
  have e3 : inch = now 38 := hN.2.2.2.1
  have hn : (0 : Int32) ≤ nI j := by
    rcases (by omega : j = 0 ∨ j = 1 ∨ j = 2 ∨ j = 3 ∨ j = 4 ∨ j = 5 ∨ j = 6 ∨ j = 7 ∨ j = 8 ∨ j = 9) with z | z | z | z | z | z | z | z | z | z <;> rw [z] <;> decide
  have hh : hdF (inch, day, sights, wk, purse, cloth, ruler, stick, span, west, east, sd, si) 62 o p (nI j) = (if now 38 = 200 then 4 else 0) := by
    unfold hdF
    dsimp only
    rw [if_neg (by decide), if_neg (by decide), if_neg (by decide), if_neg (by decide), if_neg (by decide), if_neg (by decide), if_pos rfl, e3]
  have ha : acF (inch, day, sights, wk, purse, cloth, ruler, stick, span, west, east, sd, si) 62 o p (nI j) = (clampI (now 38 + nI j), day, sights, wk, purse, cloth, ruler, stick, span, west, east, sd, si) := by
    unfold acF
    dsimp only
    rw [if_neg (by decide), if_neg (by decide), if_neg (by decide), if_neg (by decide), if_neg (by decide), if_neg (by decide), if_neg (by decide), if_neg (by decide), if_pos rfl, e3]
  unfold f_change
  rw [if_pos hn]
  by_cases c1 : now 38 = 200
  · rw [if_pos c1] at hh ⊢
    exact AR_n hh (by decide)
  · rw [if_neg c1] at hh ⊢
    refine ⟨hh, Or.inl rfl, fun _ => ?_, fun z => absurd rfl z, fun _ b hb z => ?_, fun _ z => absurd z (by decide)⟩
    · rw [ha]
      exact ⟨RN_in hN _, hS, cl_ok _, o2, o3, o4⟩
    · dsimp only
      exact hm_c (by rw [pk_un (by omega)]) (by rw [pk_un (by omega)]) (by rw [pk_un (by omega)])
theorem a_copy {r : Rl} {now week sight : Nat → Int32} {sk : Nat} (h : RR r now week sight sk) {o : Nat} (ho : o < 6) (p : Nat) (n : Int32) : AR r now week sight sk 61 o p n (f_copy now o) := by
  obtain ⟨inch, day, sights, wk, purse, cloth, ruler, stick, span, west, east, sd, si⟩ := r
  obtain ⟨hN, hS, o1, o2, o3, o4⟩ := h
  have e1 : ruler o = now (12 + o) := (hN.1 o ho).2.2
  have e3 : inch = now 38 := hN.2.2.2.1
  have hh : hdF (inch, day, sights, wk, purse, cloth, ruler, stick, span, west, east, sd, si) 61 o p n = (if now (12 + o) = now 38 then 5 else 0) := by
    unfold hdF
    dsimp only
    rw [if_neg (by decide), if_neg (by decide), if_neg (by decide), if_neg (by decide), if_neg (by decide), if_pos rfl, e1, e3]
  have ha : acF (inch, day, sights, wk, purse, cloth, ruler, stick, span, west, east, sd, si) 61 o p n = (inch, day, sights, wk, purse, cloth, upd ruler o (now 38), stick, span, west, east, sd, si) := by
    unfold acF
    dsimp only
    rw [if_neg (by decide), if_neg (by decide), if_neg (by decide), if_neg (by decide), if_neg (by decide), if_neg (by decide), if_neg (by decide), if_pos rfl, e3]
  unfold f_copy
  by_cases c1 : now (12 + o) = now 38
  · rw [if_pos c1] at hh ⊢
    exact AR_n hh (by decide)
  · rw [if_neg c1] at hh ⊢
    refine ⟨hh, Or.inl rfl, fun _ => ?_, fun z => absurd rfl z, fun _ b hb z => ?_, fun _ z => absurd z (by decide)⟩
    · rw [ha]
      refine ⟨RN_ru hN ho _, hS, o1, o2, fun j hj => ?_, o4⟩
      show upd ruler o (now 38) j = 0 ∨ inOK (upd ruler o (now 38) j)
      by_cases z : j = o
      · rw [z, pk_us, ← e3]; exact Or.inr o1
      · rw [pk_un z]; exact o3 j hj
    · dsimp only
      exact hm_c (by rw [pk_un (by omega)]) (by rw [pk_un (by omega)]) (by rw [pk_un (by omega)])
theorem a_lay {r : Rl} {now week sight : Nat → Int32} {sk : Nat} (h : RR r now week sight sk) {o : Nat} (ho : o < 6) (p : Nat) (n : Int32) : AR r now week sight sk 120 o p n (f_lay now o) := by
  obtain ⟨inch, day, sights, wk, purse, cloth, ruler, stick, span, west, east, sd, si⟩ := r
  obtain ⟨hN, hS, o1, o2, o3, o4⟩ := h
  have e1 : ruler o = now (12 + o) := (hN.1 o ho).2.2
  have hh : hdF (inch, day, sights, wk, purse, cloth, ruler, stick, span, west, east, sd, si) 120 o p n = (if now (12 + o) = 0 then 5 else 0) := by
    unfold hdF
    dsimp only
    rw [if_neg (by decide), if_neg (by decide), if_neg (by decide), if_neg (by decide), if_neg (by decide), if_neg (by decide), if_neg (by decide), if_pos rfl, e1]
  have ha : acF (inch, day, sights, wk, purse, cloth, ruler, stick, span, west, east, sd, si) 120 o p n = (inch, day, sights, wk, purse, cloth, upd ruler o 0, stick, span, west, east, sd, si) := by
    unfold acF
    dsimp only
    rw [if_neg (by decide), if_neg (by decide), if_neg (by decide), if_neg (by decide), if_neg (by decide), if_neg (by decide), if_neg (by decide), if_neg (by decide), if_neg (by decide), if_pos rfl]
  unfold f_lay
  by_cases c1 : now (12 + o) = 0
  · rw [if_pos c1] at hh ⊢
    exact AR_n hh (by decide)
  · rw [if_neg c1] at hh ⊢
    refine ⟨hh, Or.inl rfl, fun _ => ?_, fun z => absurd rfl z, fun _ b hb z => ?_, fun _ z => absurd z (by decide)⟩
    · rw [ha]
      refine ⟨RN_ru hN ho _, hS, o1, o2, fun j hj => ?_, o4⟩
      show upd ruler o 0 j = 0 ∨ inOK (upd ruler o 0 j)
      by_cases z : j = o
      · rw [z, pk_us]; exact Or.inl rfl
      · rw [pk_un z]; exact o3 j hj
    · dsimp only
      exact hm_c (by rw [pk_un (by omega)]) (by rw [pk_un (by omega)]) (by rw [pk_un (by omega)])
theorem a_end {r : Rl} {now week sight : Nat → Int32} {sk : Nat} (h : RR r now week sight sk) (o p : Nat) (n : Int32) : AR r now week sight sk 46 o p n (f_endDay now week (now 39).toNatClampNeg) := by
  have hdy : ∀ {o p n}, hdF r 46 o p n = 0 → dyC (acF r 46 o p n) := fun z => dy_ac h.2.2.2.1 z
  obtain ⟨inch, day, sights, wk, purse, cloth, ruler, stick, span, west, east, sd, si⟩ := r
  obtain ⟨hN, hS, o1, o2, o3, o4⟩ := h
  have e1 : day = now 39 := hN.2.2.2.2.1
  have e3 : inch = now 38 := hN.2.2.2.1
  have d1 : day = nI day.toNatClampNeg := o2.1
  have d2 : day.toNatClampNeg ≤ 999 := o2.2
  have e6 : wk (day.toNatClampNeg % 7) = week (day.toNatClampNeg % 7) := hN.2.2.2.2.2 _ (Nat.mod_lt _ (by decide))
  have e7 : 999 ≤ day ↔ now 39 = 999 := by
    have q1 : (999 : Int32) ≤ day ↔ 999 ≤ day.toNatClampNeg := nx_le (x := 999) (y := day) rfl d1 (by decide) (by omega)
    have q2 : day = 999 ↔ day.toNatClampNeg = 999 := nx_eq (x := day) (y := 999) d1 rfl (by omega) (by decide)
    rw [← e1]
    exact ⟨fun z => q2.mpr (by have := q1.mp z; omega), fun z => q1.mpr (by have := q2.mp z; omega)⟩
  have hh : hdF (inch, day, sights, wk, purse, cloth, ruler, stick, span, west, east, sd, si) 46 o p n = (if now 39 = 999 then 6 else 0) := by
    unfold hdF
    dsimp only
    rw [if_neg (by decide), if_neg (by decide), if_neg (by decide), if_pos rfl]
    by_cases z : now 39 = 999
    · rw [if_pos z, if_pos (e7.mpr z)]
    · rw [if_neg z, if_neg (fun y => z (e7.mp y))]
  have ha : acF (inch, day, sights, wk, purse, cloth, ruler, stick, span, west, east, sd, si) 46 o p n = (clampI (now 38 + week ((now 39).toNatClampNeg % 7)), now 39 + 1, sights, wk, purse, cloth, ruler, stick, span, west, east, sd, si) := by
    unfold acF
    dsimp only
    rw [if_neg (by decide), if_neg (by decide), if_neg (by decide), if_neg (by decide), if_pos rfl, e6, e3, e1]
  have hd := fun z => hdy (o := o) (p := p) (n := n) z
  unfold f_endDay
  by_cases c1 : now 39 = 999
  · rw [if_pos c1] at hh ⊢
    exact AR_n hh (by decide)
  · rw [if_neg c1] at hh ⊢
    refine ⟨hh, Or.inl rfl, fun _ => ?_, fun z => absurd rfl z, fun _ b hb z => ?_, fun _ z => absurd z (by decide)⟩
    · have hd2 := hd hh
      rw [ha] at hd2 ⊢
      exact ⟨RN_dy (RN_in hN _) _, hS, cl_ok _, hd2, o3, o4⟩
    · dsimp only
      exact hm_c (by rw [pk_un (by omega), pk_un (by omega)]) (by rw [pk_un (by omega), pk_un (by omega)]) (by rw [pk_un (by omega), pk_un (by omega)])
theorem a_cut {r : Rl} {now week sight : Nat → Int32} {sk : Nat} (h : RR r now week sight sk) {o p j : Nat} (ho : o < 6) (hp : p < 8) (h9 : j ≤ 9) : AR r now week sight sk 47 o p (nI j) (0, upd now (18 + p) (nI j * msM now o)) := by
  have e4 := ms_eq h.1 ho
  have e5 := ms_ok h.2.2 ho
  obtain ⟨inch, day, sights, wk, purse, cloth, ruler, stick, span, west, east, sd, si⟩ := r
  obtain ⟨hN, hS, o1, o2, o3, o4⟩ := h
  have hh : hdF (inch, day, sights, wk, purse, cloth, ruler, stick, span, west, east, sd, si) 47 o p (nI j) = 0 := by
    unfold hdF
    dsimp only
    rw [if_neg (by decide), if_neg (by decide), if_neg (by decide), if_neg (by decide), if_neg (by decide), if_neg (by decide), if_neg (by decide), if_neg (by decide)]
  have ha : acF (inch, day, sights, wk, purse, cloth, ruler, stick, span, west, east, sd, si) 47 o p (nI j) = (inch, day, sights, wk, purse, cloth, ruler, upd stick p (nI j * msM now o), span, west, east, sd, si) := by
    unfold acF
    dsimp only
    rw [if_neg (by decide), if_neg (by decide), if_neg (by decide), if_neg (by decide), if_neg (by decide), if_pos rfl, e4]
  rw [e4] at e5
  refine ⟨hh, Or.inl rfl, fun _ => ?_, fun z => absurd rfl z, fun _ b hb z => ?_, fun _ z => absurd z (by decide)⟩
  · rw [ha]
    refine ⟨RN_st hN hp _, hS, o1, o2, o3, fun s hs => ?_⟩
    show upd stick p (nI j * msM now o) s = nI (upd stick p (nI j * msM now o) s).toNatClampNeg ∧ (upd stick p (nI j * msM now o) s).toNatClampNeg ≤ 1800
    by_cases z : s = p
    · have e6 : nI j * msM now o = nI (j * (msM now o).toNatClampNeg) := nx_mul rfl e5.1
      have e7 : j * (msM now o).toNatClampNeg ≤ 9 * 200 := Nat.mul_le_mul h9 e5.2.2
      rw [z, pk_us, e6, nI_clamp (by omega)]
      exact ⟨rfl, by omega⟩
    · rw [pk_un z]; exact o4 s hs
  · dsimp only
    exact hm_c (by rw [pk_un (by omega)]) (by rw [pk_un (by omega)]) (by rw [pk_un (by omega)])
