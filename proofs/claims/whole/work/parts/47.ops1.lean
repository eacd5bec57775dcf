theorem in_of {v : Int32} (h : 1 ≤ v ∧ v ≤ 200) : inOK v := by
  obtain ⟨j, h1, h2, h3⟩ := nx_in (a := 1) (b := 200) rfl rfl (by decide) (by decide) h
  exact inOK_of h3 h1 h2
theorem r_inch {r : Rl} {book week sight : Nat → Int32} {sk : Nat} (h : RR r book week sight sk) (v : Int32) : (k_inch v r).1 = (f_inch book v).1 ∧ RR (k_inch v r).2 (f_inch book v).2 week sight sk := by
  obtain ⟨inch, day, sights, wk, purse, cloth, ruler, stick, span, west, east, sightDay, sightInch⟩ := r
  obtain ⟨⟨a1, a2, a3, a4, a5, a6⟩, hS, o1, o2, o3, o4⟩ := h
  unfold k_inch f_inch
  dsimp only
  by_cases c : 1 ≤ v ∧ v ≤ 200
  · rw [if_pos c, if_pos c]
    dsimp only
    refine ⟨a4, ⟨fun o ho => ?_, fun s hs => ?_, fun b hb => ?_, pk_us.symm, ?_, a6⟩, hS, in_of c, o2, o3, o4⟩
    · rw [pk_un (by omega), pk_un (by omega), pk_un (by omega)]; exact a1 o ho
    · rw [pk_un (by omega)]; exact a2 s hs
    · rw [pk_un (by omega), pk_un (by omega), pk_un (by omega)]; exact a3 b hb
    · rw [pk_un (by omega)]; exact a5
  · rw [if_neg c, if_neg c]
    dsimp only
    exact ⟨rfl, ⟨a1, a2, a3, a4, a5, a6⟩, hS, o1, o2, o3, o4⟩
theorem r_week {r : Rl} {book week sight : Nat → Int32} {sk : Nat} (h : RR r book week sight sk) (k v : Int32) : (k_week k v r).1 = (f_week week k v).1 ∧ RR (k_week k v r).2 book (f_week week k v).2 sight sk := by
  obtain ⟨inch, day, sights, wk, purse, cloth, ruler, stick, span, west, east, sightDay, sightInch⟩ := r
  obtain ⟨⟨a1, a2, a3, a4, a5, a6⟩, hS, hO⟩ := h
  unfold k_week f_week
  dsimp only
  by_cases c : (0 ≤ k ∧ k ≤ 6) ∧ (-9 ≤ v ∧ v ≤ 9)
  · rw [if_pos c, if_pos c]
    dsimp only
    obtain ⟨j, -, h2, rfl⟩ := nx_in (a := 0) (b := 6) rfl rfl (by decide) (by decide) c.1
    rw [nI_clamp (by omega)]
    refine ⟨congrArg (· + 9) (a6 j (by omega)), ⟨a1, a2, a3, a4, a5, fun d hd => ?_⟩, hS, hO⟩
    show upd wk j v d = upd week j v d
    by_cases z : d = j
    · rw [z, pk_us, pk_us]
    · rw [pk_un z, pk_un z]; exact a6 d hd
  · rw [if_neg c, if_neg c]
    dsimp only
    exact ⟨rfl, ⟨a1, a2, a3, a4, a5, a6⟩, hS, hO⟩
theorem r_stick {r : Rl} {book week sight : Nat → Int32} {sk : Nat} (h : RR r book week sight sk) (k v : Int32) : (k_stick k v r).1 = (f_stick book k v).1 ∧ RR (k_stick k v r).2 (f_stick book k v).2 week sight sk := by
  obtain ⟨inch, day, sights, wk, purse, cloth, ruler, stick, span, west, east, sightDay, sightInch⟩ := r
  obtain ⟨⟨a1, a2, a3, a4, a5, a6⟩, hS, o1, o2, o3, o4⟩ := h
  unfold k_stick f_stick
  dsimp only
  by_cases c : 0 ≤ k ∧ k ≤ 7
  · rw [if_pos c, if_neg (not_not_intro c)]
    by_cases e : 0 ≤ v ∧ v ≤ 1800
    · rw [if_pos e, if_pos e]
      dsimp only
      obtain ⟨j, -, h2, rfl⟩ := nx_in (a := 0) (b := 7) rfl rfl (by decide) (by decide) c
      rw [nI_clamp (by omega)]
      obtain ⟨y, -, h4, rfl⟩ := nx_in (a := 0) (b := 1800) rfl rfl (by decide) (by decide) e
      refine ⟨a2 j (by omega), ⟨fun o ho => ?_, fun s hs => ?_, fun b hb => ?_, ?_, ?_, a6⟩, hS, o1, o2, o3, fun s hs => ?_⟩
      · rw [pk_un (by omega), pk_un (by omega), pk_un (by omega)]; exact a1 o ho
      · show upd stick j (nI y) s = upd book (18 + j) (nI y) (18 + s)
        by_cases z : s = j
        · rw [z, pk_us, pk_us]
        · rw [pk_un z, pk_un (by omega)]; exact a2 s hs
      · rw [pk_un (by omega), pk_un (by omega), pk_un (by omega)]; exact a3 b hb
      · rw [pk_un (by omega)]; exact a4
      · rw [pk_un (by omega)]; exact a5
      · show upd stick j (nI y) s = nI (upd stick j (nI y) s).toNatClampNeg ∧ (upd stick j (nI y) s).toNatClampNeg ≤ 1800
        by_cases z : s = j
        · rw [z, pk_us, nI_clamp (by omega)]; exact ⟨rfl, h4⟩
        · rw [pk_un z]; exact o4 s hs
    · rw [if_neg e, if_neg e]
      dsimp only
      exact ⟨rfl, ⟨a1, a2, a3, a4, a5, a6⟩, hS, o1, o2, o3, o4⟩
  · rw [if_neg c, if_pos c]
    dsimp only
    exact ⟨rfl, ⟨a1, a2, a3, a4, a5, a6⟩, hS, o1, o2, o3, o4⟩
theorem r_bridge {r : Rl} {book week sight : Nat → Int32} {sk : Nat} (h : RR r book week sight sk) (k v : Int32) : (k_bridge k v r).1 = (f_bridge book k v).1 ∧ RR (k_bridge k v r).2 (f_bridge book k v).2 week sight sk := by
  obtain ⟨inch, day, sights, wk, purse, cloth, ruler, stick, span, west, east, sightDay, sightInch⟩ := r
  obtain ⟨⟨a1, a2, a3, a4, a5, a6⟩, hS, hO⟩ := h
  unfold k_bridge f_bridge
  dsimp only
  by_cases c : 0 ≤ k ∧ k ≤ 3
  · rw [if_pos c, if_neg (not_not_intro c)]
    by_cases e : 1 ≤ v ∧ v ≤ 99999
    · rw [if_pos e, if_pos e]
      dsimp only
      obtain ⟨j, -, h2, rfl⟩ := nx_in (a := 0) (b := 3) rfl rfl (by decide) (by decide) c
      rw [nI_clamp (by omega)]
      refine ⟨(a3 j (by omega)).1, ⟨fun o ho => ?_, fun s hs => ?_, fun b hb => ?_, ?_, ?_, a6⟩, hS, hO⟩
      · rw [pk_un (by omega), pk_un (by omega), pk_un (by omega), pk_un (by omega), pk_un (by omega), pk_un (by omega), pk_un (by omega), pk_un (by omega), pk_un (by omega)]; exact a1 o ho
      · rw [pk_un (by omega), pk_un (by omega), pk_un (by omega)]; exact a2 s hs
      · show upd span j v b = _ ∧ upd west j 0 b = _ ∧ upd east j 0 b = _
        by_cases z : b = j
        · subst z
          refine ⟨?_, ?_, ?_⟩
          · rw [pk_us, pk_un (by omega), pk_un (by omega), pk_us]
          · rw [pk_us, pk_un (by omega), pk_us]
          · rw [pk_us, pk_us]
        · refine ⟨?_, ?_, ?_⟩
          · rw [pk_un z, pk_un (by omega), pk_un (by omega), pk_un (by omega)]; exact (a3 b hb).1
          · rw [pk_un z, pk_un (by omega), pk_un (by omega), pk_un (by omega)]; exact (a3 b hb).2.1
          · rw [pk_un z, pk_un (by omega), pk_un (by omega), pk_un (by omega)]; exact (a3 b hb).2.2
      · rw [pk_un (by omega), pk_un (by omega), pk_un (by omega)]; exact a4
      · rw [pk_un (by omega), pk_un (by omega), pk_un (by omega)]; exact a5
    · rw [if_neg e, if_neg e]
      dsimp only
      exact ⟨rfl, ⟨a1, a2, a3, a4, a5, a6⟩, hS, hO⟩
  · rw [if_neg c, if_pos c]
    dsimp only
    exact ⟨rfl, ⟨a1, a2, a3, a4, a5, a6⟩, hS, hO⟩
