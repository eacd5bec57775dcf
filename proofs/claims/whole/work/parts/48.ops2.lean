theorem r_one {r : Rl} {book week sight : Nat → Int32} {sk : Nat} (h : RR r book week sight sk) (k p c u : Int32) : (k_one k p c u r).1 = (f_one book k p c u).1 ∧ RR (k_one k p c u r).2 (f_one book k p c u).2 week sight sk := by
  obtain ⟨inch, day, sights, wk, purse, cloth, ruler, stick, span, west, east, sightDay, sightInch⟩ := r
  obtain ⟨⟨a1, a2, a3, a4, a5, a6⟩, hS, o1, o2, o3, o4⟩ := h
  unfold k_one f_one
  dsimp only
  by_cases z1 : 0 ≤ k ∧ k ≤ 5
  · rw [if_pos z1, if_neg (not_not_intro z1)]
    by_cases e : (0 ≤ p ∧ p ≤ 9999) ∧ (0 ≤ c ∧ c ≤ 99999) ∧ (0 ≤ u ∧ u ≤ 200)
    · rw [if_pos e, if_pos e]
      dsimp only
      obtain ⟨j, -, h2, rfl⟩ := nx_in (a := 0) (b := 5) rfl rfl (by decide) (by decide) z1
      rw [nI_clamp (by omega)]
      refine ⟨(a1 j (by omega)).1, ⟨fun o ho => ?_, fun s hs => ?_, fun b hb => ?_, ?_, ?_, a6⟩, hS, o1, o2, fun o ho => ?_, o4⟩
      · show upd purse j p o = _ ∧ upd cloth j c o = _ ∧ upd ruler j u o = _
        by_cases z : o = j
        · subst z
          refine ⟨?_, ?_, ?_⟩
          · rw [pk_us, pk_un (by omega), pk_un (by omega), pk_us]
          · rw [pk_us, pk_un (by omega), pk_us]
          · rw [pk_us, pk_us]
        · refine ⟨?_, ?_, ?_⟩
          · rw [pk_un z, pk_un (by omega), pk_un (by omega), pk_un (by omega)]; exact (a1 o ho).1
          · rw [pk_un z, pk_un (by omega), pk_un (by omega), pk_un (by omega)]; exact (a1 o ho).2.1
          · rw [pk_un z, pk_un (by omega), pk_un (by omega), pk_un (by omega)]; exact (a1 o ho).2.2
      · rw [pk_un (by omega), pk_un (by omega), pk_un (by omega)]; exact a2 s hs
      · refine ⟨?_, ?_, ?_⟩
        · rw [pk_un (by omega), pk_un (by omega), pk_un (by omega)]; exact (a3 b hb).1
        · rw [pk_un (by omega), pk_un (by omega), pk_un (by omega)]; exact (a3 b hb).2.1
        · rw [pk_un (by omega), pk_un (by omega), pk_un (by omega)]; exact (a3 b hb).2.2
      · rw [pk_un (by omega), pk_un (by omega), pk_un (by omega)]; exact a4
      · rw [pk_un (by omega), pk_un (by omega), pk_un (by omega)]; exact a5
      · show upd ruler j u o = 0 ∨ inOK (upd ruler j u o)
        by_cases z : o = j
        · rw [z, pk_us]
          by_cases y : u = 0
          · exact Or.inl y
          · refine Or.inr ?_
            obtain ⟨x, -, h4, h5⟩ := nx_in (a := 0) (b := 200) rfl rfl (by decide) (by decide) e.2.2
            exact inOK_of h5 (Nat.pos_of_ne_zero fun q => y (by rw [h5, q]; rfl)) h4
        · rw [pk_un z]; exact o3 o ho
    · rw [if_neg e, if_neg e]
      exact ⟨rfl, ⟨a1, a2, a3, a4, a5, a6⟩, hS, o1, o2, o3, o4⟩
  · rw [if_neg z1, if_pos z1]
    exact ⟨rfl, ⟨a1, a2, a3, a4, a5, a6⟩, hS, o1, o2, o3, o4⟩
theorem r_seen {r : Rl} {book week sight : Nat → Int32} {sk : Nat} (h : RR r book week sight sk) (d v : Int32) : (k_seen d v r).1 = (f_seen sk sight d v).1 ∧ RR (k_seen d v r).2 book week (f_seen sk sight d v).2.2 (f_seen sk sight d v).2.1 := by
  obtain ⟨inch, day, sights, wk, purse, cloth, ruler, stick, span, west, east, sightDay, sightInch⟩ := r
  obtain ⟨hN, ⟨s1, s2, s3, s4⟩, hO⟩ := h
  have s1' : sights = nI sk := s1
  have hsk : sights.toNatClampNeg = sk := by rw [s1']; exact nI_clamp (by omega)
  unfold k_seen f_seen
  dsimp only
  rw [hsk]
  by_cases c : (0 ≤ d ∧ d ≤ 60) ∧ (1 ≤ v ∧ v ≤ 200)
  · rw [if_pos c, if_neg (not_not_intro c)]
    by_cases e : sk = 8
    · rw [if_pos (show 8 ≤ sk by omega), if_pos e]
      exact ⟨rfl, hN, ⟨s1, s2, s3, s4⟩, hO⟩
    · rw [if_neg (show ¬ 8 ≤ sk by omega), if_neg e]
      refine ⟨rfl, hN, ⟨rfl, by show sk + 1 ≤ 8; omega, fun i hi => ?_, fun i hi => ?_⟩, hO⟩
      · show upd sightDay sk d i = upd (upd sight (2 * sk) d) (2 * sk + 1) v (2 * i) ∧ upd sightInch sk v i = upd (upd sight (2 * sk) d) (2 * sk + 1) v (2 * i + 1)
        by_cases z : i = sk
        · rw [z]
          refine ⟨?_, ?_⟩
          · rw [pk_us, pk_un (by omega), pk_us]
          · rw [pk_us, pk_us]
        · refine ⟨?_, ?_⟩
          · rw [pk_un z, pk_un (by omega), pk_un (by omega)]; exact (s3 i hi).1
          · rw [pk_un z, pk_un (by omega), pk_un (by omega)]; exact (s3 i hi).2
      · show (∃ y : Nat, y ≤ 60 ∧ upd sightDay sk d i = nI y) ∧ inOK (upd sightInch sk v i)
        have hi' : i < sk + 1 := hi
        by_cases z : i = sk
        · rw [z, pk_us, pk_us]
          obtain ⟨y, -, h4, h5⟩ := nx_in (a := 0) (b := 60) rfl rfl (by decide) (by decide) c.1
          exact ⟨⟨y, h4, h5⟩, in_of c.2⟩
        · rw [pk_un z, pk_un z]; exact s4 i (by omega)
  · rw [if_neg c, if_pos c]
    exact ⟨rfl, hN, ⟨s1, s2, s3, s4⟩, hO⟩
theorem r_forget {r : Rl} {book week sight : Nat → Int32} {sk : Nat} (h : RR r book week sight sk) : (k_forget r).1 = nI sk ∧ RR (k_forget r).2 book week sight 0 := by
  obtain ⟨inch, day, sights, wk, purse, cloth, ruler, stick, span, west, east, sightDay, sightInch⟩ := r
  obtain ⟨hN, ⟨s1, s2, s3, s4⟩, hO⟩ := h
  exact ⟨s1, hN, ⟨rfl, Nat.zero_le _, s3, fun i hi => absurd hi (Nat.not_lt_zero i)⟩, hO⟩
theorem r_say {sn : Nat} {signs pad : Nat → Int32} (h : sn ≤ 60 ∧ ∀ j, j < sn → signs j = pad j) (v : Int32) : (if 33 ≤ v ∧ v ≤ 126 then (if 60 ≤ sn then -4 else nI (sn + 1)) else -2) = (f_say sn pad v).1 ∧ (if 33 ≤ v ∧ v ≤ 126 then (if 60 ≤ sn then nI sn else nI (sn + 1)) else nI sn) = nI (f_say sn pad v).2.1 ∧ ((f_say sn pad v).2.1 ≤ 60 ∧ ∀ j, j < (f_say sn pad v).2.1 → (if 33 ≤ v ∧ v ≤ 126 then (if 60 ≤ sn then signs else upd signs sn v) else signs) j = (f_say sn pad v).2.2 j) := by
  unfold f_say
  by_cases c : 33 ≤ v ∧ v ≤ 126
  · rw [if_pos c, if_pos c, if_pos c, if_neg (not_not_intro c)]
    by_cases e : sn = 60
    · rw [if_pos (show 60 ≤ sn by omega), if_pos (show 60 ≤ sn by omega), if_pos (show 60 ≤ sn by omega), if_pos e]
      exact ⟨rfl, rfl, h⟩
    · rw [if_neg (show ¬ 60 ≤ sn by omega), if_neg (show ¬ 60 ≤ sn by omega), if_neg (show ¬ 60 ≤ sn by omega), if_neg e]
      refine ⟨rfl, rfl, by show sn + 1 ≤ 60; omega, fun j hj => ?_⟩
      have hj' : j < sn + 1 := hj
      show upd signs sn v j = upd pad sn v j
      by_cases z : j = sn
      · rw [z, pk_us, pk_us]
      · rw [pk_un z, pk_un z]; exact h.2 j (by omega)
  · rw [if_neg c, if_neg c, if_neg c, if_pos c]
    exact ⟨rfl, rfl, h⟩
