theorem r_told {r : Rl} {book week sight : Nat → Int32} {sk sn : Nat} (h : RR r book week sight sk) (what : Int32) : k_told what sn r = toM book week (nI sn) (nI sk) what := by
  obtain ⟨⟨a1, a2, a3, a4, a5, a6⟩, ⟨s1, s2, -, -⟩, -⟩ := h
  have hms : ∀ o, o < 6 → msC r o = msM book o := fun o ho => ms_eq ⟨a1, a2, a3, a4, a5, a6⟩ ho
  by_cases hneg : 0 ≤ what
  · obtain ⟨w, hw, rfl⟩ := nI_of (Int32.not_lt.mpr hneg)
    have hb : ∀ c : Nat, c < 2147483648 → (nI c ≤ nI w ↔ c ≤ w) := fun c hc => nI_leI hc hw
    have hc : ∀ c : Nat, c < 2147483648 → (nI w ≤ nI c ↔ w ≤ c) := fun c hc => nI_leI hw hc
    have he : ∀ c : Nat, c < 2147483648 → (nI w = nI c ↔ w = c) := fun c hc => nI_eq hw hc
    have b0 : (0 ≤ nI w) ↔ 0 ≤ w := hb 0 (by omega)
    have b10 : (10 ≤ nI w) ↔ 10 ≤ w := hb 10 (by omega)
    have b20 : (20 ≤ nI w) ↔ 20 ≤ w := hb 20 (by omega)
    have b40 : (40 ≤ nI w) ↔ 40 ≤ w := hb 40 (by omega)
    have b100 : (100 ≤ nI w) ↔ 100 ≤ w := hb 100 (by omega)
    have c3 : (nI w ≤ 3) ↔ w ≤ 3 := hc 3 (by omega)
    have c16 : (nI w ≤ 16) ↔ w ≤ 16 := hc 16 (by omega)
    have c27 : (nI w ≤ 27) ↔ w ≤ 27 := hc 27 (by omega)
    have c99 : (nI w ≤ 99) ↔ w ≤ 99 := hc 99 (by omega)
    have c139 : (nI w ≤ 139) ↔ w ≤ 139 := hc 139 (by omega)
    have e0 : (nI w = 0) ↔ w = 0 := he 0 (by omega)
    have e1 : (nI w = 1) ↔ w = 1 := he 1 (by omega)
    have e2 : (nI w = 2) ↔ w = 2 := he 2 (by omega)
    have e3 : (nI w = 3) ↔ w = 3 := he 3 (by omega)
    unfold k_told toM
    rw [nI_clamp hw]
    simp only [b0, b10, b20, b40, b100, c3, c16, c27, c99, c139, e0, e1, e2, e3]
    by_cases z1 : w ≤ 3
    · rw [if_pos ⟨Nat.zero_le _, z1⟩, if_neg (show ¬ 100 ≤ w by omega), if_neg (show ¬ 40 ≤ w by omega), if_neg (show ¬ 20 ≤ w by omega), if_neg (show ¬ 10 ≤ w by omega)]
      rcases (show w = 0 ∨ w = 1 ∨ w = 2 ∨ w = 3 by omega) with rfl | rfl | rfl | rfl
      · simp
      · simp; exact a4
      · simp; exact a5
      · simp; exact s1
    · rw [if_neg (fun z => z1 z.2)]
      by_cases z2 : 10 ≤ w ∧ w ≤ 16
      · rw [if_pos z2, if_neg (show ¬ 100 ≤ w by omega), if_neg (show ¬ 40 ≤ w by omega), if_neg (show ¬ 20 ≤ w by omega), if_pos z2.1, if_pos z2.2]
        exact congrArg (· + 9) (a6 (w - 10) (by omega))
      · rw [if_neg z2]
        by_cases z3 : 20 ≤ w ∧ w ≤ 27
        · rw [if_pos z3, if_neg (show ¬ 100 ≤ w by omega), if_neg (show ¬ 40 ≤ w by omega), if_pos z3.1, if_pos (show w - 20 ≤ 7 by omega)]
          rw [show 18 + w - 20 = 18 + (w - 20) by omega]
          exact a2 (w - 20) (by omega)
        · rw [if_neg z3]
          by_cases z4 : 40 ≤ w ∧ w ≤ 99
          · rw [if_pos z4, if_neg (show ¬ 100 ≤ w by omega), if_pos z4.1, show (w - 40) / 10 = w / 10 - 4 by omega]
            have ho : w / 10 - 4 < 6 := by omega
            by_cases q0 : w % 10 = 0
            · rw [if_pos q0, if_pos (by omega), if_neg (by omega), q0, show 6 * 0 + (w / 10 - 4) = w / 10 - 4 by omega]; exact (a1 _ ho).1
            · by_cases q1 : w % 10 = 1
              · rw [if_neg q0, if_pos q1, if_pos (by omega), if_neg (by omega), q1]; exact (a1 _ ho).2.1
              · by_cases q2 : w % 10 = 2
                · rw [if_neg q0, if_neg q1, if_pos q2, if_pos (by omega), if_neg (by omega), q2]; exact (a1 _ ho).2.2
                · by_cases q3 : w % 10 = 3
                  · rw [if_neg q0, if_neg q1, if_neg q2, if_pos q3, if_pos (by omega), if_pos q3]; exact hms _ ho
                  · rw [if_neg q0, if_neg q1, if_neg q2, if_neg q3, if_neg (by omega)]
          · rw [if_neg z4]
            by_cases z5 : 100 ≤ w ∧ w ≤ 139
            · rw [if_pos z5, if_pos z5.1, show (w - 100) / 10 = w / 10 - 10 by omega]
              have ho : w / 10 - 10 < 4 := by omega
              by_cases q0 : w % 10 = 0
              · rw [if_pos q0, if_pos (by omega), if_pos q0]; exact (a3 _ ho).1
              · by_cases q1 : w % 10 = 1
                · rw [if_neg q0, if_pos q1, if_pos (by omega), if_neg q0, q1]; exact (a3 _ ho).2.1
                · by_cases q2 : w % 10 = 2
                  · rw [if_neg q0, if_neg q1, if_pos q2, if_pos (by omega), if_neg q0, q2]; exact (a3 _ ho).2.2
                  · rw [if_neg q0, if_neg q1, if_neg q2, if_neg (by omega)]
            · rw [if_neg z5]
              by_cases y1 : 100 ≤ w
              · rw [if_pos y1, if_neg (by omega)]
              · rw [if_neg y1, if_neg (show ¬ 40 ≤ w by omega)]
                by_cases y2 : 20 ≤ w
                · rw [if_pos y2, if_neg (by omega)]
                · rw [if_neg y2]
                  by_cases y3 : 10 ≤ w
                  · rw [if_pos y3, if_neg (by omega)]
                  · rw [if_neg y3, if_neg (by omega), if_neg (by omega), if_neg (by omega)]
  · have hn : ∀ c : Int32, 0 ≤ c → ¬ c ≤ what := fun c hc z => hneg (Int32.le_trans hc z)
    have hz : ∀ c : Int32, 0 ≤ c → ¬ what = c := fun c hc z => hneg (z ▸ hc)
    unfold k_told toM
    rw [if_neg (fun z => hneg z.1), if_neg (fun z => hn 10 (by decide) z.1), if_neg (fun z => hn 20 (by decide) z.1), if_neg (fun z => hn 40 (by decide) z.1), if_neg (fun z => hn 100 (by decide) z.1), if_neg (hn 100 (by decide)), if_neg (hn 40 (by decide)), if_neg (hn 20 (by decide)), if_neg (hn 10 (by decide)), if_neg (hz 0 (by decide)), if_neg (fun z => z.elim (hz 1 (by decide)) (hz 2 (by decide))), if_neg (hz 3 (by decide))]
