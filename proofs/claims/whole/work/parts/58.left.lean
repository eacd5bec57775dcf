-- most laws left, as the class has them
def FZ (le : Nat → Int32) (day q : Nat) : Int := (le q).toInt + slZ q day
theorem fm_Z (le : Nat → Int32) (day q : Nat) : fmA le day q = oZ (FZ le day q) := by
  unfold fmA FZ
  rw [sl_I, ← oZ_add, ← oZ_x]
def aN (le mo : Nat → Int32) (day q : Nat) : Nat := if (le q).toInt ≤ (mo q).toInt then ((if 1 < FZ mo day q then 1 else FZ mo day q) - FZ le day q + 1).toNat else 0
def bN (le mo : Nat → Int32) (day q : Nat) : Nat := if (le q).toInt ≤ (mo q).toInt then (FZ mo day q - (if FZ le day q < 200 then 200 else FZ le day q) + 1).toNat else 0
def rN (le mo : Nat → Int32) (day t q : Nat) : Nat := if (le q).toInt ≤ (mo q).toInt ∧ (if FZ le day q < 2 then 2 else FZ le day q) ≤ 1 + (t : Int) ∧ 1 + (t : Int) ≤ (if 199 < FZ mo day q then 199 else FZ mo day q) then 1 else 0
def preF (rise : Nat → Int32) : Nat → Int32
  | 0 => 0
  | t + 1 => preF rise t + rise (2 + t)
theorem pre_hr (rise : Nat → Int32) : ∀ t, (itr (hrS rise) t (0, 0)).2 = preF rise t
  | 0 => rfl
  | t + 1 => by
    rw [itr_s]
    show (itr (hrS rise) t (0, 0)).2 + rise (2 + t) = preF rise t + rise (2 + t)
    rw [pre_hr rise t]
theorem i_1 (a b : Int32) : a + 1 + (b - 1) = a + b + 0 := by
  obtain ⟨x, rfl⟩ : ∃ x, a = oZ x := ⟨_, oZ_x a⟩
  obtain ⟨y, rfl⟩ : ∃ x, b = oZ x := ⟨_, oZ_x b⟩
  show oZ x + oZ 1 + (oZ y - oZ 1) = oZ x + oZ y + oZ 0
  rw [oZ_add, oZ_sub, oZ_add, oZ_add, oZ_add]
  congr 1
  omega
theorem i_2 (a b c d : Int32) (h : c = d) : a + c + b = a + b + d := by
  rw [h, Int32.add_assoc, Int32.add_comm d b, ← Int32.add_assoc]
theorem i_3 (a b : Int32) : a + 0 + (b + 1) = a + b + 1 := by
  rw [show a + 0 = a from Int32.add_zero a, Int32.add_assoc]
theorem pre_rs {rise : Nat → Int32} {X Y : Nat} (hX : 2 ≤ X) (hXY : X ≤ Y) (hY : Y ≤ 199) : ∀ t, preF (rsF rise (nI X) (nI Y)) t = preF rise t + (if X ≤ 1 + t ∧ 1 + t ≤ Y then 1 else 0)
  | 0 => by
    rw [if_neg (by omega)]; rfl
  | t + 1 => by
    have ih := pre_rs (rise := rise) hX hXY hY t
    have hr : ∀ j, rsF rise (nI X) (nI Y) j = if j = Y + 1 then rise j - 1 else if j = X then rise j + 1 else rise j := by
      intro j
      unfold rsF
      rw [if_pos ((nx_le (a := X) (b := Y) rfl rfl (by omega) (by omega)).mpr hXY), nI_clamp (by omega), nI_clamp (by omega)]
      by_cases c : j = Y + 1
      · rw [if_pos c, c, pk_us, pk_un (by omega)]
      · rw [if_neg c, pk_un c]
        by_cases d : j = X
        · rw [if_pos d, d, pk_us]
        · rw [if_neg d, pk_un d]
    show preF (rsF rise (nI X) (nI Y)) t + rsF rise (nI X) (nI Y) (2 + t) = preF rise t + rise (2 + t) + _
    rw [ih, hr]
    by_cases c : 2 + t = Y + 1
    · rw [if_pos c, if_pos (by omega), if_neg (by omega)]; exact i_1 _ _
    · rw [if_neg c]
      by_cases d : 2 + t = X
      · rw [if_pos d, if_neg (by omega), if_pos (by omega)]; exact i_3 _ _
      · rw [if_neg d]
        refine i_2 _ _ _ _ ?_
        by_cases e : X ≤ 1 + t ∧ 1 + t ≤ Y
        · rw [if_pos e, if_pos (by omega)]
        · rw [if_neg e, if_neg (by omega)]
theorem fz_b {le mo : Nat → Int32} (h : lmOK le mo) {day q : Nat} (hd : day ≤ 60) (hq : q < 19) : (-540 ≤ FZ le day q ∧ FZ le day q ≤ 1280) ∧ (-1280 ≤ FZ mo day q ∧ FZ mo day q ≤ 740) ∧ FZ mo day q - FZ le day q ≤ 199 ∧ ((le q).toInt ≤ (mo q).toInt ↔ FZ le day q ≤ FZ mo day q) := by
  have hb := h q hq
  have hs := sl_b hq hd
  unfold FZ
  omega
theorem ml_s {le mo : Nat → Int32} (h : lmOK le mo) {day : Nat} (hd : day ≤ 60) : ∀ n, n ≤ 19 → (mlI le mo day n).1 = nI (sumN (aN le mo day) n) ∧ (mlI le mo day n).2.1 = nI (sumN (bN le mo day) n) ∧ ∀ t, t ≤ 198 → preF (mlI le mo day n).2.2 t = nI (sumN (rN le mo day t) n)
  | 0, _ => by
    refine ⟨rfl, rfl, fun t _ => ?_⟩
    show preF (fun _ => 0) t = nI 0
    induction t with
    | zero => rfl
    | succ t ih =>
      show preF (fun _ => 0) t + 0 = nI 0
      rw [ih (by omega)]; rfl
  | n + 1, hn => by
    obtain ⟨i1, i2, i3⟩ := ml_s h hd n (by omega)
    obtain ⟨hF, hT, hw, hlm⟩ := fz_b h hd (show n < 19 by omega)
    have em : mlI le mo day (n + 1) = mlS le mo day n (mlI le mo day n) := rfl
    have hle : le n ≤ mo n ↔ (le n).toInt ≤ (mo n).toInt := Int32.le_iff_toInt_le
    rw [em]
    generalize mlI le mo day n = x at i1 i2 i3 ⊢
    unfold mlS
    by_cases c : (le n).toInt ≤ (mo n).toInt
    · rw [if_pos (hle.mpr c)]
      have hFT := hlm.mp c
      show x.1 + _ = nI (sumN (aN le mo day) n + aN le mo day n) ∧ x.2.1 + _ = nI (sumN (bN le mo day) n + bN le mo day n) ∧ ∀ t, t ≤ 198 → preF (rsF x.2.2 _ _) t = nI (sumN (rN le mo day t) n + rN le mo day t n)
      have ea : aN le mo day n = ((if 1 < FZ mo day n then 1 else FZ mo day n) - FZ le day n + 1).toNat := if_pos c
      have eb : bN le mo day n = (FZ mo day n - (if FZ le day n < 200 then 200 else FZ le day n) + 1).toNat := if_pos c
      have er : ∀ t, rN le mo day t n = if (if FZ le day n < 2 then 2 else FZ le day n) ≤ 1 + (t : Int) ∧ 1 + (t : Int) ≤ (if 199 < FZ mo day n then 199 else FZ mo day n) then 1 else 0 := by
        intro t
        unfold rN
        by_cases y : (if FZ le day n < 2 then 2 else FZ le day n) ≤ 1 + (t : Int) ∧ 1 + (t : Int) ≤ (if 199 < FZ mo day n then 199 else FZ mo day n)
        · rw [if_pos y, if_pos ⟨c, y⟩]
        · rw [if_neg y, if_neg (fun z => y z.2)]
      rw [fm_Z, fm_Z]
      generalize FZ le day n = F at hF hw hFT ea eb er ⊢
      generalize FZ mo day n = T at hT hw hFT ea eb er ⊢
      have bF : sB F := ⟨by omega, by omega⟩
      have bT : sB T := ⟨by omega, by omega⟩
      have m1 : (if 1 < oZ T then 1 else oZ T) = oZ (if 1 < T then 1 else T) := by
        by_cases y : 1 < T
        · rw [if_pos y, if_pos (by rw [oZ_1, oZ_lt (by decide) bT]; exact y)]; rfl
        · rw [if_neg y, if_neg (by rw [oZ_1, oZ_lt (by decide) bT]; exact y)]
      have m2 : (if oZ F < 200 then 200 else oZ F) = oZ (if F < 200 then 200 else F) := by
        by_cases y : F < 200
        · rw [if_pos y, if_pos (by rw [oZ_200, oZ_lt bF (by decide)]; exact y)]; rfl
        · rw [if_neg y, if_neg (by rw [oZ_200, oZ_lt bF (by decide)]; exact y)]
      have m3 : (if oZ F < 2 then 2 else oZ F) = oZ (if F < 2 then 2 else F) := by
        by_cases y : F < 2
        · rw [if_pos y, if_pos (by rw [oZ_2, oZ_lt bF (by decide)]; exact y)]; rfl
        · rw [if_neg y, if_neg (by rw [oZ_2, oZ_lt bF (by decide)]; exact y)]
      have m4 : (if 199 < oZ T then 199 else oZ T) = oZ (if 199 < T then 199 else T) := by
        by_cases y : 199 < T
        · rw [if_pos y, if_pos (by rw [oZ_199, oZ_lt (by decide) bT]; exact y)]; rfl
        · rw [if_neg y, if_neg (by rw [oZ_199, oZ_lt (by decide) bT]; exact y)]
      have pz : ∀ z : Int, sB z → (if 0 < oZ z then oZ z else 0) = nI z.toNat := by
        intro z hz
        by_cases y : 0 < z
        · rw [if_pos (by rw [oZ_0, oZ_lt (by decide) hz]; exact y), oZ_n, Int.toNat_of_nonneg (by omega)]
        · rw [if_neg (by rw [oZ_0, oZ_lt (by decide) hz]; exact y), Int.toNat_of_nonpos (by omega)]; rfl
      rw [m1, m2, m3, m4]
      refine ⟨?_, ?_, fun t ht => ?_⟩
      · have e : oZ (if 1 < T then 1 else T) - oZ F + 1 = oZ ((if 1 < T then 1 else T) - F + 1) := by
          rw [oZ_sub, oZ_1, oZ_add]
        have bz : sB ((if 1 < T then 1 else T) - F + 1) := by split <;> exact ⟨by omega, by omega⟩
        rw [e, pz _ bz, i1, nI_add, ea]
      · have e : oZ T - oZ (if F < 200 then 200 else F) + 1 = oZ (T - (if F < 200 then 200 else F) + 1) := by
          rw [oZ_sub, oZ_1, oZ_add]
        have bz : sB (T - (if F < 200 then 200 else F) + 1) := by split <;> exact ⟨by omega, by omega⟩
        rw [e, pz _ bz, i2, nI_add, eb]
      · rw [er]
        generalize hX : (if F < 2 then 2 else F) = X
        generalize hY : (if 199 < T then 199 else T) = Y
        have bX : 2 ≤ X ∧ X ≤ 1280 := by rw [← hX]; split <;> omega
        have bY : -1280 ≤ Y ∧ Y ≤ 199 := by rw [← hY]; split <;> omega
        by_cases y : X ≤ Y
        · have e1 : oZ X = nI X.toNat := by rw [oZ_n, Int.toNat_of_nonneg (by omega)]
          have e2 : oZ Y = nI Y.toNat := by rw [oZ_n, Int.toNat_of_nonneg (by omega)]
          rw [e1, e2, pre_rs (by omega) (by omega) (by omega), i3 t ht]
          by_cases w : X ≤ 1 + (t : Int) ∧ 1 + (t : Int) ≤ Y
          · rw [if_pos w, if_pos (by omega), ← nI_add]; rfl
          · rw [if_neg w, if_neg (by omega), ← nI_add]; rfl
        · have e0 : rsF x.2.2 (oZ X) (oZ Y) = x.2.2 := if_neg (by rw [oZ_le ⟨by omega, by omega⟩ ⟨by omega, by omega⟩]; exact y)
          rw [e0, i3 t ht, if_neg (by omega)]; rfl
    · rw [if_neg (fun z => c (hle.mp z))]
      have ea : aN le mo day n = 0 := if_neg c
      have eb : bN le mo day n = 0 := if_neg c
      have er : ∀ t, rN le mo day t n = 0 := fun t => if_neg (fun z => c z.1)
      refine ⟨?_, ?_, fun t ht => ?_⟩
      · show x.1 = nI (sumN (aN le mo day) n + aN le mo day n)
        rw [ea]; exact i1
      · show x.2.1 = nI (sumN (bN le mo day) n + bN le mo day n)
        rw [eb]; exact i2
      · show preF x.2.2 t = nI (sumN (rN le mo day t) n + rN le mo day t n)
        rw [er]; exact i3 t ht
theorem hr_max {rise : Nat → Int32} {c : Nat → Nat} (hc : ∀ t, c t ≤ 1000) (h : ∀ t, t ≤ 198 → preF rise t = nI (c t)) : ∀ t, t ≤ 198 → ∃ M, (itr (hrS rise) t (0, 0)).1 = nI M ∧ M ≤ 1000 ∧ (∀ j, 1 ≤ j → j ≤ t → c j ≤ M) ∧ (M = 0 ∨ ∃ j, 1 ≤ j ∧ j ≤ t ∧ c j = M)
  | 0, _ => ⟨0, rfl, by omega, fun j h1 h2 => by omega, Or.inl rfl⟩
  | t + 1, ht => by
    obtain ⟨M, e, hM, h1, h2⟩ := hr_max hc h t (by omega)
    have e2 : (itr (hrS rise) t (0, 0)).2 + rise (2 + t) = nI (c (t + 1)) := by
      rw [pre_hr]
      exact h (t + 1) ht
    have hct := hc (t + 1)
    rw [itr_s]
    show ∃ M, (if (itr (hrS rise) t (0, 0)).1 < (itr (hrS rise) t (0, 0)).2 + rise (2 + t) then (itr (hrS rise) t (0, 0)).2 + rise (2 + t) else (itr (hrS rise) t (0, 0)).1) = nI M ∧ _
    rw [e, e2]
    by_cases y : M < c (t + 1)
    · refine ⟨c (t + 1), if_pos ((nx_lt (a := M) (b := c (t + 1)) rfl rfl (by omega) (by omega)).mpr y), hct, fun j h3 h4 => ?_, Or.inr ⟨t + 1, by omega, by omega, rfl⟩⟩
      rcases Nat.lt_or_ge j (t + 1) with q | q
      · have := h1 j h3 (by omega); omega
      · rw [show j = t + 1 by omega]; exact Nat.le_refl _
    · refine ⟨M, if_neg (fun z => y ((nx_lt (a := M) (b := c (t + 1)) rfl rfl (by omega) (by omega)).mp z)), hM, fun j h3 h4 => ?_, ?_⟩
      · rcases Nat.lt_or_ge j (t + 1) with q | q
        · exact h1 j h3 (by omega)
        · rw [show j = t + 1 by omega]; omega
      · rcases h2 with q | ⟨j, q1, q2, q3⟩
        · exact Or.inl q
        · exact Or.inr ⟨j, q1, by omega, q3⟩
