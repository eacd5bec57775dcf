-- laws: small numbers
abbrev oZ (z : Int) : Int32 := Int32.ofInt z
abbrev sB (z : Int) : Prop := -1000000 ≤ z ∧ z ≤ 1000000
theorem oZ_n (n : Nat) : nI n = oZ (n : Int) := Int32.ofInt_eq_ofNat.symm
theorem oZ_t {z : Int} (h : sB z) : (oZ z).toInt = z := Int32.toInt_ofInt_of_le (by have := h.1; omega) (by have := h.2; omega)
theorem oZ_x (x : Int32) : x = oZ x.toInt := (Int32.ofInt_toInt x).symm
theorem oZ_le {y z : Int} (hy : sB y) (hz : sB z) : oZ y ≤ oZ z ↔ y ≤ z := by rw [Int32.le_iff_toInt_le, oZ_t hy, oZ_t hz]
theorem oZ_lt {y z : Int} (hy : sB y) (hz : sB z) : oZ y < oZ z ↔ y < z := by rw [Int32.lt_iff_toInt_lt, oZ_t hy, oZ_t hz]
theorem oZ_eq {y z : Int} (hy : sB y) (hz : sB z) : oZ y = oZ z ↔ y = z := by rw [← Int32.toInt_inj, oZ_t hy, oZ_t hz]
theorem oZ_add (y z : Int) : oZ y + oZ z = oZ (y + z) := (Int32.ofInt_add y z).symm
theorem oZ_sub (y z : Int) : oZ y - oZ z = oZ (y - z) := (Int32.ofInt_sub y z).symm
theorem oZ_mul (y z : Int) : oZ y * oZ z = oZ (y * z) := (Int32.ofInt_mul y z).symm
theorem oZ_1 : (1 : Int32) = oZ 1 := rfl
theorem oZ_2 : (2 : Int32) = oZ 2 := rfl
theorem oZ_0 : (0 : Int32) = oZ 0 := rfl
theorem oZ_9 : (9 : Int32) = oZ 9 := rfl
theorem oZ_199 : (199 : Int32) = oZ 199 := rfl
theorem oZ_200 : (200 : Int32) = oZ 200 := rfl
def slZ (p d : Nat) : Int := ((p : Int) - 9) * d
theorem sl_b {p d : Nat} (hp : p < 19) (hd : d ≤ 60) : -540 ≤ slZ p d ∧ slZ p d ≤ 540 := by
  have h1 : ((p : Int) - 9) * d ≤ 9 * d := Int.mul_le_mul_of_nonneg_right (by omega) (by omega)
  have h2 : (-9) * (d : Int) ≤ ((p : Int) - 9) * d := Int.mul_le_mul_of_nonneg_right (by omega) (by omega)
  unfold slZ
  generalize ((p : Int) - 9) * d = s at h1 h2 ⊢
  omega
theorem sl_I (p d : Nat) : (nI p - 9) * nI d = oZ (slZ p d) := by
  unfold slZ
  rw [oZ_n, oZ_n, oZ_9, oZ_sub, oZ_mul]
theorem st_I (p d v : Nat) : stP p (nI d) (nI v) = oZ ((v : Int) - slZ p d) := by
  unfold stP
  rw [sl_I, oZ_n, oZ_sub]
def clZ (z : Int) : Int := if z < 1 then 1 else if 200 < z then 200 else z
theorem cl_Z {z : Int} (h : sB z) : clampI (oZ z) = oZ (clZ z) := by
  have b1 : sB 1 := by decide
  have b2 : sB 200 := by decide
  unfold clampI clZ
  by_cases h1 : z < 1
  · rw [if_pos h1, if_pos (by rw [oZ_1, oZ_lt h b1]; exact h1)]; rfl
  · rw [if_neg h1, if_neg (by rw [oZ_1, oZ_lt h b1]; exact h1)]
    by_cases h2 : 200 < z
    · rw [if_pos h2, if_pos (by rw [oZ_200, oZ_lt b2 h]; exact h2)]; rfl
    · rw [if_neg h2, if_neg (by rw [oZ_200, oZ_lt b2 h]; exact h2)]
theorem st_iff {a p d v : Nat} (ha : 1 ≤ a ∧ a ≤ 200) (hp : p < 19) (hd : d ≤ 60) (hv : 1 ≤ v ∧ v ≤ 200) : clampI (nI a + (nI p - 9) * nI d) = nI v ↔ (nI v ≤ 1 ∨ stP p (nI d) (nI v) ≤ nI a) ∧ (200 ≤ nI v ∨ nI a ≤ stP p (nI d) (nI v)) := by
  have hs := sl_b hp hd
  rw [st_I, sl_I, oZ_n a, oZ_n v, oZ_add]
  generalize slZ p d = s at hs ⊢
  have b0 : sB ((a : Int) + s) := ⟨by omega, by omega⟩
  have b1 : sB ((v : Int) - s) := ⟨by omega, by omega⟩
  have b2 : sB (a : Int) := ⟨by omega, by omega⟩
  have b3 : sB (v : Int) := ⟨by omega, by omega⟩
  have b4 : sB (clZ ((a : Int) + s)) := by
    unfold clZ
    split
    · decide
    · split
      · decide
      · exact b0
  rw [cl_Z b0, oZ_eq b4 b3, oZ_1, oZ_200, oZ_le b3 (by decide), oZ_le b1 b2, oZ_le (by decide) b3, oZ_le b2 b1]
  unfold clZ
  split
  · omega
  · split <;> omega
theorem lo_iff {sd si : Nat → Int32} {p : Nat} {y : Int32} : ∀ n, loF sd si n p ≤ y ↔ 1 ≤ y ∧ ∀ i, i < n → (si i ≤ 1 ∨ stP p (sd i) (si i) ≤ y)
  | 0 => ⟨fun h => ⟨h, fun i hi => absurd hi (Nat.not_lt_zero _)⟩, fun h => h.1⟩
  | n + 1 => by
    have ih := lo_iff (sd := sd) (si := si) (p := p) (y := y) n
    have key : loS sd si p n (loF sd si n p) ≤ y ↔ loF sd si n p ≤ y ∧ (si n ≤ 1 ∨ stP p (sd n) (si n) ≤ y) := by
      unfold loS
      by_cases h1 : si n ≤ 1
      · rw [if_pos h1]; exact ⟨fun z => ⟨z, Or.inl h1⟩, fun z => z.1⟩
      · rw [if_neg h1]
        by_cases h2 : loF sd si n p < stP p (sd n) (si n)
        · rw [if_pos h2]
          exact ⟨fun z => ⟨Int32.le_trans (Int32.le_of_lt h2) z, Or.inr z⟩, fun z => z.2.resolve_left h1⟩
        · rw [if_neg h2]
          exact ⟨fun z => ⟨z, Or.inr (Int32.le_trans (Int32.not_lt.mp h2) z)⟩, fun z => z.1⟩
    show loS sd si p n (loF sd si n p) ≤ y ↔ _
    rw [key, ih]
    constructor
    · rintro ⟨⟨h1, h2⟩, h3⟩
      refine ⟨h1, fun i hi => ?_⟩
      rcases Nat.lt_or_ge i n with q | q
      · exact h2 i q
      · rw [show i = n by omega]; exact h3
    · rintro ⟨h1, h2⟩
      exact ⟨⟨h1, fun i hi => h2 i (by omega)⟩, h2 n (by omega)⟩
theorem mo_iff {sd si : Nat → Int32} {p : Nat} {y : Int32} : ∀ n, y ≤ moF sd si n p ↔ y ≤ 200 ∧ ∀ i, i < n → (200 ≤ si i ∨ y ≤ stP p (sd i) (si i))
  | 0 => ⟨fun h => ⟨h, fun i hi => absurd hi (Nat.not_lt_zero _)⟩, fun h => h.1⟩
  | n + 1 => by
    have ih := mo_iff (sd := sd) (si := si) (p := p) (y := y) n
    have key : y ≤ moS sd si p n (moF sd si n p) ↔ y ≤ moF sd si n p ∧ (200 ≤ si n ∨ y ≤ stP p (sd n) (si n)) := by
      unfold moS
      by_cases h1 : 200 ≤ si n
      · rw [if_pos h1]; exact ⟨fun z => ⟨z, Or.inl h1⟩, fun z => z.1⟩
      · rw [if_neg h1]
        by_cases h2 : stP p (sd n) (si n) < moF sd si n p
        · rw [if_pos h2]
          exact ⟨fun z => ⟨Int32.le_trans z (Int32.le_of_lt h2), Or.inr z⟩, fun z => z.2.resolve_left h1⟩
        · rw [if_neg h2]
          exact ⟨fun z => ⟨z, Or.inr (Int32.le_trans z (Int32.not_lt.mp h2))⟩, fun z => z.1⟩
    show y ≤ moS sd si p n (moF sd si n p) ↔ _
    rw [key, ih]
    constructor
    · rintro ⟨⟨h1, h2⟩, h3⟩
      refine ⟨h1, fun i hi => ?_⟩
      rcases Nat.lt_or_ge i n with q | q
      · exact h2 i q
      · rw [show i = n by omega]; exact h3
    · rintro ⟨h1, h2⟩
      exact ⟨⟨h1, fun i hi => h2 i (by omega)⟩, h2 n (by omega)⟩
/-- sights as they may be -/
def sgOK (sd si sight : Nat → Int32) (sk : Nat) : Prop := ∀ i, i < sk → ∃ d v : Nat, d ≤ 60 ∧ (1 ≤ v ∧ v ≤ 200) ∧ sd i = nI d ∧ si i = nI v ∧ sight (2 * i) = nI d ∧ sight (2 * i + 1) = nI v
theorem sg_of {r : Rl} {sight : Nat → Int32} {sk : Nat} (h : RS r sight sk) : sgOK (pSd r) (pSi r) sight sk := by
  intro i hi
  obtain ⟨h1, h2, h3, h4⟩ := h
  obtain ⟨⟨d, hd, e1⟩, e2⟩ := h4 i hi
  have h5 := h3 i (by omega)
  exact ⟨d, (pSi r i).toNatClampNeg, hd, e2.2, e1, e2.1, h5.1.symm.trans e1, h5.2.symm.trans e2.1⟩
theorem law_d {a p : Nat} (hp : p < 100) : (100 * a + p) / 100 = a ∧ (100 * a + p) % 100 = p := by omega
theorem isL_iff {sd si sight : Nat → Int32} {sk a p : Nat} (h : sgOK sd si sight sk) (ha : 1 ≤ a ∧ a ≤ 200) (hp : p < 19) : isL sight sk (100 * a + p) = true ↔ loF sd si sk p ≤ nI a ∧ nI a ≤ moF sd si sk p := by
  have e := law_d (a := a) (p := p) (by omega)
  rw [lo_iff, mo_iff]
  unfold isL
  rw [Bool.and_eq_true, decide_eq_true_eq, allB_iff, e.2]
  have ha1 : (1 : Int32) ≤ nI a := (nx_le (x := 1) (y := nI a) (a := 1) (b := a) rfl rfl (by decide) (by omega)).mpr ha.1
  have ha2 : nI a ≤ 200 := (nx_le (x := nI a) (y := 200) (a := a) (b := 200) rfl rfl (by omega) (by decide)).mpr ha.2
  have key : ∀ i, i < sk → (isF sight (100 * a + p) i = true ↔ (si i ≤ 1 ∨ stP p (sd i) (si i) ≤ nI a) ∧ (200 ≤ si i ∨ nI a ≤ stP p (sd i) (si i))) := by
    intro i hi
    obtain ⟨d, v, hd, hv, e1, e2, e3, e4⟩ := h i hi
    unfold isF byL
    rw [decide_eq_true_eq, e.1, e.2, e1, e2, e3, e4]
    exact st_iff ha hp hd hv
  constructor
  · rintro ⟨_, h2⟩
    exact ⟨⟨ha1, fun i hi => ((key i hi).mp (h2 i hi)).1⟩, ha2, fun i hi => ((key i hi).mp (h2 i hi)).2⟩
  · rintro ⟨⟨_, h2⟩, _, h4⟩
    exact ⟨hp, fun i hi => (key i hi).mpr ⟨h2 i hi, h4 i hi⟩⟩
theorem isL_no {sight : Nat → Int32} {sk law : Nat} (h : 19 ≤ law % 100) : isL sight sk law = false := by
  unfold isL
  rw [decide_eq_false (by omega)]
  rfl
/-- slopes' bounds as they may be -/
def lmOK (le mo : Nat → Int32) : Prop := ∀ p, p < 19 → (1 ≤ (le p).toInt ∧ (le p).toInt ≤ 740) ∧ (-740 ≤ (mo p).toInt ∧ (mo p).toInt ≤ 200)
theorem lm_of {sd si sight : Nat → Int32} {sk : Nat} (h : sgOK sd si sight sk) : lmOK (loF sd si sk) (moF sd si sk) := by
  intro p hp
  have h1 := ((lo_iff (sd := sd) (si := si) (p := p) sk).mp (Int32.le_refl _)).1
  have h2 := ((mo_iff (sd := sd) (si := si) (p := p) sk).mp (Int32.le_refl _)).1
  have h3 : loF sd si sk p ≤ oZ 740 := (lo_iff sk).mpr ⟨by decide, fun i hi => Or.inr (by
    obtain ⟨d, v, hd, hv, e1, e2, _⟩ := h i hi
    have hs := sl_b hp hd
    rw [e1, e2, st_I, oZ_le ⟨by omega, by omega⟩ (by decide)]
    omega)⟩
  have h4 : oZ (-740) ≤ moF sd si sk p := (mo_iff sk).mpr ⟨by decide, fun i hi => Or.inr (by
    obtain ⟨d, v, hd, hv, e1, e2, _⟩ := h i hi
    have hs := sl_b hp hd
    rw [e1, e2, st_I, oZ_le (by decide) ⟨by omega, by omega⟩]
    omega)⟩
  rw [Int32.le_iff_toInt_le] at h1 h2 h3 h4
  rw [oZ_t (by decide)] at h3 h4
  exact ⟨⟨h1, h3⟩, h4, h2⟩
-- the i-th law
theorem itE_ap {σ ρ : Type} {f : Nat → σ → ρ ⊕ σ} : ∀ (a b k : Nat) (s : σ), (∀ r, itE f a k s = .inl r → itE f (a + b) k s = .inl r) ∧ (∀ t, itE f a k s = .inr t → itE f (a + b) k s = itE f b (k + a) t)
  | 0, b, k, s => by
    refine ⟨fun r h => (by cases h), fun t h => ?_⟩
    cases h
    rw [Nat.zero_add, Nat.add_zero]
  | a + 1, b, k, s => by
    rw [show a + 1 + b = (a + b) + 1 by omega]
    cases hf : f k s with
    | inl r =>
      refine ⟨fun q h => ?_, fun t h => ?_⟩
      · rw [itE_l hf] at h ⊢; exact h
      · rw [itE_l hf] at h; cases h
    | inr u =>
      have ih := itE_ap (f := f) a b (k + 1) u
      refine ⟨fun q h => ?_, fun t h => ?_⟩
      · rw [itE_r hf] at h ⊢; exact ih.1 q h
      · rw [itE_r hf] at h ⊢; rw [ih.2 t h, show k + 1 + a = k + (a + 1) by omega]
theorem itE_id {σ ρ : Type} {f : Nat → σ → ρ ⊕ σ} {s : σ} : ∀ (n k : Nat), (∀ i, k ≤ i → i < k + n → f i s = .inr s) → itE f n k s = .inr s
  | 0, _, _ => rfl
  | n + 1, k, h => by
    rw [itE_r (h k (Nat.le_refl k) (by omega))]
    exact itE_id n (k + 1) (fun i h1 h2 => h i (by omega) (by omega))
/-- one loop of the class and one of the model come to the same -/
def LSim (I : Nat) (x y : Int32 ⊕ Nat) : Prop := (∃ v, x = .inl v ∧ y = .inl v) ∨ (∃ n, n ≤ I ∧ x = .inr n ∧ y = .inr (I - n))
theorem li_sim {sd si sight : Nat → Int32} {sk I a : Nat} (h : sgOK sd si sight sk) (hI : I < 2147483648) (ha : a < 200) : ∀ (m sl n : Nat), sl + m ≤ 19 → n ≤ I → LSim I (itE (fiS sight sk (nI I)) m (100 * a + sl) n) (itE (liS (loF sd si sk) (moF sd si sk) (a + 1)) m sl (I - n))
  | 0, sl, n, _, hn => Or.inr ⟨n, hn, rfl, rfl⟩
  | m + 1, sl, n, hm, hn => by
    have e : 100 + (100 * a + sl) = 100 * (a + 1) + sl := by omega
    have hi := isL_iff (a := a + 1) (p := sl) h ⟨by omega, by omega⟩ (by omega)
    by_cases c : isL sight sk (100 * (a + 1) + sl) = true
    · by_cases d : n = I
      · subst d
        refine Or.inl ⟨nI (100 * (a + 1) + sl), itE_l ?_, itE_l ?_⟩
        · unfold fiS; rw [e, if_pos c, if_pos rfl]
        · unfold liS; rw [if_pos (hi.mp c), if_pos (Nat.sub_self n)]
      · rw [itE_r (f := fiS sight sk (nI I)) (i := 100 * a + sl) (s := n) (s2 := n + 1) (by unfold fiS; rw [e, if_pos c, if_neg (fun z => d ((nI_eq (by omega) hI).mp z))]), itE_r (f := liS (loF sd si sk) (moF sd si sk) (a + 1)) (i := sl) (s := I - n) (s2 := I - (n + 1)) (by unfold liS; rw [if_pos (hi.mp c), if_neg (by omega), show I - n - 1 = I - (n + 1) by omega])]
        exact li_sim h hI ha m (sl + 1) (n + 1) (by omega) (by omega)
    · rw [itE_r (f := fiS sight sk (nI I)) (i := 100 * a + sl) (s := n) (s2 := n) (by unfold fiS; rw [e, if_neg c]), itE_r (f := liS (loF sd si sk) (moF sd si sk) (a + 1)) (i := sl) (s := I - n) (s2 := I - n) (by unfold liS; rw [if_neg (fun z => c (hi.mpr z))])]
      exact li_sim h hI ha m (sl + 1) n (by omega) hn
theorem la_sim {sd si sight : Nat → Int32} {sk I : Nat} (h : sgOK sd si sight sk) (hI : I < 2147483648) : ∀ (m a n : Nat), a + m ≤ 200 → n ≤ I → LSim I (itE (fiS sight sk (nI I)) (100 * m) (100 * a) n) (itE (laS (loF sd si sk) (moF sd si sk)) m (a + 1) (I - n))
  | 0, a, n, _, hn => Or.inr ⟨n, hn, rfl, rfl⟩
  | m + 1, a, n, hm, hn => by
    have hs := li_sim h hI (show a < 200 by omega) 19 0 n (by omega) hn
    rw [Nat.add_zero] at hs
    have hb := itE_ap (f := fiS sight sk (nI I)) 19 81 (100 * a) n
    have hc := itE_ap (f := fiS sight sk (nI I)) 100 (100 * m) (100 * a) n
    rw [show 100 * (m + 1) = 100 + 100 * m by omega]
    rcases hs with ⟨v, e1, e2⟩ | ⟨n2, h2, e1, e2⟩
    · exact Or.inl ⟨v, hc.1 v (hb.1 v e1), itE_l e2⟩
    · have e3 : itE (fiS sight sk (nI I)) 81 (100 * a + 19) n2 = .inr n2 := itE_id 81 _ (fun i h3 h4 => by
        unfold fiS
        rw [isL_no (by omega)]
        exact if_neg (by decide))
      rw [hc.2 n2 ((hb.2 n2 e1).trans e3), itE_r (f := laS (loF sd si sk) (moF sd si sk)) (s2 := I - n2) e2, show 100 * a + 100 = 100 * (a + 1) by omega]
      exact la_sim h hI m (a + 1) n2 (by omega) h2
theorem r_law {sd si sight : Nat → Int32} {sk I : Nat} (h : sgOK sd si sight sk) (hI : I < 2147483648) : laF (loF sd si sk) (moF sd si sk) I = fiM sight sk (nI I) := by
  have hs := la_sim h hI 200 0 0 (by omega) (by omega)
  have h6 : ¬ nI I = -1 := fun z => by
    have := nn_0 hI
    rw [z] at this
    exact absurd this (by decide)
  unfold laF fiM
  rcases hs with ⟨v, e1, e2⟩ | ⟨n, _, e1, e2⟩
  · have e1' : itE (fiS sight sk (nI I)) 20000 0 0 = .inl v := e1
    have e2' : itE (laS (loF sd si sk) (moF sd si sk)) 200 1 I = .inl v := e2
    rw [e1', e2']
  · have e1' : itE (fiS sight sk (nI I)) 20000 0 0 = .inr n := e1
    have e2' : itE (laS (loF sd si sk) (moF sd si sk)) 200 1 I = .inr (I - n) := e2
    rw [e1', e2']
    exact (if_neg h6).symm
