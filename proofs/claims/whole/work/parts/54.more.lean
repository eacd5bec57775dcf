-- halves
def orE (x : Int32 ⊕ Unit) (f : Int32) : Int32 := match x with
  | .inl r => r
  | .inr _ => f
theorem itE_sn {σ ρ : Type} {f : Nat → σ → ρ ⊕ σ} : ∀ (n i : Nat) (s : σ), (∀ r, itE f n i s = .inl r → itE f (n + 1) i s = .inl r) ∧ (∀ t, itE f n i s = .inr t → itE f (n + 1) i s = f (i + n) t)
  | 0, i, s => by
    refine ⟨fun r h => (by cases h), fun t h => ?_⟩
    cases h
    cases hf : f i s with
    | inl r => exact itE_l hf
    | inr u => rw [itE_r hf]; rfl
  | n + 1, i, s => by
    cases hf : f i s with
    | inl r =>
      refine ⟨fun q h => ?_, fun t h => ?_⟩
      · rw [itE_l hf] at h ⊢; exact h
      · rw [itE_l hf] at h; cases h
    | inr u =>
      have ih := itE_sn (f := f) n (i + 1) u
      refine ⟨fun q h => ?_, fun t h => ?_⟩
      · rw [itE_r hf] at h ⊢; exact ih.1 q h
      · rw [itE_r hf] at h ⊢; rw [ih.2 t h, show i + 1 + n = i + (n + 1) by omega]
theorem wm_o {mv : Nat → Int32} {l k : Nat} (h : ¬ l = 0) (h2 : ¬ mv (l / 2) = -6) : wmF mv l k = orE (itE (wmS mv l) (min k l) 1 ()) (-6) := by
  unfold wmF
  rw [if_neg h, if_neg h2]
  rfl
theorem hv_C {mv w : Nat → Int32} {l : Nat} (h : ∀ j, j < l → (w j = 0 ↔ mv j = -6)) : ∀ (c : Nat) (f : Int32), hvC w l c f = orE (itE (wmS mv l) (min c l) 1 ()) f
  | 0, f => by rw [Nat.zero_min]; rfl
  | c + 1, f => by
    show hvC w l c (if c + 1 ≤ l ∧ w (l - (c + 1)) = 0 then nI (c + 1) else f) = _
    rw [hv_C h c]
    by_cases hc : c + 1 ≤ l
    · rw [Nat.min_eq_left (show c ≤ l by omega), Nat.min_eq_left hc]
      have hs := itE_sn (f := wmS mv l) c 1 ()
      cases he : itE (wmS mv l) c 1 () with
      | inl x => rw [hs.1 x he]; rfl
      | inr u =>
        rw [hs.2 u he]
        show (if c + 1 ≤ l ∧ w (l - (c + 1)) = 0 then nI (c + 1) else f) = orE (wmS mv l (1 + c) u) f
        unfold wmS
        rw [Nat.add_comm 1 c]
        by_cases z : mv (l - (c + 1)) = -6
        · rw [if_pos ⟨hc, (h _ (by omega)).mpr z⟩, if_pos z]; rfl
        · rw [if_neg (fun y => z ((h _ (by omega)).mp y.2)), if_neg z]; rfl
    · rw [Nat.min_eq_right (show l ≤ c by omega), Nat.min_eq_right (show l ≤ c + 1 by omega), if_neg (fun y => hc y.1)]
theorem hv_C0 {w : Nat → Int32} : ∀ (c : Nat) (f : Int32), hvC w 0 c f = f
  | 0, _ => rfl
  | c + 1, f => by
    show hvC w 0 c (if c + 1 ≤ 0 ∧ w (0 - (c + 1)) = 0 then nI (c + 1) else f) = _
    rw [if_neg (fun y => by omega)]
    exact hv_C0 c f
theorem hv_s {mv w : Nat → Int32} {l k : Nat} (h : ∀ j, j < l → (w j = 0 ↔ mv j = -6)) : wmF mv l k = hvF w l k := by
  by_cases h0 : l = 0
  · subst h0
    unfold wmF hvF
    rw [if_pos rfl, if_neg (fun y => by omega), hv_C0]
  · by_cases h2 : mv (l / 2) = -6
    · unfold wmF hvF
      rw [if_neg h0, if_pos h2, if_pos ⟨by omega, (h _ (by omega)).mpr h2⟩]
    · rw [wm_o h0 h2]
      unfold hvF
      rw [if_neg (fun y => h2 ((h _ (by omega)).mp y.2)), hv_C h]
theorem hv_Cv {w : Nat → Int32} {l : Nat} : ∀ (c : Nat) (f : Int32), c < 1000 → (f = -6 ∨ 0 ≤ f) → (hvC w l c f = -6 ∨ 0 ≤ hvC w l c f)
  | 0, _, _, h => h
  | c + 1, f, hc, h => by
    show hvC w l c (if c + 1 ≤ l ∧ w (l - (c + 1)) = 0 then nI (c + 1) else f) = -6 ∨ 0 ≤ hvC w l c (if c + 1 ≤ l ∧ w (l - (c + 1)) = 0 then nI (c + 1) else f)
    refine hv_Cv c _ (by omega) ?_
    split
    · exact Or.inr (nn_0 (by omega))
    · exact h
theorem hv_v {w : Nat → Int32} {l k : Nat} (hk : k < 1000) : hvF w l k = -6 ∨ 0 ≤ hvF w l k := by
  unfold hvF
  split
  · exact Or.inr (by decide)
  · exact hv_Cv k _ hk (Or.inl rfl)
theorem hv_inv {mv w : Nat → Int32} {k : Nat} (hk : k < 1000) : ∀ l j, j < l → ((itr (hvS k) l (w, -6)).1 j = 0 ↔ itr (fmS k) l mv j = -6)
  | 0, j, hj => absurd hj (Nat.not_lt_zero _)
  | l + 1, j, hj => by
    have ih := hv_inv (mv := mv) (w := w) hk l
    rw [itr_s, itr_s]
    show upd (itr (hvS k) l (w, -6)).1 l (zI (0 ≤ hvF (itr (hvS k) l (w, -6)).1 l k)) j = 0 ↔ upd (itr (fmS k) l mv) l (wmF (itr (fmS k) l mv) l k) j = -6
    by_cases z : j = l
    · rw [z, pk_us, pk_us, hv_s ih]
      rcases hv_v (w := (itr (hvS k) l (w, -6)).1) (l := l) hk with y | y
      · rw [y]; decide
      · rw [zI_t y]
        exact ⟨fun q => absurd q (by decide), fun q => absurd q (nn_6 y)⟩
    · rw [pk_un z, pk_un z]
      exact ih j (by omega)
theorem r_halves {mv w : Nat → Int32} {n k : Nat} (hk : k < 1000) : fmF mv n k = hvM w n k ∧ (fmF mv n k = -6 ∨ 0 ≤ fmF mv n k) := by
  have e : fmF mv n k = wmF (itr (fmS k) n mv) n k := by
    unfold fmF
    rw [itr_s]
    exact pk_us
  have e2 : hvM w n k = hvF (itr (hvS k) n (w, -6)).1 n k := by
    unfold hvM
    rw [itr_s]
    rfl
  have e3 : wmF (itr (fmS k) n mv) n k = hvF (itr (hvS k) n (w, -6)).1 n k := hv_s (hv_inv hk n)
  rw [e, e2, e3]
  exact ⟨rfl, hv_v hk⟩
-- the year
theorem yr_A {r : Rl} {now week sight : Nat → Int32} {sk : Nat} (h : RR r now week sight sk) (x : Nat) : AR r now week sight sk (ykF (x / 6 % 8)) (x % 6) (x / 432 % 4) (nI (1 + x / 48 % 9)) (yrA week now x) := by
  have ho : x % 6 < 6 := Nat.mod_lt _ (by decide)
  have hp : x / 432 % 4 < 4 := Nat.mod_lt _ (by decide)
  have h9 : 1 + x / 48 % 9 ≤ 9 := by omega
  have h1 : 1 ≤ 1 + x / 48 % 9 := by omega
  have h8 : x / 6 % 8 < 8 := Nat.mod_lt _ (by decide)
  unfold yrA
  generalize x / 6 % 8 = t at h8 ⊢
  rcases (by omega : t = 0 ∨ t = 1 ∨ t = 2 ∨ t = 3 ∨ t = 4 ∨ t = 5 ∨ t = 6 ∨ t = 7) with z | z | z | z | z | z | z | z <;> subst z
  · rw [if_pos (by decide)]; exact a_buy h ho _ _
  · rw [if_neg (by decide), if_pos (by decide)]; exact a_sell h ho _ _
  · rw [if_neg (by decide), if_neg (by decide), if_pos (by decide)]; exact a_west h ho hp _
  · rw [if_neg (by decide), if_neg (by decide), if_neg (by decide), if_pos (by decide)]; exact a_east h ho hp _
  · rw [if_neg (by decide), if_neg (by decide), if_neg (by decide), if_neg (by decide), if_pos (by decide)]; exact a_less h _ _ h1 h9
  · rw [if_neg (by decide), if_neg (by decide), if_neg (by decide), if_neg (by decide), if_neg (by decide), if_pos (by decide)]; exact a_more h _ _ h9
  · rw [if_neg (by decide), if_neg (by decide), if_neg (by decide), if_neg (by decide), if_neg (by decide), if_neg (by decide), if_pos (by decide)]; exact a_copy h ho _ _
  · rw [if_neg (by decide), if_neg (by decide), if_neg (by decide), if_neg (by decide), if_neg (by decide), if_neg (by decide), if_neg (by decide)]; exact a_end h _ _ _
theorem yr_R {r : Rl} {now week sight : Nat → Int32} {sk : Nat} (h : RR r now week sight sk) (x : Nat) : RR (ydA r x) (yrA week now x).2 week sight sk := by
  obtain ⟨a1, a2, a3, a4, a5, a6⟩ := yr_A h x
  unfold ydA
  by_cases z : (yrA week now x).1 = 0
  · rw [if_pos (a1.trans z)]; exact a3 z
  · rw [if_neg (fun y => z (a1.symm.trans y)), a4 z]; exact h
theorem r_year {r : Rl} {book week sight : Nat → Int32} {sk : Nat} (h : RR r book week sight sk) (x : Nat) : ∀ m, (itr ydS m (x, r)).1 = (yrM week book x m).1 ∧ RR (itr ydS m (x, r)).2 (yrM week book x m).2 week sight sk
  | 0 => ⟨rfl, h⟩
  | m + 1 => by
    obtain ⟨e, ih⟩ := r_year h x m
    unfold yrM at e ih ⊢
    rw [itr_s, itr_s]
    show yrX (itr ydS m (x, r)).1 = yrX (itr (yrS week) m (x, book)).1 ∧ RR (ydA (itr ydS m (x, r)).2 (yrX (itr ydS m (x, r)).1)) (yrA week (itr (yrS week) m (x, book)).2 (yrX (itr (yrS week) m (x, book)).1)).2 week sight sk
    rw [e]
    exact ⟨rfl, yr_R ih _⟩
theorem co_eq {r : Rl} {now week : Nat → Int32} (h : RN r now week) : coM (pPu r) = coM now := by
  unfold coM
  rw [(h.1 0 (by decide)).1, (h.1 1 (by decide)).1, (h.1 2 (by decide)).1, (h.1 3 (by decide)).1, (h.1 4 (by decide)).1, (h.1 5 (by decide)).1]
theorem bt_B : ∀ b0 b1 b2 b3 : Bool, (((0 + (if b0 = true then 1 else 0)) + (if b1 = true then 1 else 0)) + (if b2 = true then 1 else 0)) + (if b3 = true then 1 else 0) = btM (mB b0 b1 b2 b3) := by decide +kernel
theorem mb_eq {r : Rl} {now week : Nat → Int32} (h : RN r now week) : mbC r = btM (metS now) := by
  unfold mbC
  rw [met_B, hm_eq h (show 0 < 4 by decide), hm_eq h (show 1 < 4 by decide), hm_eq h (show 2 < 4 by decide), hm_eq h (show 3 < 4 by decide)]
  exact bt_B _ _ _ _
