-- counting, sorting
def cn (P : Int32 → Bool) (f : Nat → Int32) (n : Nat) : Nat := itr (fun t c => if P (f t) = true then c + 1 else c) n 0
theorem cn_s (P : Int32 → Bool) (f : Nat → Int32) (n : Nat) : cn P f (n + 1) = if P (f n) = true then cn P f n + 1 else cn P f n := rfl
theorem cn_congr {P : Int32 → Bool} {f g : Nat → Int32} : ∀ n, (∀ t, t < n → f t = g t) → cn P f n = cn P g n
  | 0, _ => rfl
  | n + 1, h => by rw [cn_s, cn_s, cn_congr n (fun t ht => h t (by omega)), h n (by omega)]
theorem cn_mono {P Q : Int32 → Bool} {f : Nat → Int32} : ∀ n, (∀ t, t < n → P (f t) = true → Q (f t) = true) → cn P f n ≤ cn Q f n
  | 0, _ => Nat.le_refl _
  | n + 1, h => by
    have ih := cn_mono (P := P) (Q := Q) n (fun t ht => h t (by omega))
    rw [cn_s, cn_s]
    by_cases z : P (f n) = true
    · rw [if_pos z, if_pos (h n (by omega) z)]; omega
    · rw [if_neg z]; split <;> omega
theorem cn_swap {P : Int32 → Bool} {f g : Nat → Int32} {p : Nat} (h1 : f p = g (p + 1)) (h2 : f (p + 1) = g p) (h3 : ∀ j, j ≠ p → j ≠ p + 1 → f j = g j) : ∀ n, p + 1 < n → cn P f n = cn P g n
  | 0, h => by omega
  | n + 1, h => by
    by_cases z : p + 1 = n
    · subst z
      rw [cn_s, cn_s, cn_s, cn_s, cn_congr p (fun t ht => h3 t (by omega) (by omega)), h1, h2]
      by_cases a : P (g p) = true <;> by_cases b : P (g (p + 1)) = true <;> simp [a, b]
    · rw [cn_s, cn_s, cn_swap h1 h2 h3 n (by omega), h3 n (by omega) (by omega)]
theorem cn_ins {P : Int32 → Bool} {x : Int32} : ∀ (p : Nat) (s : Nat → Int32) (n : Nat), p < n → cn P (insW x p s) n = cn P (upd s p x) n
  | 0, s, n, _ => rfl
  | p + 1, s, n, h => by
    rw [insW]
    split
    · rfl
    · rw [cn_ins p _ n (by omega)]
      refine cn_swap (p := p) ?_ ?_ ?_ n h
      · rw [pk_us, pk_us]
      · rw [pk_un (by omega), pk_us, pk_un (by omega)]
      · intro j h1 h2
        rw [pk_un h1, pk_un h2, pk_un h2]
theorem cn_sr {P : Int32 → Bool} {W s : Nat → Int32} : ∀ n, cn P (srF W n s) n = cn P W n
  | 0 => rfl
  | n + 1 => by
    have e : srF W (n + 1) s = insW (W n) n (srF W n s) := rfl
    rw [e, cn_ins n _ _ (Nat.lt_succ_self n), cn_s, cn_s, pk_us, cn_congr n (fun t ht => pk_un (by omega)), cn_sr n]
theorem ins_srt {x : Int32} {n : Nat} : ∀ (p : Nat) (s : Nat → Int32), p < n → (∀ a b, a < b → b < n → a ≠ p → b ≠ p → s a ≤ s b) → (∀ b, p < b → b < n → x ≤ s b) → ∀ a b, a < b → b < n → insW x p s a ≤ insW x p s b
  | 0, s, h, h1, h2, a, b, ab, bn => by
    rw [insW]
    by_cases za : a = 0
    · rw [za, pk_us, pk_un (by omega)]; exact h2 b (by omega) bn
    · rw [pk_un za, pk_un (by omega)]; exact h1 a b ab bn za (by omega)
  | p + 1, s, h, h1, h2, a, b, ab, bn => by
    rw [insW]
    split
    · rename_i c
      by_cases zb : b = p + 1
      · rw [zb, pk_us, pk_un (by omega)]
        by_cases za : a = p
        · rw [za]; exact c
        · exact Int32.le_trans (h1 a p (by omega) (by omega) (by omega) (by omega)) c
      · by_cases za : a = p + 1
        · rw [za, pk_us, pk_un zb]; exact h2 b (by omega) bn
        · rw [pk_un za, pk_un zb]; exact h1 a b ab bn za zb
    · rename_i c
      have c2 : x ≤ s p := Int32.le_of_lt (Int32.not_le.mp c)
      refine ins_srt p _ (by omega) ?_ ?_ a b ab bn
      · intro a b ab bn za zb
        by_cases ya : a = p + 1
        · rw [ya, pk_us, pk_un (by omega)]; exact h1 p b (by omega) bn (by omega) (by omega)
        · by_cases yb : b = p + 1
          · rw [yb, pk_us, pk_un ya]; exact h1 a p (by omega) (by omega) ya (by omega)
          · rw [pk_un ya, pk_un yb]; exact h1 a b ab bn ya yb
      · intro b pb bn
        by_cases yb : b = p + 1
        · rw [yb, pk_us]; exact c2
        · rw [pk_un yb]; exact h2 b (by omega) bn
theorem sr_srt {W s : Nat → Int32} : ∀ n a b, a < b → b < n → srF W n s a ≤ srF W n s b
  | 0, a, b, _, h => by omega
  | n + 1, a, b, ab, bn => by
    have e : srF W (n + 1) s = insW (W n) n (srF W n s) := rfl
    rw [e]
    exact ins_srt n _ (Nat.lt_succ_self n) (fun a b ab bn za zb => sr_srt n a b ab (by omega)) (fun b h1 h2 => by omega) a b ab bn
theorem cn_pos {P : Int32 → Bool} {f : Nat → Int32} : ∀ {n : Nat}, 0 < cn P f n → ∃ t, t < n ∧ P (f t) = true
  | 0, h => absurd h (Nat.lt_irrefl 0)
  | n + 1, h => by
    rw [cn_s] at h
    by_cases z : P (f n) = true
    · exact ⟨n, by omega, z⟩
    · rw [if_neg z] at h
      obtain ⟨t, h1, h2⟩ := cn_pos h
      exact ⟨t, by omega, h2⟩
theorem cn_one {P : Int32 → Bool} {f : Nat → Int32} {t : Nat} (h : P (f t) = true) : ∀ n, t < n → 0 < cn P f n
  | 0, h2 => by omega
  | n + 1, h2 => by
    rw [cn_s]
    by_cases z : t = n
    · rw [← z, if_pos h]; omega
    · have := cn_one h n (by omega)
      split <;> omega
theorem cn_run {P : Int32 → Bool} {f : Nat → Int32} {i : Nat} : ∀ n r, i + r ≤ n → (∀ t, i ≤ t → t < i + r → P (f t) = true) → r ≤ cn P f n
  | 0, r, h, _ => by omega
  | n + 1, r, h, h2 => by
    rw [cn_s]
    by_cases z : i + r = n + 1
    · cases r with
      | zero => omega
      | succ r =>
        rw [if_pos (h2 n (by omega) (by omega))]
        have := cn_run (P := P) (f := f) (i := i) n r (by omega) (fun t h3 h4 => h2 t h3 (by omega))
        omega
    · have := cn_run (P := P) (f := f) n r (by omega) h2
      split <;> omega
theorem cn_ends {P : Int32 → Bool} {f : Nat → Int32} : ∀ {n : Nat}, 0 < cn P f n → ∃ a b, a ≤ b ∧ b < n ∧ P (f a) = true ∧ P (f b) = true ∧ cn P f n ≤ b + 1 - a
  | 0, h => absurd h (Nat.lt_irrefl 0)
  | n + 1, h => by
    rw [cn_s] at h ⊢
    by_cases z : P (f n) = true
    · rw [if_pos z]
      by_cases y : 0 < cn P f n
      · obtain ⟨a, b, h1, h2, h3, h4, h5⟩ := cn_ends y
        exact ⟨a, n, by omega, by omega, h3, z, by omega⟩
      · exact ⟨n, n, Nat.le_refl _, by omega, z, z, by omega⟩
    · rw [if_neg z] at h ⊢
      obtain ⟨a, b, h1, h2, h3, h4, h5⟩ := cn_ends h
      exact ⟨a, b, h1, by omega, h3, h4, h5⟩
theorem ct_cn (W : Nat → Int32) (lo hi : Int32) (f : Nat) : ∀ n, ctI W lo hi f n = cn (fun v => decide (lo ≤ v ∧ v ≤ hi)) (fun t => W (f + t)) n
  | 0 => rfl
  | n + 1 => by
    rw [cn_s, ← ct_cn W lo hi f n]
    show ctS W lo hi f n (ctI W lo hi f n) = _
    unfold ctS
    by_cases z : lo ≤ W (f + n) ∧ W (f + n) ≤ hi
    · rw [if_pos z, if_pos (decide_eq_true z)]
    · rw [if_neg z, if_neg (by simpa using z)]
theorem ct_cn0 (W : Nat → Int32) (lo hi : Int32) (n : Nat) : ctI W lo hi 0 n = cn (fun v => decide (lo ≤ v ∧ v ≤ hi)) W n := by
  rw [ct_cn]
  exact cn_congr n (fun t _ => by rw [Nat.zero_add])
theorem fst_eq {p : Nat → Bool} : ∀ (n k w : Nat), k ≤ w → w ≤ k + n → (∀ v, k ≤ v → v < w → ¬ p v = true) → (w < k + n → p w = true) → fstW p n k = w
  | 0, k, w, h1, h2, _, _ => by rw [fstW]; omega
  | n + 1, k, w, h1, h2, h3, h4 => by
    rw [fstW]
    by_cases z : k = w
    · rw [if_pos (by rw [z]; exact h4 (by omega)), z]
    · rw [if_neg (h3 k (Nat.le_refl _) (by omega))]
      exact fst_eq n (k + 1) w (by omega) (by omega) (fun v a b => h3 v (by omega) b) (fun h => h4 (by omega))
theorem ls_min {V : Nat → Nat} {r : Nat} {s : Nat → Int32} (hs : ∀ j, j < 61 → s j = nI (V j) ∧ V j ≤ 200) : ∀ n, n + r ≤ 62 → 1 ≤ r → (∀ i, i < n → V i ≤ V (i + r - 1)) → ∃ L : Nat, itr (lsS s r) n 200 = nI L ∧ L ≤ 200 ∧ (∀ i, i < n → L ≤ V (i + r - 1) - V i) ∧ (L = 200 ∨ ∃ i, i < n ∧ L = V (i + r - 1) - V i)
  | 0, _, _, _ => ⟨200, rfl, Nat.le_refl _, fun i h => by omega, Or.inl rfl⟩
  | n + 1, h, hr, hm => by
    obtain ⟨L, h1, h2, h3, h4⟩ := ls_min hs n (by omega) hr (fun i hi => hm i (by omega))
    have e1 := hs (n + r - 1) (by omega)
    have e2 := hs n (by omega)
    have e3 : s (n + r - 1) - s n = nI (V (n + r - 1) - V n) := nx_sub e1.1 e2.1 (hm n (by omega))
    have e4 : itr (lsS s r) (n + 1) 200 = if V (n + r - 1) - V n < L then nI (V (n + r - 1) - V n) else nI L := by
      rw [itr_s, h1, lsS, e3]
      have := nx_lt (x := nI (V (n + r - 1) - V n)) (y := nI L) rfl rfl (by omega) (by omega)
      by_cases z : V (n + r - 1) - V n < L
      · rw [if_pos z, if_pos (this.mpr z)]
      · rw [if_neg z, if_neg (fun q => z (this.mp q))]
    rw [e4]
    by_cases z : V (n + r - 1) - V n < L
    · rw [if_pos z]
      refine ⟨_, rfl, by omega, fun i hi => ?_, Or.inr ⟨n, by omega, rfl⟩⟩
      by_cases y : i = n
      · rw [y]; exact Nat.le_refl _
      · have := h3 i (by omega); omega
    · rw [if_neg z]
      refine ⟨L, rfl, h2, fun i hi => ?_, ?_⟩
      · by_cases y : i = n
        · rw [y]; omega
        · exact h3 i (by omega)
      · rcases h4 with q | ⟨i, q1, q2⟩
        · exact Or.inl q
        · exact Or.inr ⟨i, by omega, q2⟩
theorem rng_i {x w : Nat} {v : Int32} {y : Nat} (hv : v = nI y) (hy : y ≤ 200) (hx : x ≤ 200) (hw : w ≤ 200) : (nI x ≤ v ∧ v ≤ nI x + nI w) ↔ (x ≤ y ∧ y ≤ x + w) := by
  rw [hv, nI_add, nI_leI (by omega) (by omega), nI_leI (by omega) (by omega)]
theorem dy_eq {W s : Nat → Int32} {m r L : Nat} (hW : ∀ j, inOK (W j)) (hm : m ≤ 60) (hr : 1 ≤ r) (hr2 : r ≤ m + 1) (hcn : ∀ P, cn P s (m + 1) = cn P W (m + 1)) (hs : ∀ j, j < m + 1 → s j = nI (s j).toNatClampNeg ∧ 1 ≤ (s j).toNatClampNeg ∧ (s j).toNatClampNeg ≤ 200) (hin : ∀ j, j < m + 1 → ∃ k, k < m + 1 ∧ s j = W k) (hmono : ∀ a b, a ≤ b → b < m + 1 → (s a).toNatClampNeg ≤ (s b).toNatClampNeg) (h3 : ∀ i, i < m + 2 - r → L ≤ (s (i + r - 1)).toNatClampNeg - (s i).toNatClampNeg) (hL1 : L < 200) (hL2 : ∃ i, i < m + 2 - r ∧ L = (s (i + r - 1)).toNatClampNeg - (s i).toNatClampNeg) : dyW W m r = L := by
  unfold dyW
  refine fst_eq 200 0 L (Nat.zero_le _) (by omega) (fun w _ hw q => ?_) (fun _ => ?_)
  · obtain ⟨k, hk, q1⟩ := anyB_iff.mp q
    have q2 : r ≤ ctI W (W k) (W k + nI w) 0 (m + 1) := of_decide_eq_true q1
    rw [ct_cn0, ← hcn] at q2
    obtain ⟨a, b, g1, g2, g3, g4, g5⟩ := cn_ends (Nat.lt_of_lt_of_le (by omega) q2)
    have k1 := hW k
    have g3' : W k ≤ s a ∧ s a ≤ W k + nI w := of_decide_eq_true g3
    have g4' : W k ≤ s b ∧ s b ≤ W k + nI w := of_decide_eq_true g4
    rw [k1.1, rng_i (hs a (by omega)).1 (hs a (by omega)).2.2 k1.2.2 (by omega)] at g3'
    rw [k1.1, rng_i (hs b g2).1 (hs b g2).2.2 k1.2.2 (by omega)] at g4'
    have g6 := h3 a (by omega)
    have g7 := hmono (a + r - 1) b (by omega) g2
    omega
  · obtain ⟨i, q1, q2⟩ := hL2
    obtain ⟨k, hk, e5⟩ := hin i (by omega)
    refine anyB_iff.mpr ⟨k, hk, decide_eq_true ?_⟩
    rw [ct_cn0, ← hcn]
    refine cn_run (i := i) (m + 1) r (by omega) (fun t t1 t2 => decide_eq_true ?_)
    have k1 := hW k
    rw [k1.1, rng_i (hs t (by omega)).1 (hs t (by omega)).2.2 k1.2.2 (by omega), ← e5]
    have := hmono i t t1 (by omega)
    have := hmono t (i + r - 1) (by omega) (by omega)
    omega
def capS (s : Nat → Int32) (m j : Nat) : Int32 := if j < m + 1 then s j else 1
theorem cap_ok {s : Nat → Int32} {m j : Nat} (h : j < m + 1 → s j = nI (s j).toNatClampNeg ∧ (s j).toNatClampNeg ≤ 200) : capS s m j = nI (capS s m j).toNatClampNeg ∧ (capS s m j).toNatClampNeg ≤ 200 := by
  by_cases z : j < m + 1
  · rw [show capS s m j = s j from if_pos z]; exact h z
  · rw [show capS s m j = 1 from if_neg z]; exact ⟨by decide, by decide⟩
theorem ls_cg1 {s s2 : Nat → Int32} {m r n : Nat} (hr : 1 ≤ r) (e2 : ∀ j, j < m + 1 → s2 j = s j) (hn : n < m + 2 - r) (y : Int32) : lsS s r n y = lsS s2 r n y := by
  have a := e2 n (by omega)
  have b := e2 (n + r - 1) (by omega)
  unfold lsS
  rw [a, b]
theorem ls_cg {s s2 : Nat → Int32} {m r : Nat} {x : Int32} (hr : 1 ≤ r) (e2 : ∀ j, j < m + 1 → s2 j = s j) (n : Nat) : n ≤ m + 2 - r → itr (lsS s r) n x = itr (lsS s2 r) n x := by
  induction n with
  | zero => exact fun _ => (itr_0 _ _).trans (itr_0 _ _).symm
  | succ n ih => exact fun hn => by rw [itr_s, itr_s, ih (by omega)]; exact ls_cg1 hr e2 (by omega) _
theorem ls_dy {W s0 : Nat → Int32} {m r : Nat} (hW : ∀ j, inOK (W j)) (hm : m ≤ 60) (hr : 1 ≤ r) (hr2 : r ≤ m + 1) : lsF (srF W (m + 1) s0) m r = nI (dyW W m r) ∧ dyW W m r < 200 := by
  have hsrt : ∀ a b, a < b → b < m + 1 → srF W (m + 1) s0 a ≤ srF W (m + 1) s0 b := sr_srt (m + 1)
  have hcn : ∀ P, cn P (srF W (m + 1) s0) (m + 1) = cn P W (m + 1) := fun P => cn_sr (m + 1)
  generalize srF W (m + 1) s0 = s at hsrt hcn
  have hin : ∀ j, j < m + 1 → ∃ k, k < m + 1 ∧ s j = W k := by
    intro j hj
    have h1 := cn_one (P := fun v => decide (v = s j)) (f := s) (t := j) (by simp) (m + 1) hj
    rw [hcn] at h1
    obtain ⟨k, hk, h2⟩ := cn_pos h1
    exact ⟨k, hk, (of_decide_eq_true h2).symm⟩
  have hs : ∀ j, j < m + 1 → s j = nI (s j).toNatClampNeg ∧ 1 ≤ (s j).toNatClampNeg ∧ (s j).toNatClampNeg ≤ 200 := by
    intro j hj
    obtain ⟨k, _, e⟩ := hin j hj
    rw [e]
    exact hW k
  obtain ⟨s2, hs2, e2⟩ : ∃ s2 : Nat → Int32, (∀ j, j < 61 → s2 j = nI (s2 j).toNatClampNeg ∧ (s2 j).toNatClampNeg ≤ 200) ∧ ∀ j, j < m + 1 → s2 j = s j := ⟨capS s m, fun j _ => cap_ok (fun h => ⟨(hs j h).1, (hs j h).2.2⟩), fun j h => if_pos h⟩
  have hmono : ∀ a b, a ≤ b → b < m + 1 → (s a).toNatClampNeg ≤ (s b).toNatClampNeg := by
    intro a b ab bm
    by_cases z : a = b
    · rw [z]; exact Nat.le_refl _
    · have h1 := hsrt a b (by omega) bm
      rw [(hs a (by omega)).1, (hs b bm).1, nI_leI (by have := (hs a (by omega)).2.2; omega) (by have := (hs b bm).2.2; omega)] at h1
      exact h1
  obtain ⟨L, h1, h2, h3, h4⟩ := ls_min (V := fun j => (s2 j).toNatClampNeg) (r := r) (s := s2) hs2 (m + 2 - r) (by omega) hr (fun i hi => by
    show (s2 i).toNatClampNeg ≤ (s2 (i + r - 1)).toNatClampNeg
    rw [e2 i (by omega), e2 (i + r - 1) (by omega)]
    exact hmono i (i + r - 1) (by omega) (by omega))
  have e3 : lsF s m r = nI L := (ls_cg (x := 200) hr e2 (m + 2 - r) (Nat.le_refl _)).trans h1
  have hL : L < 200 ∧ ∃ i, i < m + 2 - r ∧ L = (s (i + r - 1)).toNatClampNeg - (s i).toNatClampNeg := by
    rcases h4 with q | ⟨i, q1, q2⟩
    · have h5 := h3 0 (by omega)
      rw [e2 0 (by omega), e2 (0 + r - 1) (by omega)] at h5
      have := (hs 0 (by omega)).2
      have := (hs (0 + r - 1) (by omega)).2
      omega
    · rw [e2 i (by omega), e2 (i + r - 1) (by omega)] at q2
      have := (hs i (by omega)).2
      have := (hs (i + r - 1) (by omega)).2
      exact ⟨by omega, i, q1, q2⟩
  have e4 : dyW W m r = L := dy_eq hW hm hr hr2 hcn hs hin hmono (fun i hi => by have := h3 i hi; rwa [e2 i (by omega), e2 (i + r - 1) (by omega)] at this) hL.1 hL.2
  rw [e3, e4]
  exact ⟨rfl, hL.1⟩
