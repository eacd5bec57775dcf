-- most laws left: what both come to
def gV (day v law : Nat) : Nat := if byL law (nI day) = nI v then 1 else 0
def cV (le mo : Nat → Int32) (day v : Nat) : Nat := sumN (fun q => sumN (fun a => if (le q ≤ nI (a + 1) ∧ nI (a + 1) ≤ mo q) then gV day v (100 * (a + 1) + q) else 0) 200) 19
theorem gV_0 (day law : Nat) : gV day 0 law = 0 := if_neg (fun z => by
  have h := byL_in law (nI day)
  rw [z] at h
  exact absurd h.2.1 (by decide))
theorem cV_0 (le mo : Nat → Int32) (day : Nat) : cV le mo day 0 = 0 := sum_z (fun q _ => sum_z (fun a _ => by
  rw [gV_0]
  split <;> rfl))
theorem cl_iff {z : Int} {v : Nat} (hv : 1 ≤ v ∧ v ≤ 200) : clZ z = (v : Int) ↔ (v = 1 ∨ (v : Int) ≤ z) ∧ (v = 200 ∨ z ≤ (v : Int)) := by
  unfold clZ
  split
  · omega
  · split <;> omega
theorem cv_q {le mo : Nat → Int32} (h : lmOK le mo) {day q v : Nat} (hd : day ≤ 60) (hq : q < 19) (hv : 1 ≤ v ∧ v ≤ 200) : sumN (fun a => if (le q ≤ nI (a + 1) ∧ nI (a + 1) ≤ mo q) then gV day v (100 * (a + 1) + q) else 0) 200 = sumN (fun a => b2 (decide ((if v = 1 then (le q).toInt else if (le q).toInt < (v : Int) - slZ q day then (v : Int) - slZ q day else (le q).toInt) ≤ (a : Int) + 1 ∧ (a : Int) + 1 ≤ (if v = 200 then (mo q).toInt else if (v : Int) - slZ q day < (mo q).toInt then (v : Int) - slZ q day else (mo q).toInt)))) 200 := by
  refine sum_cg (fun a ha => ?_)
  have h1 := (in_Z (x := le q) (a := a) (by omega)).1
  have h2 := (in_Z (x := mo q) (a := a) (by omega)).2
  have hs := sl_b hq hd
  have hg : byL (100 * (a + 1) + q) (nI day) = nI v ↔ clZ ((a : Int) + 1 + slZ q day) = (v : Int) := by
    have e := law_d (a := a + 1) (p := q) (by omega)
    unfold byL
    rw [e.1, e.2, sl_I, oZ_n (a + 1), oZ_add, oZ_n v]
    generalize slZ q day = s at hs ⊢
    have b0 : sB (((a + 1 : Nat) : Int) + s) := ⟨by omega, by omega⟩
    have b4 : sB (clZ (((a + 1 : Nat) : Int) + s)) := by
      unfold clZ
      split
      · decide
      · split
        · decide
        · exact b0
    rw [cl_Z b0, oZ_eq b4 ⟨by omega, by omega⟩]
    exact Iff.rfl
  unfold gV b2
  generalize slZ q day = s at hs hg ⊢
  have key : ((le q).toInt ≤ (a : Int) + 1 ∧ (a : Int) + 1 ≤ (mo q).toInt) ∧ clZ ((a : Int) + 1 + s) = (v : Int) ↔ ((if v = 1 then (le q).toInt else if (le q).toInt < (v : Int) - s then (v : Int) - s else (le q).toInt) ≤ (a : Int) + 1 ∧ (a : Int) + 1 ≤ (if v = 200 then (mo q).toInt else if (v : Int) - s < (mo q).toInt then (v : Int) - s else (mo q).toInt)) := by
    generalize (le q).toInt = lo
    generalize (mo q).toInt = mh
    rw [cl_iff hv]
    by_cases c1 : v = 1
    · rw [if_pos c1, if_neg (c := v = 200) (by omega)]
      split <;> omega
    · rw [if_neg c1]
      by_cases c2 : v = 200
      · rw [if_pos c2]
        split <;> omega
      · rw [if_neg c2]
        split <;> split <;> omega
  by_cases c : ((le q).toInt ≤ (a : Int) + 1 ∧ (a : Int) + 1 ≤ (mo q).toInt) ∧ clZ ((a : Int) + 1 + s) = (v : Int)
  · rw [if_pos ⟨h1.mpr c.1.1, h2.mpr c.1.2⟩, if_pos (hg.mpr c.2), if_pos (decide_eq_true (key.mp c))]
  · have e2 : (if decide ((if v = 1 then (le q).toInt else if (le q).toInt < (v : Int) - s then (v : Int) - s else (le q).toInt) ≤ (a : Int) + 1 ∧ (a : Int) + 1 ≤ (if v = 200 then (mo q).toInt else if (v : Int) - s < (mo q).toInt then (v : Int) - s else (mo q).toInt)) = true then 1 else 0) = 0 := if_neg (by rw [decide_eq_true_eq]; exact fun y => c (key.mpr y))
    rw [e2]
    by_cases d : le q ≤ nI (a + 1) ∧ nI (a + 1) ≤ mo q
    · rw [if_pos d, if_neg (fun y => c ⟨⟨h1.mp d.1, h2.mp d.2⟩, hg.mp y⟩)]
    · rw [if_neg d]
theorem cv_1 {le mo : Nat → Int32} (h : lmOK le mo) {day : Nat} (hd : day ≤ 60) : cV le mo day 1 = sumN (aN le mo day) 19 := sum_cg (fun q hq => by
  rw [cv_q h hd hq ⟨by decide, by decide⟩, sum_ivT]
  have hb := h q hq
  have hs := sl_b hq hd
  unfold aN FZ
  generalize slZ q day = s at hs ⊢
  generalize (le q).toInt = lo at hb ⊢
  generalize (mo q).toInt = mh at hb ⊢
  rw [if_pos rfl, if_neg (c := 1 = 200) (by decide)]
  (repeat' split) <;> omega)
theorem cv_200 {le mo : Nat → Int32} (h : lmOK le mo) {day : Nat} (hd : day ≤ 60) : cV le mo day 200 = sumN (bN le mo day) 19 := sum_cg (fun q hq => by
  rw [cv_q h hd hq ⟨by decide, by decide⟩, sum_ivT]
  have hb := h q hq
  have hs := sl_b hq hd
  unfold bN FZ
  generalize slZ q day = s at hs ⊢
  generalize (le q).toInt = lo at hb ⊢
  generalize (mo q).toInt = mh at hb ⊢
  rw [if_pos rfl, if_neg (c := 200 = 1) (by decide)]
  (repeat' split) <;> omega)
theorem cv_m {le mo : Nat → Int32} (h : lmOK le mo) {day t : Nat} (hd : day ≤ 60) (ht : 1 ≤ t ∧ t ≤ 198) : cV le mo day (t + 1) = sumN (rN le mo day t) 19 := sum_cg (fun q hq => by
  rw [cv_q h hd hq ⟨by omega, by omega⟩, sum_ivT]
  have hb := h q hq
  have hs := sl_b hq hd
  unfold rN FZ
  generalize slZ q day = s at hs ⊢
  generalize (le q).toInt = lo at hb ⊢
  generalize (mo q).toInt = mh at hb ⊢
  rw [if_neg (c := t + 1 = 1) (by omega), if_neg (c := t + 1 = 200) (by omega)]
  generalize hX : (if lo + s < 2 then 2 else lo + s) = X
  generalize hY : (if 199 < mh + s then 199 else mh + s) = Y
  have bX : (X = 2 ∧ lo + s < 2) ∨ (X = lo + s ∧ 2 ≤ lo + s) := by rw [← hX]; split <;> omega
  have bY : (Y = 199 ∧ 199 < mh + s) ∨ (Y = mh + s ∧ mh + s ≤ 199) := by rw [← hY]; split <;> omega
  by_cases c : lo ≤ mh ∧ X ≤ 1 + (t : Int) ∧ 1 + (t : Int) ≤ Y
  · rw [if_pos c]
    (repeat' split) <;> omega
  · rw [if_neg c]
    (repeat' split) <;> omega)
theorem aN_le {le mo : Nat → Int32} (h : lmOK le mo) {day : Nat} (hd : day ≤ 60) : sumN (aN le mo day) 19 ≤ 3800 := by
  have h1 : sumN (aN le mo day) 19 ≤ sumN (fun _ => 200) 19 := sum_le (fun q hq => by
    have hb := fz_b h hd hq
    unfold aN
    (repeat' split) <;> omega)
  rw [sum_c] at h1
  exact h1
theorem bN_le {le mo : Nat → Int32} (h : lmOK le mo) {day : Nat} (hd : day ≤ 60) : sumN (bN le mo day) 19 ≤ 3800 := by
  have h1 : sumN (bN le mo day) 19 ≤ sumN (fun _ => 200) 19 := sum_le (fun q hq => by
    have hb := fz_b h hd hq
    unfold bN
    (repeat' split) <;> omega)
  rw [sum_c] at h1
  exact h1
theorem ind_le {P : Prop} [Decidable P] : (if P then 1 else 0 : Nat) ≤ 1 := by split <;> decide
theorem rN_le (le mo : Nat → Int32) (day t : Nat) : sumN (rN le mo day t) 19 ≤ 1000 := by
  have h1 : sumN (rN le mo day t) 19 ≤ sumN (fun _ => 1) 19 := sum_le (fun q hq => by
    exact ind_le)
  rw [sum_c] at h1
  omega
/-- the greatest of 0 to 200 -/
def isMx (C : Nat → Nat) (W : Nat) : Prop := (∀ v, v ≤ 200 → C v ≤ W) ∧ ∃ v, v ≤ 200 ∧ C v = W
theorem mx_un {C : Nat → Nat} {W V : Nat} (h : isMx C W) (k : isMx C V) : W = V := by
  obtain ⟨h1, v, h2, h3⟩ := h
  obtain ⟨k1, u, k2, k3⟩ := k
  have a := h1 u k2
  have b := k1 v h2
  omega
theorem ml_max {le mo : Nat → Int32} (h : lmOK le mo) {day : Nat} (hd : day ≤ 60) : ∃ W, mlF le mo day = nI W ∧ W ≤ 4000 ∧ isMx (cV le mo day) W := by
  obtain ⟨e1, e2, e3⟩ := ml_s h hd 19 (Nat.le_refl _)
  obtain ⟨M, e4, hM, h1, h2⟩ := hr_max (c := fun t => sumN (rN le mo day t) 19) (fun t => rN_le le mo day t) e3 198 (Nat.le_refl _)
  have hA := aN_le h hd
  have hB := bN_le h hd
  have c1 := cv_1 h hd
  have c2 := cv_200 h hd
  have c0 := cV_0 le mo day
  have hr : hrF (mlI le mo day 19).2.2 = nI M := e4
  have h1' : ∀ t, 1 ≤ t → t ≤ 198 → cV le mo day (t + 1) ≤ M := fun t a b => by rw [cv_m h hd ⟨a, b⟩]; exact h1 t a b
  have h2' : M = 0 ∨ ∃ t, 1 ≤ t ∧ t ≤ 198 ∧ cV le mo day (t + 1) = M := by
    rcases h2 with z | ⟨t, a, b, z⟩
    · exact Or.inl z
    · exact Or.inr ⟨t, a, b, by rw [cv_m h hd ⟨a, b⟩]; exact z⟩
  have hex : ∃ v, v ≤ 200 ∧ cV le mo day v = M := by
    rcases h2' with z | ⟨t, a, b, z⟩
    · exact ⟨0, by omega, by rw [c0, z]⟩
    · exact ⟨t + 1, by omega, z⟩
  unfold mlF
  rw [e1, e2, hr]
  generalize sumN (aN le mo day) 19 = A at hA c1 ⊢
  generalize sumN (bN le mo day) 19 = B at hB c2 ⊢
  have hall : ∀ W, A ≤ W → B ≤ W → M ≤ W → ∀ v, v ≤ 200 → cV le mo day v ≤ W := by
    intro W a b c v hv
    rcases (by omega : v = 0 ∨ v = 1 ∨ v = 200 ∨ (1 ≤ v - 1 ∧ v - 1 ≤ 198 ∧ v = v - 1 + 1)) with z | z | z | ⟨z1, z2, z3⟩
    · rw [z, c0]; omega
    · rw [z, c1]; omega
    · rw [z, c2]; omega
    · rw [z3]
      have := h1' (v - 1) z1 z2
      omega
  have eAB : (if nI A < nI B then nI B else nI A) = nI (if A < B then B else A) := by
    by_cases y : A < B
    · rw [if_pos y, if_pos ((nx_lt (a := A) (b := B) rfl rfl (by omega) (by omega)).mpr y)]
    · rw [if_neg y, if_neg (fun z => y ((nx_lt (a := A) (b := B) rfl rfl (by omega) (by omega)).mp z))]
  rw [eAB]
  by_cases y : A < B
  · rw [if_pos y]
    by_cases w : M < B
    · exact ⟨B, if_pos ((nx_lt (a := M) (b := B) rfl rfl (by omega) (by omega)).mpr w), by omega, hall B (by omega) (by omega) (by omega), 200, by omega, c2⟩
    · exact ⟨M, if_neg (fun z => w ((nx_lt (a := M) (b := B) rfl rfl (by omega) (by omega)).mp z)), by omega, hall M (by omega) (by omega) (by omega), hex⟩
  · rw [if_neg y]
    by_cases w : M < A
    · exact ⟨A, if_pos ((nx_lt (a := M) (b := A) rfl rfl (by omega) (by omega)).mpr w), by omega, hall A (by omega) (by omega) (by omega), 1, by omega, c1⟩
    · exact ⟨M, if_neg (fun z => w ((nx_lt (a := M) (b := A) rfl rfl (by omega) (by omega)).mp z)), by omega, hall M (by omega) (by omega) (by omega), hex⟩
-- the model's
def kV (ft : Nat → Int32) (dy v m : Nat) : Nat := sumN (fun k => gV dy v (ft k).toNatClampNeg) m
theorem cn_inv {ft : Nat → Int32} {dy : Nat} : ∀ m, m ≤ 100000 → ∃ W, (itr (cnS ft dy) m (fun _ => 0, 0)).2 = nI W ∧ W ≤ m ∧ (∀ v, v ≤ 200 → (itr (cnS ft dy) m (fun _ => 0, 0)).1 v = nI (kV ft dy v m) ∧ kV ft dy v m ≤ m) ∧ isMx (fun v => kV ft dy v m) W ∧ (m = 0 ∨ 1 ≤ W)
  | 0, _ => ⟨0, rfl, Nat.le_refl 0, fun v _ => ⟨rfl, Nat.le_refl 0⟩, ⟨fun v _ => Nat.le_refl 0, 0, by omega, rfl⟩, Or.inl rfl⟩
  | m + 1, hm => by
    obtain ⟨W, e1, hW, e2, ⟨h1, u, h2, h3⟩, _⟩ := cn_inv (ft := ft) (dy := dy) m (by omega)
    have hi1 : byL (ft m).toNatClampNeg (nI dy) = nI (byL (ft m).toNatClampNeg (nI dy)).toNatClampNeg := (byL_in (ft m).toNatClampNeg (nI dy)).1
    have hin : (byL (ft m).toNatClampNeg (nI dy)).toNatClampNeg ≤ 200 := (byL_in (ft m).toNatClampNeg (nI dy)).2.2
    rw [itr_s]
    generalize itr (cnS ft dy) m (fun _ => 0, 0) = x at e1 e2 ⊢
    unfold cnS
    have hgv : ∀ v, v ≤ 200 → gV dy v (ft m).toNatClampNeg = if v = (byL (ft m).toNatClampNeg (nI dy)).toNatClampNeg then 1 else 0 := by
      intro v hv
      unfold gV
      have q : byL (ft m).toNatClampNeg (nI dy) = nI v ↔ (byL (ft m).toNatClampNeg (nI dy)).toNatClampNeg = v := nx_eq hi1 rfl (by omega) (by omega)
      by_cases c : v = (byL (ft m).toNatClampNeg (nI dy)).toNatClampNeg
      · rw [if_pos c, if_pos (q.mpr c.symm)]
      · rw [if_neg c, if_neg (fun z => c (q.mp z).symm)]
    clear hi1
    generalize (byL (ft m).toNatClampNeg (nI dy)).toNatClampNeg = w at hin hgv ⊢
    have hk : ∀ v, v ≤ 200 → kV ft dy v (m + 1) = kV ft dy v m + (if v = w then 1 else 0) := fun v hv => by
      show kV ft dy v m + gV dy v (ft m).toNatClampNeg = _
      rw [hgv v hv]
    have hkw : kV ft dy w (m + 1) = kV ft dy w m + 1 := by rw [hk w hin, if_pos rfl]
    have hx : x.1 w + 1 = nI (kV ft dy w m + 1) := by rw [(e2 w hin).1]; exact nI_add _ 1
    have hb := (e2 w hin).2
    dsimp only
    rw [hx, e1]
    have e5 : ∀ v, v ≤ 200 → upd x.1 w (nI (kV ft dy w m + 1)) v = nI (kV ft dy v (m + 1)) ∧ kV ft dy v (m + 1) ≤ m + 1 := by
      intro v hv
      rw [hk v hv]
      have := (e2 v hv).2
      by_cases c : v = w
      · rw [c, pk_us, if_pos rfl]
        exact ⟨rfl, by omega⟩
      · rw [pk_un c, if_neg c]
        exact ⟨(e2 v hv).1, by omega⟩
    by_cases c : kV ft dy w m + 1 ≤ W
    · refine ⟨W, if_pos ((nx_le (a := kV ft dy w m + 1) (b := W) rfl rfl (by omega) (by omega)).mpr c), by omega, e5, ⟨fun v hv => ?_, u, h2, ?_⟩, Or.inr (by omega)⟩
      · show kV ft dy v (m + 1) ≤ W
        rw [hk v hv]
        have := h1 v hv
        by_cases d : v = w
        · rw [d, if_pos rfl]; exact c
        · rw [if_neg d]; exact this
      · show kV ft dy u (m + 1) = W
        rw [hk u h2]
        by_cases d : u = w
        · rw [d] at h3
          have h3' : kV ft dy w m = W := h3
          omega
        · rw [if_neg d]; exact h3
    · refine ⟨kV ft dy w m + 1, if_neg (fun z => c ((nx_le (a := kV ft dy w m + 1) (b := W) rfl rfl (by omega) (by omega)).mp z)), by omega, e5, ⟨fun v hv => ?_, w, hin, hkw⟩, Or.inr (by omega)⟩
      show kV ft dy v (m + 1) ≤ kV ft dy w m + 1
      rw [hk v hv]
      have h1v : kV ft dy v m ≤ W := h1 v hv
      by_cases d : v = w
      · rw [d, if_pos rfl]; exact Nat.le_refl _
      · rw [if_neg d]; omega
theorem ff_sum {sight ft : Nat → Int32} {sk : Nat} (g : Nat → Nat) : ∀ T, T ≤ 20000 → (itr (ffS sight sk) T (0, ft)).1 = cnL sight sk T ∧ sumN (fun k => g ((itr (ffS sight sk) T (0, ft)).2 k).toNatClampNeg) (itr (ffS sight sk) T (0, ft)).1 = sumN (fun t => if isL sight sk (100 + t) = true then g (100 + t) else 0) T
  | 0, _ => ⟨rfl, rfl⟩
  | T + 1, hT => by
    obtain ⟨e1, e2⟩ := ff_sum (sight := sight) (ft := ft) (sk := sk) g T (by omega)
    rw [itr_s]
    generalize itr (ffS sight sk) T (0, ft) = x at e1 e2 ⊢
    unfold ffS
    show _ = cnL sight sk T + (if isL sight sk (100 + T) = true then 1 else 0) ∧ _ = sumN (fun t => if isL sight sk (100 + t) = true then g (100 + t) else 0) T + (if isL sight sk (100 + T) = true then g (100 + T) else 0)
    by_cases c : isL sight sk (100 + T) = true
    · rw [if_pos c, if_pos c, if_pos c]
      dsimp only
      refine ⟨by rw [e1], ?_⟩
      show sumN (fun k => g (upd x.2 x.1 (nI (100 + T)) k).toNatClampNeg) x.1 + g (upd x.2 x.1 (nI (100 + T)) x.1).toNatClampNeg = _
      rw [pk_us, nI_clamp (by omega), ← e2]
      congr 1
      exact sum_cg (fun k hk => by rw [pk_un (by omega)])
    · rw [if_neg c, if_neg c, if_neg c]
      exact ⟨e1, e2⟩
theorem cn_max {sd si sight ft : Nat → Int32} {sk : Nat} (h : sgOK sd si sight sk) (dy : Nat) : ∃ W, cnM (ffM sight sk ft).2 (ffM sight sk ft).1 dy = nI W ∧ isMx (cV (loF sd si sk) (moF sd si sk) dy) W ∧ ((ffM sight sk ft).1 = 0 ∨ 1 ≤ W) := by
  have hn : (ffM sight sk ft).1 ≤ 100000 := by
    have e := (ff_sum (sight := sight) (ft := ft) (sk := sk) (fun _ => 0) 20000 (Nat.le_refl _)).1
    have e2 := cnL_le sight sk 20000
    have e3 : (ffM sight sk ft).1 = cnL sight sk 20000 := e
    rw [e3]
    exact Nat.le_trans e2 (by decide)
  obtain ⟨W, e1, _, _, ⟨h1, u, h2, h3⟩, h4⟩ := cn_inv (ft := (ffM sight sk ft).2) (dy := dy) (ffM sight sk ft).1 hn
  have hk : ∀ v, kV (ffM sight sk ft).2 dy v (ffM sight sk ft).1 = cV (loF sd si sk) (moF sd si sk) dy v := fun v =>
    (ff_sum (sight := sight) (ft := ft) (sk := sk) (gV dy v) 20000 (Nat.le_refl _)).2.trans (law_sum h (gV dy v))
  refine ⟨W, e1, ⟨fun v hv => ?_, u, h2, ?_⟩, h4⟩
  · rw [← hk v]; exact h1 v hv
  · rw [← hk u]; exact h3
theorem ml_cn {sd si sight ft : Nat → Int32} {sk : Nat} (h : sgOK sd si sight sk) {dy : Nat} (hd : dy ≤ 60) : ∃ W, mlF (loF sd si sk) (moF sd si sk) dy = nI W ∧ cnM (ffM sight sk ft).2 (ffM sight sk ft).1 dy = nI W ∧ W ≤ 4000 ∧ ((ffM sight sk ft).1 = 0 ∨ 1 ≤ W) := by
  obtain ⟨W, e1, h1, h2⟩ := ml_max (lm_of h) hd
  obtain ⟨V, e2, h3, h4⟩ := cn_max (ft := ft) h dy
  have e := mx_un h2 h3
  subst e
  exact ⟨W, e1, e2, h1, h4⟩
/-- the best day: what both loops have behind m days more -/
theorem bd_sim {le mo ft : Nat → Int32} {n : Nat} (hw : ∀ d, d ≤ 60 → ∃ W, mlF le mo d = nI W ∧ cnM ft n d = nI W ∧ W ≤ 4000 ∧ 1 ≤ W) : ∀ m, m ≤ 60 → ∃ d, d ≤ 60 ∧ itr (akS ft n) (m + 1) (-6, 1000000) = (nI d, mlF le mo d) ∧ ((itE (bdS le mo) m 1 (0, mlF le mo 0) = .inr (d, mlF le mo d)) ∨ (mlF le mo d ≤ 1 ∧ ∃ z, itE (bdS le mo) m 1 (0, mlF le mo 0) = .inl (d, z)))
  | 0, _ => by
    refine ⟨0, by omega, ?_, Or.inl rfl⟩
    obtain ⟨W, e1, e2, h1, h2⟩ := hw 0 (by omega)
    show akS ft n 0 (-6, 1000000) = _
    unfold akS
    dsimp only
    rw [e1, e2, if_neg (fun z => by
      have := (nx_le (x := 1000000) (y := nI W) (a := 1000000) (b := W) rfl rfl (by decide) (by omega)).mp z
      omega)]
  | m + 1, hm => by
    obtain ⟨d, hd, ea, eb⟩ := bd_sim hw m (by omega)
    obtain ⟨W, e1, e2, h1, h2⟩ := hw d hd
    obtain ⟨V, f1, f2, g1, g2⟩ := hw (m + 1) hm
    rw [itr_s, ea]
    have hs := itE_sn (f := bdS le mo) m 1 (0, mlF le mo 0)
    have hak : akS ft n (m + 1) (nI d, mlF le mo d) = if W ≤ V then (nI d, mlF le mo d) else (nI (m + 1), mlF le mo (m + 1)) := by
      unfold akS
      dsimp only
      rw [e1, f2, f1]
      by_cases c : W ≤ V
      · rw [if_pos c, if_pos ((nx_le (a := W) (b := V) rfl rfl (by omega) (by omega)).mpr c)]
      · rw [if_neg c, if_neg (fun z => c ((nx_le (a := W) (b := V) rfl rfl (by omega) (by omega)).mp z))]
    have hone : mlF le mo d ≤ 1 ↔ W ≤ 1 := by
      rw [e1]
      exact nx_le (x := nI W) (y := 1) (a := W) (b := 1) rfl rfl (by omega) (by decide)
    rcases eb with eb | ⟨h3, z, eb⟩
    · by_cases c1 : mlF le mo d ≤ 1
      · have hW := hone.mp c1
        refine ⟨d, hd, by rw [hak, if_pos (by omega)], Or.inr ⟨c1, 1 + m - 1, ?_⟩⟩
        rw [hs.2 _ eb]
        exact if_pos c1
      · have hb : itE (bdS le mo) (m + 1) 1 (0, mlF le mo 0) = .inr (if W ≤ V then (d, mlF le mo d) else (m + 1, mlF le mo (m + 1))) := by
          rw [hs.2 _ eb]
          unfold bdS
          rw [if_neg c1, Nat.add_comm 1 m]
          dsimp only
          rw [e1, f1]
          by_cases c : W ≤ V
          · rw [if_pos c, if_neg (fun z => by
              have := (nx_lt (a := V) (b := W) rfl rfl (by omega) (by omega)).mp z
              omega)]
          · rw [if_neg c, if_pos ((nx_lt (a := V) (b := W) rfl rfl (by omega) (by omega)).mpr (by omega))]
        by_cases c : W ≤ V
        · rw [if_pos c] at hb hak
          exact ⟨d, hd, hak, Or.inl hb⟩
        · rw [if_neg c] at hb hak
          exact ⟨m + 1, hm, hak, Or.inl hb⟩
    · have hW := hone.mp h3
      exact ⟨d, hd, by rw [hak, if_pos (by omega)], Or.inr ⟨h3, z, hs.1 _ eb⟩⟩
theorem r_ask {sd si sight : Nat → Int32} {sk : Nat} (h : sgOK sd si sight sk) (ft : Nat → Int32) (what : Int32) : (if 0 ≤ what ∧ what ≤ 1 then (if hmF (loF sd si sk) (moF sd si sk) = 0 then -6 else if what = 0 then nI (bdF (loF sd si sk) (moF sd si sk)).1 else mlF (loF sd si sk) (moF sd si sk) (bdF (loF sd si sk) (moF sd si sk)).1) else -2) = (if ¬ (0 ≤ what ∧ what ≤ 1) then -2 else if (akM (ffM sight sk ft).2 (ffM sight sk ft).1).1 < 0 ∨ what = 0 then (akM (ffM sight sk ft).2 (ffM sight sk ft).1).1 else (akM (ffM sight sk ft).2 (ffM sight sk ft).1).2) := by
  by_cases hc : 0 ≤ what ∧ what ≤ 1
  · rw [if_pos hc, if_neg (not_not_intro hc)]
    have e3 : (ffM sight sk ft).1 = cnL sight sk 20000 := (ff_sum (sight := sight) (ft := ft) (sk := sk) (fun _ => 0) 20000 (Nat.le_refl _)).1
    have e4 := (cnL_e h).symm
    have e5 := hm_e (lm_of h)
    have e6 := wd_sum (lm_of h)
    rw [e4] at e5 e6
    have hz : hmF (loF sd si sk) (moF sd si sk) = 0 ↔ (ffM sight sk ft).1 = 0 := by
      rw [e5, e3]
      exact nx_eq (x := nI (cnL sight sk 20000)) (y := 0) (a := cnL sight sk 20000) (b := 0) rfl rfl (by omega) (by decide)
    by_cases n0 : (ffM sight sk ft).1 = 0
    · have ea : akM (ffM sight sk ft).2 (ffM sight sk ft).1 = (-6, 1000000) := if_pos n0
      rw [if_pos (hz.mpr n0), ea, if_pos (Or.inl (by decide))]
    · have ea : akM (ffM sight sk ft).2 (ffM sight sk ft).1 = itr (akS (ffM sight sk ft).2 (ffM sight sk ft).1) 61 (-6, 1000000) := if_neg n0
      rw [if_neg (fun z => n0 (hz.mp z))]
      have hw : ∀ d, d ≤ 60 → ∃ W, mlF (loF sd si sk) (moF sd si sk) d = nI W ∧ cnM (ffM sight sk ft).2 (ffM sight sk ft).1 d = nI W ∧ W ≤ 4000 ∧ 1 ≤ W := fun d hd => by
        obtain ⟨W, a1, a2, a3, a4⟩ := ml_cn (ft := ft) h hd
        exact ⟨W, a1, a2, a3, a4.resolve_left n0⟩
      obtain ⟨d, hd, eb, ec⟩ := bd_sim hw 60 (Nat.le_refl _)
      have ed : (bdF (loF sd si sk) (moF sd si sk)).1 = d := by
        unfold bdF
        rcases ec with ec | ⟨_, z, ec⟩ <;> rw [ec]
      have ef : akM (ffM sight sk ft).2 (ffM sight sk ft).1 = (nI d, mlF (loF sd si sk) (moF sd si sk) d) := ea.trans eb
      have hd0 : ¬ nI d < 0 := Int32.not_lt.mpr (nn_0 (by omega))
      rw [ef, ed]
      dsimp only
      by_cases w0 : what = 0
      · rw [if_pos w0, if_pos (Or.inr w0)]
      · rw [if_neg w0, if_neg (fun z => z.elim hd0 w0)]
  · rw [if_neg hc, if_pos hc]
