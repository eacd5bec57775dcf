-- the class's reader against the model's
theorem rd_cg {signs pad : Nat → Int32} {sn : Nat} (h : ∀ j, j < sn → signs j = pad j) (kd on pl nm : Nat → Int32) : rdC signs sn kd on pl nm = rdC pad sn kd on pl nm := by
  unfold rdC
  rw [itE_cg (f := rdS signs) (g := rdS pad) sn 0 _ (fun i t _ h2 => by unfold rdS; rw [h i (by omega)])]
theorem pd_0 {c : Nat} {kd on pl nm : Nat → Int32} {s : Int32} : pdStep 0 c kd on pl nm s = pdBegin c kd on pl nm s := if_pos rfl
theorem pd_1 {c : Nat} {kd on pl nm : Nat → Int32} {s : Int32} : pdStep 1 c kd on pl nm s = pdVerb c kd on pl nm s := by
  unfold pdStep; rw [if_neg (by decide), if_pos rfl]
theorem pd_2 {c : Nat} {kd on pl nm : Nat → Int32} {s : Int32} : pdStep 2 c kd on pl nm s = pdPlace c kd on pl nm s := by
  unfold pdStep; rw [if_neg (by decide), if_neg (by decide), if_pos rfl]
theorem pd_3 {c : Nat} {kd on pl nm : Nat → Int32} {s : Int32} : pdStep 3 c kd on pl nm s = pdNum c kd on pl nm s := by
  unfold pdStep; rw [if_neg (by decide), if_neg (by decide), if_neg (by decide)]
theorem st_0 (s : Int32) : stN 0 s = if 65 ≤ s ∧ s ≤ 70 then 1 else if s = 60 ∨ s = 62 then 2 else if s = 46 then 0 else 5 := if_pos rfl
theorem st_1 (s : Int32) : stN 1 s = if s = 43 ∨ s = 45 then 2 else if s = 47 then 3 else if s = 40 ∨ s = 41 then 4 else if s = 61 ∨ s = 120 then 0 else 5 := by
  unfold stN; rw [if_neg (by decide), if_pos rfl]
theorem st_2 (s : Int32) : stN 2 s = if 49 ≤ s ∧ s ≤ 57 then 0 else 5 := by
  unfold stN; rw [if_neg (by decide), if_neg (by decide), if_pos rfl]
theorem st_3 (s : Int32) : stN 3 s = if 48 ≤ s ∧ s ≤ 55 then 2 else 5 := by
  unfold stN; rw [if_neg (by decide), if_neg (by decide), if_neg (by decide), if_pos rfl]
theorem st_4 (s : Int32) : stN 4 s = if 48 ≤ s ∧ s ≤ 51 then 2 else 5 := by
  unfold stN; rw [if_neg (by decide), if_neg (by decide), if_neg (by decide), if_neg (by decide)]
def RQ (x : PS) (q : Nat) : Prop := (x.1 = 0 ∧ q = 0) ∨ (x.1 = 1 ∧ q = 1) ∨ (x.1 = 3 ∧ q = 2) ∨ (x.1 = 2 ∧ x.2.2.1 x.2.1 = 47 ∧ q = 3) ∨ (x.1 = 2 ∧ x.2.2.1 x.2.1 ≠ 47 ∧ q = 4)
theorem rq_0 {c : Nat} {kd on pl nm : Nat → Int32} : RQ (0, c, kd, on, pl, nm) 0 := Or.inl ⟨rfl, rfl⟩
theorem rq_1 {c : Nat} {kd on pl nm : Nat → Int32} : RQ (1, c, kd, on, pl, nm) 1 := Or.inr (Or.inl ⟨rfl, rfl⟩)
theorem rq_3 {c : Nat} {kd on pl nm : Nat → Int32} : RQ (3, c, kd, on, pl, nm) 2 := Or.inr (Or.inr (Or.inl ⟨rfl, rfl⟩))
theorem rq_a {c : Nat} {kd on pl nm : Nat → Int32} (h : kd c = 47) : RQ (2, c, kd, on, pl, nm) 3 := Or.inr (Or.inr (Or.inr (Or.inl ⟨rfl, h, rfl⟩)))
theorem rq_b {c : Nat} {kd on pl nm : Nat → Int32} (h : kd c ≠ 47) : RQ (2, c, kd, on, pl, nm) 4 := Or.inr (Or.inr (Or.inr (Or.inr ⟨rfl, h, rfl⟩)))
theorem rq_s {a c : Nat} {kd on pl nm : Nat → Int32} {q : Nat} {s : Int32} (h : RQ (a, c, kd, on, pl, nm) q) : ((pdStep a c kd on pl nm s).1 = 4 ∧ stN q s = 5) ∨ ((pdStep a c kd on pl nm s).1 ≠ 4 ∧ stN q s ≠ 5 ∧ RQ (pdStep a c kd on pl nm s) (stN q s)) := by
  unfold RQ at h
  dsimp only at h
  rcases h with ⟨rfl, rfl⟩ | ⟨rfl, rfl⟩ | ⟨rfl, rfl⟩ | ⟨rfl, h, rfl⟩ | ⟨rfl, h, rfl⟩
  · rw [pd_0, st_0]
    unfold pdBegin
    by_cases hA : 65 ≤ s ∧ s ≤ 70
    · rw [if_pos hA, if_pos hA]; exact Or.inr ⟨by simp, by simp, rq_1⟩
    · rw [if_neg hA, if_neg hA]
      by_cases hB : s = 60 ∨ s = 62
      · rw [if_pos hB, if_pos hB]; exact Or.inr ⟨by simp, by simp, rq_3⟩
      · rw [if_neg hB, if_neg hB]
        by_cases hC : s = 46
        · rw [if_pos hC, if_pos hC]; exact Or.inr ⟨by simp, by simp, rq_0⟩
        · rw [if_neg hC, if_neg hC]; exact Or.inl ⟨rfl, rfl⟩
  · rw [pd_1, st_1]
    unfold pdVerb
    by_cases h43 : s = 43 ∨ s = 45
    · rw [if_pos h43, if_neg (by rcases h43 with rfl | rfl <;> decide), if_pos h43]; exact Or.inr ⟨by simp, by simp, rq_3⟩
    · rw [if_neg h43, if_neg h43]
      by_cases h47 : s = 47
      · subst h47
        rw [if_pos rfl, if_pos (by decide)]; exact Or.inr ⟨by simp, by simp, rq_a pk_us⟩
      · rw [if_neg h47]
        by_cases h40 : s = 40 ∨ s = 41
        · rw [if_pos h40, if_pos (by rcases h40 with rfl | rfl <;> decide)]
          exact Or.inr ⟨by simp, by simp, rq_b (by rw [pk_us]; exact h47)⟩
        · rw [if_neg h40, if_neg (show ¬ (s = 40 ∨ s = 41 ∨ s = 47) from fun z => by
            rcases z with z | z | z
            · exact h40 (Or.inl z)
            · exact h40 (Or.inr z)
            · exact h47 z)]
          by_cases h61 : s = 61 ∨ s = 120
          · rw [if_pos h61, if_pos h61]; exact Or.inr ⟨by simp, by simp, rq_0⟩
          · rw [if_neg h61, if_neg h61]; exact Or.inl ⟨rfl, rfl⟩
  · rw [pd_3, st_2]
    unfold pdNum
    by_cases hA : 49 ≤ s ∧ s ≤ 57
    · rw [if_pos hA, if_pos hA]; exact Or.inr ⟨by simp, by simp, rq_0⟩
    · rw [if_neg hA, if_neg hA]; exact Or.inl ⟨rfl, rfl⟩
  · rw [pd_2, st_3]
    unfold pdPlace
    rw [if_pos h]
    by_cases hA : 48 ≤ s ∧ s ≤ 55
    · rw [if_pos hA, if_pos hA]; exact Or.inr ⟨by simp, by simp, rq_3⟩
    · rw [if_neg hA, if_neg hA]; exact Or.inl ⟨rfl, rfl⟩
  · rw [pd_2, st_4]
    unfold pdPlace
    rw [if_neg h]
    by_cases hA : 48 ≤ s ∧ s ≤ 51
    · rw [if_pos hA, if_pos hA]; exact Or.inr ⟨by simp, by simp, rq_3⟩
    · rw [if_neg hA, if_neg hA]; exact Or.inl ⟨rfl, rfl⟩
theorem rq_it {pad : Nat → Int32} : ∀ (n k : Nat) (x : PS) (q : Nat), RQ x q → (∃ v y, itE (rdS pad) n k x = .inl (v, y) ∧ itE (ftS pad) n k q = .inl v) ∨ (∃ y q2, itE (rdS pad) n k x = .inr y ∧ itE (ftS pad) n k q = .inr q2 ∧ RQ y q2)
  | 0, k, x, q, h => Or.inr ⟨x, q, rfl, rfl, h⟩
  | n + 1, k, x, q, h => by
    obtain ⟨a, c, kd, on, pl, nm⟩ := x
    rcases rq_s (s := pad k) h with ⟨h1, h2⟩ | ⟨h1, h2, h3⟩
    · exact Or.inl ⟨nI k, pdStep a c kd on pl nm (pad k), itE_l (if_pos h1), itE_l (if_pos h2)⟩
    · rw [itE_r (f := rdS pad) (i := k) (s := (a, c, kd, on, pl, nm)) (s2 := pdStep a c kd on pl nm (pad k)) (if_neg h1), itE_r (f := ftS pad) (i := k) (s := q) (s2 := stN q (pad k)) (if_neg h2)]
      exact rq_it n (k + 1) _ _ h3
theorem r_fault {signs pad : Nat → Int32} {sn : Nat} (h : ∀ j, j < sn → signs j = pad j) (kd on pl nm : Nat → Int32) : (rdC signs sn kd on pl nm).1 = ftM pad sn := by
  rw [rd_cg h]
  unfold rdC ftM
  rcases rq_it (pad := pad) sn 0 (0, 0, kd, on, pl, nm) 0 rq_0 with ⟨v, y, e1, e2⟩ | ⟨y, q2, e1, e2, h2⟩
  · rw [e1, e2]; rfl
  · rw [e1, e2]
    show (if y.1 = 0 then -6 else nI sn) = (if q2 = 0 then -6 else nI sn)
    have z : y.1 = 0 ↔ q2 = 0 := by
      rcases h2 with ⟨z1, z2⟩ | ⟨z1, z2⟩ | ⟨z1, z2⟩ | ⟨z1, _, z2⟩ | ⟨z1, _, z2⟩ <;> rw [z1, z2] <;> decide
    by_cases w : q2 = 0
    · rw [if_pos w, if_pos (z.mpr w)]
    · rw [if_neg w, if_neg (fun u => w (z.mp u))]
-- texts into acts
def TK (pad kd on pl nm : Nat → Int32) (c p p2 : Nat) : Prop := (pad p = 46 ∧ kd c = 46 ∧ p2 = p + 1) ∨ ((pad p = 60 ∨ pad p = 62) ∧ kd c = pad p ∧ nm c = pad (p + 1) - 48 ∧ (49 ≤ pad (p + 1) ∧ pad (p + 1) ≤ 57) ∧ p2 = p + 2) ∨ ((65 ≤ pad p ∧ pad p ≤ 70) ∧ on c = pad p - 65 ∧ kd c = pad (p + 1) ∧ (((pad (p + 1) = 61 ∨ pad (p + 1) = 120) ∧ p2 = p + 2) ∨ ((pad (p + 1) = 43 ∨ pad (p + 1) = 45) ∧ nm c = pad (p + 2) - 48 ∧ (49 ≤ pad (p + 2) ∧ pad (p + 2) ≤ 57) ∧ p2 = p + 3) ∨ (pad (p + 1) = 47 ∧ pl c = pad (p + 2) - 48 ∧ nm c = pad (p + 3) - 48 ∧ (48 ≤ pad (p + 2) ∧ pad (p + 2) ≤ 55) ∧ (49 ≤ pad (p + 3) ∧ pad (p + 3) ≤ 57) ∧ p2 = p + 4) ∨ ((pad (p + 1) = 40 ∨ pad (p + 1) = 41) ∧ pl c = pad (p + 2) - 48 ∧ nm c = pad (p + 3) - 48 ∧ (48 ≤ pad (p + 2) ∧ pad (p + 2) ≤ 51) ∧ (49 ≤ pad (p + 3) ∧ pad (p + 3) ≤ 57) ∧ p2 = p + 4)))
theorem TK_c {pad kd on pl nm kd2 on2 pl2 nm2 : Nat → Int32} {c p p2 : Nat} (h : TK pad kd on pl nm c p p2) (e1 : kd2 c = kd c) (e2 : on2 c = on c) (e3 : pl2 c = pl c) (e4 : nm2 c = nm c) : TK pad kd2 on2 pl2 nm2 c p p2 := by
  unfold TK at h ⊢
  rw [e1, e2, e3, e4]
  exact h
def CH (pad kd on pl nm : Nat → Int32) (sg : Nat) : Nat → Nat → Nat → Prop
  | 0, _, p => p = sg
  | n + 1, c, p => p < sg ∧ ∃ p2, TK pad kd on pl nm c p p2 ∧ CH pad kd on pl nm sg n (c + 1) p2
theorem rd_st {pad : Nat → Int32} {sg p p1 a c : Nat} {kd on pl nm : Nat → Int32} {y : PS} (hp : p < sg) (e : p1 = p + 1) (h : pdStep a c kd on pl nm (pad p) = y) (h4 : ¬ y.1 = 4) : itE (rdS pad) (sg - p) p (a, c, kd, on, pl, nm) = itE (rdS pad) (sg - p1) p1 y := by
  subst e
  rw [show sg - p = (sg - (p + 1)) + 1 by omega]
  refine itE_r ?_
  rw [← h] at h4 ⊢
  exact if_neg h4
/-- what is left of a text is read from here on, its acts from the c-th on -/
def RD (pad kd on pl nm : Nat → Int32) (sg c p : Nat) : Prop := ∃ n kd2 on2 pl2 nm2, itE (rdS pad) (sg - p) p (0, c, kd, on, pl, nm) = .inr (0, c + n, kd2, on2, pl2, nm2) ∧ n ≤ sg - p ∧ (∀ i, i < c → kd2 i = kd i ∧ on2 i = on i ∧ pl2 i = pl i ∧ nm2 i = nm i) ∧ CH pad kd2 on2 pl2 nm2 sg n c p
theorem RD_s {pad kd on pl nm kd1 on1 pl1 nm1 : Nat → Int32} {sg c p p2 : Nat} (hp : p < sg) (hp2 : p < p2) (h2 : p2 ≤ sg) (e : itE (rdS pad) (sg - p) p (0, c, kd, on, pl, nm) = itE (rdS pad) (sg - p2) p2 (0, c + 1, kd1, on1, pl1, nm1)) (hf : ∀ i, i < c → kd1 i = kd i ∧ on1 i = on i ∧ pl1 i = pl i ∧ nm1 i = nm i) (hT : TK pad kd1 on1 pl1 nm1 c p p2) (h : RD pad kd1 on1 pl1 nm1 sg (c + 1) p2) : RD pad kd on pl nm sg c p := by
  obtain ⟨n, kd2, on2, pl2, nm2, q1, q2, q3, q4⟩ := h
  refine ⟨n + 1, kd2, on2, pl2, nm2, ?_, by omega, fun i hi => ?_, hp, p2, ?_, q4⟩
  · rw [e, q1, show c + 1 + n = c + (n + 1) by omega]
  · have z := q3 i (by omega)
    have y := hf i hi
    exact ⟨z.1.trans y.1, z.2.1.trans y.2.1, z.2.2.1.trans y.2.2.1, z.2.2.2.trans y.2.2.2⟩
  · have z := q3 c (by omega)
    exact TK_c hT z.1 z.2.1 z.2.2.1 z.2.2.2
theorem up_1 {f : Nat → Int32} {c i : Nat} {x : Int32} (h : i < c) : upd f c x i = f i := pk_un (by omega)
theorem up_2 {f : Nat → Int32} {c i : Nat} {x y : Int32} (h : i < c) : upd (upd f c x) c y i = f i := by rw [up_1 h, up_1 h]
theorem rd_ch {pad : Nat → Int32} {sg : Nat} : ∀ (m p c : Nat) (kd on pl nm : Nat → Int32), sg - p < m → WF pad sg p → RD pad kd on pl nm sg c p
  | 0, _, _, _, _, _, _, h, _ => absurd h (Nat.not_lt_zero _)
  | m + 1, p, c, kd, on, pl, nm, hm, hW => by
    by_cases hp : p < sg
    · rcases WF_tok hW hp with ⟨h46, w⟩ | ⟨hb, p1, hd, w⟩ | ⟨hA, p1, q⟩
      · refine RD_s (kd1 := upd kd c (pad p)) (on1 := upd on c 0) (pl1 := upd pl c 0) (nm1 := upd nm c 0) (p2 := p + 1) hp (by omega) w.1 (rd_st hp rfl ?_ (by simp)) (fun i hi => ⟨up_1 hi, up_1 hi, up_1 hi, up_1 hi⟩) (Or.inl ⟨h46, by rw [pk_us]; exact h46, rfl⟩) (rd_ch m _ _ _ _ _ _ (by omega) w)
        rw [pd_0]; unfold pdBegin
        rw [if_neg (by rw [h46]; decide), if_neg (by rw [h46]; decide), if_pos h46]
      · refine RD_s (kd1 := upd kd c (pad p)) (on1 := upd on c 0) (pl1 := upd pl c 0) (nm1 := upd (upd nm c 0) c (pad (p + 1) - 48)) (p2 := p + 2) hp (by omega) w.1 ((rd_st hp rfl (y := (3, c, upd kd c (pad p), upd on c 0, upd pl c 0, upd nm c 0)) ?_ (by simp)).trans (rd_st p1 rfl ?_ (by simp))) (fun i hi => ⟨up_1 hi, up_1 hi, up_1 hi, up_2 hi⟩) (Or.inr (Or.inl ⟨hb, pk_us, pk_us, hd, rfl⟩)) (rd_ch m _ _ _ _ _ _ (by omega) w)
        · rw [pd_0]; unfold pdBegin
          rw [if_neg (by rcases hb with z | z <;> rw [z] <;> decide), if_pos hb]
        · rw [pd_3]; unfold pdNum
          rw [if_pos hd]
      · have s1 := rd_st (kd := kd) (on := on) (pl := pl) (nm := nm) (c := c) (a := 0) hp rfl (y := (1, c, upd kd c (pad p), upd (upd on c 0) c (pad p - 65), upd pl c 0, upd nm c 0)) (by rw [pd_0]; unfold pdBegin; rw [if_pos hA]) (by simp)
        rcases q with ⟨q, w⟩ | ⟨q, p2, hd, w⟩ | ⟨q, p3, hl, hd, w⟩ | ⟨q, p3, hl, hd, w⟩
        · refine RD_s (kd1 := upd (upd kd c (pad p)) c (pad (p + 1))) (on1 := upd (upd on c 0) c (pad p - 65)) (pl1 := upd pl c 0) (nm1 := upd nm c 0) (p2 := p + 2) hp (by omega) w.1 (s1.trans (rd_st p1 rfl ?_ (by simp))) (fun i hi => ⟨up_2 hi, up_2 hi, up_1 hi, up_1 hi⟩) (Or.inr (Or.inr ⟨hA, pk_us, pk_us, Or.inl ⟨q, rfl⟩⟩)) (rd_ch m _ _ _ _ _ _ (by omega) w)
          rw [pd_1]; unfold pdVerb
          rw [if_neg (by rcases q with z | z <;> rw [z] <;> decide), if_neg (by rcases q with z | z <;> rw [z] <;> decide), if_pos q]
        · refine RD_s (kd1 := upd (upd kd c (pad p)) c (pad (p + 1))) (on1 := upd (upd on c 0) c (pad p - 65)) (pl1 := upd pl c 0) (nm1 := upd (upd nm c 0) c (pad (p + 2) - 48)) (p2 := p + 3) hp (by omega) w.1 (s1.trans ((rd_st p1 rfl (y := (3, c, upd (upd kd c (pad p)) c (pad (p + 1)), upd (upd on c 0) c (pad p - 65), upd pl c 0, upd nm c 0)) ?_ (by simp)).trans (rd_st p2 rfl ?_ (by simp)))) (fun i hi => ⟨up_2 hi, up_2 hi, up_1 hi, up_2 hi⟩) (Or.inr (Or.inr ⟨hA, pk_us, pk_us, Or.inr (Or.inl ⟨q, pk_us, hd, rfl⟩)⟩)) (rd_ch m _ _ _ _ _ _ (by omega) w)
          · rw [pd_1]; unfold pdVerb
            rw [if_neg (by rcases q with z | z <;> rw [z] <;> decide), if_pos q]
          · rw [pd_3]; unfold pdNum
            rw [if_pos hd]
        · refine RD_s (kd1 := upd (upd kd c (pad p)) c (pad (p + 1))) (on1 := upd (upd on c 0) c (pad p - 65)) (pl1 := upd (upd pl c 0) c (pad (p + 2) - 48)) (nm1 := upd (upd nm c 0) c (pad (p + 3) - 48)) (p2 := p + 4) hp (by omega) w.1 (s1.trans ((rd_st p1 rfl (y := (2, c, upd (upd kd c (pad p)) c (pad (p + 1)), upd (upd on c 0) c (pad p - 65), upd pl c 0, upd nm c 0)) ?_ (by simp)).trans ((rd_st (by omega) rfl (y := (3, c, upd (upd kd c (pad p)) c (pad (p + 1)), upd (upd on c 0) c (pad p - 65), upd (upd pl c 0) c (pad (p + 2) - 48), upd nm c 0)) ?_ (by simp)).trans (rd_st (by omega) rfl ?_ (by simp))))) (fun i hi => ⟨up_2 hi, up_2 hi, up_2 hi, up_2 hi⟩) (Or.inr (Or.inr ⟨hA, pk_us, pk_us, Or.inr (Or.inr (Or.inl ⟨q, pk_us, pk_us, hl, hd, rfl⟩))⟩)) (rd_ch m _ _ _ _ _ _ (by omega) w)
          · rw [pd_1]; unfold pdVerb
            rw [if_pos (Or.inr (Or.inr q))]
          · rw [pd_2]; unfold pdPlace
            rw [if_pos (show upd (upd kd c (pad p)) c (pad (p + 1)) c = 47 by rw [pk_us]; exact q), if_pos hl]
          · rw [pd_3]; unfold pdNum
            rw [if_pos hd]
        · refine RD_s (kd1 := upd (upd kd c (pad p)) c (pad (p + 1))) (on1 := upd (upd on c 0) c (pad p - 65)) (pl1 := upd (upd pl c 0) c (pad (p + 2) - 48)) (nm1 := upd (upd nm c 0) c (pad (p + 3) - 48)) (p2 := p + 4) hp (by omega) w.1 (s1.trans ((rd_st p1 rfl (y := (2, c, upd (upd kd c (pad p)) c (pad (p + 1)), upd (upd on c 0) c (pad p - 65), upd pl c 0, upd nm c 0)) ?_ (by simp)).trans ((rd_st (by omega) rfl (y := (3, c, upd (upd kd c (pad p)) c (pad (p + 1)), upd (upd on c 0) c (pad p - 65), upd (upd pl c 0) c (pad (p + 2) - 48), upd nm c 0)) ?_ (by simp)).trans (rd_st (by omega) rfl ?_ (by simp))))) (fun i hi => ⟨up_2 hi, up_2 hi, up_2 hi, up_2 hi⟩) (Or.inr (Or.inr ⟨hA, pk_us, pk_us, Or.inr (Or.inr (Or.inr ⟨q, pk_us, pk_us, hl, hd, rfl⟩))⟩)) (rd_ch m _ _ _ _ _ _ (by omega) w)
          · rw [pd_1]; unfold pdVerb
            rw [if_pos (by rcases q with z | z; exact Or.inl z; exact Or.inr (Or.inl z))]
          · rw [pd_2]; unfold pdPlace
            rw [if_neg (show ¬ upd (upd kd c (pad p)) c (pad (p + 1)) c = 47 by rw [pk_us]; rcases q with z | z <;> rw [z] <;> decide), if_pos hl]
          · rw [pd_3]; unfold pdNum
            rw [if_pos hd]
    · have e : p = sg := Nat.le_antisymm hW.1 (Nat.le_of_not_lt hp)
      exact ⟨0, kd, on, pl, nm, by rw [show sg - p = 0 by omega]; rfl, by omega, fun i _ => ⟨rfl, rfl, rfl, rfl⟩, e⟩
theorem rd_all {pad : Nat → Int32} {sg : Nat} (hs : sg ≤ 60) (h : ¬ 0 ≤ ftM pad sg) (kd on pl nm : Nat → Int32) : ∃ n kd2 on2 pl2 nm2, rdC pad sg kd on pl nm = (-6, 0, n, kd2, on2, pl2, nm2) ∧ n ≤ sg ∧ CH pad kd2 on2 pl2 nm2 sg n 0 0 := by
  obtain ⟨n, kd2, on2, pl2, nm2, e, h1, -, h2⟩ := rd_ch (pad := pad) (sg := sg) (sg + 1) 0 0 kd on pl nm (by omega) (ft_neg hs h)
  refine ⟨n, kd2, on2, pl2, nm2, ?_, by omega, h2⟩
  unfold rdC
  rw [Nat.sub_zero] at e
  rw [e, Nat.zero_add]
  rfl
