theorem RR_cg {r : Rl} {book book2 week week2 sight sight2 : Nat → Int32} {sk : Nat} (h1 : ∀ j, j < 40 → book2 j = book j) (h2 : ∀ j, j < 7 → week2 j = week j) (h3 : ∀ j, j < 16 → sight2 j = sight j) (h : RR r book week sight sk) : RR r book2 week2 sight2 sk := by
  obtain ⟨⟨a1, a2, a3, a4, a5, a6⟩, ⟨s1, s2, s3, s4⟩, hO⟩ := h
  refine ⟨⟨fun o ho => ?_, fun s hs => ?_, fun b hb => ?_, ?_, ?_, fun d hd => ?_⟩, ⟨s1, s2, fun i hi => ?_, s4⟩, hO⟩
  · rw [h1 o (by omega), h1 (6 + o) (by omega), h1 (12 + o) (by omega)]; exact a1 o ho
  · rw [h1 (18 + s) (by omega)]; exact a2 s hs
  · rw [h1 (34 + b) (by omega), h1 (26 + b) (by omega), h1 (30 + b) (by omega)]; exact a3 b hb
  · rw [h1 38 (by omega)]; exact a4
  · rw [h1 39 (by omega)]; exact a5
  · rw [h2 d hd]; exact a6 d hd
  · rw [h3 (2 * i) (by omega), h3 (2 * i + 1) (by omega)]; exact s3 i hi
theorem im_b {image book week sight : Nat → Int32} {sk : Int32} {n j : Nat} (h : j < 40) : imF image book week sight sk n (70 * n + 0 + j) = book j := by
  rw [imF, if_pos (by omega)]
  congr 1
  omega
theorem im_w {image book week sight : Nat → Int32} {sk : Int32} {n j : Nat} (h : j < 7) : imF image book week sight sk n (70 * n + 40 + j) = week j := by
  rw [imF, if_neg (by omega), if_pos (by omega)]
  congr 1
  omega
theorem im_s {image book week sight : Nat → Int32} {sk : Int32} {n j : Nat} (h : j < 16) : imF image book week sight sk n (70 * n + 47 + j) = sight j := by
  rw [imF, if_neg (by omega), if_neg (by omega), if_pos (by omega)]
  congr 1
  omega
theorem im_k {image book week sight : Nat → Int32} {sk : Int32} {n : Nat} : imF image book week sight sk n (70 * n + 64) = sk := by
  rw [imF, if_neg (by omega), if_neg (by omega), if_neg (by omega), if_pos rfl]
theorem im_o {image book week sight : Nat → Int32} {sk : Int32} {n i : Nat} (h : i < 70 * n ∨ 70 * n + 65 ≤ i) : imF image book week sight sk n i = image i := by
  rw [imF, if_neg (by omega), if_neg (by omega), if_neg (by omega), if_neg (by omega)]
theorem KI_new {r : Rl} {book week sight image : Nat → Int32} {sk n : Nat} (h : RR r book week sight sk) : KI r (imF image book week sight (nI sk) n) n := ⟨sk, RR_cg (fun j hj => im_b hj) (fun j hj => im_w hj) (fun j hj => im_s hj) h, im_k⟩
theorem KI_old {i : Rl} {book week sight image : Nat → Int32} {sk : Int32} {n m : Nat} (hm : n ≠ m) (h : KI i image m) : KI i (imF image book week sight sk n) m := by
  obtain ⟨s, h1, h2⟩ := h
  refine ⟨s, RR_cg (fun j hj => im_o (by omega)) (fun j hj => im_o (by omega)) (fun j hj => im_o (by omega)) h1, ?_⟩
  rw [im_o (by omega)]
  exact h2
theorem r_image {r : Rl} {k0 : Int32} {i0 : Rl} {k1 : Int32} {i1 : Rl} {sn : Nat} {signs book week : Nat → Int32} {sk : Nat} {sight pad image isKept : Nat → Int32} (h : REL r k0 i0 k1 i1 sn signs book week sk sight pad image isKept) (n : Int32) : REL r (if n = 0 then 1 else k0) (if n = 0 then r else i0) (if n = 1 then 1 else k1) (if n = 1 then r else i1) sn signs book week sk sight pad (if 0 ≤ n ∧ n ≤ 1 then imF image book week sight (nI sk) n.toNatClampNeg else image) (if 0 ≤ n ∧ n ≤ 1 then upd isKept n.toNatClampNeg 1 else isKept) := by
  obtain ⟨hR, hS, ⟨e0, e1⟩, h0, h1⟩ := h
  by_cases c : 0 ≤ n ∧ n ≤ 1
  · rw [if_pos c, if_pos c]
    obtain ⟨j, -, hj, rfl⟩ := nx_in (a := 0) (b := 1) rfl rfl (by decide) (by decide) c
    rcases (show j = 0 ∨ j = 1 by omega) with rfl | rfl
    · rw [if_pos (show nI 0 = 0 by decide), if_pos (show nI 0 = 0 by decide), if_neg (show ¬ nI 0 = 1 by decide), if_neg (show ¬ nI 0 = 1 by decide), show (nI 0).toNatClampNeg = 0 from rfl]
      refine ⟨hR, hS, ⟨pk_us, ?_⟩, Or.inr (KI_new hR), ?_⟩
      · rw [pk_un (by omega)]; exact e1
      · exact h1.imp id (KI_old (by omega))
    · rw [if_neg (show ¬ nI 1 = 0 by decide), if_neg (show ¬ nI 1 = 0 by decide), if_pos (show nI 1 = 1 by decide), if_pos (show nI 1 = 1 by decide), show (nI 1).toNatClampNeg = 1 from rfl]
      refine ⟨hR, hS, ⟨?_, pk_us⟩, ?_, Or.inr (KI_new hR)⟩
      · rw [pk_un (by omega)]; exact e0
      · exact h0.imp id (KI_old (by omega))
  · rw [if_neg c, if_neg c, if_neg (n01 c).1, if_neg (n01 c).1, if_neg (n01 c).2, if_neg (n01 c).2]
    exact ⟨hR, hS, ⟨e0, e1⟩, h0, h1⟩
theorem r_restore {r : Rl} {k0 : Int32} {i0 : Rl} {k1 : Int32} {i1 : Rl} {sn : Nat} {signs book week : Nat → Int32} {sk : Nat} {sight pad image isKept : Nat → Int32} (h : REL r k0 i0 k1 i1 sn signs book week sk sight pad image isKept) (n : Int32) : (if n = 0 then (if k0 = 0 then -3 else 1) else if n = 1 then (if k1 = 0 then -3 else 1) else -2) = (if ¬ (0 ≤ n ∧ n ≤ 1) then (-2 : Int32) else if isKept n.toNatClampNeg = 0 then -3 else 1) ∧
    ∃ sk2, (if (0 ≤ n ∧ n ≤ 1) ∧ ¬ isKept n.toNatClampNeg = 0 then image (70 * n.toNatClampNeg + 64) else nI sk) = nI sk2 ∧ REL (if n = 0 then (if k0 = 0 then r else i0) else if n = 1 then (if k1 = 0 then r else i1) else r) k0 i0 k1 i1 sn signs (if (0 ≤ n ∧ n ≤ 1) ∧ ¬ isKept n.toNatClampNeg = 0 then (fun j => image (70 * n.toNatClampNeg + 0 + j)) else book) (if (0 ≤ n ∧ n ≤ 1) ∧ ¬ isKept n.toNatClampNeg = 0 then (fun j => image (70 * n.toNatClampNeg + 40 + j)) else week) sk2 (if (0 ≤ n ∧ n ≤ 1) ∧ ¬ isKept n.toNatClampNeg = 0 then (fun j => image (70 * n.toNatClampNeg + 47 + j)) else sight) pad image isKept := by
  obtain ⟨hR, hS, ⟨e0, e1⟩, h0, h1⟩ := h
  by_cases c : 0 ≤ n ∧ n ≤ 1
  · rw [if_neg (not_not_intro c)]
    obtain ⟨j, -, hj, rfl⟩ := nx_in (a := 0) (b := 1) rfl rfl (by decide) (by decide) c
    rcases (show j = 0 ∨ j = 1 by omega) with rfl | rfl
    · rw [if_pos (show nI 0 = 0 by decide), if_pos (show nI 0 = 0 by decide), show (nI 0).toNatClampNeg = 0 from rfl, e0]
      refine ⟨rfl, ?_⟩
      by_cases z : k0 = 0
      · have n1 : ¬ ((0 ≤ nI 0 ∧ nI 0 ≤ 1) ∧ ¬ k0 = 0) := fun q => q.2 z
        simp only [if_neg n1, if_pos z]
        exact ⟨sk, rfl, hR, hS, ⟨e0, e1⟩, h0, h1⟩
      · have n1 : (0 ≤ nI 0 ∧ nI 0 ≤ 1) ∧ ¬ k0 = 0 := ⟨c, z⟩
        simp only [if_pos n1, if_neg z]
        obtain ⟨s, g1, g2⟩ := h0.resolve_left z
        exact ⟨s, g2, g1, hS, ⟨e0, e1⟩, h0, h1⟩
    · rw [if_neg (show ¬ nI 1 = 0 by decide), if_neg (show ¬ nI 1 = 0 by decide), if_pos (show nI 1 = 1 by decide), if_pos (show nI 1 = 1 by decide), show (nI 1).toNatClampNeg = 1 from rfl, e1]
      refine ⟨rfl, ?_⟩
      by_cases z : k1 = 0
      · have n1 : ¬ ((0 ≤ nI 1 ∧ nI 1 ≤ 1) ∧ ¬ k1 = 0) := fun q => q.2 z
        simp only [if_neg n1, if_pos z]
        exact ⟨sk, rfl, hR, hS, ⟨e0, e1⟩, h0, h1⟩
      · have n1 : (0 ≤ nI 1 ∧ nI 1 ≤ 1) ∧ ¬ k1 = 0 := ⟨c, z⟩
        simp only [if_pos n1, if_neg z]
        obtain ⟨s, g1, g2⟩ := h1.resolve_left z
        exact ⟨s, g2, g1, hS, ⟨e0, e1⟩, h0, h1⟩
  · rw [if_pos c, if_neg (n01 c).1, if_neg (n01 c).1, if_neg (n01 c).2, if_neg (n01 c).2, if_neg (fun q => c q.1), if_neg (fun q => c q.1), if_neg (fun q => c q.1), if_neg (fun q => c q.1)]
    exact ⟨rfl, sk, rfl, hR, hS, ⟨e0, e1⟩, h0, h1⟩
