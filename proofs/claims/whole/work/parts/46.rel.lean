-- the class's state against the model's
abbrev pWk (r : Rl) : Nat → Int32 := r.2.2.2.1
abbrev pPu (r : Rl) : Nat → Int32 := r.2.2.2.2.1
abbrev pCl (r : Rl) : Nat → Int32 := r.2.2.2.2.2.1
abbrev pRu (r : Rl) : Nat → Int32 := r.2.2.2.2.2.2.1
abbrev pSt (r : Rl) : Nat → Int32 := r.2.2.2.2.2.2.2.1
abbrev pSp (r : Rl) : Nat → Int32 := r.2.2.2.2.2.2.2.2.1
abbrev pWe (r : Rl) : Nat → Int32 := r.2.2.2.2.2.2.2.2.2.1
abbrev pEa (r : Rl) : Nat → Int32 := r.2.2.2.2.2.2.2.2.2.2.1
abbrev pSd (r : Rl) : Nat → Int32 := r.2.2.2.2.2.2.2.2.2.2.2.1
abbrev pSi (r : Rl) : Nat → Int32 := r.2.2.2.2.2.2.2.2.2.2.2.2
/-- the book and the week -/
def RN (r : Rl) (book week : Nat → Int32) : Prop := (∀ o, o < 6 → pPu r o = book o ∧ pCl r o = book (6 + o) ∧ pRu r o = book (12 + o)) ∧ (∀ s, s < 8 → pSt r s = book (18 + s)) ∧ (∀ b, b < 4 → pSp r b = book (34 + b) ∧ pWe r b = book (26 + b) ∧ pEa r b = book (30 + b)) ∧ r.1 = book 38 ∧ r.2.1 = book 39 ∧ (∀ d, d < 7 → pWk r d = week d)
def RS (r : Rl) (sight : Nat → Int32) (sk : Nat) : Prop := r.2.2.1 = nI sk ∧ sk ≤ 8 ∧ (∀ i, i < 8 → pSd r i = sight (2 * i) ∧ pSi r i = sight (2 * i + 1)) ∧ (∀ i, i < sk → (∃ d : Nat, d ≤ 60 ∧ pSd r i = nI d) ∧ inOK (pSi r i))
def RO (r : Rl) : Prop := inOK r.1 ∧ dyC r ∧ (∀ o, o < 6 → pRu r o = 0 ∨ inOK (pRu r o)) ∧ (∀ s, s < 8 → pSt r s = nI (pSt r s).toNatClampNeg ∧ (pSt r s).toNatClampNeg ≤ 1800)
def RR (r : Rl) (book week sight : Nat → Int32) (sk : Nat) : Prop := RN r book week ∧ RS r sight sk ∧ RO r
def KI (i : Rl) (image : Nat → Int32) (n : Nat) : Prop := ∃ sk, RR i (fun j => image (70 * n + 0 + j)) (fun j => image (70 * n + 40 + j)) (fun j => image (70 * n + 47 + j)) sk ∧ image (70 * n + 64) = nI sk
def REL (r : Rl) (k0 : Int32) (i0 : Rl) (k1 : Int32) (i1 : Rl) (sn : Nat) (signs book week : Nat → Int32) (sk : Nat) (sight pad image isKept : Nat → Int32) : Prop := RR r book week sight sk ∧ (sn ≤ 60 ∧ ∀ j, j < sn → signs j = pad j) ∧ (isKept 0 = k0 ∧ isKept 1 = k1) ∧ (k0 = 0 ∨ KI i0 image 0) ∧ (k1 = 0 ∨ KI i1 image 1)
theorem ms_eq {r : Rl} {book week : Nat → Int32} (h : RN r book week) {o : Nat} (ho : o < 6) : msC r o = msM book o := by
  obtain ⟨inch, day, sights, wk, purse, cloth, ruler, stick, span, west, east, sightDay, sightInch⟩ := r
  obtain ⟨h1, -, -, h4, -, -⟩ := h
  have h2 : ruler o = book (12 + o) := (h1 o ho).2.2
  have h3 : inch = book 38 := h4
  show (if ruler o = 0 then inch else ruler o) = _
  rw [h2, h3]
  rfl
theorem ms_ok {r : Rl} (h : RO r) {o : Nat} (ho : o < 6) : inOK (msC r o) := by
  obtain ⟨inch, day, sights, wk, purse, cloth, ruler, stick, span, west, east, sightDay, sightInch⟩ := r
  have h1 : inOK inch := h.1
  have h3 : ruler o = 0 ∨ inOK (ruler o) := h.2.2.1 o ho
  show inOK (if ruler o = 0 then inch else ruler o)
  rcases h3 with z | z
  · rw [if_pos z]; exact h1
  · split
    · exact h1
    · exact z
theorem hm_eq {r : Rl} {book week : Nat → Int32} (h : RN r book week) {b : Nat} (hb : b < 4) : hmC r b = decide (book (34 + b) ≤ book (26 + b) + book (30 + b)) := by
  obtain ⟨inch, day, sights, wk, purse, cloth, ruler, stick, span, west, east, sightDay, sightInch⟩ := r
  obtain ⟨-, -, h3, -, -, -⟩ := h
  have h1 : span b = book (34 + b) := (h3 b hb).1
  have h2 : west b = book (26 + b) := (h3 b hb).2.1
  have h4 : east b = book (30 + b) := (h3 b hb).2.2
  show decide (span b ≤ west b + east b) = _
  rw [h1, h2, h4]
theorem wl_eq {r : Rl} {book week : Nat → Int32} (h : RN r book week) (d : Nat) : ∀ i, wlF (pWk r) r.1 d i = wlF week (book 38) d i
  | 0 => h.2.2.2.1
  | i + 1 => by
    rw [wlF, wlF, wl_eq h d i, h.2.2.2.2.2 _ (Nat.mod_lt _ (by decide))]
theorem wl_eqf {r : Rl} {book week : Nat → Int32} (h : RN r book week) : wlF (pWk r) r.1 r.2.1.toNatClampNeg = wlF week (book 38) (book 39).toNatClampNeg := by
  funext i
  rw [wl_eq h, h.2.2.2.2.1]
