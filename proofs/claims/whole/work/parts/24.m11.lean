def hvC (w : Nat → Int32) (left : Nat) : Nat → Int32 → Int32
  | 0, f => f
  | c + 1, f => hvC w left c (if c + 1 ≤ left ∧ w (left - (c + 1)) = 0 then nI (c + 1) else f)
def hvF (w : Nat → Int32) (left k : Nat) : Int32 := if 0 < left ∧ w (left / 2) = 0 then 0 else hvC w left k (-6)
def hvS (k left : Nat) (x : (Nat → Int32) × Int32) : (Nat → Int32) × Int32 := (upd x.1 left (zI (0 ≤ hvF x.1 left k)), hvF x.1 left k)
def hvM (w : Nat → Int32) (n k : Nat) : Int32 := (itr (hvS k) (n + 1) (w, -6)).2
def offN (i : Nat) : Nat := if i < 13 then 13 - i else i - 13
def swN (a b : Nat) (w : Nat → Nat) (i : Nat) : Nat := if 1 ≤ i ∧ i < 26 then a * w (i + 1) + b * w (i - 1) + (10 - a - b) * w i else w i
def sw0 (i : Nat) : Nat := if i = 13 then 1 else 0
def swI (a b n : Nat) : Nat → Nat := itr (fun _ w => swN a b w) n sw0
def suS (w : Nat → Nat) (k i s : Nat) : Nat := if k ≤ offN i then s + w i else s
def suN (w : Nat → Nat) (k : Nat) : Nat := itr (suS w k) 27 0
theorem swN_le {a b : Nat} (hab : a + b ≤ 10) {w : Nat → Nat} {M : Nat} (h : ∀ i, w i ≤ M) (i : Nat) : swN a b w i ≤ 10 * M := by
  unfold swN
  split
  · have h1 := Nat.mul_le_mul_left a (h (i + 1))
    have h2 := Nat.mul_le_mul_left b (h (i - 1))
    have h3 := Nat.mul_le_mul_left (10 - a - b) (h i)
    have e : a * M + b * M + (10 - a - b) * M = 10 * M := by rw [← Nat.add_mul, ← Nat.add_mul, show a + b + (10 - a - b) = 10 by omega]
    omega
  · have := h i; omega
theorem swI_le {a b : Nat} (hab : a + b ≤ 10) : ∀ n i, swI a b n i ≤ 10 ^ n
  | 0, i => by show sw0 i ≤ 1; unfold sw0; split <;> omega
  | n + 1, i => by
    have h := swN_le hab (swI_le hab n) i
    rw [Nat.pow_succ, Nat.mul_comm]
    exact h
theorem suN_le {w : Nat → Nat} {M k : Nat} (h : ∀ i, w i ≤ M) : ∀ n, itr (suS w k) n 0 ≤ n * M
  | 0 => by rw [Nat.zero_mul]; exact Nat.le_refl 0
  | n + 1 => by
    have h1 := suN_le (k := k) h n
    have h2 : itr (suS w k) (n + 1) 0 ≤ itr (suS w k) n 0 + M := by rw [itr_s]; unfold suS; split; exact Nat.add_le_add_left (h n) _; omega
    rw [Nat.succ_mul]
    omega
theorem p10 {n : Nat} (h : n ≤ 12) : 10 ^ n ≤ 1000000000000 := Nat.pow_le_pow_right (by decide) h
theorem c_X10_halves (E : EE) (l : Launch) (a : Nat → Nat) (book : Nat → Int32) (now : Nat → Int32) (week : Nat → Int32) (sights : Int32) (sight : Nat → Int32) (signs : Int32) (pad : Nat → Int32) (metAt : Int32) (metWho : Int32) (reason : Int32) (acts : Int32) (atp : Int32) (will : Nat → Int32) (fitting : Nat → Int32) (counts : Nat → Int32) (ring : Nat → Int32) (nxt : Nat → Int32) (wins : Nat → Int32) (ways : Nat → Int64) (nextWays : Nat → Int64) (image : Nat → Int32) (isKept : Nat → Int32) (n : Int32) (k : Int32) (what : Int32) : CG E l yX10_halves cX10_halves 7 (some .int) { frames := 1, cells := 0, slots := 0, locals := 22 } [.ref (a 0), .int n, .int k, .int what] (bMd E a book now week sights sight signs pad metAt metWho reason acts atp will fitting counts ring nxt wins ways nextWays image isKept) noB (fun _ : ScrM => some (.int (if (0 ≤ n ∧ n ≤ 200) ∧ (1 ≤ k ∧ k ≤ 9) ∧ (0 ≤ what ∧ what ≤ 1) then (if what = 1 then hvM wins n.toNatClampNeg k.toNatClampNeg else if 0 ≤ hvM wins n.toNatClampNeg k.toNatClampNeg then 1 else 0) else -2))) (fun u : ScrM => bMd E a book u.1 week sights sight signs pad u.2.1 u.2.2.1 u.2.2.2.1 u.2.2.2.2.1 u.2.2.2.2.2.1 u.2.2.2.2.2.2.1 u.2.2.2.2.2.2.2.1 u.2.2.2.2.2.2.2.2.1 u.2.2.2.2.2.2.2.2.2.1 u.2.2.2.2.2.2.2.2.2.2.1 u.2.2.2.2.2.2.2.2.2.2.2.1 u.2.2.2.2.2.2.2.2.2.2.2.2.1 u.2.2.2.2.2.2.2.2.2.2.2.2.2 image isKept) := by
  refine CG.intro (by decide) (Nat.le_of_ble_eq_true rfl) (fun K X Y _ _ _ => ?_)
  refine jv_iload_n 0 X dX10_halves_0 1 rfl ?_
  refine jv_iconst (v := 0) 1 X dX10_halves_1 rfl ?_
  refine jv_sipush (v := 200) 2 X dX10_halves_2 (by decide) ?_
  refine jv_fun 5 X (c_X10_in E _ n 0 200) ws_X10_57 ⟨Nat.le_of_ble_eq_true rfl, Nat.le_of_ble_eq_true rfl⟩ ⟨rfl, rfl⟩ ⟨Nat.zero_le _, Nat.zero_le _⟩ dX10_halves_5 rfl [] rfl (Nat.le_of_ble_eq_true rfl) ?_
  refine jv_z_eq 8 X dX10_halves_8 30 (by decide) (fun c_1 => ?_) (fun c_1 => ?_)
  · refine jv_bipush (v := (-2)) 30 X dX10_halves_30 (by decide) ?_
    exact jv_iret 32 X Y rfl dX10_halves_32 (now, metAt, metWho, reason, acts, atp, will, fitting, counts, ring, nxt, wins, ways, nextWays) (by simp [lt_nle, -Int32.not_le, c_1]) rfl
  · obtain ⟨jn, h1jn, h2jn, rfl⟩ := nx_in (a := 0) (b := 200) rfl rfl (by decide) (by decide) c_1
    have hcjn : (nI jn).toNatClampNeg = jn := nI_clamp (by omega)
    refine jv_iload_n 11 X dX10_halves_11 2 rfl ?_
    refine jv_iconst (v := 1) 12 X dX10_halves_12 rfl ?_
    refine jv_bipush (v := 9) 13 X dX10_halves_13 (by decide) ?_
    refine jv_fun 15 X (c_X10_in E _ k 1 9) ws_X10_57 ⟨Nat.le_of_ble_eq_true rfl, Nat.le_of_ble_eq_true rfl⟩ ⟨rfl, rfl⟩ ⟨Nat.zero_le _, Nat.zero_le _⟩ dX10_halves_15 rfl [] rfl (Nat.le_of_ble_eq_true rfl) ?_
    refine jv_z_eq 18 X dX10_halves_18 30 (by decide) (fun c_2 => ?_) (fun c_2 => ?_)
    · refine jv_bipush (v := (-2)) 30 X dX10_halves_30 (by decide) ?_
      exact jv_iret 32 X Y rfl dX10_halves_32 (now, metAt, metWho, reason, acts, atp, will, fitting, counts, ring, nxt, wins, ways, nextWays) (by simp [lt_nle, -Int32.not_le, c_1, hcjn, c_2]) rfl
    · obtain ⟨jk, h1jk, h2jk, rfl⟩ := nx_in (a := 1) (b := 9) rfl rfl (by decide) (by decide) c_2
      have hcjk : (nI jk).toNatClampNeg = jk := nI_clamp (by omega)
      refine jv_iload_n 21 X dX10_halves_21 3 rfl ?_
      refine jv_iconst (v := 0) 22 X dX10_halves_22 rfl ?_
      refine jv_iconst (v := 1) 23 X dX10_halves_23 rfl ?_
      refine jv_fun 24 X (c_X10_in E _ what 0 1) ws_X10_57 ⟨Nat.le_of_ble_eq_true rfl, Nat.le_of_ble_eq_true rfl⟩ ⟨rfl, rfl⟩ ⟨Nat.zero_le _, Nat.zero_le _⟩ dX10_halves_24 rfl [] rfl (Nat.le_of_ble_eq_true rfl) ?_
      refine jv_z_ne 27 X dX10_halves_27 33 (by decide) (fun c_3 => ?_) (fun c_3 => ?_)
      · refine jv_bipush (v := (-6)) 33 X dX10_halves_33 (by decide) ?_
        refine jv_istore (lv2 := [(4, .int (-6)), (0, .ref (a 0)), (1, .int (nI jn)), (2, .int (nI jk)), (3, .int what)]) 35 X dX10_halves_35 (by decide) rfl ?_
        refine jv_iconst (v := 0) 37 X dX10_halves_37 rfl ?_
        refine jv_istore (lv2 := [(5, .int 0), (4, .int (-6)), (0, .ref (a 0)), (1, .int (nI jn)), (2, .int (nI jk)), (3, .int what)]) 38 X dX10_halves_38 (by decide) rfl ?_
        have lp40 : ∀ (n40 : Nat) (t : Nat) (w2 : Nat → Int32) (fd : Int32), (t ≤ jn + 1) → ((w2, fd) = itr (hvS jk) t (wins, -6)) → jn + 1 - t < n40 → JV E K 0 0 (bMd E a book now week sights sight signs pad metAt metWho reason acts atp will fitting counts ring nxt w2 ways nextWays image isKept) [(0, .ref (a 0)), (1, .int (nI jn)), (2, .int (nI jk)), (3, .int what), (4, .int fd), (5, .int (nI t))] 40 [] := by
          intro n40
          induction n40 with
          | zero => intro t w2 fd ht hI hm; exact absurd hm (Nat.not_lt_zero _)
          | succ n40 ih40 =>
            intro t w2 fd ht hI hm
            refine jv_iload 40 X dX10_halves_40 5 rfl ?_
            refine jv_iload_n 42 X dX10_halves_42 1 rfl ?_
            refine jn_icmp_gt 43 X dX10_halves_43 152 (by decide) (fun c_4 => ?_) (fun c_4 => ?_)
            · have n_4 : ¬ t ≤ jn := fun zq => c_4 ((nx_le (a := t) (b := jn) rfl rfl (by omega) (by omega)).mpr zq)
              refine jv_iload_n 152 X dX10_halves_152 3 rfl ?_
              refine jv_iconst (v := 1) 153 X dX10_halves_153 rfl ?_
              refine jn_icmp_ne 154 X dX10_halves_154 162 (by decide) (fun c_5 => ?_) (fun c_5 => ?_)
              · refine jv_iload 162 X dX10_halves_162 4 rfl ?_
                refine jn_if_ge 164 X dX10_halves_164 171 (by decide) (fun c_6 => ?_) (fun c_6 => ?_)
                · refine jv_iconst (v := 1) 171 X dX10_halves_171 rfl ?_
                  have hq : hvM wins jn jk = fd := by rw [hvM, show jn + 1 = t by omega, ← hI]
                  exact jv_iret 172 X Y rfl dX10_halves_172 (now, metAt, metWho, reason, acts, atp, will, fitting, counts, ring, nxt, w2, ways, nextWays) (by simp [hq, c_1, hcjn, c_2, hcjk, c_3, c_5, c_6]) rfl
                · refine jv_iconst (v := 0) 167 X dX10_halves_167 rfl ?_
                  refine jv_goto 168 X dX10_halves_168 172 (by decide) ?_
                  have hq : hvM wins jn jk = fd := by rw [hvM, show jn + 1 = t by omega, ← hI]
                  exact jv_iret 172 X Y rfl dX10_halves_172 (now, metAt, metWho, reason, acts, atp, will, fitting, counts, ring, nxt, w2, ways, nextWays) (by simp [hq, c_1, hcjn, c_2, hcjk, c_3, c_5, c_6]) rfl
              · refine jv_iload 157 X dX10_halves_157 4 rfl ?_
                refine jv_goto 159 X dX10_halves_159 172 (by decide) ?_
                have hq : hvM wins jn jk = fd := by rw [hvM, show jn + 1 = t by omega, ← hI]
                exact jv_iret 172 X Y rfl dX10_halves_172 (now, metAt, metWho, reason, acts, atp, will, fitting, counts, ring, nxt, w2, ways, nextWays) (by simp [hq, c_1, hcjn, c_2, hcjk, c_3, c_5]) rfl
            · have n_4 : t ≤ jn := (nx_le (a := t) (b := jn) rfl rfl (by omega) (by omega)).mp c_4
              refine jv_bipush (v := (-6)) 46 X dX10_halves_46 (by decide) ?_
              refine jv_istore (lv2 := [(4, .int (-6)), (0, .ref (a 0)), (1, .int (nI jn)), (2, .int (nI jk)), (3, .int what), (5, .int (nI t))]) 48 X dX10_halves_48 (by decide) rfl ?_
              refine jv_iload_n 50 X dX10_halves_50 3 rfl ?_
              refine jv_istore (lv2 := [(6, .int (nI jk)), (4, .int (-6)), (0, .ref (a 0)), (1, .int (nI jn)), (2, .int (nI jk)), (3, .int what), (5, .int (nI t))]) 51 X dX10_halves_51 (by decide) rfl ?_
              have lp53 : ∀ (n53 : Nat) (c : Nat) (f2 : Int32), (c ≤ jk) → (hvC w2 t jk (-6) = hvC w2 t c f2) → c < n53 → JV E K 0 0 (bMd E a book now week sights sight signs pad metAt metWho reason acts atp will fitting counts ring nxt w2 ways nextWays image isKept) [(0, .ref (a 0)), (1, .int (nI jn)), (2, .int (nI jk)), (3, .int what), (4, .int f2), (5, .int (nI t)), (6, .int (nI c))] 53 [] := by
                intro n53
                induction n53 with
                | zero => intro c f2 hc hC hm; exact absurd hm (Nat.not_lt_zero _)
                | succ n53 ih53 =>
                  intro c f2 hc hC hm
                  refine jv_iload 53 X dX10_halves_53 6 rfl ?_
                  refine jn_if_le 55 X dX10_halves_55 104 (by decide) (fun c_7 => ?_) (fun c_7 => ?_)
                  · have n_7 : c ≤ 0 := (nx_le (a := c) (b := 0) rfl rfl (by omega) (by omega)).mp c_7
                    have hC2 : hvC w2 t jk (-6) = f2 := by rw [hC, show c = 0 by omega]; rfl
                    refine jv_iload 104 X dX10_halves_104 5 rfl ?_
                    refine jn_if_le 106 X dX10_halves_106 125 (by decide) (fun c_8 => ?_) (fun c_8 => ?_)
                    · have n_8 : t ≤ 0 := (nx_le (a := t) (b := 0) rfl rfl (by omega) (by omega)).mp c_8
                      refine jv_iload 125 X dX10_halves_125 4 rfl ?_
                      refine jv_istore (lv2 := [(4, .int f2), (0, .ref (a 0)), (1, .int (nI jn)), (2, .int (nI jk)), (3, .int what), (5, .int (nI t)), (6, .int (nI c))]) 127 X dX10_halves_127 (by decide) rfl ?_
                      refine jv_aload_n 129 X dX10_halves_129 1 rfl ?_
                      refine jv_get (v := .ref (a 11)) 130 X gf_X10_40 dX10_halves_130 0 rfl rfl ?_
                      refine jv_iload 133 X dX10_halves_133 5 rfl ?_
                      refine jv_iload 135 X dX10_halves_135 0 rfl ?_
                      refine jn_if_lt 137 X dX10_halves_137 144 (by decide) (fun c_9 => ?_) (fun c_9 => ?_)
                      · refine jv_iconst (v := 0) 144 X dX10_halves_144 rfl ?_
                        refine jv_zast (ws2 := bMd E a book now week sights sight signs pad metAt metWho reason acts atp will fitting counts ring nxt (upd w2 t 0) ways nextWays image isKept) (f := w2) 145 X dX10_halves_145 11 rfl (by decide) t rfl (by omega) rfl rfl ?_
                        refine jv_iinc (v := (nI (t + 1))) (lv2 := [(5, .int (nI (t + 1))), (4, .int f2), (0, .ref (a 0)), (1, .int (nI jn)), (2, .int (nI jk)), (3, .int what), (6, .int (nI c))]) 146 X dX10_halves_146 5 rfl (nx_inc _) (by decide) rfl ?_
                        refine jv_goto 149 X dX10_halves_149 40 (by decide) ?_
                        exact jv_lv [2, 3, 4, 5, 1, 0] rfl (ih40 (t + 1) (upd w2 t 0) f2 (by omega) (by rw [itr_s, ← hI]; show _ = (upd w2 t (zI (0 ≤ hvF w2 t jk)), hvF w2 t jk); rw [(show hvF w2 t jk = f2 from (if_neg (fun z => absurd z.1 (by omega))).trans hC2), zI_f c_9]) (by omega))
                      · refine jv_iconst (v := 1) 140 X dX10_halves_140 rfl ?_
                        refine jv_goto 141 X dX10_halves_141 145 (by decide) ?_
                        refine jv_zast (ws2 := bMd E a book now week sights sight signs pad metAt metWho reason acts atp will fitting counts ring nxt (upd w2 t 1) ways nextWays image isKept) (f := w2) 145 X dX10_halves_145 11 rfl (by decide) t rfl (by omega) rfl rfl ?_
                        refine jv_iinc (v := (nI (t + 1))) (lv2 := [(5, .int (nI (t + 1))), (4, .int f2), (0, .ref (a 0)), (1, .int (nI jn)), (2, .int (nI jk)), (3, .int what), (6, .int (nI c))]) 146 X dX10_halves_146 5 rfl (nx_inc _) (by decide) rfl ?_
                        refine jv_goto 149 X dX10_halves_149 40 (by decide) ?_
                        exact jv_lv [2, 3, 4, 5, 1, 0] rfl (ih40 (t + 1) (upd w2 t 1) f2 (by omega) (by rw [itr_s, ← hI]; show _ = (upd w2 t (zI (0 ≤ hvF w2 t jk)), hvF w2 t jk); rw [(show hvF w2 t jk = f2 from (if_neg (fun z => absurd z.1 (by omega))).trans hC2), zI_t c_9]) (by omega))
                    · have n_8 : ¬ t ≤ 0 := fun zq => c_8 ((nx_le (a := t) (b := 0) rfl rfl (by omega) (by omega)).mpr zq)
                      refine jv_aload_n 109 X dX10_halves_109 0 rfl ?_
                      refine jv_get (v := .ref (a 11)) 110 X gf_X10_40 dX10_halves_110 0 rfl rfl ?_
                      refine jv_iload 113 X dX10_halves_113 5 rfl ?_
                      refine jv_iconst (v := 2) 115 X dX10_halves_115 rfl ?_
                      refine jv_idiv 116 X dX10_halves_116 (by decide) ?_
                      refine jv_norm (x2 := nI (t / 2)) (nx_div (a := t) (b := 2) rfl rfl (by omega) (by omega) (by omega)) ?_
                      refine jv_zald (f := w2) 117 X dX10_halves_117 11 rfl (by decide) (t / 2) rfl (by omega) ?_
                      refine jn_if_ne 118 X dX10_halves_118 125 (by decide) (fun c_10 => ?_) (fun c_10 => ?_)
                      · refine jv_iload 125 X dX10_halves_125 4 rfl ?_
                        refine jv_istore (lv2 := [(4, .int f2), (0, .ref (a 0)), (1, .int (nI jn)), (2, .int (nI jk)), (3, .int what), (5, .int (nI t)), (6, .int (nI c))]) 127 X dX10_halves_127 (by decide) rfl ?_
                        refine jv_aload_n 129 X dX10_halves_129 1 rfl ?_
                        refine jv_get (v := .ref (a 11)) 130 X gf_X10_40 dX10_halves_130 0 rfl rfl ?_
                        refine jv_iload 133 X dX10_halves_133 5 rfl ?_
                        refine jv_iload 135 X dX10_halves_135 0 rfl ?_
                        refine jn_if_lt 137 X dX10_halves_137 144 (by decide) (fun c_11 => ?_) (fun c_11 => ?_)
                        · refine jv_iconst (v := 0) 144 X dX10_halves_144 rfl ?_
                          refine jv_zast (ws2 := bMd E a book now week sights sight signs pad metAt metWho reason acts atp will fitting counts ring nxt (upd w2 t 0) ways nextWays image isKept) (f := w2) 145 X dX10_halves_145 11 rfl (by decide) t rfl (by omega) rfl rfl ?_
                          refine jv_iinc (v := (nI (t + 1))) (lv2 := [(5, .int (nI (t + 1))), (4, .int f2), (0, .ref (a 0)), (1, .int (nI jn)), (2, .int (nI jk)), (3, .int what), (6, .int (nI c))]) 146 X dX10_halves_146 5 rfl (nx_inc _) (by decide) rfl ?_
                          refine jv_goto 149 X dX10_halves_149 40 (by decide) ?_
                          exact jv_lv [2, 3, 4, 5, 1, 0] rfl (ih40 (t + 1) (upd w2 t 0) f2 (by omega) (by rw [itr_s, ← hI]; show _ = (upd w2 t (zI (0 ≤ hvF w2 t jk)), hvF w2 t jk); rw [(show hvF w2 t jk = f2 from (if_neg (fun z => c_10 z.2)).trans hC2), zI_f c_11]) (by omega))
                        · refine jv_iconst (v := 1) 140 X dX10_halves_140 rfl ?_
                          refine jv_goto 141 X dX10_halves_141 145 (by decide) ?_
                          refine jv_zast (ws2 := bMd E a book now week sights sight signs pad metAt metWho reason acts atp will fitting counts ring nxt (upd w2 t 1) ways nextWays image isKept) (f := w2) 145 X dX10_halves_145 11 rfl (by decide) t rfl (by omega) rfl rfl ?_
                          refine jv_iinc (v := (nI (t + 1))) (lv2 := [(5, .int (nI (t + 1))), (4, .int f2), (0, .ref (a 0)), (1, .int (nI jn)), (2, .int (nI jk)), (3, .int what), (6, .int (nI c))]) 146 X dX10_halves_146 5 rfl (nx_inc _) (by decide) rfl ?_
                          refine jv_goto 149 X dX10_halves_149 40 (by decide) ?_
                          exact jv_lv [2, 3, 4, 5, 1, 0] rfl (ih40 (t + 1) (upd w2 t 1) f2 (by omega) (by rw [itr_s, ← hI]; show _ = (upd w2 t (zI (0 ≤ hvF w2 t jk)), hvF w2 t jk); rw [(show hvF w2 t jk = f2 from (if_neg (fun z => c_10 z.2)).trans hC2), zI_t c_11]) (by omega))
                      · refine jv_iconst (v := 0) 121 X dX10_halves_121 rfl ?_
                        refine jv_goto 122 X dX10_halves_122 127 (by decide) ?_
                        refine jv_istore (lv2 := [(4, .int 0), (0, .ref (a 0)), (1, .int (nI jn)), (2, .int (nI jk)), (3, .int what), (5, .int (nI t)), (6, .int (nI c))]) 127 X dX10_halves_127 (by decide) rfl ?_
                        refine jv_aload_n 129 X dX10_halves_129 1 rfl ?_
                        refine jv_get (v := .ref (a 11)) 130 X gf_X10_40 dX10_halves_130 0 rfl rfl ?_
                        refine jv_iload 133 X dX10_halves_133 5 rfl ?_
                        refine jv_iload 135 X dX10_halves_135 0 rfl ?_
                        refine jn_if_lt 137 X dX10_halves_137 144 (by decide) (fun c_12 => absurd c_12 (by decide)) (fun _ => ?_)
                        refine jv_iconst (v := 1) 140 X dX10_halves_140 rfl ?_
                        refine jv_goto 141 X dX10_halves_141 145 (by decide) ?_
                        refine jv_zast (ws2 := bMd E a book now week sights sight signs pad metAt metWho reason acts atp will fitting counts ring nxt (upd w2 t 1) ways nextWays image isKept) (f := w2) 145 X dX10_halves_145 11 rfl (by decide) t rfl (by omega) rfl rfl ?_
                        refine jv_iinc (v := (nI (t + 1))) (lv2 := [(5, .int (nI (t + 1))), (4, .int 0), (0, .ref (a 0)), (1, .int (nI jn)), (2, .int (nI jk)), (3, .int what), (6, .int (nI c))]) 146 X dX10_halves_146 5 rfl (nx_inc _) (by decide) rfl ?_
                        refine jv_goto 149 X dX10_halves_149 40 (by decide) ?_
                        exact jv_lv [2, 3, 4, 5, 1, 0] rfl (ih40 (t + 1) (upd w2 t 1) 0 (by omega) (by rw [itr_s, ← hI]; show _ = (upd w2 t (zI (0 ≤ hvF w2 t jk)), hvF w2 t jk); rw [(show hvF w2 t jk = 0 from if_pos ⟨by omega, c_10⟩), zI_t (show (0 : Int32) ≤ 0 by decide)]) (by omega))
                  · have n_7 : ¬ c ≤ 0 := fun zq => c_7 ((nx_le (a := c) (b := 0) rfl rfl (by omega) (by omega)).mpr zq)
                    obtain ⟨e, rfl⟩ : ∃ e, c = e + 1 := ⟨c - 1, by omega⟩
                    refine jv_iload 58 X dX10_halves_58 6 rfl ?_
                    refine jv_iload 60 X dX10_halves_60 5 rfl ?_
                    refine jn_icmp_gt 62 X dX10_halves_62 94 (by decide) (fun c_13 => ?_) (fun c_13 => ?_)
                    · have n_13 : ¬ (e + 1) ≤ t := fun zq => c_13 ((nx_le (a := (e + 1)) (b := t) rfl rfl (by omega) (by omega)).mpr zq)
                      refine jv_iload 94 X dX10_halves_94 4 rfl ?_
                      refine jv_istore (lv2 := [(4, .int f2), (0, .ref (a 0)), (1, .int (nI jn)), (2, .int (nI jk)), (3, .int what), (5, .int (nI t)), (6, .int (nI (e + 1)))]) 96 X dX10_halves_96 (by decide) rfl ?_
                      refine jv_iinc (v := (nI e)) (lv2 := [(6, .int (nI e)), (4, .int f2), (0, .ref (a 0)), (1, .int (nI jn)), (2, .int (nI jk)), (3, .int what), (5, .int (nI t))]) 98 X dX10_halves_98 6 rfl (nx_dec _) (by decide) rfl ?_
                      refine jv_goto 101 X dX10_halves_101 53 (by decide) ?_
                      exact jv_lv [2, 3, 4, 5, 1, 6, 0] rfl (ih53 e f2 (by omega) (by rw [hC, hvC, if_neg (fun z => n_13 z.1)]) (by omega))
                    · have n_13 : (e + 1) ≤ t := (nx_le (a := (e + 1)) (b := t) rfl rfl (by omega) (by omega)).mp c_13
                      refine jv_aload_n 65 X dX10_halves_65 0 rfl ?_
                      refine jv_get (v := .ref (a 11)) 66 X gf_X10_40 dX10_halves_66 0 rfl rfl ?_
                      refine jv_iload 69 X dX10_halves_69 5 rfl ?_
                      refine jv_iload 71 X dX10_halves_71 6 rfl ?_
                      refine jv_iload 73 X dX10_halves_73 5 rfl ?_
                      refine jn_icmp_gt 75 X dX10_halves_75 83 (by decide) (fun c_14 => absurd c_13 c_14) (fun _ => ?_)
                      refine jv_iload 78 X dX10_halves_78 6 rfl ?_
                      refine jv_goto 80 X dX10_halves_80 84 (by decide) ?_
                      refine jv_isub 84 X dX10_halves_84 ?_
                      refine jv_norm (x2 := nI (t - (e + 1))) (nx_sub2 (a := t) (b := (e + 1)) rfl rfl (by omega)) ?_
                      refine jv_zald (f := w2) 85 X dX10_halves_85 11 rfl (by decide) (t - (e + 1)) rfl (by omega) ?_
                      refine jn_if_ne 86 X dX10_halves_86 94 (by decide) (fun c_15 => ?_) (fun c_15 => ?_)
                      · refine jv_iload 94 X dX10_halves_94 4 rfl ?_
                        refine jv_istore (lv2 := [(4, .int f2), (0, .ref (a 0)), (1, .int (nI jn)), (2, .int (nI jk)), (3, .int what), (5, .int (nI t)), (6, .int (nI (e + 1)))]) 96 X dX10_halves_96 (by decide) rfl ?_
                        refine jv_iinc (v := (nI e)) (lv2 := [(6, .int (nI e)), (4, .int f2), (0, .ref (a 0)), (1, .int (nI jn)), (2, .int (nI jk)), (3, .int what), (5, .int (nI t))]) 98 X dX10_halves_98 6 rfl (nx_dec _) (by decide) rfl ?_
                        refine jv_goto 101 X dX10_halves_101 53 (by decide) ?_
                        exact jv_lv [2, 3, 4, 5, 1, 6, 0] rfl (ih53 e f2 (by omega) (by rw [hC, hvC, if_neg (fun z => c_15 z.2)]) (by omega))
                      · refine jv_iload 89 X dX10_halves_89 6 rfl ?_
                        refine jv_goto 91 X dX10_halves_91 96 (by decide) ?_
                        refine jv_istore (lv2 := [(4, .int (nI (e + 1))), (0, .ref (a 0)), (1, .int (nI jn)), (2, .int (nI jk)), (3, .int what), (5, .int (nI t)), (6, .int (nI (e + 1)))]) 96 X dX10_halves_96 (by decide) rfl ?_
                        refine jv_iinc (v := (nI e)) (lv2 := [(6, .int (nI e)), (4, .int (nI (e + 1))), (0, .ref (a 0)), (1, .int (nI jn)), (2, .int (nI jk)), (3, .int what), (5, .int (nI t))]) 98 X dX10_halves_98 6 rfl (nx_dec _) (by decide) rfl ?_
                        refine jv_goto 101 X dX10_halves_101 53 (by decide) ?_
                        exact jv_lv [2, 3, 4, 5, 1, 6, 0] rfl (ih53 e (nI (e + 1)) (by omega) (by rw [hC, hvC, if_pos ⟨n_13, c_15⟩]) (by omega))
              exact jv_lv [2, 3, 4, 5, 1, 6, 0] rfl (lp53 _ jk (-6) (by omega) rfl (Nat.lt_succ_self _))
        exact jv_lv [2, 3, 4, 5, 1, 0] rfl (lp40 _ 0 wins (-6) (by omega) rfl (Nat.lt_succ_self _))
      · refine jv_bipush (v := (-2)) 30 X dX10_halves_30 (by decide) ?_
        exact jv_iret 32 X Y rfl dX10_halves_32 (now, metAt, metWho, reason, acts, atp, will, fitting, counts, ring, nxt, wins, ways, nextWays) (by simp [lt_nle, -Int32.not_le, c_1, hcjn, c_2, hcjk, c_3]) rfl
theorem c_X10_shake (E : EE) (l : Launch) (a : Nat → Nat) (book : Nat → Int32) (now : Nat → Int32) (week : Nat → Int32) (sights : Int32) (sight : Nat → Int32) (signs : Int32) (pad : Nat → Int32) (metAt : Int32) (metWho : Int32) (reason : Int32) (acts : Int32) (atp : Int32) (will : Nat → Int32) (fitting : Nat → Int32) (counts : Nat → Int32) (ring : Nat → Int32) (nxt : Nat → Int32) (wins : Nat → Int32) (ways : Nat → Int64) (nextWays : Nat → Int64) (image : Nat → Int32) (isKept : Nat → Int32) (n : Int32) (o : Int32) (b : Int32) (k : Int32) (part : Int32) : CG E l yX10_shake cX10_shake 12 (some .long) { frames := 1, cells := 0, slots := 0, locals := 30 } [.ref (a 0), .int n, .int o, .int b, .int k, .int part] (bMd E a book now week sights sight signs pad metAt metWho reason acts atp will fitting counts ring nxt wins ways nextWays image isKept) noB (fun _ : ScrM => some (.long (if (0 ≤ n ∧ n ≤ 12) ∧ (0 ≤ o ∧ o ≤ 10) ∧ (0 ≤ b ∧ b ≤ 10) ∧ o + b ≤ 10 ∧ (0 ≤ k ∧ k ≤ 12) ∧ (0 ≤ part ∧ part ≤ 1) then lowM (suN (swI o.toNatClampNeg b.toNatClampNeg n.toNatClampNeg) k.toNatClampNeg) (10 ^ n.toNatClampNeg) part else -1000000000000000002))) (fun u : ScrM => bMd E a book u.1 week sights sight signs pad u.2.1 u.2.2.1 u.2.2.2.1 u.2.2.2.2.1 u.2.2.2.2.2.1 u.2.2.2.2.2.2.1 u.2.2.2.2.2.2.2.1 u.2.2.2.2.2.2.2.2.1 u.2.2.2.2.2.2.2.2.2.1 u.2.2.2.2.2.2.2.2.2.2.1 u.2.2.2.2.2.2.2.2.2.2.2.1 u.2.2.2.2.2.2.2.2.2.2.2.2.1 u.2.2.2.2.2.2.2.2.2.2.2.2.2 image isKept) := by
  refine CG.intro (by decide) (Nat.le_of_ble_eq_true rfl) (fun K X Y _ _ _ => ?_)
  refine jv_iload_n 0 X dX10_shake_0 1 rfl ?_
  refine jv_iconst (v := 0) 1 X dX10_shake_1 rfl ?_
  refine jv_bipush (v := 12) 2 X dX10_shake_2 (by decide) ?_
  refine jv_fun 4 X (c_X10_in E _ n 0 12) ws_X10_57 ⟨Nat.le_of_ble_eq_true rfl, Nat.le_of_ble_eq_true rfl⟩ ⟨rfl, rfl⟩ ⟨Nat.zero_le _, Nat.zero_le _⟩ dX10_shake_4 rfl [] rfl (Nat.le_of_ble_eq_true rfl) ?_
  refine jv_z_eq 7 X dX10_shake_7 59 (by decide) (fun c_1 => ?_) (fun c_1 => ?_)
  · refine jv_ldc2 (v := (-1000000000000000002)) 59 X tm_kl_X10_151 dX10_shake_59 ?_
    exact jv_lret 62 X Y rfl dX10_shake_62 (now, metAt, metWho, reason, acts, atp, will, fitting, counts, ring, nxt, wins, ways, nextWays) (by simp [nI_add, lt_nle, -Int32.not_le, c_1]) rfl
  · obtain ⟨jn, h1jn, h2jn, rfl⟩ := nx_in (a := 0) (b := 12) rfl rfl (by decide) (by decide) c_1
    have hcjn : (nI jn).toNatClampNeg = jn := nI_clamp (by omega)
    refine jv_iload_n 10 X dX10_shake_10 2 rfl ?_
    refine jv_iconst (v := 0) 11 X dX10_shake_11 rfl ?_
    refine jv_bipush (v := 10) 12 X dX10_shake_12 (by decide) ?_
    refine jv_fun 14 X (c_X10_in E _ o 0 10) ws_X10_57 ⟨Nat.le_of_ble_eq_true rfl, Nat.le_of_ble_eq_true rfl⟩ ⟨rfl, rfl⟩ ⟨Nat.zero_le _, Nat.zero_le _⟩ dX10_shake_14 rfl [] rfl (Nat.le_of_ble_eq_true rfl) ?_
    refine jv_z_eq 17 X dX10_shake_17 59 (by decide) (fun c_2 => ?_) (fun c_2 => ?_)
    · refine jv_ldc2 (v := (-1000000000000000002)) 59 X tm_kl_X10_151 dX10_shake_59 ?_
      exact jv_lret 62 X Y rfl dX10_shake_62 (now, metAt, metWho, reason, acts, atp, will, fitting, counts, ring, nxt, wins, ways, nextWays) (by simp [nI_add, lt_nle, -Int32.not_le, c_1, hcjn, c_2]) rfl
    · obtain ⟨jo, h1jo, h2jo, rfl⟩ := nx_in (a := 0) (b := 10) rfl rfl (by decide) (by decide) c_2
      have hcjo : (nI jo).toNatClampNeg = jo := nI_clamp (by omega)
      refine jv_iload_n 20 X dX10_shake_20 3 rfl ?_
      refine jv_iconst (v := 0) 21 X dX10_shake_21 rfl ?_
      refine jv_bipush (v := 10) 22 X dX10_shake_22 (by decide) ?_
      refine jv_fun 24 X (c_X10_in E _ b 0 10) ws_X10_57 ⟨Nat.le_of_ble_eq_true rfl, Nat.le_of_ble_eq_true rfl⟩ ⟨rfl, rfl⟩ ⟨Nat.zero_le _, Nat.zero_le _⟩ dX10_shake_24 rfl [] rfl (Nat.le_of_ble_eq_true rfl) ?_
      refine jv_z_eq 27 X dX10_shake_27 59 (by decide) (fun c_3 => ?_) (fun c_3 => ?_)
      · refine jv_ldc2 (v := (-1000000000000000002)) 59 X tm_kl_X10_151 dX10_shake_59 ?_
        exact jv_lret 62 X Y rfl dX10_shake_62 (now, metAt, metWho, reason, acts, atp, will, fitting, counts, ring, nxt, wins, ways, nextWays) (by simp [nI_add, lt_nle, -Int32.not_le, c_1, hcjn, c_2, hcjo, c_3]) rfl
      · obtain ⟨jb, h1jb, h2jb, rfl⟩ := nx_in (a := 0) (b := 10) rfl rfl (by decide) (by decide) c_3
        have hcjb : (nI jb).toNatClampNeg = jb := nI_clamp (by omega)
        refine jv_iload_n 30 X dX10_shake_30 2 rfl ?_
        refine jv_iload_n 31 X dX10_shake_31 3 rfl ?_
        refine jv_iadd 32 X dX10_shake_32 ?_
        refine jv_norm (x2 := nI (jo + jb)) (nx_add2 (a := jo) (b := jb) rfl rfl (by omega)) ?_
        refine jv_bipush (v := 10) 33 X dX10_shake_33 (by decide) ?_
        refine jn_icmp_gt 35 X dX10_shake_35 59 (by decide) (fun c_4 => ?_) (fun c_4 => ?_)
        · have n_4 : ¬ (jo + jb) ≤ 10 := fun zq => c_4 ((nx_le (a := (jo + jb)) (b := 10) rfl rfl (by omega) (by omega)).mpr zq)
          refine jv_ldc2 (v := (-1000000000000000002)) 59 X tm_kl_X10_151 dX10_shake_59 ?_
          exact jv_lret 62 X Y rfl dX10_shake_62 (now, metAt, metWho, reason, acts, atp, will, fitting, counts, ring, nxt, wins, ways, nextWays) (by simp [nI_add, lt_nle, -Int32.not_le, c_1, hcjn, c_2, hcjo, c_3, hcjb, c_4, n_4]) rfl
        · have n_4 : (jo + jb) ≤ 10 := (nx_le (a := (jo + jb)) (b := 10) rfl rfl (by omega) (by omega)).mp c_4
          refine jv_iload 38 X dX10_shake_38 4 rfl ?_
          refine jv_iconst (v := 0) 40 X dX10_shake_40 rfl ?_
          refine jv_bipush (v := 12) 41 X dX10_shake_41 (by decide) ?_
          refine jv_fun 43 X (c_X10_in E _ k 0 12) ws_X10_57 ⟨Nat.le_of_ble_eq_true rfl, Nat.le_of_ble_eq_true rfl⟩ ⟨rfl, rfl⟩ ⟨Nat.zero_le _, Nat.zero_le _⟩ dX10_shake_43 rfl [] rfl (Nat.le_of_ble_eq_true rfl) ?_
          refine jv_z_eq 46 X dX10_shake_46 59 (by decide) (fun c_5 => ?_) (fun c_5 => ?_)
          · refine jv_ldc2 (v := (-1000000000000000002)) 59 X tm_kl_X10_151 dX10_shake_59 ?_
            exact jv_lret 62 X Y rfl dX10_shake_62 (now, metAt, metWho, reason, acts, atp, will, fitting, counts, ring, nxt, wins, ways, nextWays) (by simp [nI_add, lt_nle, -Int32.not_le, c_1, hcjn, c_2, hcjo, c_3, hcjb, c_4, n_4, c_5]) rfl
          · obtain ⟨jk, h1jk, h2jk, rfl⟩ := nx_in (a := 0) (b := 12) rfl rfl (by decide) (by decide) c_5
            have hcjk : (nI jk).toNatClampNeg = jk := nI_clamp (by omega)
            refine jv_iload 49 X dX10_shake_49 5 rfl ?_
            refine jv_iconst (v := 0) 51 X dX10_shake_51 rfl ?_
            refine jv_iconst (v := 1) 52 X dX10_shake_52 rfl ?_
            refine jv_fun 53 X (c_X10_in E _ part 0 1) ws_X10_57 ⟨Nat.le_of_ble_eq_true rfl, Nat.le_of_ble_eq_true rfl⟩ ⟨rfl, rfl⟩ ⟨Nat.zero_le _, Nat.zero_le _⟩ dX10_shake_53 rfl [] rfl (Nat.le_of_ble_eq_true rfl) ?_
            refine jv_z_ne 56 X dX10_shake_56 63 (by decide) (fun c_6 => ?_) (fun c_6 => ?_)
            · refine jv_iconst (v := 0) 63 X dX10_shake_63 rfl ?_
              refine jv_istore (lv2 := [(6, .int 0), (0, .ref (a 0)), (1, .int (nI jn)), (2, .int (nI jo)), (3, .int (nI jb)), (4, .int (nI jk)), (5, .int part)]) 64 X dX10_shake_64 (by decide) rfl ?_
              have lp66 : ∀ (n66 : Nat) (i : Nat) (w2 : Nat → Int64), (i ≤ 27) → (∀ j, j < i → w2 j = lN (sw0 j)) → 27 - i < n66 → JV E K 0 0 (bMd E a book now week sights sight signs pad metAt metWho reason acts atp will fitting counts ring nxt wins w2 nextWays image isKept) [(0, .ref (a 0)), (1, .int (nI jn)), (2, .int (nI jo)), (3, .int (nI jb)), (4, .int (nI jk)), (5, .int part), (6, .int (nI i))] 66 [] := by
                intro n66
                induction n66 with
                | zero => intro i w2 hi hI hm; exact absurd hm (Nat.not_lt_zero _)
                | succ n66 ih66 =>
                  intro i w2 hi hI hm
                  refine jv_iload 66 X dX10_shake_66 6 rfl ?_
                  refine jv_bipush (v := 27) 68 X dX10_shake_68 (by decide) ?_
                  refine jn_icmp_ge 70 X dX10_shake_70 98 (by decide) (fun c_7 => ?_) (fun c_7 => ?_)
                  · have n_7 : 27 ≤ i := (nx_le (a := 27) (b := i) rfl rfl (by omega) (by omega)).mp c_7
                    refine jv_extl (ws2 := bMd E a book now week sights sight signs pad metAt metWho reason acts atp will fitting counts ring nxt wins (fun i => lN (swI jo jb 0 i)) nextWays image isKept) 12 (fun i => lN (swI jo jb 0 i)) rfl (fun j hj => hI j (by omega)) rfl ?_
                    refine jv_lconst (v := 1) 98 X dX10_shake_98 rfl ?_
                    refine jv_lstore (lv2 := [(6, .long 1), (0, .ref (a 0)), (1, .int (nI jn)), (2, .int (nI jo)), (3, .int (nI jb)), (4, .int (nI jk)), (5, .int part)]) 99 X dX10_shake_99 (by decide) rfl ?_
                    refine jv_iconst (v := 0) 101 X dX10_shake_101 rfl ?_
                    refine jv_istore (lv2 := [(8, .int 0), (6, .long 1), (0, .ref (a 0)), (1, .int (nI jn)), (2, .int (nI jo)), (3, .int (nI jb)), (4, .int (nI jk)), (5, .int part)]) 102 X dX10_shake_102 (by decide) rfl ?_
                    have lp104 : ∀ (n104 : Nat) (dy : Nat) (nw : Nat → Int64), (dy ≤ jn) → jn - dy < n104 → JV E K 0 0 (bMd E a book now week sights sight signs pad metAt metWho reason acts atp will fitting counts ring nxt wins (fun i => lN (swI jo jb dy i)) nw image isKept) [(0, .ref (a 0)), (1, .int (nI jn)), (2, .int (nI jo)), (3, .int (nI jb)), (4, .int (nI jk)), (5, .int part), (6, .long (lN (10 ^ dy))), (8, .int (nI dy))] 104 [] := by
                      intro n104
                      induction n104 with
                      | zero => intro dy nw hdy hm; exact absurd hm (Nat.not_lt_zero _)
                      | succ n104 ih104 =>
                        intro dy nw hdy hm
                        refine jv_iload 104 X dX10_shake_104 7 rfl ?_
                        refine jv_iload_n 106 X dX10_shake_106 1 rfl ?_
                        refine jn_icmp_ge 107 X dX10_shake_107 218 (by decide) (fun c_8 => ?_) (fun c_8 => ?_)
                        · have n_8 : jn ≤ dy := (nx_le (a := jn) (b := dy) rfl rfl (by omega) (by omega)).mp c_8
                          refine jv_lconst (v := 0) 218 X dX10_shake_218 rfl ?_
                          refine jv_lstore (lv2 := [(8, .long 0), (0, .ref (a 0)), (1, .int (nI jn)), (2, .int (nI jo)), (3, .int (nI jb)), (4, .int (nI jk)), (5, .int part), (6, .long (lN (10 ^ dy)))]) 219 X dX10_shake_219 (by decide) rfl ?_
                          refine jv_iconst (v := 0) 221 X dX10_shake_221 rfl ?_
                          refine jv_istore (lv2 := [(10, .int 0), (8, .long 0), (0, .ref (a 0)), (1, .int (nI jn)), (2, .int (nI jo)), (3, .int (nI jb)), (4, .int (nI jk)), (5, .int part), (6, .long (lN (10 ^ dy)))]) 222 X dX10_shake_222 (by decide) rfl ?_
                          have lp224 : ∀ (n224 : Nat) (y sm : Nat), (y ≤ 27) → (sm = itr (suS (swI jo jb dy) jk) y 0) → 27 - y < n224 → JV E K 0 0 (bMd E a book now week sights sight signs pad metAt metWho reason acts atp will fitting counts ring nxt wins (fun i => lN (swI jo jb dy i)) nw image isKept) [(0, .ref (a 0)), (1, .int (nI jn)), (2, .int (nI jo)), (3, .int (nI jb)), (4, .int (nI jk)), (5, .int part), (6, .long (lN (10 ^ dy))), (8, .long (lN sm)), (10, .int (nI y))] 224 [] := by
                            intro n224
                            induction n224 with
                            | zero => intro y sm hy hS hm; exact absurd hm (Nat.not_lt_zero _)
                            | succ n224 ih224 =>
                              intro y sm hy hS hm
                              refine jv_iload 224 X dX10_shake_224 8 rfl ?_
                              refine jv_bipush (v := 27) 226 X dX10_shake_226 (by decide) ?_
                              refine jn_icmp_ge 228 X dX10_shake_228 282 (by decide) (fun c_9 => ?_) (fun c_9 => ?_)
                              · have n_9 : 27 ≤ y := (nx_le (a := 27) (b := y) rfl rfl (by omega) (by omega)).mp c_9
                                have hdn : dy = jn := by omega
                                have hsm : suN (swI jo jb jn) jk = sm := by rw [suN, show 27 = y by omega, ← hdn, ← hS]
                                have hsb : sm ≤ 27 * 10 ^ dy := by rw [← hsm, hdn]; exact suN_le (fun i => swI_le (by omega) jn i) 27
                                have hpw := p10 (n := dy) (by omega)
                                have hpp : 0 < 10 ^ dy := Nat.pow_pos (by decide)
                                refine jv_lload 282 X dX10_shake_282 7 rfl ?_
                                refine jv_lload 284 X dX10_shake_284 6 rfl ?_
                                refine jv_iload 286 X dX10_shake_286 5 rfl ?_
                                refine jv_fun 288 X (c_X10_lowest E _ sm (10 ^ dy) part (by omega) (by omega) hpp) ws_X10_153 ⟨Nat.le_of_ble_eq_true rfl, Nat.le_of_ble_eq_true rfl⟩ ⟨rfl, rfl⟩ ⟨Nat.zero_le _, Nat.zero_le _⟩ dX10_shake_288 rfl [] rfl (Nat.le_of_ble_eq_true rfl) ?_
                                exact jv_lret 291 X Y rfl dX10_shake_291 (now, metAt, metWho, reason, acts, atp, will, fitting, counts, ring, nxt, wins, (fun i => lN (swI jo jb dy i)), nw) (by simp [hdn, hsm, nI_add, c_1, hcjn, c_2, hcjo, c_3, hcjb, c_4, c_5, hcjk, c_6]) rfl
                              · have n_9 : ¬ 27 ≤ y := fun zq => c_9 ((nx_le (a := 27) (b := y) rfl rfl (by omega) (by omega)).mpr zq)
                                refine jv_iload 231 X dX10_shake_231 8 rfl ?_
                                refine jv_bipush (v := 13) 233 X dX10_shake_233 (by decide) ?_
                                refine jn_icmp_ge 235 X dX10_shake_235 246 (by decide) (fun c_10 => ?_) (fun c_10 => ?_)
                                · have n_10 : 13 ≤ y := (nx_le (a := 13) (b := y) rfl rfl (by omega) (by omega)).mp c_10
                                  refine jv_iload 246 X dX10_shake_246 8 rfl ?_
                                  refine jv_bipush (v := 13) 248 X dX10_shake_248 (by decide) ?_
                                  refine jv_isub 250 X dX10_shake_250 ?_
                                  refine jv_norm (x2 := nI (y - 13)) (nx_sub2 (a := y) (b := 13) rfl rfl (by omega)) ?_
                                  refine jv_istore (lv2 := [(11, .int (nI (y - 13))), (0, .ref (a 0)), (1, .int (nI jn)), (2, .int (nI jo)), (3, .int (nI jb)), (4, .int (nI jk)), (5, .int part), (6, .long (lN (10 ^ dy))), (8, .long (lN sm)), (10, .int (nI y))]) 251 X dX10_shake_251 (by decide) rfl ?_
                                  refine jv_lload 253 X dX10_shake_253 8 rfl ?_
                                  refine jv_iload 255 X dX10_shake_255 0 rfl ?_
                                  refine jv_iload 257 X dX10_shake_257 5 rfl ?_
                                  refine jn_icmp_lt 259 X dX10_shake_259 272 (by decide) (fun c_11 => ?_) (fun c_11 => ?_)
                                  · have n_11 : ¬ jk ≤ (y - 13) := fun zq => c_11 ((nx_le (a := jk) (b := (y - 13)) rfl rfl (by omega) (by omega)).mpr zq)
                                    refine jv_lconst (v := 0) 272 X dX10_shake_272 rfl ?_
                                    refine jv_ladd 273 X dX10_shake_273 ?_
                                    refine jv_norml (x2 := lN sm) (by exact (lN_add sm 0)) ?_
                                    refine jv_lstore (lv2 := [(8, .long (lN sm)), (11, .int (nI (y - 13))), (0, .ref (a 0)), (1, .int (nI jn)), (2, .int (nI jo)), (3, .int (nI jb)), (4, .int (nI jk)), (5, .int part), (6, .long (lN (10 ^ dy))), (10, .int (nI y))]) 274 X dX10_shake_274 (by decide) rfl ?_
                                    refine jv_iinc (v := (nI (y + 1))) (lv2 := [(10, .int (nI (y + 1))), (8, .long (lN sm)), (11, .int (nI (y - 13))), (0, .ref (a 0)), (1, .int (nI jn)), (2, .int (nI jo)), (3, .int (nI jb)), (4, .int (nI jk)), (5, .int part), (6, .long (lN (10 ^ dy)))]) 276 X dX10_shake_276 9 rfl (nx_inc _) (by decide) rfl ?_
                                    refine jv_goto 279 X dX10_shake_279 224 (by decide) ?_
                                    exact jv_lv [3, 4, 5, 6, 7, 8, 9, 1, 0] rfl (ih224 (y + 1) sm (by omega) (by rw [itr_s, ← hS, suS, show offN y = y - 13 from if_neg (by omega), if_neg (by omega)]) (by omega))
                                  · have n_11 : jk ≤ (y - 13) := (nx_le (a := jk) (b := (y - 13)) rfl rfl (by omega) (by omega)).mp c_11
                                    refine jv_aload_n 262 X dX10_shake_262 1 rfl ?_
                                    refine jv_get (v := .ref (a 12)) 263 X gf_X10_44 dX10_shake_263 0 rfl rfl ?_
                                    refine jv_iload 266 X dX10_shake_266 9 rfl ?_
                                    refine jv_lald (f := (fun i => lN (swI jo jb dy i))) 268 X dX10_shake_268 12 rfl (by decide) y rfl (by omega) ?_
                                    refine jv_goto 269 X dX10_shake_269 273 (by decide) ?_
                                    refine jv_ladd 273 X dX10_shake_273 ?_
                                    refine jv_norml (x2 := lN (sm + (swI jo jb dy) y)) (lN_add _ _) ?_
                                    refine jv_lstore (lv2 := [(8, .long (lN (sm + (swI jo jb dy) y))), (11, .int (nI (y - 13))), (0, .ref (a 0)), (1, .int (nI jn)), (2, .int (nI jo)), (3, .int (nI jb)), (4, .int (nI jk)), (5, .int part), (6, .long (lN (10 ^ dy))), (10, .int (nI y))]) 274 X dX10_shake_274 (by decide) rfl ?_
                                    refine jv_iinc (v := (nI (y + 1))) (lv2 := [(10, .int (nI (y + 1))), (8, .long (lN (sm + (swI jo jb dy) y))), (11, .int (nI (y - 13))), (0, .ref (a 0)), (1, .int (nI jn)), (2, .int (nI jo)), (3, .int (nI jb)), (4, .int (nI jk)), (5, .int part), (6, .long (lN (10 ^ dy)))]) 276 X dX10_shake_276 9 rfl (nx_inc _) (by decide) rfl ?_
                                    refine jv_goto 279 X dX10_shake_279 224 (by decide) ?_
                                    exact jv_lv [3, 4, 5, 6, 7, 8, 9, 1, 0] rfl (ih224 (y + 1) (sm + (swI jo jb dy) y) (by omega) (by rw [itr_s, ← hS, suS, show offN y = y - 13 from if_neg (by omega), if_pos (by omega)]) (by omega))
                                · have n_10 : ¬ 13 ≤ y := fun zq => c_10 ((nx_le (a := 13) (b := y) rfl rfl (by omega) (by omega)).mpr zq)
                                  refine jv_bipush (v := 13) 238 X dX10_shake_238 (by decide) ?_
                                  refine jv_iload 240 X dX10_shake_240 8 rfl ?_
                                  refine jv_isub 242 X dX10_shake_242 ?_
                                  refine jv_norm (x2 := nI (13 - y)) (nx_sub2 (a := 13) (b := y) rfl rfl (by omega)) ?_
                                  refine jv_goto 243 X dX10_shake_243 251 (by decide) ?_
                                  refine jv_istore (lv2 := [(11, .int (nI (13 - y))), (0, .ref (a 0)), (1, .int (nI jn)), (2, .int (nI jo)), (3, .int (nI jb)), (4, .int (nI jk)), (5, .int part), (6, .long (lN (10 ^ dy))), (8, .long (lN sm)), (10, .int (nI y))]) 251 X dX10_shake_251 (by decide) rfl ?_
                                  refine jv_lload 253 X dX10_shake_253 8 rfl ?_
                                  refine jv_iload 255 X dX10_shake_255 0 rfl ?_
                                  refine jv_iload 257 X dX10_shake_257 5 rfl ?_
                                  refine jn_icmp_lt 259 X dX10_shake_259 272 (by decide) (fun c_12 => ?_) (fun c_12 => ?_)
                                  · have n_12 : ¬ jk ≤ (13 - y) := fun zq => c_12 ((nx_le (a := jk) (b := (13 - y)) rfl rfl (by omega) (by omega)).mpr zq)
                                    refine jv_lconst (v := 0) 272 X dX10_shake_272 rfl ?_
                                    refine jv_ladd 273 X dX10_shake_273 ?_
                                    refine jv_norml (x2 := lN sm) (by exact (lN_add sm 0)) ?_
                                    refine jv_lstore (lv2 := [(8, .long (lN sm)), (11, .int (nI (13 - y))), (0, .ref (a 0)), (1, .int (nI jn)), (2, .int (nI jo)), (3, .int (nI jb)), (4, .int (nI jk)), (5, .int part), (6, .long (lN (10 ^ dy))), (10, .int (nI y))]) 274 X dX10_shake_274 (by decide) rfl ?_
                                    refine jv_iinc (v := (nI (y + 1))) (lv2 := [(10, .int (nI (y + 1))), (8, .long (lN sm)), (11, .int (nI (13 - y))), (0, .ref (a 0)), (1, .int (nI jn)), (2, .int (nI jo)), (3, .int (nI jb)), (4, .int (nI jk)), (5, .int part), (6, .long (lN (10 ^ dy)))]) 276 X dX10_shake_276 9 rfl (nx_inc _) (by decide) rfl ?_
                                    refine jv_goto 279 X dX10_shake_279 224 (by decide) ?_
                                    exact jv_lv [3, 4, 5, 6, 7, 8, 9, 1, 0] rfl (ih224 (y + 1) sm (by omega) (by rw [itr_s, ← hS, suS, show offN y = 13 - y from if_pos (by omega), if_neg (by omega)]) (by omega))
                                  · have n_12 : jk ≤ (13 - y) := (nx_le (a := jk) (b := (13 - y)) rfl rfl (by omega) (by omega)).mp c_12
                                    refine jv_aload_n 262 X dX10_shake_262 1 rfl ?_
                                    refine jv_get (v := .ref (a 12)) 263 X gf_X10_44 dX10_shake_263 0 rfl rfl ?_
                                    refine jv_iload 266 X dX10_shake_266 9 rfl ?_
                                    refine jv_lald (f := (fun i => lN (swI jo jb dy i))) 268 X dX10_shake_268 12 rfl (by decide) y rfl (by omega) ?_
                                    refine jv_goto 269 X dX10_shake_269 273 (by decide) ?_
                                    refine jv_ladd 273 X dX10_shake_273 ?_
                                    refine jv_norml (x2 := lN (sm + (swI jo jb dy) y)) (lN_add _ _) ?_
                                    refine jv_lstore (lv2 := [(8, .long (lN (sm + (swI jo jb dy) y))), (11, .int (nI (13 - y))), (0, .ref (a 0)), (1, .int (nI jn)), (2, .int (nI jo)), (3, .int (nI jb)), (4, .int (nI jk)), (5, .int part), (6, .long (lN (10 ^ dy))), (10, .int (nI y))]) 274 X dX10_shake_274 (by decide) rfl ?_
                                    refine jv_iinc (v := (nI (y + 1))) (lv2 := [(10, .int (nI (y + 1))), (8, .long (lN (sm + (swI jo jb dy) y))), (11, .int (nI (13 - y))), (0, .ref (a 0)), (1, .int (nI jn)), (2, .int (nI jo)), (3, .int (nI jb)), (4, .int (nI jk)), (5, .int part), (6, .long (lN (10 ^ dy)))]) 276 X dX10_shake_276 9 rfl (nx_inc _) (by decide) rfl ?_
                                    refine jv_goto 279 X dX10_shake_279 224 (by decide) ?_
                                    exact jv_lv [3, 4, 5, 6, 7, 8, 9, 1, 0] rfl (ih224 (y + 1) (sm + (swI jo jb dy) y) (by omega) (by rw [itr_s, ← hS, suS, show offN y = 13 - y from if_pos (by omega), if_pos (by omega)]) (by omega))
                          exact jv_lv [2, 3, 4, 5, 6, 7, 8, 1, 0] rfl (lp224 _ 0 0 (by omega) rfl (Nat.lt_succ_self _))
                        · have n_8 : ¬ jn ≤ dy := fun zq => c_8 ((nx_le (a := jn) (b := dy) rfl rfl (by omega) (by omega)).mpr zq)
                          refine jv_iconst (v := 1) 110 X dX10_shake_110 rfl ?_
                          refine jv_istore (lv2 := [(9, .int 1), (0, .ref (a 0)), (1, .int (nI jn)), (2, .int (nI jo)), (3, .int (nI jb)), (4, .int (nI jk)), (5, .int part), (6, .long (lN (10 ^ dy))), (8, .int (nI dy))]) 111 X dX10_shake_111 (by decide) rfl ?_
                          have lp113 : ∀ (n113 : Nat) (i : Nat) (n2 : Nat → Int64), (1 ≤ i) → (i ≤ 26) → (∀ j, 1 ≤ j → j < i → n2 j = lN (swN jo jb (swI jo jb dy) j)) → 26 - i < n113 → JV E K 0 0 (bMd E a book now week sights sight signs pad metAt metWho reason acts atp will fitting counts ring nxt wins (fun i => lN (swI jo jb dy i)) n2 image isKept) [(0, .ref (a 0)), (1, .int (nI jn)), (2, .int (nI jo)), (3, .int (nI jb)), (4, .int (nI jk)), (5, .int part), (6, .long (lN (10 ^ dy))), (8, .int (nI dy)), (9, .int (nI i))] 113 [] := by
                            intro n113
                            induction n113 with
                            | zero => intro i n2 hi1 hi2 hN hm; exact absurd hm (Nat.not_lt_zero _)
                            | succ n113 ih113 =>
                              intro i n2 hi1 hi2 hN hm
                              refine jv_iload 113 X dX10_shake_113 8 rfl ?_
                              refine jv_bipush (v := 26) 115 X dX10_shake_115 (by decide) ?_
                              refine jn_icmp_ge 117 X dX10_shake_117 174 (by decide) (fun c_13 => ?_) (fun c_13 => ?_)
                              · have n_13 : 26 ≤ i := (nx_le (a := 26) (b := i) rfl rfl (by omega) (by omega)).mp c_13
                                refine jv_iconst (v := 1) 174 X dX10_shake_174 rfl ?_
                                refine jv_istore (lv2 := [(9, .int 1), (0, .ref (a 0)), (1, .int (nI jn)), (2, .int (nI jo)), (3, .int (nI jb)), (4, .int (nI jk)), (5, .int part), (6, .long (lN (10 ^ dy))), (8, .int (nI dy))]) 175 X dX10_shake_175 (by decide) rfl ?_
                                have lp177 : ∀ (n177 : Nat) (q : Nat) (w3 : Nat → Int64), (1 ≤ q) → (q ≤ 26) → (∀ j, j < 1 ∨ q ≤ j → j < 27 → w3 j = lN (swI jo jb dy j)) → (∀ j, 1 ≤ j → j < q → w3 j = lN (swN jo jb (swI jo jb dy) j)) → 26 - q < n177 → JV E K 0 0 (bMd E a book now week sights sight signs pad metAt metWho reason acts atp will fitting counts ring nxt wins w3 n2 image isKept) [(0, .ref (a 0)), (1, .int (nI jn)), (2, .int (nI jo)), (3, .int (nI jb)), (4, .int (nI jk)), (5, .int part), (6, .long (lN (10 ^ dy))), (8, .int (nI dy)), (9, .int (nI q))] 177 [] := by
                                  intro n177
                                  induction n177 with
                                  | zero => intro q w3 hq1 hq2 hA hB hm; exact absurd hm (Nat.not_lt_zero _)
                                  | succ n177 ih177 =>
                                    intro q w3 hq1 hq2 hA hB hm
                                    refine jv_iload 177 X dX10_shake_177 8 rfl ?_
                                    refine jv_bipush (v := 26) 179 X dX10_shake_179 (by decide) ?_
                                    refine jn_icmp_ge 181 X dX10_shake_181 204 (by decide) (fun c_14 => ?_) (fun c_14 => ?_)
                                    · have n_14 : 26 ≤ q := (nx_le (a := 26) (b := q) rfl rfl (by omega) (by omega)).mp c_14
                                      refine jv_extl (ws2 := bMd E a book now week sights sight signs pad metAt metWho reason acts atp will fitting counts ring nxt wins (fun i => lN (swI jo jb (dy + 1) i)) n2 image isKept) 12 (fun i => lN (swI jo jb (dy + 1) i)) rfl (fun j hj => by show _ = lN (swN jo jb (swI jo jb dy) j); by_cases z : 1 ≤ j ∧ j < 26; exact hB j z.1 (by omega); rw [swN, if_neg z]; exact hA j (by omega) (by omega)) rfl ?_
                                      refine jv_lload 204 X dX10_shake_204 6 rfl ?_
                                      refine jv_ldc2 (v := 10) 206 X tm_kl_X10_183 dX10_shake_206 ?_
                                      refine jv_lmul 209 X dX10_shake_209 ?_
                                      refine jv_norml (x2 := lN (10 ^ (dy + 1))) (by rw [Nat.pow_succ]; exact lN_mul _ 10) ?_
                                      refine jv_lstore (lv2 := [(6, .long (lN (10 ^ (dy + 1)))), (0, .ref (a 0)), (1, .int (nI jn)), (2, .int (nI jo)), (3, .int (nI jb)), (4, .int (nI jk)), (5, .int part), (8, .int (nI dy)), (9, .int (nI q))]) 210 X dX10_shake_210 (by decide) rfl ?_
                                      refine jv_iinc (v := (nI (dy + 1))) (lv2 := [(8, .int (nI (dy + 1))), (6, .long (lN (10 ^ (dy + 1)))), (0, .ref (a 0)), (1, .int (nI jn)), (2, .int (nI jo)), (3, .int (nI jb)), (4, .int (nI jk)), (5, .int part), (9, .int (nI q))]) 212 X dX10_shake_212 7 rfl (nx_inc _) (by decide) rfl ?_
                                      refine jv_goto 215 X dX10_shake_215 104 (by decide) ?_
                                      exact jv_lv [2, 3, 4, 5, 6, 7, 1, 0] rfl (ih104 (dy + 1) n2 (by omega) (by omega))
                                    · have n_14 : ¬ 26 ≤ q := fun zq => c_14 ((nx_le (a := 26) (b := q) rfl rfl (by omega) (by omega)).mpr zq)
                                      refine jv_aload_n 184 X dX10_shake_184 0 rfl ?_
                                      refine jv_get (v := .ref (a 12)) 185 X gf_X10_44 dX10_shake_185 0 rfl rfl ?_
                                      refine jv_iload 188 X dX10_shake_188 8 rfl ?_
                                      refine jv_aload_n 190 X dX10_shake_190 0 rfl ?_
                                      refine jv_get (v := .ref (a 13)) 191 X gf_X10_48 dX10_shake_191 0 rfl rfl ?_
                                      refine jv_iload 194 X dX10_shake_194 8 rfl ?_
                                      refine jv_lald (f := n2) 196 X dX10_shake_196 13 rfl (by decide) q rfl (by omega) ?_
                                      refine jv_last (ws2 := bMd E a book now week sights sight signs pad metAt metWho reason acts atp will fitting counts ring nxt wins (vp_updL w3 q (n2 q)) n2 image isKept) (f := w3) 197 X dX10_shake_197 12 rfl (by decide) q rfl (by omega) rfl ?_
                                      refine jv_iinc (v := (nI (q + 1))) (lv2 := [(9, .int (nI (q + 1))), (0, .ref (a 0)), (1, .int (nI jn)), (2, .int (nI jo)), (3, .int (nI jb)), (4, .int (nI jk)), (5, .int part), (6, .long (lN (10 ^ dy))), (8, .int (nI dy))]) 198 X dX10_shake_198 8 rfl (nx_inc _) (by decide) rfl ?_
                                      refine jv_goto 201 X dX10_shake_201 177 (by decide) ?_
                                      exact jv_lv [1, 2, 3, 4, 5, 6, 7, 8, 0] rfl (ih177 (q + 1) (vp_updL w3 q (n2 q)) (by omega) (by omega) (fun j h1 h2 => by rw [pk_uLn (by omega)]; exact hA j (by omega) (by omega)) (fun j hj1 hj2 => by rcases Nat.lt_succ_iff_lt_or_eq.mp hj2 with h | h; rw [pk_uLn (by omega)]; exact hB j hj1 h; rw [h, pk_uLs]; exact hN q (by omega) (by omega)) (by omega))
                                exact jv_lv [1, 2, 3, 4, 5, 6, 7, 8, 0] rfl (lp177 _ 1 (fun i => lN (swI jo jb dy i)) (by omega) (by omega) (fun j _ _ => rfl) (fun j hj1 hj2 => absurd hj2 (by omega)) (Nat.lt_succ_self _))
                              · have n_13 : ¬ 26 ≤ i := fun zq => c_13 ((nx_le (a := 26) (b := i) rfl rfl (by omega) (by omega)).mpr zq)
                                refine jv_aload_n 120 X dX10_shake_120 0 rfl ?_
                                refine jv_get (v := .ref (a 13)) 121 X gf_X10_48 dX10_shake_121 0 rfl rfl ?_
                                refine jv_iload 124 X dX10_shake_124 8 rfl ?_
                                refine jv_iload_n 126 X dX10_shake_126 2 rfl ?_
                                refine jv_i2l 127 X dX10_shake_127 ?_
                                refine jv_aload_n 128 X dX10_shake_128 0 rfl ?_
                                refine jv_get (v := .ref (a 12)) 129 X gf_X10_44 dX10_shake_129 0 rfl rfl ?_
                                refine jv_iload 132 X dX10_shake_132 8 rfl ?_
                                refine jv_iconst (v := 1) 134 X dX10_shake_134 rfl ?_
                                refine jv_iadd 135 X dX10_shake_135 ?_
                                refine jv_norm (x2 := nI (i + 1)) (nx_add2 (a := i) (b := 1) rfl rfl (by omega)) ?_
                                refine jv_lald (f := (fun i => lN (swI jo jb dy i))) 136 X dX10_shake_136 12 rfl (by decide) (i + 1) rfl (by omega) ?_
                                refine jv_lmul 137 X dX10_shake_137 ?_
                                refine jv_iload_n 138 X dX10_shake_138 3 rfl ?_
                                refine jv_i2l 139 X dX10_shake_139 ?_
                                refine jv_aload_n 140 X dX10_shake_140 0 rfl ?_
                                refine jv_get (v := .ref (a 12)) 141 X gf_X10_44 dX10_shake_141 0 rfl rfl ?_
                                refine jv_iload 144 X dX10_shake_144 8 rfl ?_
                                refine jv_iconst (v := 1) 146 X dX10_shake_146 rfl ?_
                                refine jv_isub 147 X dX10_shake_147 ?_
                                refine jv_norm (x2 := nI (i - 1)) (nx_sub2 (a := i) (b := 1) rfl rfl (by omega)) ?_
                                refine jv_lald (f := (fun i => lN (swI jo jb dy i))) 148 X dX10_shake_148 12 rfl (by decide) (i - 1) rfl (by omega) ?_
                                refine jv_lmul 149 X dX10_shake_149 ?_
                                refine jv_ladd 150 X dX10_shake_150 ?_
                                refine jv_bipush (v := 10) 151 X dX10_shake_151 (by decide) ?_
                                refine jv_iload_n 153 X dX10_shake_153 2 rfl ?_
                                refine jv_isub 154 X dX10_shake_154 ?_
                                refine jv_norm (x2 := nI (10 - jo)) (nx_sub2 (a := 10) (b := jo) rfl rfl (by omega)) ?_
                                refine jv_iload_n 155 X dX10_shake_155 3 rfl ?_
                                refine jv_isub 156 X dX10_shake_156 ?_
                                refine jv_norm (x2 := nI ((10 - jo) - jb)) (nx_sub2 (a := (10 - jo)) (b := jb) rfl rfl (by omega)) ?_
                                refine jv_i2l 157 X dX10_shake_157 ?_
                                refine jv_aload_n 158 X dX10_shake_158 0 rfl ?_
                                refine jv_get (v := .ref (a 12)) 159 X gf_X10_44 dX10_shake_159 0 rfl rfl ?_
                                refine jv_iload 162 X dX10_shake_162 8 rfl ?_
                                refine jv_lald (f := (fun i => lN (swI jo jb dy i))) 164 X dX10_shake_164 12 rfl (by decide) i rfl (by omega) ?_
                                refine jv_lmul 165 X dX10_shake_165 ?_
                                refine jv_ladd 166 X dX10_shake_166 ?_
                                refine jv_last (ws2 := bMd E a book now week sights sight signs pad metAt metWho reason acts atp will fitting counts ring nxt wins (fun i => lN (swI jo jb dy i)) (vp_updL n2 i ((((nI jo).toInt64 * ((fun i => lN (swI jo jb dy i)) (i + 1))) + ((nI jb).toInt64 * ((fun i => lN (swI jo jb dy i)) (i - 1)))) + ((nI ((10 - jo) - jb)).toInt64 * ((fun i => lN (swI jo jb dy i)) i)))) image isKept) (f := n2) 167 X dX10_shake_167 13 rfl (by decide) i rfl (by omega) rfl ?_
                                refine jv_iinc (v := (nI (i + 1))) (lv2 := [(9, .int (nI (i + 1))), (0, .ref (a 0)), (1, .int (nI jn)), (2, .int (nI jo)), (3, .int (nI jb)), (4, .int (nI jk)), (5, .int part), (6, .long (lN (10 ^ dy))), (8, .int (nI dy))]) 168 X dX10_shake_168 8 rfl (nx_inc _) (by decide) rfl ?_
                                refine jv_goto 171 X dX10_shake_171 113 (by decide) ?_
                                exact jv_lv [1, 2, 3, 4, 5, 6, 7, 8, 0] rfl (ih113 (i + 1) (vp_updL n2 i ((((nI jo).toInt64 * ((fun i => lN (swI jo jb dy i)) (i + 1))) + ((nI jb).toInt64 * ((fun i => lN (swI jo jb dy i)) (i - 1)))) + ((nI ((10 - jo) - jb)).toInt64 * ((fun i => lN (swI jo jb dy i)) i)))) (by omega) (by omega) (fun j hj1 hj2 => by rcases Nat.lt_succ_iff_lt_or_eq.mp hj2 with h | h; rw [pk_uLn (by omega)]; exact hN j hj1 h; rw [h, pk_uLs, nI_l (by omega), nI_l (by omega), nI_l (by omega), lN_mul, lN_mul, lN_mul, lN_add, lN_add, swN, if_pos ⟨by omega, by omega⟩]) (by omega))
                          exact jv_lv [1, 2, 3, 4, 5, 6, 7, 8, 0] rfl (lp113 _ 1 nw (by omega) (by omega) (fun j hj1 hj2 => absurd hj2 (by omega)) (Nat.lt_succ_self _))
                    exact jv_lv [2, 3, 4, 5, 6, 7, 1, 0] rfl (lp104 _ 0 nextWays (by omega) (Nat.lt_succ_self _))
                  · have n_7 : ¬ 27 ≤ i := fun zq => c_7 ((nx_le (a := 27) (b := i) rfl rfl (by omega) (by omega)).mpr zq)
                    refine jv_aload_n 73 X dX10_shake_73 0 rfl ?_
                    refine jv_get (v := .ref (a 12)) 74 X gf_X10_44 dX10_shake_74 0 rfl rfl ?_
                    refine jv_iload 77 X dX10_shake_77 6 rfl ?_
                    refine jv_iload 79 X dX10_shake_79 6 rfl ?_
                    refine jv_bipush (v := 13) 81 X dX10_shake_81 (by decide) ?_
                    refine jn_icmp_ne 83 X dX10_shake_83 90 (by decide) (fun c_15 => ?_) (fun c_15 => ?_)
                    · have n_15 : ¬ i = 13 := fun zq => c_15 ((nx_eq (a := i) (b := 13) rfl rfl (by omega) (by omega)).mpr zq)
                      refine jv_lconst (v := 0) 90 X dX10_shake_90 rfl ?_
                      refine jv_last (ws2 := bMd E a book now week sights sight signs pad metAt metWho reason acts atp will fitting counts ring nxt wins (vp_updL w2 i 0) nextWays image isKept) (f := w2) 91 X dX10_shake_91 12 rfl (by decide) i rfl (by omega) rfl ?_
                      refine jv_iinc (v := (nI (i + 1))) (lv2 := [(6, .int (nI (i + 1))), (0, .ref (a 0)), (1, .int (nI jn)), (2, .int (nI jo)), (3, .int (nI jb)), (4, .int (nI jk)), (5, .int part)]) 92 X dX10_shake_92 6 rfl (nx_inc _) (by decide) rfl ?_
                      refine jv_goto 95 X dX10_shake_95 66 (by decide) ?_
                      exact jv_lv [1, 2, 3, 4, 5, 6, 0] rfl (ih66 (i + 1) (vp_updL w2 i 0) (by omega) (fun j hj => by rcases Nat.lt_succ_iff_lt_or_eq.mp hj with h | h; rw [pk_uLn (by omega)]; exact hI j h; rw [h, pk_uLs]; unfold sw0; rw [if_neg n_15]; rfl) (by omega))
                    · have n_15 : i = 13 := (nx_eq (a := i) (b := 13) rfl rfl (by omega) (by omega)).mp c_15
                      refine jv_lconst (v := 1) 86 X dX10_shake_86 rfl ?_
                      refine jv_goto 87 X dX10_shake_87 91 (by decide) ?_
                      refine jv_last (ws2 := bMd E a book now week sights sight signs pad metAt metWho reason acts atp will fitting counts ring nxt wins (vp_updL w2 i 1) nextWays image isKept) (f := w2) 91 X dX10_shake_91 12 rfl (by decide) i rfl (by omega) rfl ?_
                      refine jv_iinc (v := (nI (i + 1))) (lv2 := [(6, .int (nI (i + 1))), (0, .ref (a 0)), (1, .int (nI jn)), (2, .int (nI jo)), (3, .int (nI jb)), (4, .int (nI jk)), (5, .int part)]) 92 X dX10_shake_92 6 rfl (nx_inc _) (by decide) rfl ?_
                      refine jv_goto 95 X dX10_shake_95 66 (by decide) ?_
                      exact jv_lv [1, 2, 3, 4, 5, 6, 0] rfl (ih66 (i + 1) (vp_updL w2 i 1) (by omega) (fun j hj => by rcases Nat.lt_succ_iff_lt_or_eq.mp hj with h | h; rw [pk_uLn (by omega)]; exact hI j h; rw [h, pk_uLs]; unfold sw0; rw [if_pos n_15]; rfl) (by omega))
              exact jv_lv [1, 2, 3, 4, 5, 6, 0] rfl (lp66 _ 0 ways (by omega) (fun j hj => absurd hj (Nat.not_lt_zero j)) (Nat.lt_succ_self _))
            · refine jv_ldc2 (v := (-1000000000000000002)) 59 X tm_kl_X10_151 dX10_shake_59 ?_
              exact jv_lret 62 X Y rfl dX10_shake_62 (now, metAt, metWho, reason, acts, atp, will, fitting, counts, ring, nxt, wins, ways, nextWays) (by simp [nI_add, lt_nle, -Int32.not_le, c_1, hcjn, c_2, hcjo, c_3, hcjb, c_4, n_4, c_5, hcjk, c_6]) rfl
