def ffS (sight : Nat → Int32) (sk t : Nat) (x : Nat × (Nat → Int32)) : Nat × (Nat → Int32) := if isL sight sk (100 + t) = true then (x.1 + 1, upd x.2 x.1 (nI (100 + t))) else x
def ffM (sight : Nat → Int32) (sk : Nat) (ft : Nat → Int32) : Nat × (Nat → Int32) := itr (ffS sight sk) 20000 (0, ft)
def cnS (ft : Nat → Int32) (dy k : Nat) (x : (Nat → Int32) × Int32) : (Nat → Int32) × Int32 := (upd x.1 (byL (ft k).toNatClampNeg (nI dy)).toNatClampNeg (x.1 (byL (ft k).toNatClampNeg (nI dy)).toNatClampNeg + 1), if x.1 (byL (ft k).toNatClampNeg (nI dy)).toNatClampNeg + 1 ≤ x.2 then x.2 else x.1 (byL (ft k).toNatClampNeg (nI dy)).toNatClampNeg + 1)
def cnM (ft : Nat → Int32) (n dy : Nat) : Int32 := (itr (cnS ft dy) n (fun _ => 0, 0)).2
def akS (ft : Nat → Int32) (n dy : Nat) (x : Int32 × Int32) : Int32 × Int32 := if x.2 ≤ cnM ft n dy then x else (nI dy, cnM ft n dy)
def akM (ft : Nat → Int32) (n : Nat) : Int32 × Int32 := if n = 0 then (-6, 1000000) else itr (akS ft n) 61 (-6, 1000000)
def ftOK (ft : Nat → Int32) (n : Nat) : Prop := ∀ k, k < n → ft k = nI (ft k).toNatClampNeg ∧ (ft k).toNatClampNeg < 20100
theorem ftOK_add {ft : Nat → Int32} {n t : Nat} (h : ftOK ft n) (ht : t < 20000) : ftOK (upd ft n (nI (100 + t))) (n + 1) := by
  intro k hk
  rcases Nat.lt_or_ge k n with q | q
  · rw [pk_un (by omega)]; exact h k q
  · rw [show k = n by omega, pk_us, nI_clamp (by omega)]
    exact ⟨rfl, by omega⟩
theorem byL_in (law : Nat) (day : Int32) : inOK (byL law day) := by
  obtain ⟨j, h1, h2, h3⟩ := clampI_in (nI (law / 100) + (nI (law % 100) - 9) * day)
  exact inOK_of h3 h1 h2
def rgF (ring : Nat → Int32) (k : Nat) : Int32 := (ring ((k + 5) % 6) + ring k + ring ((k + 1) % 6)) / 3
def rgC (ring : Nat → Int32) (k : Nat) : Bool := !decide (rgF ring k = ring k)
def rgI (ring : Nat → Int32) (n : Nat) : Nat → Int32 := itr (fun _ r => rgF r) n ring
theorem rg_upd {ring : Nat → Int32} {nx : Nat → Int32} {k : Nat} (hI : ∀ j, j < k → nx j = rgF ring j) : ∀ j, j < k + 1 → upd nx k (rgF ring k) j = rgF ring j := fun j hj => by
  rcases Nat.lt_succ_iff_lt_or_eq.mp hj with h | h
  · rw [pk_un (by omega)]; exact hI j h
  · rw [h]; exact pk_us
theorem cp_upd {f g : Nat → Int32} {k : Nat} (hI : ∀ j, j < k → f j = g j) : ∀ j, j < k + 1 → upd f k (g k) j = g j := fun j hj => by
  rcases Nat.lt_succ_iff_lt_or_eq.mp hj with h | h
  · rw [pk_un (by omega)]; exact hI j h
  · rw [h]; exact pk_us
theorem il_mod {sight : Nat → Int32} {sk law : Nat} (h : isL sight sk law = true) : law % 100 < 19 := of_decide_eq_true (Bool.and_eq_true_iff.mp h).1
theorem c_X10_ask (E : EE) (l : Launch) (a : Nat → Nat) (book : Nat → Int32) (now : Nat → Int32) (week : Nat → Int32) (sk : Nat) (sight : Nat → Int32) (signs : Int32) (pad : Nat → Int32) (metAt : Int32) (metWho : Int32) (reason : Int32) (acts : Int32) (atp : Int32) (will : Nat → Int32) (fitting : Nat → Int32) (counts : Nat → Int32) (ring : Nat → Int32) (nxt : Nat → Int32) (wins : Nat → Int32) (ways : Nat → Int64) (nextWays : Nat → Int64) (image : Nat → Int32) (isKept : Nat → Int32) (what : Int32) (hs : sk ≤ 8) : CG E l yX10_ask cX10_ask 9 (some .int) { frames := 3, cells := 0, slots := 0, locals := 64 } [.ref (a 0), .int what] (bMd E a book now week (nI sk) sight signs pad metAt metWho reason acts atp will fitting counts ring nxt wins ways nextWays image isKept) noB (fun _ : ScrM => some (.int (if ¬ (0 ≤ what ∧ what ≤ 1) then -2 else if (akM (ffM sight sk fitting).2 (ffM sight sk fitting).1).1 < 0 ∨ what = 0 then (akM (ffM sight sk fitting).2 (ffM sight sk fitting).1).1 else (akM (ffM sight sk fitting).2 (ffM sight sk fitting).1).2))) (fun u : ScrM => bMd E a book u.1 week (nI sk) sight signs pad u.2.1 u.2.2.1 u.2.2.2.1 u.2.2.2.2.1 u.2.2.2.2.2.1 u.2.2.2.2.2.2.1 u.2.2.2.2.2.2.2.1 u.2.2.2.2.2.2.2.2.1 u.2.2.2.2.2.2.2.2.2.1 u.2.2.2.2.2.2.2.2.2.2.1 u.2.2.2.2.2.2.2.2.2.2.2.1 u.2.2.2.2.2.2.2.2.2.2.2.2.1 u.2.2.2.2.2.2.2.2.2.2.2.2.2 image isKept) := by
  refine CG.intro (by decide) (Nat.le_of_ble_eq_true rfl) (fun K X Y _ _ _ => ?_)
  refine jv_iload_n 0 X dX10_ask_0 1 rfl ?_
  refine jv_iconst (v := 0) 1 X dX10_ask_1 rfl ?_
  refine jv_iconst (v := 1) 2 X dX10_ask_2 rfl ?_
  refine jv_fun 3 X (c_X10_in E _ what 0 1) ws_X10_57 ⟨Nat.le_of_ble_eq_true rfl, Nat.le_of_ble_eq_true rfl⟩ ⟨rfl, rfl⟩ ⟨Nat.zero_le _, Nat.zero_le _⟩ dX10_ask_3 rfl [] rfl (Nat.le_of_ble_eq_true rfl) ?_
  refine jv_z_ne 6 X dX10_ask_6 12 (by decide) (fun c_1 => ?_) (fun c_1 => ?_)
  · refine jv_iconst (v := 0) 12 X dX10_ask_12 rfl ?_
    refine jv_istore_n (lv2 := [(2, .int 0), (0, .ref (a 0)), (1, .int what)]) 13 X dX10_ask_13 (by decide) rfl ?_
    refine jv_bipush (v := 100) 14 X dX10_ask_14 (by decide) ?_
    refine jv_istore_n (lv2 := [(3, .int 100), (2, .int 0), (0, .ref (a 0)), (1, .int what)]) 16 X dX10_ask_16 (by decide) rfl ?_
    have lp17 : ∀ (n17 : Nat) (t n : Nat) (ft : Nat → Int32), (t ≤ 20000) → (n ≤ 19 * (t / 100) + t % 100 ∧ n ≤ 19 * (t / 100) + 19) → (ftOK ft n) → ((n, ft) = itr (ffS sight sk) t (0, fitting)) → 20000 - t < n17 → JV E K 0 0 (bMd E a book now week (nI sk) sight signs pad metAt metWho reason acts atp will ft counts ring nxt wins ways nextWays image isKept) [(0, .ref (a 0)), (1, .int what), (2, .int (nI n)), (3, .int (nI (100 + t)))] 17 [] := by
      intro n17
      induction n17 with
      | zero => intro t n ft ht hn hft hI hm; exact absurd hm (Nat.not_lt_zero _)
      | succ n17 ih17 =>
        intro t n ft ht hn hft hI hm
        refine jv_iload_n 17 X dX10_ask_17 3 rfl ?_
        refine jv_sipush (v := 20100) 18 X dX10_ask_18 (by decide) ?_
        refine jn_icmp_ge 21 X dX10_ask_21 48 (by decide) (fun c_2 => ?_) (fun c_2 => ?_)
        · have n_2 : 20100 ≤ (100 + t) := (nx_le (a := 20100) (b := (100 + t)) rfl rfl (by omega) (by omega)).mp c_2
          have hI3 : ffM sight sk fitting = (n, ft) := by rw [hI, show t = 20000 by omega]; rfl
          refine jv_bipush (v := (-6)) 48 X dX10_ask_48 (by decide) ?_
          refine jv_istore_n (lv2 := [(3, .int (-6)), (0, .ref (a 0)), (1, .int what), (2, .int (nI n))]) 50 X dX10_ask_50 (by decide) rfl ?_
          refine jv_ldc (v := 1000000) 51 X tm_k_X10_163 dX10_ask_51 ?_
          refine jv_istore (lv2 := [(4, .int 1000000), (3, .int (-6)), (0, .ref (a 0)), (1, .int what), (2, .int (nI n))]) 53 X dX10_ask_53 (by decide) rfl ?_
          refine jv_iconst (v := 0) 55 X dX10_ask_55 rfl ?_
          refine jv_istore (lv2 := [(5, .int 0), (4, .int 1000000), (3, .int (-6)), (0, .ref (a 0)), (1, .int what), (2, .int (nI n))]) 56 X dX10_ask_56 (by decide) rfl ?_
          have lp58 : ∀ (n58 : Nat) (dy : Nat) (fo le : Int32) (ct : Nat → Int32), (dy ≤ 61) → (n = 0 → (fo, le) = (-6, 1000000)) → ((fo, le) = itr (akS ft n) dy (-6, 1000000)) → 61 - dy < n58 → JV E K 0 0 (bMd E a book now week (nI sk) sight signs pad metAt metWho reason acts atp will ft ct ring nxt wins ways nextWays image isKept) [(0, .ref (a 0)), (1, .int what), (2, .int (nI n)), (3, .int fo), (4, .int le), (5, .int (nI dy))] 58 [] := by
            intro n58
            induction n58 with
            | zero => intro dy fo le ct hdy hZ hJ hm; exact absurd hm (Nat.not_lt_zero _)
            | succ n58 ih58 =>
              intro dy fo le ct hdy hZ hJ hm
              refine jv_iload 58 X dX10_ask_58 5 rfl ?_
              refine jv_bipush (v := 61) 60 X dX10_ask_60 (by decide) ?_
              refine jn_icmp_ge 62 X dX10_ask_62 199 (by decide) (fun c_3 => ?_) (fun c_3 => ?_)
              · have n_3 : 61 ≤ dy := (nx_le (a := 61) (b := dy) rfl rfl (by omega) (by omega)).mp c_3
                refine jv_iload_n 199 X dX10_ask_199 3 rfl ?_
                refine jn_if_lt 200 X dX10_ask_200 207 (by decide) (fun c_4 => ?_) (fun c_4 => ?_)
                · refine jv_iload_n 207 X dX10_ask_207 3 rfl ?_
                  refine jv_goto 208 X dX10_ask_208 213 (by decide) ?_
                  have hq : akM ft n = (fo, le) := by
                    rcases Nat.eq_zero_or_pos n with z | z
                    · rw [akM, if_pos z]; exact (hZ z).symm
                    · rw [akM, if_neg (by omega), hJ, show dy = 61 by omega]
                  exact jv_iret 213 X Y rfl dX10_ask_213 (now, metAt, metWho, reason, acts, atp, will, ft, ct, ring, nxt, wins, ways, nextWays) (by simp [hI3, hq, lt_nle, -Int32.not_le, c_1, c_4]) rfl
                · refine jv_iload_n 203 X dX10_ask_203 1 rfl ?_
                  refine jn_if_ne 204 X dX10_ask_204 211 (by decide) (fun c_5 => ?_) (fun c_5 => ?_)
                  · refine jv_iload 211 X dX10_ask_211 4 rfl ?_
                    have hq : akM ft n = (fo, le) := by
                      rcases Nat.eq_zero_or_pos n with z | z
                      · rw [akM, if_pos z]; exact (hZ z).symm
                      · rw [akM, if_neg (by omega), hJ, show dy = 61 by omega]
                    exact jv_iret 213 X Y rfl dX10_ask_213 (now, metAt, metWho, reason, acts, atp, will, ft, ct, ring, nxt, wins, ways, nextWays) (by simp [hI3, hq, lt_nle, -Int32.not_le, c_1, c_4, c_5]) rfl
                  · refine jv_iload_n 207 X dX10_ask_207 3 rfl ?_
                    refine jv_goto 208 X dX10_ask_208 213 (by decide) ?_
                    have hq : akM ft n = (fo, le) := by
                      rcases Nat.eq_zero_or_pos n with z | z
                      · rw [akM, if_pos z]; exact (hZ z).symm
                      · rw [akM, if_neg (by omega), hJ, show dy = 61 by omega]
                    exact jv_iret 213 X Y rfl dX10_ask_213 (now, metAt, metWho, reason, acts, atp, will, ft, ct, ring, nxt, wins, ways, nextWays) (by simp [hI3, hq, lt_nle, -Int32.not_le, c_1, c_4, c_5]) rfl
              · have n_3 : ¬ 61 ≤ dy := fun zq => c_3 ((nx_le (a := 61) (b := dy) rfl rfl (by omega) (by omega)).mpr zq)
                refine jv_iload_n 65 X dX10_ask_65 2 rfl ?_
                refine jn_if_le 66 X dX10_ask_66 199 (by decide) (fun c_6 => ?_) (fun c_6 => ?_)
                · have n_6 : n ≤ 0 := (nx_le (a := n) (b := 0) rfl rfl (by omega) (by omega)).mp c_6
                  refine jv_iload_n 199 X dX10_ask_199 3 rfl ?_
                  refine jn_if_lt 200 X dX10_ask_200 207 (by decide) (fun c_7 => ?_) (fun c_7 => ?_)
                  · refine jv_iload_n 207 X dX10_ask_207 3 rfl ?_
                    refine jv_goto 208 X dX10_ask_208 213 (by decide) ?_
                    have hq : akM ft n = (fo, le) := by rw [akM, if_pos (by omega)]; exact (hZ (by omega)).symm
                    exact jv_iret 213 X Y rfl dX10_ask_213 (now, metAt, metWho, reason, acts, atp, will, ft, ct, ring, nxt, wins, ways, nextWays) (by simp [hI3, hq, lt_nle, -Int32.not_le, c_1, c_7]) rfl
                  · refine jv_iload_n 203 X dX10_ask_203 1 rfl ?_
                    refine jn_if_ne 204 X dX10_ask_204 211 (by decide) (fun c_8 => ?_) (fun c_8 => ?_)
                    · refine jv_iload 211 X dX10_ask_211 4 rfl ?_
                      have hq : akM ft n = (fo, le) := by rw [akM, if_pos (by omega)]; exact (hZ (by omega)).symm
                      exact jv_iret 213 X Y rfl dX10_ask_213 (now, metAt, metWho, reason, acts, atp, will, ft, ct, ring, nxt, wins, ways, nextWays) (by simp [hI3, hq, lt_nle, -Int32.not_le, c_1, c_7, c_8]) rfl
                    · refine jv_iload_n 207 X dX10_ask_207 3 rfl ?_
                      refine jv_goto 208 X dX10_ask_208 213 (by decide) ?_
                      have hq : akM ft n = (fo, le) := by rw [akM, if_pos (by omega)]; exact (hZ (by omega)).symm
                      exact jv_iret 213 X Y rfl dX10_ask_213 (now, metAt, metWho, reason, acts, atp, will, ft, ct, ring, nxt, wins, ways, nextWays) (by simp [hI3, hq, lt_nle, -Int32.not_le, c_1, c_7, c_8]) rfl
                · have n_6 : ¬ n ≤ 0 := fun zq => c_6 ((nx_le (a := n) (b := 0) rfl rfl (by omega) (by omega)).mpr zq)
                  refine jv_iconst (v := 0) 69 X dX10_ask_69 rfl ?_
                  refine jv_istore (lv2 := [(6, .int 0), (0, .ref (a 0)), (1, .int what), (2, .int (nI n)), (3, .int fo), (4, .int le), (5, .int (nI dy))]) 70 X dX10_ask_70 (by decide) rfl ?_
                  refine jv_iconst (v := 0) 72 X dX10_ask_72 rfl ?_
                  refine jv_istore (lv2 := [(7, .int 0), (6, .int 0), (0, .ref (a 0)), (1, .int what), (2, .int (nI n)), (3, .int fo), (4, .int le), (5, .int (nI dy))]) 73 X dX10_ask_73 (by decide) rfl ?_
                  have lp75 : ∀ (n75 : Nat) (v : Nat) (c2 : Nat → Int32), (v ≤ 201) → (∀ j, j < v → c2 j = (fun _ => (0 : Int32)) j) → 201 - v < n75 → JV E K 0 0 (bMd E a book now week (nI sk) sight signs pad metAt metWho reason acts atp will ft c2 ring nxt wins ways nextWays image isKept) [(0, .ref (a 0)), (1, .int what), (2, .int (nI n)), (3, .int fo), (4, .int le), (5, .int (nI dy)), (6, .int 0), (7, .int (nI v))] 75 [] := by
                    intro n75
                    induction n75 with
                    | zero => intro v c2 hv hz hm; exact absurd hm (Nat.not_lt_zero _)
                    | succ n75 ih75 =>
                      intro v c2 hv hz hm
                      refine jv_iload 75 X dX10_ask_75 7 rfl ?_
                      refine jv_sipush (v := 201) 77 X dX10_ask_77 (by decide) ?_
                      refine jn_icmp_ge 80 X dX10_ask_80 97 (by decide) (fun c_9 => ?_) (fun c_9 => ?_)
                      · have n_9 : 201 ≤ v := (nx_le (a := 201) (b := v) rfl rfl (by omega) (by omega)).mp c_9
                        refine jv_ext (ws2 := bMd E a book now week (nI sk) sight signs pad metAt metWho reason acts atp will ft (fun _ => 0) ring nxt wins ways nextWays image isKept) 8 (fun _ => 0) rfl (fun j hj => hz j (by omega)) rfl ?_
                        refine jv_iconst (v := 0) 97 X dX10_ask_97 rfl ?_
                        refine jv_istore (lv2 := [(7, .int 0), (0, .ref (a 0)), (1, .int what), (2, .int (nI n)), (3, .int fo), (4, .int le), (5, .int (nI dy)), (6, .int 0)]) 98 X dX10_ask_98 (by decide) rfl ?_
                        have lp100 : ∀ (n100 : Nat) (k : Nat) (c3 : Nat → Int32) (wo : Int32), (k ≤ n) → ((c3, wo) = itr (cnS ft dy) k (fun _ => 0, 0)) → n - k < n100 → JV E K 0 0 (bMd E a book now week (nI sk) sight signs pad metAt metWho reason acts atp will ft c3 ring nxt wins ways nextWays image isKept) [(0, .ref (a 0)), (1, .int what), (2, .int (nI n)), (3, .int fo), (4, .int le), (5, .int (nI dy)), (6, .int wo), (7, .int (nI k))] 100 [] := by
                          intro n100
                          induction n100 with
                          | zero => intro k c3 wo hk hK hm; exact absurd hm (Nat.not_lt_zero _)
                          | succ n100 ih100 =>
                            intro k c3 wo hk hK hm
                            refine jv_iload 100 X dX10_ask_100 7 rfl ?_
                            refine jv_iload_n 102 X dX10_ask_102 2 rfl ?_
                            refine jn_icmp_ge 103 X dX10_ask_103 163 (by decide) (fun c_10 => ?_) (fun c_10 => ?_)
                            · have n_10 : n ≤ k := (nx_le (a := n) (b := k) rfl rfl (by omega) (by omega)).mp c_10
                              have hwo : cnM ft n dy = wo := by rw [cnM, show n = k by omega, ← hK]
                              refine jv_iload 163 X dX10_ask_163 6 rfl ?_
                              refine jv_iload 165 X dX10_ask_165 4 rfl ?_
                              refine jn_icmp_ge 167 X dX10_ask_167 175 (by decide) (fun c_11 => ?_) (fun c_11 => ?_)
                              · refine jv_iload_n 175 X dX10_ask_175 3 rfl ?_
                                refine jv_istore_n (lv2 := [(3, .int fo), (0, .ref (a 0)), (1, .int what), (2, .int (nI n)), (4, .int le), (5, .int (nI dy)), (6, .int wo), (7, .int (nI k))]) 176 X dX10_ask_176 (by decide) rfl ?_
                                refine jv_iload 177 X dX10_ask_177 6 rfl ?_
                                refine jv_iload 179 X dX10_ask_179 4 rfl ?_
                                refine jn_icmp_ge 181 X dX10_ask_181 189 (by decide) (fun _ => ?_) (fun c_12 => absurd c_11 c_12)
                                refine jv_iload 189 X dX10_ask_189 4 rfl ?_
                                refine jv_istore (lv2 := [(4, .int le), (3, .int fo), (0, .ref (a 0)), (1, .int what), (2, .int (nI n)), (5, .int (nI dy)), (6, .int wo), (7, .int (nI k))]) 191 X dX10_ask_191 (by decide) rfl ?_
                                refine jv_iinc (v := (nI (dy + 1))) (lv2 := [(5, .int (nI (dy + 1))), (4, .int le), (3, .int fo), (0, .ref (a 0)), (1, .int what), (2, .int (nI n)), (6, .int wo), (7, .int (nI k))]) 193 X dX10_ask_193 5 rfl (nx_inc _) (by decide) rfl ?_
                                refine jv_goto 196 X dX10_ask_196 58 (by decide) ?_
                                exact jv_lv [3, 4, 5, 2, 1, 0] rfl (ih58 (dy + 1) fo le c3 (by omega) (fun z => absurd z (by omega)) (by rw [itr_s, ← hJ, akS, hwo, if_pos c_11]) (by omega))
                              · refine jv_iload 170 X dX10_ask_170 5 rfl ?_
                                refine jv_goto 172 X dX10_ask_172 176 (by decide) ?_
                                refine jv_istore_n (lv2 := [(3, .int (nI dy)), (0, .ref (a 0)), (1, .int what), (2, .int (nI n)), (4, .int le), (5, .int (nI dy)), (6, .int wo), (7, .int (nI k))]) 176 X dX10_ask_176 (by decide) rfl ?_
                                refine jv_iload 177 X dX10_ask_177 6 rfl ?_
                                refine jv_iload 179 X dX10_ask_179 4 rfl ?_
                                refine jn_icmp_ge 181 X dX10_ask_181 189 (by decide) (fun c_13 => absurd c_13 c_11) (fun _ => ?_)
                                refine jv_iload 184 X dX10_ask_184 6 rfl ?_
                                refine jv_goto 186 X dX10_ask_186 191 (by decide) ?_
                                refine jv_istore (lv2 := [(4, .int wo), (3, .int (nI dy)), (0, .ref (a 0)), (1, .int what), (2, .int (nI n)), (5, .int (nI dy)), (6, .int wo), (7, .int (nI k))]) 191 X dX10_ask_191 (by decide) rfl ?_
                                refine jv_iinc (v := (nI (dy + 1))) (lv2 := [(5, .int (nI (dy + 1))), (4, .int wo), (3, .int (nI dy)), (0, .ref (a 0)), (1, .int what), (2, .int (nI n)), (6, .int wo), (7, .int (nI k))]) 193 X dX10_ask_193 5 rfl (nx_inc _) (by decide) rfl ?_
                                refine jv_goto 196 X dX10_ask_196 58 (by decide) ?_
                                exact jv_lv [3, 4, 5, 2, 1, 0] rfl (ih58 (dy + 1) (nI dy) wo c3 (by omega) (fun z => absurd z (by omega)) (by rw [itr_s, ← hJ, akS, hwo, if_neg c_11]) (by omega))
                            · have n_10 : ¬ n ≤ k := fun zq => c_10 ((nx_le (a := n) (b := k) rfl rfl (by omega) (by omega)).mpr zq)
                              refine jv_aload_n 106 X dX10_ask_106 0 rfl ?_
                              refine jv_get (v := .ref (a 7)) 107 X gf_X10_28 dX10_ask_107 0 rfl rfl ?_
                              refine jv_iload 110 X dX10_ask_110 7 rfl ?_
                              refine jv_iald (f := ft) 112 X dX10_ask_112 7 rfl (by decide) k rfl (by omega) ?_
                              have hfk := hft k (by omega)
                              refine jv_norm (x2 := nI (ft k).toNatClampNeg) hfk.1 ?_
                              refine jv_iload 113 X dX10_ask_113 5 rfl ?_
                              refine jv_fun 115 X (c_X10_byLaw E _ ((ft k).toNatClampNeg) (nI dy) (by omega)) ws_X10_170 ⟨Nat.le_of_ble_eq_true rfl, Nat.le_of_ble_eq_true rfl⟩ ⟨rfl, rfl⟩ ⟨Nat.zero_le _, Nat.zero_le _⟩ dX10_ask_115 rfl [] rfl (Nat.le_of_ble_eq_true rfl) ?_
                              have hbl := byL_in (ft k).toNatClampNeg (nI dy)
                              have hbl2 := hbl.2.2
                              refine jv_norm (x2 := nI (byL (ft k).toNatClampNeg (nI dy)).toNatClampNeg) hbl.1 ?_
                              refine jv_istore (lv2 := [(8, .int (nI ((byL (ft k).toNatClampNeg (nI dy)).toNatClampNeg))), (0, .ref (a 0)), (1, .int what), (2, .int (nI n)), (3, .int fo), (4, .int le), (5, .int (nI dy)), (6, .int wo), (7, .int (nI k))]) 118 X dX10_ask_118 (by decide) rfl ?_
                              refine jv_aload_n 120 X dX10_ask_120 1 rfl ?_
                              refine jv_get (v := .ref (a 8)) 121 X gf_X10_31 dX10_ask_121 0 rfl rfl ?_
                              refine jv_iload 124 X dX10_ask_124 0 rfl ?_
                              refine jv_dup2 126 X dX10_ask_126 rfl rfl ?_
                              refine jv_iald (f := c3) 127 X dX10_ask_127 8 rfl (by decide) ((byL (ft k).toNatClampNeg (nI dy)).toNatClampNeg) rfl (by omega) ?_
                              refine jv_iconst (v := 1) 128 X dX10_ask_128 rfl ?_
                              refine jv_iadd 129 X dX10_ask_129 ?_
                              refine jv_iast (ws2 := bMd E a book now week (nI sk) sight signs pad metAt metWho reason acts atp will ft (upd c3 ((byL (ft k).toNatClampNeg (nI dy)).toNatClampNeg) ((c3 ((byL (ft k).toNatClampNeg (nI dy)).toNatClampNeg)) + 1)) ring nxt wins ways nextWays image isKept) (f := c3) 130 X dX10_ask_130 8 rfl (by decide) ((byL (ft k).toNatClampNeg (nI dy)).toNatClampNeg) rfl (by omega) rfl ?_
                              refine jv_aload_n 131 X dX10_ask_131 1 rfl ?_
                              refine jv_get (v := .ref (a 8)) 132 X gf_X10_31 dX10_ask_132 0 rfl rfl ?_
                              refine jv_iload 135 X dX10_ask_135 0 rfl ?_
                              refine jv_iald (f := (upd c3 ((byL (ft k).toNatClampNeg (nI dy)).toNatClampNeg) ((c3 ((byL (ft k).toNatClampNeg (nI dy)).toNatClampNeg)) + 1))) 137 X dX10_ask_137 8 rfl (by decide) ((byL (ft k).toNatClampNeg (nI dy)).toNatClampNeg) rfl (by omega) ?_
                              refine jv_iload 138 X dX10_ask_138 7 rfl ?_
                              refine jn_icmp_le 140 X dX10_ask_140 153 (by decide) (fun c_14 => ?_) (fun c_14 => ?_)
                              · refine jv_iload 153 X dX10_ask_153 7 rfl ?_
                                refine jv_istore (lv2 := [(6, .int wo), (8, .int (nI ((byL (ft k).toNatClampNeg (nI dy)).toNatClampNeg))), (0, .ref (a 0)), (1, .int what), (2, .int (nI n)), (3, .int fo), (4, .int le), (5, .int (nI dy)), (7, .int (nI k))]) 155 X dX10_ask_155 (by decide) rfl ?_
                                refine jv_iinc (v := (nI (k + 1))) (lv2 := [(7, .int (nI (k + 1))), (6, .int wo), (8, .int (nI ((byL (ft k).toNatClampNeg (nI dy)).toNatClampNeg))), (0, .ref (a 0)), (1, .int what), (2, .int (nI n)), (3, .int fo), (4, .int le), (5, .int (nI dy))]) 157 X dX10_ask_157 8 rfl (nx_inc _) (by decide) rfl ?_
                                refine jv_goto 160 X dX10_ask_160 100 (by decide) ?_
                                exact jv_lv [3, 4, 5, 6, 7, 8, 1, 0] rfl (ih100 (k + 1) (upd c3 ((byL (ft k).toNatClampNeg (nI dy)).toNatClampNeg) ((c3 ((byL (ft k).toNatClampNeg (nI dy)).toNatClampNeg)) + 1)) wo (by omega) (by rw [itr_s, ← hK, cnS]; simp only [pk_us] at c_14 ⊢; rw [if_pos c_14]) (by omega))
                              · refine jv_aload_n 143 X dX10_ask_143 1 rfl ?_
                                refine jv_get (v := .ref (a 8)) 144 X gf_X10_31 dX10_ask_144 0 rfl rfl ?_
                                refine jv_iload 147 X dX10_ask_147 0 rfl ?_
                                refine jv_iald (f := (upd c3 ((byL (ft k).toNatClampNeg (nI dy)).toNatClampNeg) ((c3 ((byL (ft k).toNatClampNeg (nI dy)).toNatClampNeg)) + 1))) 149 X dX10_ask_149 8 rfl (by decide) ((byL (ft k).toNatClampNeg (nI dy)).toNatClampNeg) rfl (by omega) ?_
                                refine jv_goto 150 X dX10_ask_150 155 (by decide) ?_
                                refine jv_istore (lv2 := [(6, .int ((upd c3 ((byL (ft k).toNatClampNeg (nI dy)).toNatClampNeg) ((c3 ((byL (ft k).toNatClampNeg (nI dy)).toNatClampNeg)) + 1)) ((byL (ft k).toNatClampNeg (nI dy)).toNatClampNeg))), (8, .int (nI ((byL (ft k).toNatClampNeg (nI dy)).toNatClampNeg))), (0, .ref (a 0)), (1, .int what), (2, .int (nI n)), (3, .int fo), (4, .int le), (5, .int (nI dy)), (7, .int (nI k))]) 155 X dX10_ask_155 (by decide) rfl ?_
                                refine jv_iinc (v := (nI (k + 1))) (lv2 := [(7, .int (nI (k + 1))), (6, .int ((upd c3 ((byL (ft k).toNatClampNeg (nI dy)).toNatClampNeg) ((c3 ((byL (ft k).toNatClampNeg (nI dy)).toNatClampNeg)) + 1)) ((byL (ft k).toNatClampNeg (nI dy)).toNatClampNeg))), (8, .int (nI ((byL (ft k).toNatClampNeg (nI dy)).toNatClampNeg))), (0, .ref (a 0)), (1, .int what), (2, .int (nI n)), (3, .int fo), (4, .int le), (5, .int (nI dy))]) 157 X dX10_ask_157 8 rfl (nx_inc _) (by decide) rfl ?_
                                refine jv_goto 160 X dX10_ask_160 100 (by decide) ?_
                                exact jv_lv [3, 4, 5, 6, 7, 8, 1, 0] rfl (ih100 (k + 1) (upd c3 ((byL (ft k).toNatClampNeg (nI dy)).toNatClampNeg) ((c3 ((byL (ft k).toNatClampNeg (nI dy)).toNatClampNeg)) + 1)) ((upd c3 ((byL (ft k).toNatClampNeg (nI dy)).toNatClampNeg) ((c3 ((byL (ft k).toNatClampNeg (nI dy)).toNatClampNeg)) + 1)) ((byL (ft k).toNatClampNeg (nI dy)).toNatClampNeg)) (by omega) (by rw [itr_s, ← hK, cnS]; simp only [pk_us] at c_14 ⊢; rw [if_neg c_14]) (by omega))
                        exact jv_lv [1, 2, 3, 4, 5, 6, 7, 0] rfl (lp100 _ 0 (fun _ => 0) 0 (by omega) rfl (Nat.lt_succ_self _))
                      · have n_9 : ¬ 201 ≤ v := fun zq => c_9 ((nx_le (a := 201) (b := v) rfl rfl (by omega) (by omega)).mpr zq)
                        refine jv_aload_n 83 X dX10_ask_83 0 rfl ?_
                        refine jv_get (v := .ref (a 8)) 84 X gf_X10_31 dX10_ask_84 0 rfl rfl ?_
                        refine jv_iload 87 X dX10_ask_87 7 rfl ?_
                        refine jv_iconst (v := 0) 89 X dX10_ask_89 rfl ?_
                        refine jv_iast (ws2 := bMd E a book now week (nI sk) sight signs pad metAt metWho reason acts atp will ft (upd c2 v 0) ring nxt wins ways nextWays image isKept) (f := c2) 90 X dX10_ask_90 8 rfl (by decide) v rfl (by omega) rfl ?_
                        refine jv_iinc (v := (nI (v + 1))) (lv2 := [(7, .int (nI (v + 1))), (0, .ref (a 0)), (1, .int what), (2, .int (nI n)), (3, .int fo), (4, .int le), (5, .int (nI dy)), (6, .int 0)]) 91 X dX10_ask_91 7 rfl (nx_inc _) (by decide) rfl ?_
                        refine jv_goto 94 X dX10_ask_94 75 (by decide) ?_
                        exact jv_lv [1, 2, 3, 4, 5, 6, 7, 0] rfl (ih75 (v + 1) (upd c2 v 0) (by omega) (cp_upd (g := fun _ => 0) hz) (by omega))
                  exact jv_lv [2, 3, 4, 5, 6, 7, 1, 0] rfl (lp75 _ 0 ct (by omega) (fun j hj => absurd hj (Nat.not_lt_zero j)) (Nat.lt_succ_self _))
          exact jv_lv [3, 4, 5, 2, 1, 0] rfl (lp58 _ 0 (-6) 1000000 counts (by omega) (fun _ => rfl) rfl (Nat.lt_succ_self _))
        · have n_2 : ¬ 20100 ≤ (100 + t) := fun zq => c_2 ((nx_le (a := 20100) (b := (100 + t)) rfl rfl (by omega) (by omega)).mpr zq)
          refine jv_aload_n 24 X dX10_ask_24 0 rfl ?_
          refine jv_iload_n 25 X dX10_ask_25 3 rfl ?_
          refine jv_callW (w1 := bMd E a book now week (nI sk) sight signs pad metAt metWho reason acts atp will ft counts ring nxt wins ways nextWays image isKept) 26 X (c_X10_isLaw E _ a book now week sk sight signs pad metAt metWho reason acts atp will ft counts ring nxt wins ways nextWays image isKept (100 + t) (by omega) (by omega) hs) wv_X10_173 ⟨Nat.le_of_ble_eq_true rfl, Nat.le_of_ble_eq_true rfl⟩ ⟨rfl, rfl⟩ ⟨Nat.zero_le _, Nat.zero_le _⟩ dX10_ask_26 rfl [] rfl (Nat.le_of_ble_eq_true rfl) 0 rfl rfl ?_
          refine jv_z_eq 29 X dX10_ask_29 42 (by decide) (fun c_15 => ?_) (fun c_15 => ?_)
          · refine jv_iinc (v := (nI ((100 + t) + 1))) (lv2 := [(3, .int (nI ((100 + t) + 1))), (0, .ref (a 0)), (1, .int what), (2, .int (nI n))]) 42 X dX10_ask_42 3 rfl (nx_inc _) (by decide) rfl ?_
            refine jv_goto 45 X dX10_ask_45 17 (by decide) ?_
            exact jv_lv [1, 2, 3, 0] rfl (ih17 (t + 1) n ft (by omega) (by omega) hft (by rw [itr_s, ← hI, ffS, if_neg c_15]) (by omega))
          · have hmd := il_mod c_15
            refine jv_aload_n 32 X dX10_ask_32 0 rfl ?_
            refine jv_get (v := .ref (a 7)) 33 X gf_X10_28 dX10_ask_33 0 rfl rfl ?_
            refine jv_iload_n 36 X dX10_ask_36 2 rfl ?_
            refine jv_iload_n 37 X dX10_ask_37 3 rfl ?_
            refine jv_iast (ws2 := bMd E a book now week (nI sk) sight signs pad metAt metWho reason acts atp will (upd ft n (nI (100 + t))) counts ring nxt wins ways nextWays image isKept) (f := ft) 38 X dX10_ask_38 7 rfl (by decide) n rfl (by omega) rfl ?_
            refine jv_iinc (v := (nI (n + 1))) (lv2 := [(2, .int (nI (n + 1))), (0, .ref (a 0)), (1, .int what), (3, .int (nI (100 + t)))]) 39 X dX10_ask_39 2 rfl (nx_inc _) (by decide) rfl ?_
            refine jv_iinc (v := (nI ((100 + t) + 1))) (lv2 := [(3, .int (nI ((100 + t) + 1))), (2, .int (nI (n + 1))), (0, .ref (a 0)), (1, .int what)]) 42 X dX10_ask_42 3 rfl (nx_inc _) (by decide) rfl ?_
            refine jv_goto 45 X dX10_ask_45 17 (by decide) ?_
            exact jv_lv [2, 3, 1, 0] rfl (ih17 (t + 1) (n + 1) (upd ft n (nI (100 + t))) (by omega) (by have := il_mod c_15; omega) (ftOK_add hft (by omega)) (by rw [itr_s, ← hI, ffS, if_pos c_15]) (by omega))
    exact jv_lv [2, 3, 1, 0] rfl (lp17 _ 0 0 fitting (by omega) (by omega) (fun k hk => absurd hk (Nat.not_lt_zero k)) rfl (Nat.lt_succ_self _))
  · refine jv_bipush (v := (-2)) 9 X dX10_ask_9 (by decide) ?_
    exact jv_iret 11 X Y rfl dX10_ask_11 (now, metAt, metWho, reason, acts, atp, will, fitting, counts, ring, nxt, wins, ways, nextWays) (by simp [lt_nle, -Int32.not_le, c_1]) rfl
theorem c_X10_layRing (E : EE) (l : Launch) (a : Nat → Nat) (book : Nat → Int32) (now : Nat → Int32) (week : Nat → Int32) (sights : Int32) (sight : Nat → Int32) (signs : Int32) (pad : Nat → Int32) (metAt : Int32) (metWho : Int32) (reason : Int32) (acts : Int32) (atp : Int32) (will : Nat → Int32) (fitting : Nat → Int32) (counts : Nat → Int32) (ring : Nat → Int32) (nxt : Nat → Int32) (wins : Nat → Int32) (ways : Nat → Int64) (nextWays : Nat → Int64) (image : Nat → Int32) (isKept : Nat → Int32) : CT E l yX10_layRing cX10_layRing 2 none { frames := 1, cells := 0, slots := 0, locals := 21 } [.ref (a 0)] (bMd E a book now week sights sight signs pad metAt metWho reason acts atp will fitting counts ring nxt wins ways nextWays image isKept) (none) (bMd E a book book week sights sight signs pad (-6) (-6) reason acts atp will fitting counts (msM book) nxt wins ways nextWays image isKept) := by
  refine CT.intro (by decide) (Nat.le_of_ble_eq_true rfl) (fun K X Y => ?_)
  refine jv_aload_n 0 X dX10_layRing_0 0 rfl ?_
  refine jv_callW (w1 := bMd E a book book week sights sight signs pad (-6) (-6) reason acts atp will fitting counts ring nxt wins ways nextWays image isKept) 1 X (c_X10_asNow E _ a book now week sights sight signs pad metAt metWho reason acts atp will fitting counts ring nxt wins ways nextWays image isKept) wv_X10_122 ⟨Nat.le_of_ble_eq_true rfl, Nat.le_of_ble_eq_true rfl⟩ ⟨rfl, rfl⟩ ⟨Nat.zero_le _, Nat.zero_le _⟩ dX10_layRing_1 rfl [] rfl (Nat.le_of_ble_eq_true rfl) 0 rfl rfl ?_
  refine jv_iconst (v := 0) 4 X dX10_layRing_4 rfl ?_
  refine jv_istore_n (lv2 := [(1, .int 0), (0, .ref (a 0))]) 5 X dX10_layRing_5 (by decide) rfl ?_
  have lp6 : ∀ (n6 : Nat) (k : Nat) (rg : Nat → Int32), (k ≤ 6) → (∀ j, j < k → rg j = msM book j) → 6 - k < n6 → JV E K 0 0 (bMd E a book book week sights sight signs pad (-6) (-6) reason acts atp will fitting counts rg nxt wins ways nextWays image isKept) [(0, .ref (a 0)), (1, .int (nI k))] 6 [] := by
    intro n6
    induction n6 with
    | zero => intro k rg hk hI hm; exact absurd hm (Nat.not_lt_zero _)
    | succ n6 ih6 =>
      intro k rg hk hI hm
      refine jv_iload_n 6 X dX10_layRing_6 1 rfl ?_
      refine jv_bipush (v := 6) 7 X dX10_layRing_7 (by decide) ?_
      refine jn_icmp_ge 9 X dX10_layRing_9 29 (by decide) (fun c_1 => ?_) (fun c_1 => ?_)
      · have n_1 : 6 ≤ k := (nx_le (a := 6) (b := k) rfl rfl (by omega) (by omega)).mp c_1
        refine jv_ext (ws2 := bMd E a book book week sights sight signs pad (-6) (-6) reason acts atp will fitting counts (msM book) nxt wins ways nextWays image isKept) 9 (msM book) rfl (fun j hj => hI j (by omega)) rfl ?_
        exact jv_vret 29 X Y rfl dX10_layRing_29 () rfl rfl
      · have n_1 : ¬ 6 ≤ k := fun zq => c_1 ((nx_le (a := 6) (b := k) rfl rfl (by omega) (by omega)).mpr zq)
        refine jv_aload_n 12 X dX10_layRing_12 0 rfl ?_
        refine jv_get (v := .ref (a 9)) 13 X gf_X10_34 dX10_layRing_13 0 rfl rfl ?_
        refine jv_iload_n 16 X dX10_layRing_16 1 rfl ?_
        refine jv_aload_n 17 X dX10_layRing_17 0 rfl ?_
        refine jv_iload_n 18 X dX10_layRing_18 1 rfl ?_
        refine jv_callW (w1 := bMd E a book book week sights sight signs pad (-6) (-6) reason acts atp will fitting counts rg nxt wins ways nextWays image isKept) 19 X (c_X10_measureOf E _ a book book week sights sight signs pad (-6) (-6) reason acts atp will fitting counts rg nxt wins ways nextWays image isKept k (by omega)) wv_X10_90 ⟨Nat.le_of_ble_eq_true rfl, Nat.le_of_ble_eq_true rfl⟩ ⟨rfl, rfl⟩ ⟨Nat.zero_le _, Nat.zero_le _⟩ dX10_layRing_19 rfl [.int (nI k), .ref (a 9)] rfl (Nat.le_of_ble_eq_true rfl) 0 rfl rfl ?_
        refine jv_iast (ws2 := bMd E a book book week sights sight signs pad (-6) (-6) reason acts atp will fitting counts (upd rg k (msM book k)) nxt wins ways nextWays image isKept) (f := rg) 22 X dX10_layRing_22 9 rfl (by decide) k rfl (by omega) rfl ?_
        refine jv_iinc (v := (nI (k + 1))) (lv2 := [(1, .int (nI (k + 1))), (0, .ref (a 0))]) 23 X dX10_layRing_23 1 rfl (nx_inc _) (by decide) rfl ?_
        refine jv_goto 26 X dX10_layRing_26 6 (by decide) ?_
        exact jv_lv [1, 0] rfl (ih6 (k + 1) (upd rg k (msM book k)) (by omega) (cp_upd (g := msM book) hI) (by omega))
  exact jv_lv [1, 0] rfl (lp6 _ 0 ring (by omega) (fun j hj => absurd hj (Nat.not_lt_zero j)) (Nat.lt_succ_self _))
theorem c_X10_takeMeans (E : EE) (l : Launch) (a : Nat → Nat) (book : Nat → Int32) (now : Nat → Int32) (week : Nat → Int32) (sights : Int32) (sight : Nat → Int32) (signs : Int32) (pad : Nat → Int32) (metAt : Int32) (metWho : Int32) (reason : Int32) (acts : Int32) (atp : Int32) (will : Nat → Int32) (fitting : Nat → Int32) (counts : Nat → Int32) (ring : Nat → Int32) (nxt : Nat → Int32) (wins : Nat → Int32) (ways : Nat → Int64) (nextWays : Nat → Int64) (image : Nat → Int32) (isKept : Nat → Int32) : CT E l yX10_takeMeans cX10_takeMeans 3 (some .boolean) { frames := 0, cells := 0, slots := 0, locals := 0 } [.ref (a 0)] (bMd E a book now week sights sight signs pad metAt metWho reason acts atp will fitting counts ring nxt wins ways nextWays image isKept) (some (.int (zI (anyB (rgC ring) 6 = true)))) (bMd E a book now week sights sight signs pad metAt metWho reason acts atp will fitting counts (rgF ring) (rgF ring) wins ways nextWays image isKept) := by
  refine CT.intro (by decide) (Nat.le_of_ble_eq_true rfl) (fun K X Y => ?_)
  refine jv_iconst (v := 0) 0 X dX10_takeMeans_0 rfl ?_
  refine jv_istore_n (lv2 := [(1, .int 0), (0, .ref (a 0))]) 1 X dX10_takeMeans_1 (by decide) rfl ?_
  refine jv_iconst (v := 0) 2 X dX10_takeMeans_2 rfl ?_
  refine jv_istore_n (lv2 := [(2, .int 0), (1, .int 0), (0, .ref (a 0))]) 3 X dX10_takeMeans_3 (by decide) rfl ?_
  have lp4 : ∀ (n4 : Nat) (k : Nat) (nx : Nat → Int32) (ch : Int32), (k ≤ 6) → (∀ j, j < k → nx j = rgF ring j) → (ch = zI (anyB (rgC ring) k = true)) → 6 - k < n4 → JV E K 0 0 (bMd E a book now week sights sight signs pad metAt metWho reason acts atp will fitting counts ring nx wins ways nextWays image isKept) [(0, .ref (a 0)), (1, .int ch), (2, .int (nI k))] 4 [] := by
    intro n4
    induction n4 with
    | zero => intro k nx ch hk hI hch hm; exact absurd hm (Nat.not_lt_zero _)
    | succ n4 ih4 =>
      intro k nx ch hk hI hch hm
      refine jv_iload_n 4 X dX10_takeMeans_4 2 rfl ?_
      refine jv_bipush (v := 6) 5 X dX10_takeMeans_5 (by decide) ?_
      refine jn_icmp_ge 7 X dX10_takeMeans_7 79 (by decide) (fun c_1 => ?_) (fun c_1 => ?_)
      · have n_1 : 6 ≤ k := (nx_le (a := 6) (b := k) rfl rfl (by omega) (by omega)).mp c_1
        have hch2 : ch = zI (anyB (rgC ring) 6 = true) := by rw [hch, show k = 6 by omega]
        refine jv_ext (ws2 := bMd E a book now week sights sight signs pad metAt metWho reason acts atp will fitting counts ring (rgF ring) wins ways nextWays image isKept) 10 (rgF ring) rfl (fun j hj => hI j (by omega)) rfl ?_
        refine jv_iconst (v := 0) 79 X dX10_takeMeans_79 rfl ?_
        refine jv_istore_n (lv2 := [(2, .int 0), (0, .ref (a 0)), (1, .int ch)]) 80 X dX10_takeMeans_80 (by decide) rfl ?_
        have lp81 : ∀ (n81 : Nat) (q : Nat) (r2 : Nat → Int32), (q ≤ 6) → (∀ j, j < q → r2 j = rgF ring j) → 6 - q < n81 → JV E K 0 0 (bMd E a book now week sights sight signs pad metAt metWho reason acts atp will fitting counts r2 (rgF ring) wins ways nextWays image isKept) [(0, .ref (a 0)), (1, .int ch), (2, .int (nI q))] 81 [] := by
          intro n81
          induction n81 with
          | zero => intro q r2 hq hQ hm; exact absurd hm (Nat.not_lt_zero _)
          | succ n81 ih81 =>
            intro q r2 hq hQ hm
            refine jv_iload_n 81 X dX10_takeMeans_81 2 rfl ?_
            refine jv_bipush (v := 6) 82 X dX10_takeMeans_82 (by decide) ?_
            refine jn_icmp_ge 84 X dX10_takeMeans_84 105 (by decide) (fun c_2 => ?_) (fun c_2 => ?_)
            · have n_2 : 6 ≤ q := (nx_le (a := 6) (b := q) rfl rfl (by omega) (by omega)).mp c_2
              refine jv_ext (ws2 := bMd E a book now week sights sight signs pad metAt metWho reason acts atp will fitting counts (rgF ring) (rgF ring) wins ways nextWays image isKept) 9 (rgF ring) rfl (fun j hj => hQ j (by omega)) rfl ?_
              refine jv_iload_n 105 X dX10_takeMeans_105 1 rfl ?_
              exact jv_zret 106 X Y rfl (hch2 ▸ zI_n) dX10_takeMeans_106 () (congrArg (fun z => some (Value.int z)) hch2) rfl
            · have n_2 : ¬ 6 ≤ q := fun zq => c_2 ((nx_le (a := 6) (b := q) rfl rfl (by omega) (by omega)).mpr zq)
              refine jv_aload_n 87 X dX10_takeMeans_87 0 rfl ?_
              refine jv_get (v := .ref (a 9)) 88 X gf_X10_34 dX10_takeMeans_88 0 rfl rfl ?_
              refine jv_iload_n 91 X dX10_takeMeans_91 2 rfl ?_
              refine jv_aload_n 92 X dX10_takeMeans_92 0 rfl ?_
              refine jv_get (v := .ref (a 10)) 93 X gf_X10_37 dX10_takeMeans_93 0 rfl rfl ?_
              refine jv_iload_n 96 X dX10_takeMeans_96 2 rfl ?_
              refine jv_iald (f := (rgF ring)) 97 X dX10_takeMeans_97 10 rfl (by decide) q rfl (by omega) ?_
              refine jv_iast (ws2 := bMd E a book now week sights sight signs pad metAt metWho reason acts atp will fitting counts (upd r2 q ((rgF ring) q)) (rgF ring) wins ways nextWays image isKept) (f := r2) 98 X dX10_takeMeans_98 9 rfl (by decide) q rfl (by omega) rfl ?_
              refine jv_iinc (v := (nI (q + 1))) (lv2 := [(2, .int (nI (q + 1))), (0, .ref (a 0)), (1, .int ch)]) 99 X dX10_takeMeans_99 2 rfl (nx_inc _) (by decide) rfl ?_
              refine jv_goto 102 X dX10_takeMeans_102 81 (by decide) ?_
              exact jv_lv [1, 2, 0] rfl (ih81 (q + 1) (upd r2 q ((rgF ring) q)) (by omega) (cp_upd (g := rgF ring) hQ) (by omega))
        exact jv_lv [1, 2, 0] rfl (lp81 _ 0 ring (by omega) (fun j hj => absurd hj (Nat.not_lt_zero j)) (Nat.lt_succ_self _))
      · have n_1 : ¬ 6 ≤ k := fun zq => c_1 ((nx_le (a := 6) (b := k) rfl rfl (by omega) (by omega)).mpr zq)
        refine jv_aload_n 10 X dX10_takeMeans_10 0 rfl ?_
        refine jv_get (v := .ref (a 10)) 11 X gf_X10_37 dX10_takeMeans_11 0 rfl rfl ?_
        refine jv_iload_n 14 X dX10_takeMeans_14 2 rfl ?_
        refine jv_aload_n 15 X dX10_takeMeans_15 0 rfl ?_
        refine jv_get (v := .ref (a 9)) 16 X gf_X10_34 dX10_takeMeans_16 0 rfl rfl ?_
        refine jv_iload_n 19 X dX10_takeMeans_19 2 rfl ?_
        refine jv_iconst (v := 5) 20 X dX10_takeMeans_20 rfl ?_
        refine jv_iadd 21 X dX10_takeMeans_21 ?_
        refine jv_norm (x2 := nI (k + 5)) (nx_add2 (a := k) (b := 5) rfl rfl (by omega)) ?_
        refine jv_bipush (v := 6) 22 X dX10_takeMeans_22 (by decide) ?_
        refine jv_irem 24 X dX10_takeMeans_24 (by decide) ?_
        refine jv_norm (x2 := nI ((k + 5) % 6)) (nx_rem (a := (k + 5)) (b := 6) rfl rfl (by omega) (by omega) (by omega)) ?_
        refine jv_iald (f := ring) 25 X dX10_takeMeans_25 9 rfl (by decide) ((k + 5) % 6) rfl (by omega) ?_
        refine jv_aload_n 26 X dX10_takeMeans_26 0 rfl ?_
        refine jv_get (v := .ref (a 9)) 27 X gf_X10_34 dX10_takeMeans_27 0 rfl rfl ?_
        refine jv_iload_n 30 X dX10_takeMeans_30 2 rfl ?_
        refine jv_iald (f := ring) 31 X dX10_takeMeans_31 9 rfl (by decide) k rfl (by omega) ?_
        refine jv_iadd 32 X dX10_takeMeans_32 ?_
        refine jv_aload_n 33 X dX10_takeMeans_33 0 rfl ?_
        refine jv_get (v := .ref (a 9)) 34 X gf_X10_34 dX10_takeMeans_34 0 rfl rfl ?_
        refine jv_iload_n 37 X dX10_takeMeans_37 2 rfl ?_
        refine jv_iconst (v := 1) 38 X dX10_takeMeans_38 rfl ?_
        refine jv_iadd 39 X dX10_takeMeans_39 ?_
        refine jv_norm (x2 := nI (k + 1)) (nx_add2 (a := k) (b := 1) rfl rfl (by omega)) ?_
        refine jv_bipush (v := 6) 40 X dX10_takeMeans_40 (by decide) ?_
        refine jv_irem 42 X dX10_takeMeans_42 (by decide) ?_
        refine jv_norm (x2 := nI ((k + 1) % 6)) (nx_rem (a := (k + 1)) (b := 6) rfl rfl (by omega) (by omega) (by omega)) ?_
        refine jv_iald (f := ring) 43 X dX10_takeMeans_43 9 rfl (by decide) ((k + 1) % 6) rfl (by omega) ?_
        refine jv_iadd 44 X dX10_takeMeans_44 ?_
        refine jv_iconst (v := 3) 45 X dX10_takeMeans_45 rfl ?_
        refine jv_idiv 46 X dX10_takeMeans_46 (by decide) ?_
        refine jv_iast (ws2 := bMd E a book now week sights sight signs pad metAt metWho reason acts atp will fitting counts ring (upd nx k ((((ring ((k + 5) % 6)) + (ring k)) + (ring ((k + 1) % 6))) / 3)) wins ways nextWays image isKept) (f := nx) 47 X dX10_takeMeans_47 10 rfl (by decide) k rfl (by omega) rfl ?_
        refine jv_iload_n 48 X dX10_takeMeans_48 1 rfl ?_
        refine jn_if_ne 49 X dX10_takeMeans_49 67 (by decide) (fun c_3 => ?_) (fun c_3 => ?_)
        · refine jv_iconst (v := 1) 67 X dX10_takeMeans_67 rfl ?_
          refine jv_goto 68 X dX10_takeMeans_68 72 (by decide) ?_
          refine jv_istore_n (lv2 := [(1, .int 1), (0, .ref (a 0)), (2, .int (nI k))]) 72 X dX10_takeMeans_72 (by decide) rfl ?_
          refine jv_iinc (v := (nI (k + 1))) (lv2 := [(2, .int (nI (k + 1))), (1, .int 1), (0, .ref (a 0))]) 73 X dX10_takeMeans_73 2 rfl (nx_inc _) (by decide) rfl ?_
          refine jv_goto 76 X dX10_takeMeans_76 4 (by decide) ?_
          exact jv_lv [2, 1, 0] rfl (ih4 (k + 1) (upd nx k ((((ring ((k + 5) % 6)) + (ring k)) + (ring ((k + 1) % 6))) / 3)) 1 (by omega) (rg_upd hI) ((zI_t (by rw [anyB, zI_nz hch c_3, Bool.true_or])).symm) (by omega))
        · refine jv_aload_n 52 X dX10_takeMeans_52 0 rfl ?_
          refine jv_get (v := .ref (a 10)) 53 X gf_X10_37 dX10_takeMeans_53 0 rfl rfl ?_
          refine jv_iload_n 56 X dX10_takeMeans_56 2 rfl ?_
          refine jv_iald (f := (upd nx k ((((ring ((k + 5) % 6)) + (ring k)) + (ring ((k + 1) % 6))) / 3))) 57 X dX10_takeMeans_57 10 rfl (by decide) k rfl (by omega) ?_
          refine jv_aload_n 58 X dX10_takeMeans_58 0 rfl ?_
          refine jv_get (v := .ref (a 9)) 59 X gf_X10_34 dX10_takeMeans_59 0 rfl rfl ?_
          refine jv_iload_n 62 X dX10_takeMeans_62 2 rfl ?_
          refine jv_iald (f := ring) 63 X dX10_takeMeans_63 9 rfl (by decide) k rfl (by omega) ?_
          refine jn_icmp_eq 64 X dX10_takeMeans_64 71 (by decide) (fun c_4 => ?_) (fun c_4 => ?_)
          · refine jv_iconst (v := 0) 71 X dX10_takeMeans_71 rfl ?_
            refine jv_istore_n (lv2 := [(1, .int 0), (0, .ref (a 0)), (2, .int (nI k))]) 72 X dX10_takeMeans_72 (by decide) rfl ?_
            refine jv_iinc (v := (nI (k + 1))) (lv2 := [(2, .int (nI (k + 1))), (1, .int 0), (0, .ref (a 0))]) 73 X dX10_takeMeans_73 2 rfl (nx_inc _) (by decide) rfl ?_
            refine jv_goto 76 X dX10_takeMeans_76 4 (by decide) ?_
            exact jv_lv [2, 1, 0] rfl (ih4 (k + 1) (upd nx k ((((ring ((k + 5) % 6)) + (ring k)) + (ring ((k + 1) % 6))) / 3)) 0 (by omega) (rg_upd hI) ((zI_f (by rw [anyB, Bool.or_eq_true]; rintro (z | z); exact zI_0.mp (hch ▸ c_3) z; rw [rgC, decide_eq_true (show rgF ring k = ring k from pk_us.symm.trans c_4)] at z; exact Bool.noConfusion z)).symm) (by omega))
          · refine jv_iconst (v := 1) 67 X dX10_takeMeans_67 rfl ?_
            refine jv_goto 68 X dX10_takeMeans_68 72 (by decide) ?_
            refine jv_istore_n (lv2 := [(1, .int 1), (0, .ref (a 0)), (2, .int (nI k))]) 72 X dX10_takeMeans_72 (by decide) rfl ?_
            refine jv_iinc (v := (nI (k + 1))) (lv2 := [(2, .int (nI (k + 1))), (1, .int 1), (0, .ref (a 0))]) 73 X dX10_takeMeans_73 2 rfl (nx_inc _) (by decide) rfl ?_
            refine jv_goto 76 X dX10_takeMeans_76 4 (by decide) ?_
            exact jv_lv [2, 1, 0] rfl (ih4 (k + 1) (upd nx k ((((ring ((k + 5) % 6)) + (ring k)) + (ring ((k + 1) % 6))) / 3)) 1 (by omega) (rg_upd hI) ((zI_t (by rw [anyB, Bool.or_eq_true]; exact Or.inr (by rw [rgC, decide_eq_false (show ¬ rgF ring k = ring k from fun z => c_4 (pk_us.trans z))]; rfl))).symm) (by omega))
  exact jv_lv [2, 1, 0] rfl (lp4 _ 0 nxt 0 (by omega) (fun j hj => absurd hj (Nat.not_lt_zero j)) ((zI_f (by simp [anyB])).symm) (Nat.lt_succ_self _))
theorem c_X10_settle (E : EE) (l : Launch) (a : Nat → Nat) (book : Nat → Int32) (now : Nat → Int32) (week : Nat → Int32) (sights : Int32) (sight : Nat → Int32) (signs : Int32) (pad : Nat → Int32) (metAt : Int32) (metWho : Int32) (reason : Int32) (acts : Int32) (atp : Int32) (will : Nat → Int32) (fitting : Nat → Int32) (counts : Nat → Int32) (ring : Nat → Int32) (nxt : Nat → Int32) (wins : Nat → Int32) (ways : Nat → Int64) (nextWays : Nat → Int64) (image : Nat → Int32) (isKept : Nat → Int32) (k : Int32) (n : Int32) : CG E l yX10_settle cX10_settle 4 (some .int) { frames := 2, cells := 0, slots := 0, locals := 42 } [.ref (a 0), .int k, .int n] (bMd E a book now week sights sight signs pad metAt metWho reason acts atp will fitting counts ring nxt wins ways nextWays image isKept) noB (fun _ : ScrM => some (.int (if ¬ (0 ≤ k ∧ k ≤ 5) then -1 else if 0 ≤ n ∧ n ≤ 99 then rgI (msM book) n.toNatClampNeg k.toNatClampNeg else -2))) (fun u : ScrM => bMd E a book u.1 week sights sight signs pad u.2.1 u.2.2.1 u.2.2.2.1 u.2.2.2.2.1 u.2.2.2.2.2.1 u.2.2.2.2.2.2.1 u.2.2.2.2.2.2.2.1 u.2.2.2.2.2.2.2.2.1 u.2.2.2.2.2.2.2.2.2.1 u.2.2.2.2.2.2.2.2.2.2.1 u.2.2.2.2.2.2.2.2.2.2.2.1 u.2.2.2.2.2.2.2.2.2.2.2.2.1 u.2.2.2.2.2.2.2.2.2.2.2.2.2 image isKept) := by
  refine CG.intro (by decide) (Nat.le_of_ble_eq_true rfl) (fun K X Y _ _ _ => ?_)
  refine jv_iload_n 0 X dX10_settle_0 1 rfl ?_
  refine jv_fun 1 X (c_X10_isOne E _ k) ws_X10_61 ⟨Nat.le_of_ble_eq_true rfl, Nat.le_of_ble_eq_true rfl⟩ ⟨rfl, rfl⟩ ⟨Nat.zero_le _, Nat.zero_le _⟩ dX10_settle_1 rfl [] rfl (Nat.le_of_ble_eq_true rfl) ?_
  refine jv_z_ne 4 X dX10_settle_4 9 (by decide) (fun c_1 => ?_) (fun c_1 => ?_)
  · obtain ⟨jk, h1jk, h2jk, rfl⟩ := nx_in (a := 0) (b := 5) rfl rfl (by decide) (by decide) c_1
    have hcjk : (nI jk).toNatClampNeg = jk := nI_clamp (by omega)
    refine jv_iload_n 9 X dX10_settle_9 2 rfl ?_
    refine jv_iconst (v := 0) 10 X dX10_settle_10 rfl ?_
    refine jv_bipush (v := 99) 11 X dX10_settle_11 (by decide) ?_
    refine jv_fun 13 X (c_X10_in E _ n 0 99) ws_X10_57 ⟨Nat.le_of_ble_eq_true rfl, Nat.le_of_ble_eq_true rfl⟩ ⟨rfl, rfl⟩ ⟨Nat.zero_le _, Nat.zero_le _⟩ dX10_settle_13 rfl [] rfl (Nat.le_of_ble_eq_true rfl) ?_
    refine jv_z_ne 16 X dX10_settle_16 22 (by decide) (fun c_2 => ?_) (fun c_2 => ?_)
    · obtain ⟨jn, h1jn, h2jn, rfl⟩ := nx_in (a := 0) (b := 99) rfl rfl (by decide) (by decide) c_2
      have hcjn : (nI jn).toNatClampNeg = jn := nI_clamp (by omega)
      refine jv_aload_n 22 X dX10_settle_22 0 rfl ?_
      refine jv_callW (w1 := bMd E a book book week sights sight signs pad (-6) (-6) reason acts atp will fitting counts (msM book) nxt wins ways nextWays image isKept) 23 X (c_X10_layRing E _ a book now week sights sight signs pad metAt metWho reason acts atp will fitting counts ring nxt wins ways nextWays image isKept) wv_X10_176 ⟨Nat.le_of_ble_eq_true rfl, Nat.le_of_ble_eq_true rfl⟩ ⟨rfl, rfl⟩ ⟨Nat.zero_le _, Nat.zero_le _⟩ dX10_settle_23 rfl [] rfl (Nat.le_of_ble_eq_true rfl) 0 rfl rfl ?_
      refine jv_iconst (v := 0) 26 X dX10_settle_26 rfl ?_
      refine jv_istore_n (lv2 := [(3, .int 0), (0, .ref (a 0)), (1, .int (nI jk)), (2, .int (nI jn))]) 27 X dX10_settle_27 (by decide) rfl ?_
      have lp28 : ∀ (n28 : Nat) (i : Nat) (rg nx : Nat → Int32), (i ≤ jn) → (rg = rgI (msM book) i) → jn - i < n28 → JV E K 0 0 (bMd E a book book week sights sight signs pad (-6) (-6) reason acts atp will fitting counts rg nx wins ways nextWays image isKept) [(0, .ref (a 0)), (1, .int (nI jk)), (2, .int (nI jn)), (3, .int (nI i))] 28 [] := by
        intro n28
        induction n28 with
        | zero => intro i rg nx hi hI hm; exact absurd hm (Nat.not_lt_zero _)
        | succ n28 ih28 =>
          intro i rg nx hi hI hm
          refine jv_iload_n 28 X dX10_settle_28 3 rfl ?_
          refine jv_iload_n 29 X dX10_settle_29 2 rfl ?_
          refine jn_icmp_ge 30 X dX10_settle_30 44 (by decide) (fun c_3 => ?_) (fun c_3 => ?_)
          · have n_3 : jn ≤ i := (nx_le (a := jn) (b := i) rfl rfl (by omega) (by omega)).mp c_3
            refine jv_aload_n 44 X dX10_settle_44 0 rfl ?_
            refine jv_get (v := .ref (a 9)) 45 X gf_X10_34 dX10_settle_45 0 rfl rfl ?_
            refine jv_iload_n 48 X dX10_settle_48 1 rfl ?_
            refine jv_iald (f := rg) 49 X dX10_settle_49 9 rfl (by decide) jk rfl (by omega) ?_
            have hq : (rg jk) = rgI (msM book) jn jk := by rw [hI, show i = jn by omega]
            exact jv_iret 50 X Y rfl dX10_settle_50 (book, (-6), (-6), reason, acts, atp, will, fitting, counts, rg, nx, wins, ways, nextWays) (by rw [hq]; simp [c_1, hcjk, c_2, hcjn]) rfl
          · have n_3 : ¬ jn ≤ i := fun zq => c_3 ((nx_le (a := jn) (b := i) rfl rfl (by omega) (by omega)).mpr zq)
            refine jv_aload_n 33 X dX10_settle_33 0 rfl ?_
            refine jv_callW (w1 := bMd E a book book week sights sight signs pad (-6) (-6) reason acts atp will fitting counts (rgF rg) (rgF rg) wins ways nextWays image isKept) 34 X (c_X10_takeMeans E _ a book book week sights sight signs pad (-6) (-6) reason acts atp will fitting counts rg nx wins ways nextWays image isKept) wv_X10_179 ⟨Nat.le_of_ble_eq_true rfl, Nat.le_of_ble_eq_true rfl⟩ ⟨rfl, rfl⟩ ⟨Nat.zero_le _, Nat.zero_le _⟩ dX10_settle_34 rfl [] rfl (Nat.le_of_ble_eq_true rfl) 0 rfl rfl ?_
            refine jv_pop 37 X dX10_settle_37 rfl ?_
            refine jv_iinc (v := (nI (i + 1))) (lv2 := [(3, .int (nI (i + 1))), (0, .ref (a 0)), (1, .int (nI jk)), (2, .int (nI jn))]) 38 X dX10_settle_38 3 rfl (nx_inc _) (by decide) rfl ?_
            refine jv_goto 41 X dX10_settle_41 28 (by decide) ?_
            exact jv_lv [1, 2, 3, 0] rfl (ih28 (i + 1) (rgF rg) (rgF rg) (by omega) (by rw [hI]; rfl) (by omega))
      exact jv_lv [1, 2, 3, 0] rfl (lp28 _ 0 (msM book) nxt (by omega) rfl (Nat.lt_succ_self _))
    · refine jv_bipush (v := (-2)) 19 X dX10_settle_19 (by decide) ?_
      exact jv_iret 21 X Y rfl dX10_settle_21 (now, metAt, metWho, reason, acts, atp, will, fitting, counts, ring, nxt, wins, ways, nextWays) (by simp [lt_nle, -Int32.not_le, c_1, hcjk, c_2]) rfl
  · refine jv_iconst (v := (-1)) 7 X dX10_settle_7 rfl ?_
    exact jv_iret 8 X Y rfl dX10_settle_8 (now, metAt, metWho, reason, acts, atp, will, fitting, counts, ring, nxt, wins, ways, nextWays) (by simp [lt_nle, -Int32.not_le, c_1]) rfl
theorem c_X10_settled (E : EE) (l : Launch) (a : Nat → Nat) (book : Nat → Int32) (now : Nat → Int32) (week : Nat → Int32) (sights : Int32) (sight : Nat → Int32) (signs : Int32) (pad : Nat → Int32) (metAt : Int32) (metWho : Int32) (reason : Int32) (acts : Int32) (atp : Int32) (will : Nat → Int32) (fitting : Nat → Int32) (counts : Nat → Int32) (ring : Nat → Int32) (nxt : Nat → Int32) (wins : Nat → Int32) (ways : Nat → Int64) (nextWays : Nat → Int64) (image : Nat → Int32) (isKept : Nat → Int32) (M : Nat) (hM1 : M < 2147483648) (hM2 : ¬ anyB (rgC (rgI (msM book) M)) 6 = true) (hM3 : ∀ j, j < M → anyB (rgC (rgI (msM book) j)) 6 = true) : CG E l yX10_settled cX10_settled 2 (some .int) { frames := 2, cells := 0, slots := 0, locals := 42 } [.ref (a 0)] (bMd E a book now week sights sight signs pad metAt metWho reason acts atp will fitting counts ring nxt wins ways nextWays image isKept) noB (fun _ : ScrM => some (.int (nI M))) (fun u : ScrM => bMd E a book u.1 week sights sight signs pad u.2.1 u.2.2.1 u.2.2.2.1 u.2.2.2.2.1 u.2.2.2.2.2.1 u.2.2.2.2.2.2.1 u.2.2.2.2.2.2.2.1 u.2.2.2.2.2.2.2.2.1 u.2.2.2.2.2.2.2.2.2.1 u.2.2.2.2.2.2.2.2.2.2.1 u.2.2.2.2.2.2.2.2.2.2.2.1 u.2.2.2.2.2.2.2.2.2.2.2.2.1 u.2.2.2.2.2.2.2.2.2.2.2.2.2 image isKept) := by
  refine CG.intro (by decide) (Nat.le_of_ble_eq_true rfl) (fun K X Y _ _ _ => ?_)
  refine jv_aload_n 0 X dX10_settled_0 0 rfl ?_
  refine jv_callW (w1 := bMd E a book book week sights sight signs pad (-6) (-6) reason acts atp will fitting counts (msM book) nxt wins ways nextWays image isKept) 1 X (c_X10_layRing E _ a book now week sights sight signs pad metAt metWho reason acts atp will fitting counts ring nxt wins ways nextWays image isKept) wv_X10_176 ⟨Nat.le_of_ble_eq_true rfl, Nat.le_of_ble_eq_true rfl⟩ ⟨rfl, rfl⟩ ⟨Nat.zero_le _, Nat.zero_le _⟩ dX10_settled_1 rfl [] rfl (Nat.le_of_ble_eq_true rfl) 0 rfl rfl ?_
  refine jv_iconst (v := 0) 4 X dX10_settled_4 rfl ?_
  refine jv_istore_n (lv2 := [(1, .int 0), (0, .ref (a 0))]) 5 X dX10_settled_5 (by decide) rfl ?_
  have lp6 : ∀ (n6 : Nat) (c : Nat) (rg nx : Nat → Int32), (c ≤ M) → (rg = rgI (msM book) c) → M - c < n6 → JV E K 0 0 (bMd E a book book week sights sight signs pad (-6) (-6) reason acts atp will fitting counts rg nx wins ways nextWays image isKept) [(0, .ref (a 0)), (1, .int (nI c))] 6 [] := by
    intro n6
    induction n6 with
    | zero => intro c rg nx hc hI hm; exact absurd hm (Nat.not_lt_zero _)
    | succ n6 ih6 =>
      intro c rg nx hc hI hm
      refine jv_aload_n 6 X dX10_settled_6 0 rfl ?_
      refine jv_callW (w1 := bMd E a book book week sights sight signs pad (-6) (-6) reason acts atp will fitting counts (rgF rg) (rgF rg) wins ways nextWays image isKept) 7 X (c_X10_takeMeans E _ a book book week sights sight signs pad (-6) (-6) reason acts atp will fitting counts rg nx wins ways nextWays image isKept) wv_X10_179 ⟨Nat.le_of_ble_eq_true rfl, Nat.le_of_ble_eq_true rfl⟩ ⟨rfl, rfl⟩ ⟨Nat.zero_le _, Nat.zero_le _⟩ dX10_settled_7 rfl [] rfl (Nat.le_of_ble_eq_true rfl) 0 rfl rfl ?_
      refine jv_z_eq 10 X dX10_settled_10 19 (by decide) (fun c_1 => ?_) (fun c_1 => ?_)
      · have hcn : c = M := by rcases Nat.lt_or_ge c M with z | z; exact absurd (hM3 c z) (by rw [← hI]; exact c_1); omega
        refine jv_iload_n 19 X dX10_settled_19 1 rfl ?_
        exact jv_iret 20 X Y rfl dX10_settled_20 (book, (-6), (-6), reason, acts, atp, will, fitting, counts, (rgF rg), (rgF rg), wins, ways, nextWays) (by simp [hcn, lt_nle, -Int32.not_le, c_1]) rfl
      · have hcn : c + 1 ≤ M := by rcases Nat.lt_or_ge c M with z | z; exact z; exact absurd c_1 (by rw [hI, show c = M by omega]; exact hM2)
        refine jv_iinc (v := (nI (c + 1))) (lv2 := [(1, .int (nI (c + 1))), (0, .ref (a 0))]) 13 X dX10_settled_13 1 rfl (nx_inc _) (by decide) rfl ?_
        refine jv_goto 16 X dX10_settled_16 6 (by decide) ?_
        exact jv_lv [1, 0] rfl (ih6 (c + 1) (rgF rg) (rgF rg) hcn (by rw [hI]; rfl) (by omega))
  exact jv_lv [1, 0] rfl (lp6 _ 0 (msM book) nxt (by omega) rfl (Nat.lt_succ_self _))
