theorem wt_next {len P k : Nat} (h : k * P ≤ len) (hP : P < 1073741824) : (nI (len - k * P) - nI P = nI (len - (k + 1) * P) ∧ (k + 1) * P ≤ len) ∨ (¬ 0 ≤ nI (len - k * P) - nI P ∧ len < (k + 1) * P) := by
  have e : (k + 1) * P = k * P + P := Nat.succ_mul k P
  rcases Nat.lt_or_ge (len - k * P) P with q | q
  · exact Or.inr ⟨fun z => absurd (pk_sneg hP q) (Int32.not_lt.mpr z), by omega⟩
  · refine Or.inl ⟨?_, by omega⟩
    rw [pk_sub q, show len - k * P - P = len - (k + 1) * P by omega]
theorem wt_exit {len P k : Nat} (hP : 0 < P) (h1 : len < k * P) (h2 : k = 0 ∨ (k - 1) * P ≤ len) : k = len / P + 1 := by
  rcases h2 with rfl | h2
  · omega
  · cases k with
    | zero => omega
    | succ n =>
      have e1 : n ≤ len / P := (Nat.le_div_iff_mul_le hP).mpr h2
      have e2 : len / P < n + 1 := (Nat.div_lt_iff_lt_mul hP).mpr h1
      omega
def anyB (f : Nat → Bool) : Nat → Bool
  | 0 => false
  | n + 1 => anyB f n || f n
def allB (f : Nat → Bool) : Nat → Bool
  | 0 => true
  | n + 1 => allB f n && f n
theorem anyB_iff {f : Nat → Bool} : ∀ {n : Nat}, anyB f n = true ↔ ∃ i, i < n ∧ f i = true
  | 0 => ⟨fun h => Bool.noConfusion h, fun ⟨i, h, _⟩ => absurd h (Nat.not_lt_zero i)⟩
  | n + 1 => by
    rw [anyB, Bool.or_eq_true, anyB_iff]
    constructor
    · rintro (⟨i, h1, h2⟩ | h)
      · exact ⟨i, by omega, h2⟩
      · exact ⟨n, by omega, h⟩
    · rintro ⟨i, h1, h2⟩
      rcases Nat.lt_or_ge i n with q | q
      · exact Or.inl ⟨i, q, h2⟩
      · rw [show i = n by omega] at h2
        exact Or.inr h2
theorem allB_iff {f : Nat → Bool} : ∀ {n : Nat}, allB f n = true ↔ ∀ i, i < n → f i = true
  | 0 => ⟨fun _ i h => absurd h (Nat.not_lt_zero i), fun _ => rfl⟩
  | n + 1 => by
    rw [allB, Bool.and_eq_true, allB_iff]
    constructor
    · rintro ⟨h1, h2⟩ i hi
      rcases Nat.lt_or_ge i n with q | q
      · exact h1 i q
      · rw [show i = n by omega]; exact h2
    · intro h
      exact ⟨fun i hi => h i (by omega), h n (by omega)⟩
def ctS (will : Nat → Int32) (lo hi : Int32) (f t c : Nat) : Nat := if lo ≤ will (f + t) ∧ will (f + t) ≤ hi then c + 1 else c
def ctI (will : Nat → Int32) (lo hi : Int32) (f n : Nat) : Nat := itr (ctS will lo hi f) n 0
def dyP (will : Nat → Int32) (m r w : Nat) (i : Nat) : Bool := decide (r ≤ ctI will (will i) (will i + nI w) 0 (m + 1))
def byL (law : Nat) (day : Int32) : Int32 := clampI (nI (law / 100) + (nI (law % 100) - 9) * day)
def isF (sight : Nat → Int32) (law i : Nat) : Bool := decide (byL law (sight (2 * i)) = sight (2 * i + 1))
def isL (sight : Nat → Int32) (sk law : Nat) : Bool := decide (law % 100 < 19) && allB (isF sight law) sk
def fiS (sight : Nat → Int32) (sk : Nat) (i : Int32) (t n : Nat) : Int32 ⊕ Nat := if isL sight sk (100 + t) = true then (if nI n = i then .inl (nI (100 + t)) else .inr (n + 1)) else .inr n
def fiM (sight : Nat → Int32) (sk : Nat) (i : Int32) : Int32 := match itE (fiS sight sk i) 20000 0 0 with
  | .inl x => x
  | .inr n => if i = -1 then nI n else -6
theorem c_X10_waste (E : EE) (l : Launch) (a : Nat → Nat) (book : Nat → Int32) (now : Nat → Int32) (week : Nat → Int32) (sights : Int32) (sight : Nat → Int32) (signs : Int32) (pad : Nat → Int32) (metAt : Int32) (metWho : Int32) (reason : Int32) (acts : Int32) (atp : Int32) (will : Nat → Int32) (fitting : Nat → Int32) (counts : Nat → Int32) (ring : Nat → Int32) (nxt : Nat → Int32) (wins : Nat → Int32) (ways : Nat → Int64) (nextWays : Nat → Int64) (image : Nat → Int32) (isKept : Nat → Int32) (k : Int32) (p : Int32) (q : Int32) (what : Int32) (hst : ∀ s, s < 8 → 0 ≤ book (18 + s)) (hin : inOK (book 38)) : CG E l yX10_waste cX10_waste 10 (some .int) { frames := 2, cells := 0, slots := 0, locals := 42 } [.ref (a 0), .int k, .int p, .int q, .int what] (bMd E a book now week sights sight signs pad metAt metWho reason acts atp will fitting counts ring nxt wins ways nextWays image isKept) noB (fun _ : ScrM => some (.int (if ¬ (0 ≤ k ∧ k ≤ 7) then -1 else if (1 ≤ p ∧ p ≤ 20) ∧ (1 ≤ q ∧ q ≤ 20) ∧ (0 ≤ what ∧ what ≤ 1) then (if what = 0 then nI (wtM (book (18 + k.toNatClampNeg)).toNatClampNeg (p.toNatClampNeg * (book 38).toNatClampNeg) (q.toNatClampNeg * (book 38).toNatClampNeg)).1 else nI (wtM (book (18 + k.toNatClampNeg)).toNatClampNeg (p.toNatClampNeg * (book 38).toNatClampNeg) (q.toNatClampNeg * (book 38).toNatClampNeg)).2) else -2))) (fun u : ScrM => bMd E a book u.1 week sights sight signs pad u.2.1 u.2.2.1 u.2.2.2.1 u.2.2.2.2.1 u.2.2.2.2.2.1 u.2.2.2.2.2.2.1 u.2.2.2.2.2.2.2.1 u.2.2.2.2.2.2.2.2.1 u.2.2.2.2.2.2.2.2.2.1 u.2.2.2.2.2.2.2.2.2.2.1 u.2.2.2.2.2.2.2.2.2.2.2.1 u.2.2.2.2.2.2.2.2.2.2.2.2.1 u.2.2.2.2.2.2.2.2.2.2.2.2.2 image isKept) := by
  refine CG.intro (by decide) (Nat.le_of_ble_eq_true rfl) (fun K X Y _ _ _ => ?_)
  refine jv_iload_n 0 X dX10_waste_0 1 rfl ?_
  refine jv_fun 1 X (c_X10_isStick E _ k) ws_X10_66 ⟨Nat.le_of_ble_eq_true rfl, Nat.le_of_ble_eq_true rfl⟩ ⟨rfl, rfl⟩ ⟨Nat.zero_le _, Nat.zero_le _⟩ dX10_waste_1 rfl [] rfl (Nat.le_of_ble_eq_true rfl) ?_
  refine jv_z_ne 4 X dX10_waste_4 9 (by decide) (fun c_1 => ?_) (fun c_1 => ?_)
  · obtain ⟨jk, h1jk, h2jk, rfl⟩ := nx_in (a := 0) (b := 7) rfl rfl (by decide) (by decide) c_1
    have hcjk : (nI jk).toNatClampNeg = jk := nI_clamp (by omega)
    refine jv_iload_n 9 X dX10_waste_9 2 rfl ?_
    refine jv_iconst (v := 1) 10 X dX10_waste_10 rfl ?_
    refine jv_bipush (v := 20) 11 X dX10_waste_11 (by decide) ?_
    refine jv_fun 13 X (c_X10_in E _ p 1 20) ws_X10_57 ⟨Nat.le_of_ble_eq_true rfl, Nat.le_of_ble_eq_true rfl⟩ ⟨rfl, rfl⟩ ⟨Nat.zero_le _, Nat.zero_le _⟩ dX10_waste_13 rfl [] rfl (Nat.le_of_ble_eq_true rfl) ?_
    refine jv_z_eq 16 X dX10_waste_16 39 (by decide) (fun c_2 => ?_) (fun c_2 => ?_)
    · refine jv_bipush (v := (-2)) 39 X dX10_waste_39 (by decide) ?_
      exact jv_iret 41 X Y rfl dX10_waste_41 (now, metAt, metWho, reason, acts, atp, will, fitting, counts, ring, nxt, wins, ways, nextWays) (by simp [lt_nle, -Int32.not_le, c_1, hcjk, c_2]) rfl
    · obtain ⟨jp, h1jp, h2jp, rfl⟩ := nx_in (a := 1) (b := 20) rfl rfl (by decide) (by decide) c_2
      have hcjp : (nI jp).toNatClampNeg = jp := nI_clamp (by omega)
      refine jv_iload_n 19 X dX10_waste_19 3 rfl ?_
      refine jv_iconst (v := 1) 20 X dX10_waste_20 rfl ?_
      refine jv_bipush (v := 20) 21 X dX10_waste_21 (by decide) ?_
      refine jv_fun 23 X (c_X10_in E _ q 1 20) ws_X10_57 ⟨Nat.le_of_ble_eq_true rfl, Nat.le_of_ble_eq_true rfl⟩ ⟨rfl, rfl⟩ ⟨Nat.zero_le _, Nat.zero_le _⟩ dX10_waste_23 rfl [] rfl (Nat.le_of_ble_eq_true rfl) ?_
      refine jv_z_eq 26 X dX10_waste_26 39 (by decide) (fun c_3 => ?_) (fun c_3 => ?_)
      · refine jv_bipush (v := (-2)) 39 X dX10_waste_39 (by decide) ?_
        exact jv_iret 41 X Y rfl dX10_waste_41 (now, metAt, metWho, reason, acts, atp, will, fitting, counts, ring, nxt, wins, ways, nextWays) (by simp [lt_nle, -Int32.not_le, c_1, hcjk, c_2, hcjp, c_3]) rfl
      · obtain ⟨jq, h1jq, h2jq, rfl⟩ := nx_in (a := 1) (b := 20) rfl rfl (by decide) (by decide) c_3
        have hcjq : (nI jq).toNatClampNeg = jq := nI_clamp (by omega)
        refine jv_iload 29 X dX10_waste_29 4 rfl ?_
        refine jv_iconst (v := 0) 31 X dX10_waste_31 rfl ?_
        refine jv_iconst (v := 1) 32 X dX10_waste_32 rfl ?_
        refine jv_fun 33 X (c_X10_in E _ what 0 1) ws_X10_57 ⟨Nat.le_of_ble_eq_true rfl, Nat.le_of_ble_eq_true rfl⟩ ⟨rfl, rfl⟩ ⟨Nat.zero_le _, Nat.zero_le _⟩ dX10_waste_33 rfl [] rfl (Nat.le_of_ble_eq_true rfl) ?_
        refine jv_z_ne 36 X dX10_waste_36 42 (by decide) (fun c_4 => ?_) (fun c_4 => ?_)
        · have hlen : book (18 + jk) = nI (book (18 + jk)).toNatClampNeg := by obtain ⟨z, hz1, hz2⟩ := nI_of (Int32.not_lt.mpr (hst jk (by omega))); rw [hz2, nI_clamp hz1]
          have hln2 : (book (18 + jk)).toNatClampNeg < 2147483648 := by have := Int32.toInt_lt (book (18 + jk)); have h : (book (18 + jk)).toNatClampNeg = (book (18 + jk)).toInt.toNat := rfl; omega
          have hin2 := hin.2.1
          have hin3 := hin.2.2
          have hP1 : 0 < (jp * (book 38).toNatClampNeg) := Nat.mul_pos (by omega) (by omega)
          have hP2 : (jp * (book 38).toNatClampNeg) ≤ 4000 := Nat.mul_le_mul (show jp ≤ 20 by omega) (show (book 38).toNatClampNeg ≤ 200 by omega)
          have hQ1 : 0 < (jq * (book 38).toNatClampNeg) := Nat.mul_pos (by omega) (by omega)
          have hQ2 : (jq * (book 38).toNatClampNeg) ≤ 4000 := Nat.mul_le_mul (show jq ≤ 20 by omega) (show (book 38).toNatClampNeg ≤ 200 by omega)
          have hQ0 : ¬ nI (jq * (book 38).toNatClampNeg) = 0 := nI_ne0 hQ1 (by omega)
          refine jv_ldc (v := 1000000) 42 X tm_k_X10_163 dX10_waste_42 ?_
          refine jv_istore (lv2 := [(5, .int 1000000), (0, .ref (a 0)), (1, .int (nI jk)), (2, .int (nI jp)), (3, .int (nI jq)), (4, .int what)]) 44 X dX10_waste_44 (by decide) rfl ?_
          refine jv_iconst (v := 0) 46 X dX10_waste_46 rfl ?_
          refine jv_istore (lv2 := [(6, .int 0), (5, .int 1000000), (0, .ref (a 0)), (1, .int (nI jk)), (2, .int (nI jp)), (3, .int (nI jq)), (4, .int what)]) 47 X dX10_waste_47 (by decide) rfl ?_
          refine jv_iconst (v := 0) 49 X dX10_waste_49 rfl ?_
          refine jv_istore (lv2 := [(7, .int 0), (6, .int 0), (5, .int 1000000), (0, .ref (a 0)), (1, .int (nI jk)), (2, .int (nI jp)), (3, .int (nI jq)), (4, .int what)]) 50 X dX10_waste_50 (by decide) rfl ?_
          refine jv_aload_n 52 X dX10_waste_52 3 rfl ?_
          refine jv_get (v := .ref (a 1)) 53 X gf_X10_7 dX10_waste_53 0 rfl rfl ?_
          refine jv_bipush (v := 18) 56 X dX10_waste_56 (by decide) ?_
          refine jv_iload_n 58 X dX10_waste_58 4 rfl ?_
          refine jv_iadd 59 X dX10_waste_59 ?_
          refine jv_norm (x2 := nI (18 + jk)) (nx_add2 (a := 18) (b := jk) rfl rfl (by omega)) ?_
          refine jv_iald (f := book) 60 X dX10_waste_60 1 rfl (by decide) (18 + jk) rfl (by omega) ?_
          refine jv_istore (lv2 := [(8, .int (book (18 + jk))), (7, .int 0), (6, .int 0), (5, .int 1000000), (0, .ref (a 0)), (1, .int (nI jk)), (2, .int (nI jp)), (3, .int (nI jq)), (4, .int what)]) 61 X dX10_waste_61 (by decide) rfl ?_
          have lp63 : ∀ (n63 : Nat) (k le fo : Nat) (lf : Int32), (k ≤ (book (18 + jk)).toNatClampNeg + 1) → (le ≤ 1000000) → ((le, fo) = itr (wtS (book (18 + jk)).toNatClampNeg (jp * (book 38).toNatClampNeg) (jq * (book 38).toNatClampNeg)) k (1000000, 0)) → ((lf = nI ((book (18 + jk)).toNatClampNeg - k * (jp * (book 38).toNatClampNeg)) ∧ k * (jp * (book 38).toNatClampNeg) ≤ (book (18 + jk)).toNatClampNeg) ∨ (¬ 0 ≤ lf ∧ (book (18 + jk)).toNatClampNeg < k * (jp * (book 38).toNatClampNeg))) → (k = 0 ∨ (k - 1) * (jp * (book 38).toNatClampNeg) ≤ (book (18 + jk)).toNatClampNeg) → (book (18 + jk)).toNatClampNeg + 2 - k < n63 → JV E K 0 0 (bMd E a book now week sights sight signs pad metAt metWho reason acts atp will fitting counts ring nxt wins ways nextWays image isKept) [(0, .ref (a 0)), (1, .int (nI jk)), (2, .int (nI jp)), (3, .int (nI jq)), (4, .int what), (5, .int (nI le)), (6, .int (nI fo)), (7, .int (nI k)), (8, .int lf)] 63 [] := by
            intro n63
            induction n63 with
            | zero => intro k le fo lf hk hle hI hL hk1 hm; exact absurd hm (Nat.not_lt_zero _)
            | succ n63 ih63 =>
              intro k le fo lf hk hle hI hL hk1 hm
              refine jv_iload 63 X dX10_waste_63 8 rfl ?_
              refine jn_if_lt 65 X dX10_waste_65 134 (by decide) (fun c_5 => ?_) (fun c_5 => ?_)
              · have hkx : (book (18 + jk)).toNatClampNeg < k * (jp * (book 38).toNatClampNeg) := by rcases hL with h | h; exact absurd (by rw [h.1]; exact nI_pos' (by omega)) c_5; exact h.2
                have hke := wt_exit hP1 hkx hk1
                refine jv_iload 134 X dX10_waste_134 4 rfl ?_
                refine jn_if_ne 136 X dX10_waste_136 144 (by decide) (fun c_6 => ?_) (fun c_6 => ?_)
                · refine jv_iload 144 X dX10_waste_144 6 rfl ?_
                  have hq : wtM (book (18 + jk)).toNatClampNeg (jp * (book 38).toNatClampNeg) (jq * (book 38).toNatClampNeg) = (le, fo) := by rw [hI, hke]; rfl
                  exact jv_iret 146 X Y rfl dX10_waste_146 (now, metAt, metWho, reason, acts, atp, will, fitting, counts, ring, nxt, wins, ways, nextWays) (by simp [hq, c_1, hcjk, c_2, hcjp, c_3, hcjq, c_4, c_6]) rfl
                · refine jv_iload 139 X dX10_waste_139 5 rfl ?_
                  refine jv_goto 141 X dX10_waste_141 146 (by decide) ?_
                  have hq : wtM (book (18 + jk)).toNatClampNeg (jp * (book 38).toNatClampNeg) (jq * (book 38).toNatClampNeg) = (le, fo) := by rw [hI, hke]; rfl
                  exact jv_iret 146 X Y rfl dX10_waste_146 (now, metAt, metWho, reason, acts, atp, will, fitting, counts, ring, nxt, wins, ways, nextWays) (by simp [hq, c_1, hcjk, c_2, hcjp, c_3, hcjq, c_4, c_6]) rfl
              · obtain ⟨rfl, hkl⟩ : lf = nI ((book (18 + jk)).toNatClampNeg - k * (jp * (book 38).toNatClampNeg)) ∧ k * (jp * (book 38).toNatClampNeg) ≤ (book (18 + jk)).toNatClampNeg := by rcases hL with h | h; exact h; exact absurd c_5 h.1
                have hmo := Nat.mod_lt ((book (18 + jk)).toNatClampNeg - k * (jp * (book 38).toNatClampNeg)) hQ1
                refine jv_iload 68 X dX10_waste_68 8 rfl ?_
                refine jv_iload_n 70 X dX10_waste_70 3 rfl ?_
                refine jv_aload_n 71 X dX10_waste_71 0 rfl ?_
                refine jv_get (v := .ref (a 1)) 72 X gf_X10_7 dX10_waste_72 0 rfl rfl ?_
                refine jv_bipush (v := 38) 75 X dX10_waste_75 (by decide) ?_
                refine jv_iald (f := book) 77 X dX10_waste_77 1 rfl (by decide) 38 rfl (by omega) ?_
                refine jv_imul 78 X dX10_waste_78 ?_
                refine jv_norm (x2 := nI (jq * ((book 38).toNatClampNeg))) (nx_mul (a := jq) (b := (book 38).toNatClampNeg) rfl hin.1) ?_
                refine jv_irem 79 X dX10_waste_79 hQ0 ?_
                refine jv_norm (x2 := nI (((book (18 + jk)).toNatClampNeg - k * (jp * (book 38).toNatClampNeg)) % (jq * ((book 38).toNatClampNeg)))) (nx_rem (a := ((book (18 + jk)).toNatClampNeg - k * (jp * (book 38).toNatClampNeg))) (b := (jq * ((book 38).toNatClampNeg))) rfl rfl (by omega) (by omega) (by omega)) ?_
                refine jv_istore (lv2 := [(9, .int (nI (((book (18 + jk)).toNatClampNeg - k * (jp * (book 38).toNatClampNeg)) % (jq * ((book 38).toNatClampNeg))))), (0, .ref (a 0)), (1, .int (nI jk)), (2, .int (nI jp)), (3, .int (nI jq)), (4, .int what), (5, .int (nI le)), (6, .int (nI fo)), (7, .int (nI k)), (8, .int (nI ((book (18 + jk)).toNatClampNeg - k * (jp * (book 38).toNatClampNeg))))]) 80 X dX10_waste_80 (by decide) rfl ?_
                refine jv_iload 82 X dX10_waste_82 0 rfl ?_
                refine jv_iload 84 X dX10_waste_84 6 rfl ?_
                refine jn_icmp_ge 86 X dX10_waste_86 94 (by decide) (fun c_7 => ?_) (fun c_7 => ?_)
                · have n_7 : le ≤ (((book (18 + jk)).toNatClampNeg - k * (jp * (book 38).toNatClampNeg)) % (jq * ((book 38).toNatClampNeg))) := (nx_le (a := le) (b := (((book (18 + jk)).toNatClampNeg - k * (jp * (book 38).toNatClampNeg)) % (jq * ((book 38).toNatClampNeg)))) rfl rfl (by omega) (by omega)).mp c_7
                  refine jv_iload 94 X dX10_waste_94 7 rfl ?_
                  refine jv_istore (lv2 := [(6, .int (nI fo)), (9, .int (nI (((book (18 + jk)).toNatClampNeg - k * (jp * (book 38).toNatClampNeg)) % (jq * ((book 38).toNatClampNeg))))), (0, .ref (a 0)), (1, .int (nI jk)), (2, .int (nI jp)), (3, .int (nI jq)), (4, .int what), (5, .int (nI le)), (7, .int (nI k)), (8, .int (nI ((book (18 + jk)).toNatClampNeg - k * (jp * (book 38).toNatClampNeg))))]) 96 X dX10_waste_96 (by decide) rfl ?_
                  refine jv_iload 98 X dX10_waste_98 1 rfl ?_
                  refine jv_iload 100 X dX10_waste_100 7 rfl ?_
                  refine jn_icmp_ge 102 X dX10_waste_102 110 (by decide) (fun _ => ?_) (fun c_8 => absurd c_7 c_8)
                  refine jv_iload 110 X dX10_waste_110 7 rfl ?_
                  refine jv_istore (lv2 := [(5, .int (nI le)), (6, .int (nI fo)), (9, .int (nI (((book (18 + jk)).toNatClampNeg - k * (jp * (book 38).toNatClampNeg)) % (jq * ((book 38).toNatClampNeg))))), (0, .ref (a 0)), (1, .int (nI jk)), (2, .int (nI jp)), (3, .int (nI jq)), (4, .int what), (7, .int (nI k)), (8, .int (nI ((book (18 + jk)).toNatClampNeg - k * (jp * (book 38).toNatClampNeg))))]) 112 X dX10_waste_112 (by decide) rfl ?_
                  refine jv_iinc (v := (nI (k + 1))) (lv2 := [(7, .int (nI (k + 1))), (5, .int (nI le)), (6, .int (nI fo)), (9, .int (nI (((book (18 + jk)).toNatClampNeg - k * (jp * (book 38).toNatClampNeg)) % (jq * ((book 38).toNatClampNeg))))), (0, .ref (a 0)), (1, .int (nI jk)), (2, .int (nI jp)), (3, .int (nI jq)), (4, .int what), (8, .int (nI ((book (18 + jk)).toNatClampNeg - k * (jp * (book 38).toNatClampNeg))))]) 114 X dX10_waste_114 8 rfl (nx_inc _) (by decide) rfl ?_
                  refine jv_iload 117 X dX10_waste_117 9 rfl ?_
                  refine jv_iload_n 119 X dX10_waste_119 6 rfl ?_
                  refine jv_aload_n 120 X dX10_waste_120 4 rfl ?_
                  refine jv_get (v := .ref (a 1)) 121 X gf_X10_7 dX10_waste_121 0 rfl rfl ?_
                  refine jv_bipush (v := 38) 124 X dX10_waste_124 (by decide) ?_
                  refine jv_iald (f := book) 126 X dX10_waste_126 1 rfl (by decide) 38 rfl (by omega) ?_
                  refine jv_imul 127 X dX10_waste_127 ?_
                  refine jv_norm (x2 := nI (jp * ((book 38).toNatClampNeg))) (nx_mul (a := jp) (b := (book 38).toNatClampNeg) rfl hin.1) ?_
                  refine jv_isub 128 X dX10_waste_128 ?_
                  refine jv_istore (lv2 := [(8, .int ((nI ((book (18 + jk)).toNatClampNeg - k * (jp * (book 38).toNatClampNeg))) - (nI (jp * ((book 38).toNatClampNeg))))), (7, .int (nI (k + 1))), (5, .int (nI le)), (6, .int (nI fo)), (9, .int (nI (((book (18 + jk)).toNatClampNeg - k * (jp * (book 38).toNatClampNeg)) % (jq * ((book 38).toNatClampNeg))))), (0, .ref (a 0)), (1, .int (nI jk)), (2, .int (nI jp)), (3, .int (nI jq)), (4, .int what)]) 129 X dX10_waste_129 (by decide) rfl ?_
                  refine jv_goto 131 X dX10_waste_131 63 (by decide) ?_
                  exact jv_lv [5, 6, 7, 8, 9, 2, 3, 1, 0] rfl (ih63 (k + 1) le fo ((nI ((book (18 + jk)).toNatClampNeg - k * (jp * (book 38).toNatClampNeg))) - (nI (jp * ((book 38).toNatClampNeg)))) (by have := Nat.le_mul_of_pos_right k hP1; omega) (by have := Nat.mod_lt ((book (18 + jk)).toNatClampNeg - k * (jp * (book 38).toNatClampNeg)) hQ1; omega) (by rw [itr_s, ← hI]; unfold wtS; dsimp only; rw [if_neg (by omega)]) (wt_next hkl (by omega)) (Or.inr (by rw [Nat.add_sub_cancel]; exact hkl)) (by have := Nat.le_mul_of_pos_right k hP1; omega))
                · have n_7 : ¬ le ≤ (((book (18 + jk)).toNatClampNeg - k * (jp * (book 38).toNatClampNeg)) % (jq * ((book 38).toNatClampNeg))) := fun zq => c_7 ((nx_le (a := le) (b := (((book (18 + jk)).toNatClampNeg - k * (jp * (book 38).toNatClampNeg)) % (jq * ((book 38).toNatClampNeg)))) rfl rfl (by omega) (by omega)).mpr zq)
                  refine jv_iload 89 X dX10_waste_89 8 rfl ?_
                  refine jv_goto 91 X dX10_waste_91 96 (by decide) ?_
                  refine jv_istore (lv2 := [(6, .int (nI k)), (9, .int (nI (((book (18 + jk)).toNatClampNeg - k * (jp * (book 38).toNatClampNeg)) % (jq * ((book 38).toNatClampNeg))))), (0, .ref (a 0)), (1, .int (nI jk)), (2, .int (nI jp)), (3, .int (nI jq)), (4, .int what), (5, .int (nI le)), (7, .int (nI k)), (8, .int (nI ((book (18 + jk)).toNatClampNeg - k * (jp * (book 38).toNatClampNeg))))]) 96 X dX10_waste_96 (by decide) rfl ?_
                  refine jv_iload 98 X dX10_waste_98 1 rfl ?_
                  refine jv_iload 100 X dX10_waste_100 7 rfl ?_
                  refine jn_icmp_ge 102 X dX10_waste_102 110 (by decide) (fun c_9 => absurd c_9 c_7) (fun _ => ?_)
                  refine jv_iload 105 X dX10_waste_105 1 rfl ?_
                  refine jv_goto 107 X dX10_waste_107 112 (by decide) ?_
                  refine jv_istore (lv2 := [(5, .int (nI (((book (18 + jk)).toNatClampNeg - k * (jp * (book 38).toNatClampNeg)) % (jq * ((book 38).toNatClampNeg))))), (6, .int (nI k)), (9, .int (nI (((book (18 + jk)).toNatClampNeg - k * (jp * (book 38).toNatClampNeg)) % (jq * ((book 38).toNatClampNeg))))), (0, .ref (a 0)), (1, .int (nI jk)), (2, .int (nI jp)), (3, .int (nI jq)), (4, .int what), (7, .int (nI k)), (8, .int (nI ((book (18 + jk)).toNatClampNeg - k * (jp * (book 38).toNatClampNeg))))]) 112 X dX10_waste_112 (by decide) rfl ?_
                  refine jv_iinc (v := (nI (k + 1))) (lv2 := [(7, .int (nI (k + 1))), (5, .int (nI (((book (18 + jk)).toNatClampNeg - k * (jp * (book 38).toNatClampNeg)) % (jq * ((book 38).toNatClampNeg))))), (6, .int (nI k)), (9, .int (nI (((book (18 + jk)).toNatClampNeg - k * (jp * (book 38).toNatClampNeg)) % (jq * ((book 38).toNatClampNeg))))), (0, .ref (a 0)), (1, .int (nI jk)), (2, .int (nI jp)), (3, .int (nI jq)), (4, .int what), (8, .int (nI ((book (18 + jk)).toNatClampNeg - k * (jp * (book 38).toNatClampNeg))))]) 114 X dX10_waste_114 8 rfl (nx_inc _) (by decide) rfl ?_
                  refine jv_iload 117 X dX10_waste_117 9 rfl ?_
                  refine jv_iload_n 119 X dX10_waste_119 6 rfl ?_
                  refine jv_aload_n 120 X dX10_waste_120 4 rfl ?_
                  refine jv_get (v := .ref (a 1)) 121 X gf_X10_7 dX10_waste_121 0 rfl rfl ?_
                  refine jv_bipush (v := 38) 124 X dX10_waste_124 (by decide) ?_
                  refine jv_iald (f := book) 126 X dX10_waste_126 1 rfl (by decide) 38 rfl (by omega) ?_
                  refine jv_imul 127 X dX10_waste_127 ?_
                  refine jv_norm (x2 := nI (jp * ((book 38).toNatClampNeg))) (nx_mul (a := jp) (b := (book 38).toNatClampNeg) rfl hin.1) ?_
                  refine jv_isub 128 X dX10_waste_128 ?_
                  refine jv_istore (lv2 := [(8, .int ((nI ((book (18 + jk)).toNatClampNeg - k * (jp * (book 38).toNatClampNeg))) - (nI (jp * ((book 38).toNatClampNeg))))), (7, .int (nI (k + 1))), (5, .int (nI (((book (18 + jk)).toNatClampNeg - k * (jp * (book 38).toNatClampNeg)) % (jq * ((book 38).toNatClampNeg))))), (6, .int (nI k)), (9, .int (nI (((book (18 + jk)).toNatClampNeg - k * (jp * (book 38).toNatClampNeg)) % (jq * ((book 38).toNatClampNeg))))), (0, .ref (a 0)), (1, .int (nI jk)), (2, .int (nI jp)), (3, .int (nI jq)), (4, .int what)]) 129 X dX10_waste_129 (by decide) rfl ?_
                  refine jv_goto 131 X dX10_waste_131 63 (by decide) ?_
                  exact jv_lv [5, 6, 7, 8, 9, 2, 3, 1, 0] rfl (ih63 (k + 1) (((book (18 + jk)).toNatClampNeg - k * (jp * (book 38).toNatClampNeg)) % (jq * ((book 38).toNatClampNeg))) k ((nI ((book (18 + jk)).toNatClampNeg - k * (jp * (book 38).toNatClampNeg))) - (nI (jp * ((book 38).toNatClampNeg)))) (by have := Nat.le_mul_of_pos_right k hP1; omega) (by have := Nat.mod_lt ((book (18 + jk)).toNatClampNeg - k * (jp * (book 38).toNatClampNeg)) hQ1; omega) (by rw [itr_s, ← hI]; unfold wtS; dsimp only; rw [if_pos (by omega)]) (wt_next hkl (by omega)) (Or.inr (by rw [Nat.add_sub_cancel]; exact hkl)) (by have := Nat.le_mul_of_pos_right k hP1; omega))
          exact jv_lv [4, 5, 6, 7, 8, 3, 2, 1, 0] rfl (lp63 _ 0 1000000 0 (book (18 + jk)) (by omega) (by omega) rfl (Or.inl ⟨by rw [Nat.zero_mul, Nat.sub_zero]; exact hlen, by omega⟩) (Or.inl rfl) (Nat.lt_succ_self _))
        · refine jv_bipush (v := (-2)) 39 X dX10_waste_39 (by decide) ?_
          exact jv_iret 41 X Y rfl dX10_waste_41 (now, metAt, metWho, reason, acts, atp, will, fitting, counts, ring, nxt, wins, ways, nextWays) (by simp [lt_nle, -Int32.not_le, c_1, hcjk, c_2, hcjp, c_3, hcjq, c_4]) rfl
  · refine jv_iconst (v := (-1)) 7 X dX10_waste_7 rfl ?_
    exact jv_iret 8 X Y rfl dX10_waste_8 (now, metAt, metWho, reason, acts, atp, will, fitting, counts, ring, nxt, wins, ways, nextWays) (by simp [lt_nle, -Int32.not_le, c_1]) rfl
theorem c_X10_countDays (E : EE) (l : Launch) (a : Nat → Nat) (book : Nat → Int32) (now : Nat → Int32) (week : Nat → Int32) (sights : Int32) (sight : Nat → Int32) (signs : Int32) (pad : Nat → Int32) (metAt : Int32) (metWho : Int32) (reason : Int32) (acts : Int32) (atp : Int32) (will : Nat → Int32) (fitting : Nat → Int32) (counts : Nat → Int32) (ring : Nat → Int32) (nxt : Nat → Int32) (wins : Nat → Int32) (ways : Nat → Int64) (nextWays : Nat → Int64) (image : Nat → Int32) (isKept : Nat → Int32) (f : Nat) (m : Nat) (lo : Int32) (hi : Int32) (hf : f ≤ m + 1) (hm : m ≤ 60) : CT E l yX10_countDays cX10_countDays 7 (some .int) { frames := 1, cells := 0, slots := 0, locals := 22 } [.ref (a 0), .int (nI f), .int (nI m), .int lo, .int hi] (bMd E a book now week sights sight signs pad metAt metWho reason acts atp will fitting counts ring nxt wins ways nextWays image isKept) (some (.int (nI (ctI will lo hi f (m + 1 - f))))) (bMd E a book now week sights sight signs pad metAt metWho reason acts atp will fitting counts ring nxt wins ways nextWays image isKept) := by
  refine CT.intro (by decide) (Nat.le_of_ble_eq_true rfl) (fun K X Y => ?_)
  refine jv_iconst (v := 0) 0 X dX10_countDays_0 rfl ?_
  refine jv_istore (lv2 := [(5, .int 0), (0, .ref (a 0)), (1, .int (nI f)), (2, .int (nI m)), (3, .int lo), (4, .int hi)]) 1 X dX10_countDays_1 (by decide) rfl ?_
  refine jv_iload_n 3 X dX10_countDays_3 2 rfl ?_
  refine jv_istore (lv2 := [(6, .int (nI f)), (5, .int 0), (0, .ref (a 0)), (1, .int (nI f)), (2, .int (nI m)), (3, .int lo), (4, .int hi)]) 4 X dX10_countDays_4 (by decide) rfl ?_
  have lp6 : ∀ (n6 : Nat) (t c : Nat), (t ≤ m + 1 - f) → (c ≤ t) → (c = itr (ctS will lo hi f) t 0) → m + 1 - f - t < n6 → JV E K 0 0 (bMd E a book now week sights sight signs pad metAt metWho reason acts atp will fitting counts ring nxt wins ways nextWays image isKept) [(0, .ref (a 0)), (1, .int (nI f)), (2, .int (nI m)), (3, .int lo), (4, .int hi), (5, .int (nI c)), (6, .int (nI (f + t)))] 6 [] := by
    intro n6
    induction n6 with
    | zero => intro t c ht hc hI hm; exact absurd hm (Nat.not_lt_zero _)
    | succ n6 ih6 =>
      intro t c ht hc hI hm
      refine jv_iload 6 X dX10_countDays_6 6 rfl ?_
      refine jv_iload_n 8 X dX10_countDays_8 2 rfl ?_
      refine jn_icmp_gt 9 X dX10_countDays_9 44 (by decide) (fun c_1 => ?_) (fun c_1 => ?_)
      · have n_1 : ¬ (f + t) ≤ m := fun zq => c_1 ((nx_le (a := (f + t)) (b := m) rfl rfl (by omega) (by omega)).mpr zq)
        refine jv_iload 44 X dX10_countDays_44 5 rfl ?_
        exact jv_iret 46 X Y rfl dX10_countDays_46 () (congrArg (fun z => some (Value.int z)) (congrArg nI (by rw [hI, show t = m + 1 - f by omega]; rfl))) rfl
      · have n_1 : (f + t) ≤ m := (nx_le (a := (f + t)) (b := m) rfl rfl (by omega) (by omega)).mp c_1
        refine jv_iload 12 X dX10_countDays_12 5 rfl ?_
        refine jv_aload_n 14 X dX10_countDays_14 0 rfl ?_
        refine jv_get (v := .ref (a 6)) 15 X gf_X10_25 dX10_countDays_15 0 rfl rfl ?_
        refine jv_iload 18 X dX10_countDays_18 6 rfl ?_
        refine jv_iald (f := will) 20 X dX10_countDays_20 6 rfl (by decide) (f + t) rfl (by omega) ?_
        refine jv_iload_n 21 X dX10_countDays_21 3 rfl ?_
        refine jv_iload 22 X dX10_countDays_22 4 rfl ?_
        refine jv_fun 24 X (c_X10_in E _ (will (f + t)) lo hi) ws_X10_57 ⟨Nat.le_of_ble_eq_true rfl, Nat.le_of_ble_eq_true rfl⟩ ⟨rfl, rfl⟩ ⟨Nat.zero_le _, Nat.zero_le _⟩ dX10_countDays_24 rfl [.int (nI c)] rfl (Nat.le_of_ble_eq_true rfl) ?_
        refine jv_z_eq 27 X dX10_countDays_27 34 (by decide) (fun c_2 => ?_) (fun c_2 => ?_)
        · refine jv_iconst (v := 0) 34 X dX10_countDays_34 rfl ?_
          refine jv_iadd 35 X dX10_countDays_35 ?_
          refine jv_norm (x2 := nI c) (nx_add2 (a := c) (b := 0) rfl rfl (by omega)) ?_
          refine jv_istore (lv2 := [(5, .int (nI c)), (0, .ref (a 0)), (1, .int (nI f)), (2, .int (nI m)), (3, .int lo), (4, .int hi), (6, .int (nI (f + t)))]) 36 X dX10_countDays_36 (by decide) rfl ?_
          refine jv_iinc (v := (nI ((f + t) + 1))) (lv2 := [(6, .int (nI ((f + t) + 1))), (5, .int (nI c)), (0, .ref (a 0)), (1, .int (nI f)), (2, .int (nI m)), (3, .int lo), (4, .int hi)]) 38 X dX10_countDays_38 6 rfl (nx_inc _) (by decide) rfl ?_
          refine jv_goto 41 X dX10_countDays_41 6 (by decide) ?_
          exact jv_lv [2, 3, 4, 5, 6, 1, 0] rfl (ih6 (t + 1) c (by omega) (by omega) (by rw [itr_s, ← hI, ctS, if_neg c_2]) (by omega))
        · refine jv_iconst (v := 1) 30 X dX10_countDays_30 rfl ?_
          refine jv_goto 31 X dX10_countDays_31 35 (by decide) ?_
          refine jv_iadd 35 X dX10_countDays_35 ?_
          refine jv_norm (x2 := nI (c + 1)) (nx_add2 (a := c) (b := 1) rfl rfl (by omega)) ?_
          refine jv_istore (lv2 := [(5, .int (nI (c + 1))), (0, .ref (a 0)), (1, .int (nI f)), (2, .int (nI m)), (3, .int lo), (4, .int hi), (6, .int (nI (f + t)))]) 36 X dX10_countDays_36 (by decide) rfl ?_
          refine jv_iinc (v := (nI ((f + t) + 1))) (lv2 := [(6, .int (nI ((f + t) + 1))), (5, .int (nI (c + 1))), (0, .ref (a 0)), (1, .int (nI f)), (2, .int (nI m)), (3, .int lo), (4, .int hi)]) 38 X dX10_countDays_38 6 rfl (nx_inc _) (by decide) rfl ?_
          refine jv_goto 41 X dX10_countDays_41 6 (by decide) ?_
          exact jv_lv [2, 3, 4, 5, 6, 1, 0] rfl (ih6 (t + 1) (c + 1) (by omega) (by omega) (by rw [itr_s, ← hI, ctS, if_pos c_2]) (by omega))
  exact jv_lv [2, 3, 4, 5, 6, 1, 0] rfl (lp6 _ 0 0 (by omega) (by omega) rfl (Nat.lt_succ_self _))
theorem c_X10_byLaw (E : EE) (l : Launch) (law : Nat) (day : Int32) (hl : law < 2147483648) : CT E l yX10_byLaw cX10_byLaw 2 (some .int) { frames := 1, cells := 0, slots := 0, locals := 20 } [.int (nI law), .int day] ([]) (some (.int (byL law day))) ([]) := by
  refine CT.intro (by decide) (Nat.le_of_ble_eq_true rfl) (fun K X Y => ?_)
  refine jv_iload_n 0 X dX10_byLaw_0 0 rfl ?_
  refine jv_bipush (v := 100) 1 X dX10_byLaw_1 (by decide) ?_
  refine jv_idiv 3 X dX10_byLaw_3 (by decide) ?_
  refine jv_norm (x2 := nI (law / 100)) (nx_div (a := law) (b := 100) rfl rfl (by omega) (by omega) (by omega)) ?_
  refine jv_iload_n 4 X dX10_byLaw_4 0 rfl ?_
  refine jv_bipush (v := 100) 5 X dX10_byLaw_5 (by decide) ?_
  refine jv_irem 7 X dX10_byLaw_7 (by decide) ?_
  refine jv_norm (x2 := nI (law % 100)) (nx_rem (a := law) (b := 100) rfl rfl (by omega) (by omega) (by omega)) ?_
  refine jv_bipush (v := 9) 8 X dX10_byLaw_8 (by decide) ?_
  refine jv_isub 10 X dX10_byLaw_10 ?_
  refine jv_iload_n 11 X dX10_byLaw_11 1 rfl ?_
  refine jv_imul 12 X dX10_byLaw_12 ?_
  refine jv_iadd 13 X dX10_byLaw_13 ?_
  refine jv_fun 14 X (c_X10_clamp E _ ((nI (law / 100)) + (((nI (law % 100)) - 9) * day))) ws_X10_97 ⟨Nat.le_of_ble_eq_true rfl, Nat.le_of_ble_eq_true rfl⟩ ⟨rfl, rfl⟩ ⟨Nat.zero_le _, Nat.zero_le _⟩ dX10_byLaw_14 rfl [] rfl (Nat.le_of_ble_eq_true rfl) ?_
  exact jv_iret 17 X Y rfl dX10_byLaw_17 () (by simp [byL, lt_nle, -Int32.not_le]) rfl
theorem c_X10_isLaw (E : EE) (l : Launch) (a : Nat → Nat) (book : Nat → Int32) (now : Nat → Int32) (week : Nat → Int32) (sk : Nat) (sight : Nat → Int32) (signs : Int32) (pad : Nat → Int32) (metAt : Int32) (metWho : Int32) (reason : Int32) (acts : Int32) (atp : Int32) (will : Nat → Int32) (fitting : Nat → Int32) (counts : Nat → Int32) (ring : Nat → Int32) (nxt : Nat → Int32) (wins : Nat → Int32) (ways : Nat → Int64) (nextWays : Nat → Int64) (image : Nat → Int32) (isKept : Nat → Int32) (law : Nat) (hl1 : 100 ≤ law) (hl2 : law < 20100) (hs : sk ≤ 8) : CT E l yX10_isLaw cX10_isLaw 4 (some .boolean) { frames := 2, cells := 0, slots := 0, locals := 41 } [.ref (a 0), .int (nI law)] (bMd E a book now week (nI sk) sight signs pad metAt metWho reason acts atp will fitting counts ring nxt wins ways nextWays image isKept) (some (.int (zI (isL sight sk law = true)))) (bMd E a book now week (nI sk) sight signs pad metAt metWho reason acts atp will fitting counts ring nxt wins ways nextWays image isKept) := by
  refine CT.intro (by decide) (Nat.le_of_ble_eq_true rfl) (fun K X Y => ?_)
  refine jv_iload_n 0 X dX10_isLaw_0 1 rfl ?_
  refine jv_bipush (v := 100) 1 X dX10_isLaw_1 (by decide) ?_
  refine jv_idiv 3 X dX10_isLaw_3 (by decide) ?_
  refine jv_norm (x2 := nI (law / 100)) (nx_div (a := law) (b := 100) rfl rfl (by omega) (by omega) (by omega)) ?_
  refine jv_iconst (v := 1) 4 X dX10_isLaw_4 rfl ?_
  refine jv_sipush (v := 200) 5 X dX10_isLaw_5 (by decide) ?_
  refine jv_fun 8 X (c_X10_in E _ (nI (law / 100)) 1 200) ws_X10_57 ⟨Nat.le_of_ble_eq_true rfl, Nat.le_of_ble_eq_true rfl⟩ ⟨rfl, rfl⟩ ⟨Nat.zero_le _, Nat.zero_le _⟩ dX10_isLaw_8 rfl [] rfl (Nat.le_of_ble_eq_true rfl) ?_
  refine jv_z_eq 11 X dX10_isLaw_11 27 (by decide) (fun c_1 => absurd ⟨(nx_le (a := 1) rfl rfl (by omega) (by omega)).mpr (by omega), (nx_le (b := 200) rfl rfl (by omega) (by omega)).mpr (by omega)⟩ c_1) (fun c_1 => ?_)
  refine jv_iload_n 14 X dX10_isLaw_14 1 rfl ?_
  refine jv_bipush (v := 100) 15 X dX10_isLaw_15 (by decide) ?_
  refine jv_irem 17 X dX10_isLaw_17 (by decide) ?_
  refine jv_norm (x2 := nI (law % 100)) (nx_rem (a := law) (b := 100) rfl rfl (by omega) (by omega) (by omega)) ?_
  refine jv_bipush (v := 19) 18 X dX10_isLaw_18 (by decide) ?_
  refine jn_icmp_ge 20 X dX10_isLaw_20 27 (by decide) (fun c_2 => ?_) (fun c_2 => ?_)
  · have n_2 : 19 ≤ (law % 100) := (nx_le (a := 19) (b := (law % 100)) rfl rfl (by omega) (by omega)).mp c_2
    refine jv_iconst (v := 0) 27 X dX10_isLaw_27 rfl ?_
    refine jv_istore_n (lv2 := [(2, .int 0), (0, .ref (a 0)), (1, .int (nI law))]) 28 X dX10_isLaw_28 (by decide) rfl ?_
    refine jv_iconst (v := 0) 29 X dX10_isLaw_29 rfl ?_
    refine jv_istore_n (lv2 := [(3, .int 0), (2, .int 0), (0, .ref (a 0)), (1, .int (nI law))]) 30 X dX10_isLaw_30 (by decide) rfl ?_
    have lp31 : ∀ (n31 : Nat) (i : Nat) (al : Int32), (i ≤ sk) → (al = zI ((decide (law % 100 < 19) && allB (isF sight law) i) = true)) → sk - i < n31 → JV E K 0 0 (bMd E a book now week (nI sk) sight signs pad metAt metWho reason acts atp will fitting counts ring nxt wins ways nextWays image isKept) [(0, .ref (a 0)), (1, .int (nI law)), (2, .int al), (3, .int (nI i))] 31 [] := by
      intro n31
      induction n31 with
      | zero => intro i al hi hal hm; exact absurd hm (Nat.not_lt_zero _)
      | succ n31 ih31 =>
        intro i al hi hal hm
        refine jv_iload_n 31 X dX10_isLaw_31 3 rfl ?_
        refine jv_aload_n 32 X dX10_isLaw_32 0 rfl ?_
        refine jv_get (v := .int (nI sk)) 33 X gf_X10_167 dX10_isLaw_33 0 rfl rfl ?_
        refine jn_icmp_ge 36 X dX10_isLaw_36 80 (by decide) (fun c_3 => ?_) (fun c_3 => ?_)
        · have n_3 : sk ≤ i := (nx_le (a := sk) (b := i) rfl rfl (by omega) (by omega)).mp c_3
          refine jv_iload_n 80 X dX10_isLaw_80 2 rfl ?_
          exact jv_zret 81 X Y rfl (hal ▸ zI_n) dX10_isLaw_81 () (congrArg (fun z => some (Value.int z)) (by unfold isL; rw [hal, show i = sk by omega])) rfl
        · have n_3 : ¬ sk ≤ i := fun zq => c_3 ((nx_le (a := sk) (b := i) rfl rfl (by omega) (by omega)).mpr zq)
          refine jv_iload_n 39 X dX10_isLaw_39 2 rfl ?_
          refine jn_if_eq 40 X dX10_isLaw_40 80 (by decide) (fun c_4 => ?_) (fun c_4 => ?_)
          · have hal2 : ¬ (decide (law % 100 < 19) && allB (isF sight law) i) = true := zI_0.mp (hal ▸ c_4)
            refine jv_iload_n 80 X dX10_isLaw_80 2 rfl ?_
            exact jv_zret 81 X Y rfl (hal ▸ zI_n) dX10_isLaw_81 () (congrArg (fun z => some (Value.int z)) (by unfold isL; rw [hal, zI_f hal2, zI_f]; intro z; exact hal2 (by rw [Bool.and_eq_true] at z ⊢; exact ⟨z.1, allB_iff.mpr fun j hj => allB_iff.mp z.2 j (by omega)⟩))) rfl
          · have hal2 : (decide (law % 100 < 19) && allB (isF sight law) i) = true := Classical.byContradiction fun z => c_4 (hal.trans (zI_f z))
            refine jv_iload_n 43 X dX10_isLaw_43 1 rfl ?_
            refine jv_aload_n 44 X dX10_isLaw_44 0 rfl ?_
            refine jv_get (v := .ref (a 4)) 45 X gf_X10_19 dX10_isLaw_45 0 rfl rfl ?_
            refine jv_iconst (v := 2) 48 X dX10_isLaw_48 rfl ?_
            refine jv_iload_n 49 X dX10_isLaw_49 3 rfl ?_
            refine jv_imul 50 X dX10_isLaw_50 ?_
            refine jv_norm (x2 := nI (2 * i)) (nx_mul (a := 2) (b := i) rfl rfl) ?_
            refine jv_iald (f := sight) 51 X dX10_isLaw_51 4 rfl (by decide) (2 * i) rfl (by omega) ?_
            refine jv_fun 52 X (c_X10_byLaw E _ law (sight (2 * i)) (by omega)) ws_X10_170 ⟨Nat.le_of_ble_eq_true rfl, Nat.le_of_ble_eq_true rfl⟩ ⟨rfl, rfl⟩ ⟨Nat.zero_le _, Nat.zero_le _⟩ dX10_isLaw_52 rfl [] rfl (Nat.le_of_ble_eq_true rfl) ?_
            refine jv_aload_n 55 X dX10_isLaw_55 0 rfl ?_
            refine jv_get (v := .ref (a 4)) 56 X gf_X10_19 dX10_isLaw_56 0 rfl rfl ?_
            refine jv_iconst (v := 2) 59 X dX10_isLaw_59 rfl ?_
            refine jv_iload_n 60 X dX10_isLaw_60 3 rfl ?_
            refine jv_imul 61 X dX10_isLaw_61 ?_
            refine jv_norm (x2 := nI (2 * i)) (nx_mul (a := 2) (b := i) rfl rfl) ?_
            refine jv_iconst (v := 1) 62 X dX10_isLaw_62 rfl ?_
            refine jv_iadd 63 X dX10_isLaw_63 ?_
            refine jv_norm (x2 := nI ((2 * i) + 1)) (nx_add2 (a := (2 * i)) (b := 1) rfl rfl (by omega)) ?_
            refine jv_iald (f := sight) 64 X dX10_isLaw_64 4 rfl (by decide) ((2 * i) + 1) rfl (by omega) ?_
            refine jn_icmp_ne 65 X dX10_isLaw_65 72 (by decide) (fun c_5 => ?_) (fun c_5 => ?_)
            · refine jv_iconst (v := 0) 72 X dX10_isLaw_72 rfl ?_
              refine jv_istore_n (lv2 := [(2, .int 0), (0, .ref (a 0)), (1, .int (nI law)), (3, .int (nI i))]) 73 X dX10_isLaw_73 (by decide) rfl ?_
              refine jv_iinc (v := (nI (i + 1))) (lv2 := [(3, .int (nI (i + 1))), (2, .int 0), (0, .ref (a 0)), (1, .int (nI law))]) 74 X dX10_isLaw_74 3 rfl (nx_inc _) (by decide) rfl ?_
              refine jv_goto 77 X dX10_isLaw_77 31 (by decide) ?_
              exact jv_lv [2, 3, 1, 0] rfl (ih31 (i + 1) 0 (by omega) (by rw [zI_f]; rw [allB, ← Bool.and_assoc, hal2, Bool.true_and]; intro z; exact c_5 (of_decide_eq_true z)) (by omega))
            · refine jv_iconst (v := 1) 68 X dX10_isLaw_68 rfl ?_
              refine jv_goto 69 X dX10_isLaw_69 73 (by decide) ?_
              refine jv_istore_n (lv2 := [(2, .int 1), (0, .ref (a 0)), (1, .int (nI law)), (3, .int (nI i))]) 73 X dX10_isLaw_73 (by decide) rfl ?_
              refine jv_iinc (v := (nI (i + 1))) (lv2 := [(3, .int (nI (i + 1))), (2, .int 1), (0, .ref (a 0)), (1, .int (nI law))]) 74 X dX10_isLaw_74 3 rfl (nx_inc _) (by decide) rfl ?_
              refine jv_goto 77 X dX10_isLaw_77 31 (by decide) ?_
              exact jv_lv [2, 3, 1, 0] rfl (ih31 (i + 1) 1 (by omega) (by rw [zI_t]; rw [allB, ← Bool.and_assoc, hal2, Bool.true_and]; exact decide_eq_true c_5) (by omega))
    exact jv_lv [2, 3, 1, 0] rfl (lp31 _ 0 0 (by omega) (by rw [zI_f]; rw [allB, Bool.and_true]; intro z; exact absurd (of_decide_eq_true z) (by omega)) (Nat.lt_succ_self _))
  · have n_2 : ¬ 19 ≤ (law % 100) := fun zq => c_2 ((nx_le (a := 19) (b := (law % 100)) rfl rfl (by omega) (by omega)).mpr zq)
    refine jv_iconst (v := 1) 23 X dX10_isLaw_23 rfl ?_
    refine jv_goto 24 X dX10_isLaw_24 28 (by decide) ?_
    refine jv_istore_n (lv2 := [(2, .int 1), (0, .ref (a 0)), (1, .int (nI law))]) 28 X dX10_isLaw_28 (by decide) rfl ?_
    refine jv_iconst (v := 0) 29 X dX10_isLaw_29 rfl ?_
    refine jv_istore_n (lv2 := [(3, .int 0), (2, .int 1), (0, .ref (a 0)), (1, .int (nI law))]) 30 X dX10_isLaw_30 (by decide) rfl ?_
    have lp31 : ∀ (n31 : Nat) (i : Nat) (al : Int32), (i ≤ sk) → (al = zI ((decide (law % 100 < 19) && allB (isF sight law) i) = true)) → sk - i < n31 → JV E K 0 0 (bMd E a book now week (nI sk) sight signs pad metAt metWho reason acts atp will fitting counts ring nxt wins ways nextWays image isKept) [(0, .ref (a 0)), (1, .int (nI law)), (2, .int al), (3, .int (nI i))] 31 [] := by
      intro n31
      induction n31 with
      | zero => intro i al hi hal hm; exact absurd hm (Nat.not_lt_zero _)
      | succ n31 ih31 =>
        intro i al hi hal hm
        refine jv_iload_n 31 X dX10_isLaw_31 3 rfl ?_
        refine jv_aload_n 32 X dX10_isLaw_32 0 rfl ?_
        refine jv_get (v := .int (nI sk)) 33 X gf_X10_167 dX10_isLaw_33 0 rfl rfl ?_
        refine jn_icmp_ge 36 X dX10_isLaw_36 80 (by decide) (fun c_6 => ?_) (fun c_6 => ?_)
        · have n_6 : sk ≤ i := (nx_le (a := sk) (b := i) rfl rfl (by omega) (by omega)).mp c_6
          refine jv_iload_n 80 X dX10_isLaw_80 2 rfl ?_
          exact jv_zret 81 X Y rfl (hal ▸ zI_n) dX10_isLaw_81 () (congrArg (fun z => some (Value.int z)) (by unfold isL; rw [hal, show i = sk by omega])) rfl
        · have n_6 : ¬ sk ≤ i := fun zq => c_6 ((nx_le (a := sk) (b := i) rfl rfl (by omega) (by omega)).mpr zq)
          refine jv_iload_n 39 X dX10_isLaw_39 2 rfl ?_
          refine jn_if_eq 40 X dX10_isLaw_40 80 (by decide) (fun c_7 => ?_) (fun c_7 => ?_)
          · have hal2 : ¬ (decide (law % 100 < 19) && allB (isF sight law) i) = true := zI_0.mp (hal ▸ c_7)
            refine jv_iload_n 80 X dX10_isLaw_80 2 rfl ?_
            exact jv_zret 81 X Y rfl (hal ▸ zI_n) dX10_isLaw_81 () (congrArg (fun z => some (Value.int z)) (by unfold isL; rw [hal, zI_f hal2, zI_f]; intro z; exact hal2 (by rw [Bool.and_eq_true] at z ⊢; exact ⟨z.1, allB_iff.mpr fun j hj => allB_iff.mp z.2 j (by omega)⟩))) rfl
          · have hal2 : (decide (law % 100 < 19) && allB (isF sight law) i) = true := Classical.byContradiction fun z => c_7 (hal.trans (zI_f z))
            refine jv_iload_n 43 X dX10_isLaw_43 1 rfl ?_
            refine jv_aload_n 44 X dX10_isLaw_44 0 rfl ?_
            refine jv_get (v := .ref (a 4)) 45 X gf_X10_19 dX10_isLaw_45 0 rfl rfl ?_
            refine jv_iconst (v := 2) 48 X dX10_isLaw_48 rfl ?_
            refine jv_iload_n 49 X dX10_isLaw_49 3 rfl ?_
            refine jv_imul 50 X dX10_isLaw_50 ?_
            refine jv_norm (x2 := nI (2 * i)) (nx_mul (a := 2) (b := i) rfl rfl) ?_
            refine jv_iald (f := sight) 51 X dX10_isLaw_51 4 rfl (by decide) (2 * i) rfl (by omega) ?_
            refine jv_fun 52 X (c_X10_byLaw E _ law (sight (2 * i)) (by omega)) ws_X10_170 ⟨Nat.le_of_ble_eq_true rfl, Nat.le_of_ble_eq_true rfl⟩ ⟨rfl, rfl⟩ ⟨Nat.zero_le _, Nat.zero_le _⟩ dX10_isLaw_52 rfl [] rfl (Nat.le_of_ble_eq_true rfl) ?_
            refine jv_aload_n 55 X dX10_isLaw_55 0 rfl ?_
            refine jv_get (v := .ref (a 4)) 56 X gf_X10_19 dX10_isLaw_56 0 rfl rfl ?_
            refine jv_iconst (v := 2) 59 X dX10_isLaw_59 rfl ?_
            refine jv_iload_n 60 X dX10_isLaw_60 3 rfl ?_
            refine jv_imul 61 X dX10_isLaw_61 ?_
            refine jv_norm (x2 := nI (2 * i)) (nx_mul (a := 2) (b := i) rfl rfl) ?_
            refine jv_iconst (v := 1) 62 X dX10_isLaw_62 rfl ?_
            refine jv_iadd 63 X dX10_isLaw_63 ?_
            refine jv_norm (x2 := nI ((2 * i) + 1)) (nx_add2 (a := (2 * i)) (b := 1) rfl rfl (by omega)) ?_
            refine jv_iald (f := sight) 64 X dX10_isLaw_64 4 rfl (by decide) ((2 * i) + 1) rfl (by omega) ?_
            refine jn_icmp_ne 65 X dX10_isLaw_65 72 (by decide) (fun c_8 => ?_) (fun c_8 => ?_)
            · refine jv_iconst (v := 0) 72 X dX10_isLaw_72 rfl ?_
              refine jv_istore_n (lv2 := [(2, .int 0), (0, .ref (a 0)), (1, .int (nI law)), (3, .int (nI i))]) 73 X dX10_isLaw_73 (by decide) rfl ?_
              refine jv_iinc (v := (nI (i + 1))) (lv2 := [(3, .int (nI (i + 1))), (2, .int 0), (0, .ref (a 0)), (1, .int (nI law))]) 74 X dX10_isLaw_74 3 rfl (nx_inc _) (by decide) rfl ?_
              refine jv_goto 77 X dX10_isLaw_77 31 (by decide) ?_
              exact jv_lv [2, 3, 1, 0] rfl (ih31 (i + 1) 0 (by omega) (by rw [zI_f]; rw [allB, ← Bool.and_assoc, hal2, Bool.true_and]; intro z; exact c_8 (of_decide_eq_true z)) (by omega))
            · refine jv_iconst (v := 1) 68 X dX10_isLaw_68 rfl ?_
              refine jv_goto 69 X dX10_isLaw_69 73 (by decide) ?_
              refine jv_istore_n (lv2 := [(2, .int 1), (0, .ref (a 0)), (1, .int (nI law)), (3, .int (nI i))]) 73 X dX10_isLaw_73 (by decide) rfl ?_
              refine jv_iinc (v := (nI (i + 1))) (lv2 := [(3, .int (nI (i + 1))), (2, .int 1), (0, .ref (a 0)), (1, .int (nI law))]) 74 X dX10_isLaw_74 3 rfl (nx_inc _) (by decide) rfl ?_
              refine jv_goto 77 X dX10_isLaw_77 31 (by decide) ?_
              exact jv_lv [2, 3, 1, 0] rfl (ih31 (i + 1) 1 (by omega) (by rw [zI_t]; rw [allB, ← Bool.and_assoc, hal2, Bool.true_and]; exact decide_eq_true c_8) (by omega))
    exact jv_lv [2, 3, 1, 0] rfl (lp31 _ 0 1 (by omega) (by rw [zI_t]; rw [allB, Bool.and_true]; exact decide_eq_true (by omega)) (Nat.lt_succ_self _))
theorem c_X10_fits (E : EE) (l : Launch) (a : Nat → Nat) (book : Nat → Int32) (now : Nat → Int32) (week : Nat → Int32) (sk : Nat) (sight : Nat → Int32) (signs : Int32) (pad : Nat → Int32) (metAt : Int32) (metWho : Int32) (reason : Int32) (acts : Int32) (atp : Int32) (will : Nat → Int32) (fitting : Nat → Int32) (counts : Nat → Int32) (ring : Nat → Int32) (nxt : Nat → Int32) (wins : Nat → Int32) (ways : Nat → Int64) (nextWays : Nat → Int64) (image : Nat → Int32) (isKept : Nat → Int32) (i : Int32) (hs : sk ≤ 8) : CG E l yX10_fits cX10_fits 4 (some .int) { frames := 3, cells := 0, slots := 0, locals := 64 } [.ref (a 0), .int i] (bMd E a book now week (nI sk) sight signs pad metAt metWho reason acts atp will fitting counts ring nxt wins ways nextWays image isKept) noB (fun _ : ScrM => some (.int (fiM sight sk i))) (fun u : ScrM => bMd E a book u.1 week (nI sk) sight signs pad u.2.1 u.2.2.1 u.2.2.2.1 u.2.2.2.2.1 u.2.2.2.2.2.1 u.2.2.2.2.2.2.1 u.2.2.2.2.2.2.2.1 u.2.2.2.2.2.2.2.2.1 u.2.2.2.2.2.2.2.2.2.1 u.2.2.2.2.2.2.2.2.2.2.1 u.2.2.2.2.2.2.2.2.2.2.2.1 u.2.2.2.2.2.2.2.2.2.2.2.2.1 u.2.2.2.2.2.2.2.2.2.2.2.2.2 image isKept) := by
  refine CG.intro (by decide) (Nat.le_of_ble_eq_true rfl) (fun K X Y _ _ _ => ?_)
  refine jv_iconst (v := 0) 0 X dX10_fits_0 rfl ?_
  refine jv_istore_n (lv2 := [(2, .int 0), (0, .ref (a 0)), (1, .int i)]) 1 X dX10_fits_1 (by decide) rfl ?_
  refine jv_bipush (v := 100) 2 X dX10_fits_2 (by decide) ?_
  refine jv_istore_n (lv2 := [(3, .int 100), (2, .int 0), (0, .ref (a 0)), (1, .int i)]) 4 X dX10_fits_4 (by decide) rfl ?_
  have lp5 : ∀ (n5 : Nat) (t n : Nat), (t ≤ 20000) → (n ≤ t) → (itE (fiS sight sk i) 20000 0 0 = itE (fiS sight sk i) (20000 - t) t n) → 20000 - t < n5 → JV E K 0 0 (bMd E a book now week (nI sk) sight signs pad metAt metWho reason acts atp will fitting counts ring nxt wins ways nextWays image isKept) [(0, .ref (a 0)), (1, .int i), (2, .int (nI n)), (3, .int (nI (100 + t)))] 5 [] := by
    intro n5
    induction n5 with
    | zero => intro t n ht hn hI hm; exact absurd hm (Nat.not_lt_zero _)
    | succ n5 ih5 =>
      intro t n ht hn hI hm
      refine jv_iload_n 5 X dX10_fits_5 3 rfl ?_
      refine jv_sipush (v := 20100) 6 X dX10_fits_6 (by decide) ?_
      refine jn_icmp_ge 9 X dX10_fits_9 36 (by decide) (fun c_1 => ?_) (fun c_1 => ?_)
      · have n_1 : 20100 ≤ (100 + t) := (nx_le (a := 20100) (b := (100 + t)) rfl rfl (by omega) (by omega)).mp c_1
        refine jv_iload_n 36 X dX10_fits_36 1 rfl ?_
        refine jv_iconst (v := (-1)) 37 X dX10_fits_37 rfl ?_
        refine jn_icmp_ne 38 X dX10_fits_38 45 (by decide) (fun c_2 => ?_) (fun c_2 => ?_)
        · refine jv_bipush (v := (-6)) 45 X dX10_fits_45 (by decide) ?_
          exact jv_iret 47 X Y rfl dX10_fits_47 (now, metAt, metWho, reason, acts, atp, will, fitting, counts, ring, nxt, wins, ways, nextWays) (congrArg (fun z => some (Value.int z)) (by unfold fiM; rw [hI, show 20000 - t = 0 by omega, itE_0]; exact (if_neg c_2).symm)) rfl
        · refine jv_iload_n 41 X dX10_fits_41 2 rfl ?_
          refine jv_goto 42 X dX10_fits_42 47 (by decide) ?_
          exact jv_iret 47 X Y rfl dX10_fits_47 (now, metAt, metWho, reason, acts, atp, will, fitting, counts, ring, nxt, wins, ways, nextWays) (congrArg (fun z => some (Value.int z)) (by unfold fiM; rw [hI, show 20000 - t = 0 by omega, itE_0]; exact (if_pos c_2).symm)) rfl
      · have n_1 : ¬ 20100 ≤ (100 + t) := fun zq => c_1 ((nx_le (a := 20100) (b := (100 + t)) rfl rfl (by omega) (by omega)).mpr zq)
        refine jv_aload_n 12 X dX10_fits_12 0 rfl ?_
        refine jv_iload_n 13 X dX10_fits_13 3 rfl ?_
        refine jv_callW (w1 := bMd E a book now week (nI sk) sight signs pad metAt metWho reason acts atp will fitting counts ring nxt wins ways nextWays image isKept) 14 X (c_X10_isLaw E _ a book now week sk sight signs pad metAt metWho reason acts atp will fitting counts ring nxt wins ways nextWays image isKept (100 + t) (by omega) (by omega) hs) wv_X10_173 ⟨Nat.le_of_ble_eq_true rfl, Nat.le_of_ble_eq_true rfl⟩ ⟨rfl, rfl⟩ ⟨Nat.zero_le _, Nat.zero_le _⟩ dX10_fits_14 rfl [] rfl (Nat.le_of_ble_eq_true rfl) 0 rfl rfl ?_
        refine jv_z_eq 17 X dX10_fits_17 30 (by decide) (fun c_3 => ?_) (fun c_3 => ?_)
        · refine jv_iinc (v := (nI ((100 + t) + 1))) (lv2 := [(3, .int (nI ((100 + t) + 1))), (0, .ref (a 0)), (1, .int i), (2, .int (nI n))]) 30 X dX10_fits_30 3 rfl (nx_inc _) (by decide) rfl ?_
          refine jv_goto 33 X dX10_fits_33 5 (by decide) ?_
          exact jv_lv [1, 2, 3, 0] rfl (ih5 (t + 1) n (by omega) (by omega) (by rw [hI, show 20000 - t = (20000 - (t + 1)) + 1 by omega]; exact itE_r (by rw [fiS, if_neg c_3])) (by omega))
        · refine jv_iload_n 20 X dX10_fits_20 2 rfl ?_
          refine jv_iload_n 21 X dX10_fits_21 1 rfl ?_
          refine jn_icmp_ne 22 X dX10_fits_22 27 (by decide) (fun c_4 => ?_) (fun c_4 => ?_)
          · refine jv_iinc (v := (nI (n + 1))) (lv2 := [(2, .int (nI (n + 1))), (0, .ref (a 0)), (1, .int i), (3, .int (nI (100 + t)))]) 27 X dX10_fits_27 2 rfl (nx_inc _) (by decide) rfl ?_
            refine jv_iinc (v := (nI ((100 + t) + 1))) (lv2 := [(3, .int (nI ((100 + t) + 1))), (2, .int (nI (n + 1))), (0, .ref (a 0)), (1, .int i)]) 30 X dX10_fits_30 3 rfl (nx_inc _) (by decide) rfl ?_
            refine jv_goto 33 X dX10_fits_33 5 (by decide) ?_
            exact jv_lv [2, 3, 1, 0] rfl (ih5 (t + 1) (n + 1) (by omega) (by omega) (by rw [hI, show 20000 - t = (20000 - (t + 1)) + 1 by omega]; exact itE_r (by rw [fiS, if_pos c_3, if_neg c_4])) (by omega))
          · refine jv_iload_n 25 X dX10_fits_25 3 rfl ?_
            exact jv_iret 26 X Y rfl dX10_fits_26 (now, metAt, metWho, reason, acts, atp, will, fitting, counts, ring, nxt, wins, ways, nextWays) (congrArg (fun z => some (Value.int z)) (by unfold fiM; rw [hI, show 20000 - t = (20000 - (t + 1)) + 1 by omega, itE_l (show fiS sight sk i t n = .inl (nI (100 + t)) by rw [fiS, if_pos c_3, if_pos c_4])])) rfl
  exact jv_lv [2, 3, 1, 0] rfl (lp5 _ 0 0 (by omega) (by omega) rfl (Nat.lt_succ_self _))
