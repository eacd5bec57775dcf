section Norm
variable {E : EE} {K : Ctx} {cells slots : Nat} {ws : va_W} {lv : List (Nat × Value)} {rest : List Value} {cc : ByteArray} {nL : Nat} {own : String} {rm : Room}
theorem jv_norm {pc : Nat} {x x2 : Int32} (h : x = x2) (k : JV E K cells slots ws lv pc (.int x2 :: rest)) : JV E K cells slots ws lv pc (.int x :: rest) := h ▸ k
theorem jv_norml {pc : Nat} {x x2 : Int64} (h : x = x2) (k : JV E K cells slots ws lv pc (.long x2 :: rest)) : JV E K cells slots ws lv pc (.long x :: rest) := h ▸ k
theorem jn_if_lt (pc : Nat) (X : CX E K cc nL own rm) {x : Int32} {off : Int} (d : decode cc pc = .ok (.ifCond .lt off, 3)) (tgt : Nat) (ht : (pc : Int) + off = (tgt : Int)) (kt : ¬ 0 ≤ x → JV E K cells slots ws lv tgt rest) (kf : 0 ≤ x → JV E K cells slots ws lv (pc + 3) rest) : JV E K cells slots ws lv pc (.int x :: rest) := jv_if_lt pc X d tgt ht (fun c => kt (Int32.not_le.mpr c)) (fun c => kf (Int32.not_lt.mp c))
theorem jn_icmp_lt (pc : Nat) (X : CX E K cc nL own rm) {x y : Int32} {off : Int} (d : decode cc pc = .ok (.if_icmp .lt off, 3)) (tgt : Nat) (ht : (pc : Int) + off = (tgt : Int)) (kt : ¬ y ≤ x → JV E K cells slots ws lv tgt rest) (kf : y ≤ x → JV E K cells slots ws lv (pc + 3) rest) : JV E K cells slots ws lv pc (.int y :: .int x :: rest) := jv_icmp_lt pc X d tgt ht (fun c => kt (Int32.not_le.mpr c)) (fun c => kf (Int32.not_lt.mp c))
theorem jn_if_gt (pc : Nat) (X : CX E K cc nL own rm) {x : Int32} {off : Int} (d : decode cc pc = .ok (.ifCond .gt off, 3)) (tgt : Nat) (ht : (pc : Int) + off = (tgt : Int)) (kt : ¬ x ≤ 0 → JV E K cells slots ws lv tgt rest) (kf : x ≤ 0 → JV E K cells slots ws lv (pc + 3) rest) : JV E K cells slots ws lv pc (.int x :: rest) := jv_if_gt pc X d tgt ht (fun c => kt (Int32.not_le.mpr c)) (fun c => kf (Int32.not_lt.mp c))
theorem jn_icmp_gt (pc : Nat) (X : CX E K cc nL own rm) {x y : Int32} {off : Int} (d : decode cc pc = .ok (.if_icmp .gt off, 3)) (tgt : Nat) (ht : (pc : Int) + off = (tgt : Int)) (kt : ¬ x ≤ y → JV E K cells slots ws lv tgt rest) (kf : x ≤ y → JV E K cells slots ws lv (pc + 3) rest) : JV E K cells slots ws lv pc (.int y :: .int x :: rest) := jv_icmp_gt pc X d tgt ht (fun c => kt (Int32.not_le.mpr c)) (fun c => kf (Int32.not_lt.mp c))
theorem jn_if_eq (pc : Nat) (X : CX E K cc nL own rm) {x : Int32} {off : Int} (d : decode cc pc = .ok (.ifCond .eq off, 3)) (tgt : Nat) (ht : (pc : Int) + off = (tgt : Int)) (kt : x = 0 → JV E K cells slots ws lv tgt rest) (kf : ¬ x = 0 → JV E K cells slots ws lv (pc + 3) rest) : JV E K cells slots ws lv pc (.int x :: rest) := jv_if_eq pc X d tgt ht kt kf
theorem jn_icmp_eq (pc : Nat) (X : CX E K cc nL own rm) {x y : Int32} {off : Int} (d : decode cc pc = .ok (.if_icmp .eq off, 3)) (tgt : Nat) (ht : (pc : Int) + off = (tgt : Int)) (kt : x = y → JV E K cells slots ws lv tgt rest) (kf : ¬ x = y → JV E K cells slots ws lv (pc + 3) rest) : JV E K cells slots ws lv pc (.int y :: .int x :: rest) := jv_icmp_eq pc X d tgt ht kt kf
theorem jn_if_ne (pc : Nat) (X : CX E K cc nL own rm) {x : Int32} {off : Int} (d : decode cc pc = .ok (.ifCond .ne off, 3)) (tgt : Nat) (ht : (pc : Int) + off = (tgt : Int)) (kt : ¬ x = 0 → JV E K cells slots ws lv tgt rest) (kf : x = 0 → JV E K cells slots ws lv (pc + 3) rest) : JV E K cells slots ws lv pc (.int x :: rest) := jv_if_ne pc X d tgt ht kt kf
theorem jn_icmp_ne (pc : Nat) (X : CX E K cc nL own rm) {x y : Int32} {off : Int} (d : decode cc pc = .ok (.if_icmp .ne off, 3)) (tgt : Nat) (ht : (pc : Int) + off = (tgt : Int)) (kt : ¬ x = y → JV E K cells slots ws lv tgt rest) (kf : x = y → JV E K cells slots ws lv (pc + 3) rest) : JV E K cells slots ws lv pc (.int y :: .int x :: rest) := jv_icmp_ne pc X d tgt ht kt kf
theorem jn_if_ge (pc : Nat) (X : CX E K cc nL own rm) {x : Int32} {off : Int} (d : decode cc pc = .ok (.ifCond .ge off, 3)) (tgt : Nat) (ht : (pc : Int) + off = (tgt : Int)) (kt : 0 ≤ x → JV E K cells slots ws lv tgt rest) (kf : ¬ 0 ≤ x → JV E K cells slots ws lv (pc + 3) rest) : JV E K cells slots ws lv pc (.int x :: rest) := jv_if_ge pc X d tgt ht kt kf
theorem jn_icmp_ge (pc : Nat) (X : CX E K cc nL own rm) {x y : Int32} {off : Int} (d : decode cc pc = .ok (.if_icmp .ge off, 3)) (tgt : Nat) (ht : (pc : Int) + off = (tgt : Int)) (kt : y ≤ x → JV E K cells slots ws lv tgt rest) (kf : ¬ y ≤ x → JV E K cells slots ws lv (pc + 3) rest) : JV E K cells slots ws lv pc (.int y :: .int x :: rest) := jv_icmp_ge pc X d tgt ht kt kf
theorem jn_if_le (pc : Nat) (X : CX E K cc nL own rm) {x : Int32} {off : Int} (d : decode cc pc = .ok (.ifCond .le off, 3)) (tgt : Nat) (ht : (pc : Int) + off = (tgt : Int)) (kt : x ≤ 0 → JV E K cells slots ws lv tgt rest) (kf : ¬ x ≤ 0 → JV E K cells slots ws lv (pc + 3) rest) : JV E K cells slots ws lv pc (.int x :: rest) := jv_if_le pc X d tgt ht kt kf
theorem jn_icmp_le (pc : Nat) (X : CX E K cc nL own rm) {x y : Int32} {off : Int} (d : decode cc pc = .ok (.if_icmp .le off, 3)) (tgt : Nat) (ht : (pc : Int) + off = (tgt : Int)) (kt : x ≤ y → JV E K cells slots ws lv tgt rest) (kf : ¬ x ≤ y → JV E K cells slots ws lv (pc + 3) rest) : JV E K cells slots ws lv pc (.int y :: .int x :: rest) := jv_icmp_le pc X d tgt ht kt kf
end Norm
theorem lt_nle {a b : Int32} : a < b ↔ ¬ b ≤ a := Int32.not_le.symm
theorem nx_add2 {x y : Int32} {a b c : Nat} (hx : x = nI a) (hy : y = nI b) (h : c = a + b) : x + y = nI c := by rw [h]; exact nx_add hx hy
theorem nx_sub2 {x y : Int32} {a b c : Nat} (hx : x = nI a) (hy : y = nI b) (h : a = c + b) : x - y = nI c := by rw [nx_sub hx hy (by omega), show a - b = c by omega]
def clampI (v : Int32) : Int32 := if v < 1 then 1 else if 200 < v then 200 else v
theorem c_X10_in (E : EE) (l : Launch) (v : Int32) (lo : Int32) (hi : Int32) : CT E l yX10_in cX10_in 3 (some .boolean) { frames := 0, cells := 0, slots := 0, locals := 0 } [.int v, .int lo, .int hi] ([]) (some (.int (zI (lo ≤ v ∧ v ≤ hi)))) ([]) := by
  refine CT.intro (by decide) (Nat.le_of_ble_eq_true rfl) (fun K X Y => ?_)
  refine jv_iload_n 0 X dX10_in_0 0 rfl ?_
  refine jv_iload_n 1 X dX10_in_1 1 rfl ?_
  refine jn_icmp_lt 2 X dX10_in_2 14 (by decide) (fun c_1 => ?_) (fun c_1 => ?_)
  · refine jv_iconst (v := 0) 14 X dX10_in_14 rfl ?_
    exact jv_zret 15 X Y rfl rfl dX10_in_15 () (by simp [zI, lt_nle, -Int32.not_le, c_1]) rfl
  · refine jv_iload_n 5 X dX10_in_5 0 rfl ?_
    refine jv_iload_n 6 X dX10_in_6 2 rfl ?_
    refine jn_icmp_gt 7 X dX10_in_7 14 (by decide) (fun c_2 => ?_) (fun c_2 => ?_)
    · refine jv_iconst (v := 0) 14 X dX10_in_14 rfl ?_
      exact jv_zret 15 X Y rfl rfl dX10_in_15 () (by simp [zI, lt_nle, -Int32.not_le, c_1, c_2]) rfl
    · refine jv_iconst (v := 1) 10 X dX10_in_10 rfl ?_
      refine jv_goto 11 X dX10_in_11 15 (by decide) ?_
      exact jv_zret 15 X Y rfl rfl dX10_in_15 () (by simp [zI, lt_nle, -Int32.not_le, c_1, c_2]) rfl
theorem c_X10_clamp (E : EE) (l : Launch) (v : Int32) : CT E l yX10_clamp cX10_clamp 1 (some .int) { frames := 0, cells := 0, slots := 0, locals := 0 } [.int v] ([]) (some (.int (clampI v))) ([]) := by
  refine CT.intro (by decide) (Nat.le_of_ble_eq_true rfl) (fun K X Y => ?_)
  refine jv_iload_n 0 X dX10_clamp_0 0 rfl ?_
  refine jv_iconst (v := 1) 1 X dX10_clamp_1 rfl ?_
  refine jn_icmp_ge 2 X dX10_clamp_2 9 (by decide) (fun c_1 => ?_) (fun c_1 => ?_)
  · refine jv_iload_n 9 X dX10_clamp_9 0 rfl ?_
    refine jv_sipush (v := 200) 10 X dX10_clamp_10 (by decide) ?_
    refine jn_icmp_le 13 X dX10_clamp_13 22 (by decide) (fun c_2 => ?_) (fun c_2 => ?_)
    · refine jv_iload_n 22 X dX10_clamp_22 0 rfl ?_
      exact jv_iret 23 X Y rfl dX10_clamp_23 () (by simp [clampI, lt_nle, -Int32.not_le, c_1, c_2]) rfl
    · refine jv_sipush (v := 200) 16 X dX10_clamp_16 (by decide) ?_
      refine jv_goto 19 X dX10_clamp_19 23 (by decide) ?_
      exact jv_iret 23 X Y rfl dX10_clamp_23 () (by simp [clampI, lt_nle, -Int32.not_le, c_1, c_2]) rfl
  · refine jv_iconst (v := 1) 5 X dX10_clamp_5 rfl ?_
    refine jv_goto 6 X dX10_clamp_6 23 (by decide) ?_
    exact jv_iret 23 X Y rfl dX10_clamp_23 () (by simp [clampI, lt_nle, -Int32.not_le, c_1]) rfl
theorem c_X10_isOne (E : EE) (l : Launch) (k : Int32) : CT E l yX10_isOne cX10_isOne 1 (some .boolean) { frames := 1, cells := 0, slots := 0, locals := 22 } [.int k] ([]) (some (.int (zI (0 ≤ k ∧ k ≤ 5)))) ([]) := by
  refine CT.intro (by decide) (Nat.le_of_ble_eq_true rfl) (fun K X Y => ?_)
  refine jv_iload_n 0 X dX10_isOne_0 0 rfl ?_
  refine jv_iconst (v := 0) 1 X dX10_isOne_1 rfl ?_
  refine jv_iconst (v := 5) 2 X dX10_isOne_2 rfl ?_
  refine jv_fun 3 X (c_X10_in E _ k 0 5) ws_X10_57 ⟨Nat.le_of_ble_eq_true rfl, Nat.le_of_ble_eq_true rfl⟩ ⟨rfl, rfl⟩ ⟨Nat.zero_le _, Nat.zero_le _⟩ dX10_isOne_3 rfl [] rfl (Nat.le_of_ble_eq_true rfl) ?_
  exact jv_zret 6 X Y rfl zI_n dX10_isOne_6 () rfl rfl
theorem c_X10_isStick (E : EE) (l : Launch) (k : Int32) : CT E l yX10_isStick cX10_isStick 1 (some .boolean) { frames := 1, cells := 0, slots := 0, locals := 22 } [.int k] ([]) (some (.int (zI (0 ≤ k ∧ k ≤ 7)))) ([]) := by
  refine CT.intro (by decide) (Nat.le_of_ble_eq_true rfl) (fun K X Y => ?_)
  refine jv_iload_n 0 X dX10_isStick_0 0 rfl ?_
  refine jv_iconst (v := 0) 1 X dX10_isStick_1 rfl ?_
  refine jv_bipush (v := 7) 2 X dX10_isStick_2 (by decide) ?_
  refine jv_fun 4 X (c_X10_in E _ k 0 7) ws_X10_57 ⟨Nat.le_of_ble_eq_true rfl, Nat.le_of_ble_eq_true rfl⟩ ⟨rfl, rfl⟩ ⟨Nat.zero_le _, Nat.zero_le _⟩ dX10_isStick_4 rfl [] rfl (Nat.le_of_ble_eq_true rfl) ?_
  exact jv_zret 7 X Y rfl zI_n dX10_isStick_7 () rfl rfl
theorem c_X10_isBridge (E : EE) (l : Launch) (k : Int32) : CT E l yX10_isBridge cX10_isBridge 1 (some .boolean) { frames := 1, cells := 0, slots := 0, locals := 22 } [.int k] ([]) (some (.int (zI (0 ≤ k ∧ k ≤ 3)))) ([]) := by
  refine CT.intro (by decide) (Nat.le_of_ble_eq_true rfl) (fun K X Y => ?_)
  refine jv_iload_n 0 X dX10_isBridge_0 0 rfl ?_
  refine jv_iconst (v := 0) 1 X dX10_isBridge_1 rfl ?_
  refine jv_iconst (v := 3) 2 X dX10_isBridge_2 rfl ?_
  refine jv_fun 3 X (c_X10_in E _ k 0 3) ws_X10_57 ⟨Nat.le_of_ble_eq_true rfl, Nat.le_of_ble_eq_true rfl⟩ ⟨rfl, rfl⟩ ⟨Nat.zero_le _, Nat.zero_le _⟩ dX10_isBridge_3 rfl [] rfl (Nat.le_of_ble_eq_true rfl) ?_
  exact jv_zret 6 X Y rfl zI_n dX10_isBridge_6 () rfl rfl
