section RowsB
variable {E : EE} {K : Ctx} {cc : ByteArray} {nL : Nat} {own : String} {rm : Room} {cells slots : Nat} {ws ws2 : va_W} {lv : List (Nat × Value)} {rest : List Value}
def GW (own : String) (index ci : Nat) (C : String) (T : u_T) (N k : Nat) : Prop := vwCl[ci]? = some (C, T, N) ∧ (∀ w ∈ u_ws C T N, w ∈ TB) ∧ k < N ∧ Cond.fieldLink own index (T k).1 (T k).2.1 (T k).2.2.1 ∈ TB
theorem jv_get (pc : Nat) (X : CX E K cc nL own rm) {index ci : Nat} {C : String} {T : u_T} {N k : Nat} (g : GW own index ci C T N k) (d : decode cc pc = .ok (.getfield index, 3)) (q0 : Nat) {a : Nat} {fs : List Value} {v : Value} (he : ws[q0]? = some (a, .inr (ci, fs))) (hv : fs[k]? = some v) (kk : JV E K cells slots ws lv (pc + 3) (v :: rest)) : JV E K cells slots ws lv pc (.ref a :: rest) := fun ls H locs h1 h2 h3 h4 => va_get X.1 X.2.1 X.2.2.2.2.2.2.1 g.2.1 X.2.2.2.2.2.1 X.2.2.2.2.2.2.2.1.1 h2 q0 he g.1 k g.2.2.1 (X.2.2.2.2.2.2.1 _ g.2.2.2) (fun _ h => h) hv d (kk ls H locs h1 h2 h3 h4)
theorem jv_put (pc : Nat) (X : CX E K cc nL own rm) {index ci : Nat} {C : String} {T : u_T} {N k : Nat} (g : GW own index ci C T N k) {ty0 : Nat → FieldType} (hty : ∀ j, j < N → parseFieldDescriptor (T j).2.2.1 = some (ty0 j)) (hnm : ∀ a, a < N → ∀ b, b < N → a ≠ b → (T a).2.1 ≠ (T b).2.1) (hfin : (T k).2.2.2 = false) (d : decode cc pc = .ok (.putfield index, 3)) (q0 : Nat) {a : Nat} {fs : List Value} {v : Value} (he : ws[q0]? = some (a, .inr (ci, fs))) (hn : narrow (ty0 k) v = v) (hfit : fits (ty0 k) v = true) (hl : k < fs.length) (hw : ws.set q0 (a, .inr (ci, fs.set k v)) = ws2) (kk : JV E K cells slots ws2 lv (pc + 3) rest) : JV E K cells slots ws lv pc (v :: .ref a :: rest) := by
  subst hw
  exact fun ls H locs h1 h2 h3 h4 => va_put X.1 X.2.1 X.2.2.2.2.2.2.1 g.2.1 ty0 hty hnm X.2.2.2.2.2.1 X.2.2.2.2.2.2.2.1.1 h2 h3 h4 q0 he g.1 k g.2.2.1 (X.2.2.2.2.2.2.1 _ g.2.2.2) (fun _ h => h) hfin (hty k g.2.2.1) hn hfit hl d (fun H1 locs1 p1 d1 s1 => kk ls H1 locs1 h1 p1 d1 s1)
theorem jv_puti (pc : Nat) (X : CX E K cc nL own rm) {index ci : Nat} {C : String} {T : u_T} {N k : Nat} (g : GW own index ci C T N k) {ty0 : Nat → FieldType} (hty : ∀ j, j < N → parseFieldDescriptor (T j).2.2.1 = some (ty0 j)) (hnm : ∀ a, a < N → ∀ b, b < N → a ≠ b → (T a).2.1 ≠ (T b).2.1) (hfin : (T k).2.2.2 = false) (h0 : ty0 k = .int) (d : decode cc pc = .ok (.putfield index, 3)) (q0 : Nat) {a : Nat} {fs : List Value} {x : Int32} (he : ws[q0]? = some (a, .inr (ci, fs))) (hl : k < fs.length) (hw : ws.set q0 (a, .inr (ci, fs.set k (.int x))) = ws2) (kk : JV E K cells slots ws2 lv (pc + 3) rest) : JV E K cells slots ws lv pc (.int x :: .ref a :: rest) := jv_put pc X g hty hnm hfin d q0 he (by rw [h0]; rfl) (by rw [h0]; rfl) hl hw kk
theorem jv_putF (pc : Nat) (X : CX E K cc nL own rm) (hin : (kMe K).name = "<init>") {index ci : Nat} {C : String} {T : u_T} {N k : Nat} (g : GW own index ci C T N k) {ty0 : Nat → FieldType} (hty : ∀ j, j < N → parseFieldDescriptor (T j).2.2.1 = some (ty0 j)) (hnm : ∀ a, a < N → ∀ b, b < N → a ≠ b → (T a).2.1 ≠ (T b).2.1) (hfin : (T k).2.2.2 = true) (hdecl : (T k).1 = own) (d : decode cc pc = .ok (.putfield index, 3)) (q0 : Nat) {a : Nat} {fs : List Value} {v : Value} (he : ws[q0]? = some (a, .inr (ci, fs))) (hn : narrow (ty0 k) v = v) (hfit : fits (ty0 k) v = true) (hl : k < fs.length) (hw : ws.set q0 (a, .inr (ci, fs.set k v)) = ws2) (kk : JV E K cells slots ws2 lv (pc + 3) rest) : JV E K cells slots ws lv pc (v :: .ref a :: rest) := by
  subst hw
  exact fun ls H locs h1 h2 h3 h4 => va_putF X.1 X.2.1 X.2.2.2.2.2.2.1 g.2.1 ty0 hty hnm X.2.2.2.2.2.1 X.2.2.2.2.2.2.2.1.1 h2 h3 h4 q0 he g.1 k g.2.2.1 (X.2.2.2.2.2.2.1 _ g.2.2.2) (fun _ h => h) hfin hin hdecl (hty k g.2.2.1) hn hfit hl d (fun H1 locs1 p1 d1 s1 => kk ls H1 locs1 h1 p1 d1 s1)
-- arrays
theorem nI_vp {i : Int32} {j n : Nat} (hi : i = nI j) (hj : j < n) (hn : n < 2147483648) : vp_in i n := by rw [hi]; exact vp_in_nI hj hn
theorem nI_cl {i : Int32} {j n : Nat} (hi : i = nI j) (hj : j < n) (hn : n < 2147483648) : i.toNatClampNeg = j := by rw [hi]; exact nI_clamp (Nat.lt_trans hj hn)
theorem jv_iald (pc : Nat) (X : CX E K cc nL own rm) (d : decode cc pc = .ok (.iaload, 1)) (q0 : Nat) {a n : Nat} {f : Nat → Int32} (he : ws[q0]? = some (a, .inl (E.2.1, n, .inl f))) (hn : n < 2147483648) {i : Int32} (j : Nat) (hi : i = nI j) (hj : j < n) (kk : JV E K cells slots ws lv (pc + 1) (.int (f j) :: rest)) : JV E K cells slots ws lv pc (.int i :: .ref a :: rest) := fun ls H locs h1 h2 h3 h4 => va_iald X.1 X.2.1 X.2.2.2.2.2.2.2.1.1 h2 q0 0 he rfl (nI_vp hi hj hn) d (by rw [nI_cl hi hj hn]; exact kk ls H locs h1 h2 h3 h4)
theorem jv_zald (pc : Nat) (X : CX E K cc nL own rm) (d : decode cc pc = .ok (.baload, 1)) (q0 : Nat) {a n : Nat} {f : Nat → Int32} (he : ws[q0]? = some (a, .inl (E.2.2.2, n, .inl f))) (hn : n < 2147483648) {i : Int32} (j : Nat) (hi : i = nI j) (hj : j < n) (kk : JV E K cells slots ws lv (pc + 1) (.int (f j) :: rest)) : JV E K cells slots ws lv pc (.int i :: .ref a :: rest) := fun ls H locs h1 h2 h3 h4 => va_zald X.1 X.2.1 X.2.2.2.2.2.2.2.1.1 h2 q0 2 he rfl (nI_vp hi hj hn) d (by rw [nI_cl hi hj hn]; exact kk ls H locs h1 h2 h3 h4)
theorem jv_lald (pc : Nat) (X : CX E K cc nL own rm) (d : decode cc pc = .ok (.laload, 1)) (q0 : Nat) {a n : Nat} {f : Nat → Int64} (he : ws[q0]? = some (a, .inl (E.2.2.1, n, .inr (.inl f)))) (hn : n < 2147483648) {i : Int32} (j : Nat) (hi : i = nI j) (hj : j < n) (kk : JV E K cells slots ws lv (pc + 1) (.long (f j) :: rest)) : JV E K cells slots ws lv pc (.int i :: .ref a :: rest) := fun ls H locs h1 h2 h3 h4 => va_lald X.1 X.2.1 X.2.2.2.2.2.2.2.1.1 h2 q0 1 he rfl (nI_vp hi hj hn) d (by rw [nI_cl hi hj hn]; exact kk ls H locs h1 h2 h3 h4)
theorem jv_iast (pc : Nat) (X : CX E K cc nL own rm) (d : decode cc pc = .ok (.iastore, 1)) (q0 : Nat) {a n : Nat} {f : Nat → Int32} (he : ws[q0]? = some (a, .inl (E.2.1, n, .inl f))) (hn : n < 2147483648) {i x : Int32} (j : Nat) (hi : i = nI j) (hj : j < n) (hw : ws.set q0 (a, .inl (E.2.1, n, .inl (upd f j x))) = ws2) (kk : JV E K cells slots ws2 lv (pc + 1) rest) : JV E K cells slots ws lv pc (.int x :: .int i :: .ref a :: rest) := by
  subst hw
  intro ls H locs h1 h2 h3 h4
  refine va_iast X.1 X.2.1 X.2.2.2.2.2.2.2.1.1 h2 h3 h4 q0 0 he rfl (nI_vp hi hj hn) d (fun H1 locs1 p1 d1 s1 => ?_)
  rw [nI_cl hi hj hn] at p1 d1
  exact kk ls H1 locs1 h1 p1 d1 s1
theorem jv_zast (pc : Nat) (X : CX E K cc nL own rm) (d : decode cc pc = .ok (.bastore, 1)) (q0 : Nat) {a n : Nat} {f : Nat → Int32} (he : ws[q0]? = some (a, .inl (E.2.2.2, n, .inl f))) (hn : n < 2147483648) {i x : Int32} (j : Nat) (hi : i = nI j) (hj : j < n) (hx : vp_nar .boolean x = x) (hw : ws.set q0 (a, .inl (E.2.2.2, n, .inl (upd f j x))) = ws2) (kk : JV E K cells slots ws2 lv (pc + 1) rest) : JV E K cells slots ws lv pc (.int x :: .int i :: .ref a :: rest) := by
  subst hw
  intro ls H locs h1 h2 h3 h4
  refine va_zast X.1 X.2.1 X.2.2.2.2.2.2.2.1.1 h2 h3 h4 q0 2 he rfl (nI_vp hi hj hn) d (fun H1 locs1 p1 d1 s1 => ?_)
  rw [nI_cl hi hj hn, hx] at p1 d1
  exact kk ls H1 locs1 h1 p1 d1 s1
theorem jv_last (pc : Nat) (X : CX E K cc nL own rm) (d : decode cc pc = .ok (.lastore, 1)) (q0 : Nat) {a n : Nat} {f : Nat → Int64} (he : ws[q0]? = some (a, .inl (E.2.2.1, n, .inr (.inl f)))) (hn : n < 2147483648) {i : Int32} {x : Int64} (j : Nat) (hi : i = nI j) (hj : j < n) (hw : ws.set q0 (a, .inl (E.2.2.1, n, .inr (.inl (vp_updL f j x)))) = ws2) (kk : JV E K cells slots ws2 lv (pc + 1) rest) : JV E K cells slots ws lv pc (.long x :: .int i :: .ref a :: rest) := by
  subst hw
  intro ls H locs h1 h2 h3 h4
  refine va_last X.1 X.2.1 X.2.2.2.2.2.2.2.1.1 h2 h3 h4 q0 1 he rfl (nI_vp hi hj hn) d (fun H1 locs1 p1 d1 s1 => ?_)
  rw [nI_cl hi hj hn] at p1 d1
  exact kk ls H1 locs1 h1 p1 d1 s1
theorem jv_alen (pc : Nat) (X : CX E K cc nL own rm) (d : decode cc pc = .ok (.arraylength, 1)) (q0 t0 : Nat) {a : Nat} {cA : ClassId} {x : vp_A} {ty : FieldType} (he : ws[q0]? = some (a, .inl (cA, x))) (ht : (eT E)[t0]? = some (cA, ty)) {v : Int32} (hv : Int32.ofNat x.1 = v) (kk : JV E K cells slots ws lv (pc + 1) (.int v :: rest)) : JV E K cells slots ws lv pc (.ref a :: rest) := fun ls H locs h1 h2 h3 h4 => va_alen X.1 X.2.1 X.2.2.2.2.2.2.2.1.1 h2 q0 t0 he ht hv d (kk ls H locs h1 h2 h3 h4)
/-- an array holds what it holds at its own places alone -/
theorem arrV_ext {cA : ClassId} {n : Nat} {f g : Nat → Value} (h : ∀ j, j < n → f j = g j) : arrV cA n f = arrV cA n g := by
  unfold arrV
  congr 1
  apply Array.ext
  · simp
  · intro i h1 h2
    simp at h1 ⊢
    exact h i h1
theorem cell_exti {cA : ClassId} {n : Nat} {f g : Nat → Int32} (h : ∀ j, j < n → f j = g j) : vp_cell cA (n, .inl f) = vp_cell cA (n, .inl g) := arrV_ext (cA := cA) (n := n) (f := fun j => .int (f j)) (g := fun j => .int (g j)) (fun j hj => by rw [h j hj])
theorem cell_extl {cA : ClassId} {n : Nat} {f g : Nat → Int64} (h : ∀ j, j < n → f j = g j) : vp_cell cA (n, .inr (.inl f)) = vp_cell cA (n, .inr (.inl g)) := arrV_ext (cA := cA) (n := n) (f := fun j => .long (f j)) (g := fun j => .long (g j)) (fun j hj => by rw [h j hj])
theorem va_P_arr {D : va_G} {cl : List vw_C} {q0 a : Nat} {e e2 : va_E} {H : Heap} (he : ws[q0]? = some (a, e)) (hx : va_at D cl (a, e) H → va_at D cl (a, e2) H) (h : va_P D cl ws H) : va_P D cl (ws.set q0 (a, e2)) H := by
  intro k q hk
  rw [List.getElem?_set] at hk
  split at hk
  · split at hk
    · cases hk
      exact hx (h q0 _ he)
    · cases hk
  · exact h k q hk
theorem jv_ext {pc : Nat} {st : List Value} (q0 : Nat) {a n : Nat} {cA : ClassId} {f : Nat → Int32} (g : Nat → Int32) (he : ws[q0]? = some (a, .inl (cA, n, .inl f))) (hfg : ∀ j, j < n → f j = g j) (hw : ws.set q0 (a, .inl (cA, n, .inl g)) = ws2) (kk : JV E K cells slots ws2 lv pc st) : JV E K cells slots ws lv pc st := by
  subst hw
  intro ls H locs h1 h2 h3 h4
  exact kk ls H locs h1 (va_P_arr he (fun h => h.trans (congrArg some (cell_exti hfg))) h2) (h3.set he) h4
theorem jv_extl {pc : Nat} {st : List Value} (q0 : Nat) {a n : Nat} {cA : ClassId} {f : Nat → Int64} (g : Nat → Int64) (he : ws[q0]? = some (a, .inl (cA, n, .inr (.inl f)))) (hfg : ∀ j, j < n → f j = g j) (hw : ws.set q0 (a, .inl (cA, n, .inr (.inl g))) = ws2) (kk : JV E K cells slots ws2 lv pc st) : JV E K cells slots ws lv pc st := by
  subst hw
  intro ls H locs h1 h2 h3 h4
  exact kk ls H locs h1 (va_P_arr he (fun h => h.trans (congrArg some (cell_extl hfg))) h2) (h3.set he) h4
-- the library's own
def WM (own : String) (index : Nat) (y : MethodName) (cy : ByteArray) (n : Nat) (ret : Option FieldType) : Prop := Cond.methodLink own index y ∈ TB ∧ Cond.static y ∈ TB ∧ Cond.initialized "java/lang/Math" ∈ TB ∧ Cond.code y cy n ret ∈ TB
theorem jv_mmax (pc : Nat) (X : CX E K cc nL own rm) {index : Nat} (hw : WM own index Lib.Math.max.name Lib.Math.max.code 2 (some .int)) (d : decode cc pc = .ok (.invokestatic index, 3)) (hf : 1 ≤ rm.frames) (hlo : (rest.map fun v => v.category).sum + 13 ≤ rm.locals) (hc : cells ≤ rm.cells ∧ slots ≤ rm.slots) {x y : Int32} (kk : JV E K cells slots ws lv (pc + 3) (.int (if x < y then y else x) :: rest)) : JV E K cells slots ws lv pc (.int y :: .int x :: rest) := fun ls H locs h1 h2 h3 h4 => va_mmax X.1 X.2.1 (X.2.2.1.trans (X.2.2.2.1.symm.trans h1.1.symm)) X.2.2.2.2.2.1 (X.2.2.2.2.2.2.1 _ hw.1) (X.2.2.2.2.2.2.1 _ hw.2.1) (X.2.2.2.2.2.2.1 _ hw.2.2.1) (X.2.2.2.2.2.2.1 _ hw.2.2.2) (by rw [X.2.2.2.2.1]; exact hf) (by rw [X.2.2.2.2.1]; exact hlo) (by rw [X.2.2.2.2.1]; exact hc.1) (by rw [X.2.2.2.2.1]; exact hc.2) d (kk ls H locs h1 h2 h3 h4)
theorem jv_mmin (pc : Nat) (X : CX E K cc nL own rm) {index : Nat} (hw : WM own index Lib.Math.min.name Lib.Math.min.code 2 (some .int)) (d : decode cc pc = .ok (.invokestatic index, 3)) (hf : 1 ≤ rm.frames) (hlo : (rest.map fun v => v.category).sum + 13 ≤ rm.locals) (hc : cells ≤ rm.cells ∧ slots ≤ rm.slots) {x y : Int32} (kk : JV E K cells slots ws lv (pc + 3) (.int (if y < x then y else x) :: rest)) : JV E K cells slots ws lv pc (.int y :: .int x :: rest) := fun ls H locs h1 h2 h3 h4 => va_mmin X.1 X.2.1 (X.2.2.1.trans (X.2.2.2.1.symm.trans h1.1.symm)) X.2.2.2.2.2.1 (X.2.2.2.2.2.2.1 _ hw.1) (X.2.2.2.2.2.2.1 _ hw.2.1) (X.2.2.2.2.2.2.1 _ hw.2.2.1) (X.2.2.2.2.2.2.1 _ hw.2.2.2) (by rw [X.2.2.2.2.1]; exact hf) (by rw [X.2.2.2.2.1]; exact hlo) (by rw [X.2.2.2.2.1]; exact hc.1) (by rw [X.2.2.2.2.1]; exact hc.2) d (kk ls H locs h1 h2 h3 h4)
theorem jv_mabs (pc : Nat) (X : CX E K cc nL own rm) {index : Nat} (hw : WM own index Lib.Math.abs.name Lib.Math.abs.code 1 (some .int)) (d : decode cc pc = .ok (.invokestatic index, 3)) (hf : 1 ≤ rm.frames) (hlo : (rest.map fun v => v.category).sum + 13 ≤ rm.locals) (hc : cells ≤ rm.cells ∧ slots ≤ rm.slots) {x : Int32} (kk : JV E K cells slots ws lv (pc + 3) (.int (if 0 ≤ x then x else 0 - x) :: rest)) : JV E K cells slots ws lv pc (.int x :: rest) := fun ls H locs h1 h2 h3 h4 => va_mabs X.1 X.2.1 (X.2.2.1.trans (X.2.2.2.1.symm.trans h1.1.symm)) X.2.2.2.2.2.1 (X.2.2.2.2.2.2.1 _ hw.1) (X.2.2.2.2.2.2.1 _ hw.2.1) (X.2.2.2.2.2.2.1 _ hw.2.2.1) (X.2.2.2.2.2.2.1 _ hw.2.2.2) (by rw [X.2.2.2.2.1]; exact hf) (by rw [X.2.2.2.2.1]; exact hlo) (by rw [X.2.2.2.2.1]; exact hc.1) (by rw [X.2.2.2.2.1]; exact hc.2) d (kk ls H locs h1 h2 h3 h4)
theorem jv_mmaxl (pc : Nat) (X : CX E K cc nL own rm) {index : Nat} (hw : WM own index Lib.MathLoose.max_long.x Lib.MathLoose.max_long.code 4 (some .long)) (d : decode cc pc = .ok (.invokestatic index, 3)) (hf : 1 ≤ rm.frames) (hlo : (rest.map fun v => v.category).sum + 15 ≤ rm.locals) (hc : cells ≤ rm.cells ∧ slots ≤ rm.slots) {x y : Int64} (kk : JV E K cells slots ws lv (pc + 3) (.long (if y < x then x else y) :: rest)) : JV E K cells slots ws lv pc (.long y :: .long x :: rest) := fun ls H locs h1 h2 h3 h4 => va_mmax_long X.1 X.2.1 (X.2.2.1.trans (X.2.2.2.1.symm.trans h1.1.symm)) X.2.2.2.2.2.1 (X.2.2.2.2.2.2.1 _ hw.1) (X.2.2.2.2.2.2.1 _ hw.2.1) (X.2.2.2.2.2.2.1 _ hw.2.2.1) (X.2.2.2.2.2.2.1 _ hw.2.2.2) (by rw [X.2.2.2.2.1]; exact hf) (by rw [X.2.2.2.2.1]; exact hlo) (by rw [X.2.2.2.2.1]; exact hc.1) (by rw [X.2.2.2.2.1]; exact hc.2) d (kk ls H locs h1 h2 h3 h4)
theorem cpy_all {α : Type} (f g : Nat → α) (n j : Nat) (h : j < n) : va_cpy f g 0 0 n j = f j := by
  unfold va_cpy
  rw [if_pos ⟨Nat.zero_le j, by omega⟩]
  simp
def WA (own : String) (index : Nat) : Prop := Cond.methodLink own index arraycopyName ∈ TB ∧ Cond.native arraycopyName ∈ TB ∧ Cond.static arraycopyName ∈ TB ∧ Cond.initialized "java/lang/System" ∈ TB
abbrev va_E_cpy (E : EE) (n : Nat) (f g : Nat → Int32) : va_E := .inl (E.2.1, n, .inl (va_cpy f g 0 0 n))
abbrev va_E_cpl (E : EE) (n : Nat) (f g : Nat → Int64) : va_E := .inl (E.2.2.1, n, .inr (.inl (va_cpy f g 0 0 n)))
/-- a whole int array over another of its length -/
theorem jv_copyi (pc : Nat) (X : CX E K cc nL own rm) {index : Nat} (hwa : WA own index) (d : decode cc pc = .ok (.invokestatic index, 3)) (q0 q1 : Nat) {a0 a1 n : Nat} {f g : Nat → Int32} (he0 : ws[q0]? = some (a0, .inl (E.2.1, n, .inl f))) (he1 : ws[q1]? = some (a1, .inl (E.2.1, n, .inl g))) {i : Int32} (hi : i = nI n) (hn : n < 2147483648) (hf : 1 ≤ rm.frames) (hlo : (rest.map fun v => v.category).sum + (nativeFrameWords "java/lang/System" "arraycopy" 5 + 11) ≤ rm.locals) (hw : ws.set q1 (a1, .inl (E.2.1, n, .inl f)) = ws2) (kk : JV E K cells slots ws2 lv (pc + 3) rest) : JV E K cells slots ws lv pc (.int i :: .int 0 :: .ref a1 :: .int 0 :: .ref a0 :: rest) := by
  subst hw
  intro ls H locs h1 h2 h3 h4
  have e0 : (0 : Int32).toNatClampNeg = 0 := by decide
  have en : i.toNatClampNeg = n := by rw [hi]; exact nI_clamp hn
  refine va_copyi X.1 X.2.1 (X.2.2.1.trans (X.2.2.2.1.symm.trans h1.1.symm)) X.2.2.2.2.2.1 (X.2.2.2.2.2.2.1 _ hwa.1) (X.2.2.2.2.2.2.1 _ hwa.2.1) (X.2.2.2.2.2.2.1 _ hwa.2.2.1) (X.2.2.2.2.2.2.1 _ hwa.2.2.2) X.2.2.2.2.2.2.2.1.1 h2 h3 h4 q0 q1 0 0 he0 he1 rfl rfl rfl (by decide) (by decide) (by rw [hi]; exact nI_pos hn) (by rw [e0, en]; omega) (by rw [e0, en]; omega) (fun _ _ => rfl) (by rw [X.2.2.2.2.1]; exact hf) (by rw [X.2.2.2.2.1]; exact hlo) d (fun H1 locs1 p1 d1 s1 => ?_)
  rw [e0, en] at p1 d1
  have hq1 : (ws.set q1 (a1, va_E_cpy E n f g))[q1]? = some (a1, va_E_cpy E n f g) := by
    rw [List.getElem?_set_self (List.getElem?_eq_some_iff.mp he1).1]
  have p2 := va_P_arr (e2 := .inl (E.2.1, n, .inl f)) hq1 (fun h => h.trans (congrArg some (cell_exti (fun j hj => cpy_all f g n j hj)))) p1
  have d2 := d1.set (e := .inl (E.2.1, n, .inl f)) hq1
  rw [show (ws.set q1 (a1, va_E_cpy E n f g)).set q1 (a1, .inl (E.2.1, n, .inl f)) = ws.set q1 (a1, .inl (E.2.1, n, .inl f)) from List.set_set ..] at p2 d2
  exact kk ls H1 locs1 h1 p2 d2 s1
/-- a whole long array over another of its length -/
theorem jv_copyl (pc : Nat) (X : CX E K cc nL own rm) {index : Nat} (hwa : WA own index) (d : decode cc pc = .ok (.invokestatic index, 3)) (q0 q1 : Nat) {a0 a1 n : Nat} {f g : Nat → Int64} (he0 : ws[q0]? = some (a0, .inl (E.2.2.1, n, .inr (.inl f)))) (he1 : ws[q1]? = some (a1, .inl (E.2.2.1, n, .inr (.inl g)))) {i : Int32} (hi : i = nI n) (hn : n < 2147483648) (hf : 1 ≤ rm.frames) (hlo : (rest.map fun v => v.category).sum + (nativeFrameWords "java/lang/System" "arraycopy" 5 + 11) ≤ rm.locals) (hw : ws.set q1 (a1, .inl (E.2.2.1, n, .inr (.inl f))) = ws2) (kk : JV E K cells slots ws2 lv (pc + 3) rest) : JV E K cells slots ws lv pc (.int i :: .int 0 :: .ref a1 :: .int 0 :: .ref a0 :: rest) := by
  subst hw
  intro ls H locs h1 h2 h3 h4
  have e0 : (0 : Int32).toNatClampNeg = 0 := by decide
  have en : i.toNatClampNeg = n := by rw [hi]; exact nI_clamp hn
  refine va_copyl X.1 X.2.1 (X.2.2.1.trans (X.2.2.2.1.symm.trans h1.1.symm)) X.2.2.2.2.2.1 (X.2.2.2.2.2.2.1 _ hwa.1) (X.2.2.2.2.2.2.1 _ hwa.2.1) (X.2.2.2.2.2.2.1 _ hwa.2.2.1) (X.2.2.2.2.2.2.1 _ hwa.2.2.2) X.2.2.2.2.2.2.2.1.1 h2 h3 h4 q0 q1 1 1 he0 he1 rfl rfl rfl (by decide) (by decide) (by rw [hi]; exact nI_pos hn) (by rw [e0, en]; omega) (by rw [e0, en]; omega) (fun _ _ => rfl) (by rw [X.2.2.2.2.1]; exact hf) (by rw [X.2.2.2.2.1]; exact hlo) d (fun H1 locs1 p1 d1 s1 => ?_)
  rw [e0, en] at p1 d1
  have hq1 : (ws.set q1 (a1, va_E_cpl E n f g))[q1]? = some (a1, va_E_cpl E n f g) := by
    rw [List.getElem?_set_self (List.getElem?_eq_some_iff.mp he1).1]
  have p2 := va_P_arr (e2 := .inl (E.2.2.1, n, .inr (.inl f))) hq1 (fun h => h.trans (congrArg some (cell_extl (fun j hj => cpy_all f g n j hj)))) p1
  have d2 := d1.set (e := .inl (E.2.2.1, n, .inr (.inl f))) hq1
  rw [show (ws.set q1 (a1, va_E_cpl E n f g)).set q1 (a1, .inl (E.2.2.1, n, .inr (.inl f))) = ws.set q1 (a1, .inl (E.2.2.1, n, .inr (.inl f))) from List.set_set ..] at p2 d2
  exact kk ls H1 locs1 h1 p2 d2 s1
end RowsB
