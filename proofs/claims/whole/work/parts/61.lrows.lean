-- rows of the law's own
section LROWS
variable {E : EE} {K : Ctx} {cc : ByteArray} {nL : Nat} {own : String} {rm : Room} {cells slots : Nat} {wl : List va_W} {ws : va_W} {lv : List (Nat × Value)} {rest : List Value}
/-- the law's script -/
def SC (K : Ctx) (b L : Nat) (xs : Nat → Int32) : Prop := va_X b L xs (kS K) (kS K).heap ∧ b < (kS K).heap.size ∧ ¬ kA K b
theorem jv_sld (pc : Nat) (X : CX E K cc nL own rm) {b L : Nat} {xs : Nat → Int32} (S : SC K b L xs) (d : decode cc pc = .ok (.iaload, 1)) {i : Int32} (j : Nat) (hi : i = nI j) (hj : j < L) (hL : L < 2147483648) (kk : JV E K cells slots ws lv (pc + 1) (.int (xs j) :: rest)) : JV E K cells slots ws lv pc (.int i :: .ref b :: rest) := fun ls H locs h1 h2 h3 h4 => by
  have hin : vp_in i L := nI_vp hi hj hL
  have e : i.toNatClampNeg = j := nI_cl hi hj hL
  exact va_sld X.1 X.2.1 S.1 S.2.1 S.2.2 h4 hin d (by rw [e]; exact kk ls H locs h1 h2 h3 h4)
theorem jv_slen (pc : Nat) (X : CX E K cc nL own rm) {b L : Nat} {xs : Nat → Int32} (S : SC K b L xs) (d : decode cc pc = .ok (.arraylength, 1)) (kk : JV E K cells slots ws lv (pc + 1) (.int (nI L) :: rest)) : JV E K cells slots ws lv pc (.ref b :: rest) := fun ls H locs h1 h2 h3 h4 => va_slen X.1 X.2.1 S.1 S.2.1 S.2.2 h4 d (kk ls H locs h1 h2 h3 h4)
theorem jv_callBG1 {S : Type} (pc : Nat) (X : CX E K cc nL own rm) {index : Nat} {y : MethodName} {cy : ByteArray} {n k : Nat} {ret : Option FieldType} {rmy : Room} {b : Nat} {As : List Value} {wc : va_W} {nb : S → va_W} {r0 : S → Option Value} (hM : CG E (kLa K) y cy n ret rmy (.ref b :: As) wc noB r0 nb) (hw : WV own index y cy n ret k)
    (hR : rmy.frames + 1 ≤ rm.frames ∧ 8 + (n + 11) + rmy.locals ≤ rm.locals) (h0 : rmy.cells = 0 ∧ rmy.slots = 0) (hc : cells ≤ rm.cells ∧ slots ≤ rm.slots) (d : decode cc pc = .ok (.invokevirtual index, 3)) (hn : As.length = k) (rest : List Value) {st : List Value} (hst : st = As.reverse ++ .ref b :: rest) (hW : (rest.map fun v => v.category).sum ≤ 8)
    (j0 : Nat) (hj : wl[j0]? = some wc) (ads : List Nat) (hA0 : wc.map (fun q => q.1) = ads) (hA1 : ∀ u, (nb u).map (fun q => q.1) = ads) {ci N : Nat} {fs : List Value} {T : u_T} (hq : wc[0]? = some (b, .inr (ci, fs))) (hci : vwCl[ci]? = some (y.cls, T, N)) {wl2 : S → List va_W} (hws : ∀ u, wl.set j0 (nb u) = wl2 u) (kk : ∀ u, JV E K cells slots (wB (wl2 u)) lv (pc + 3) ((r0 u).toList ++ rest)) : JV E K cells slots (wB wl) lv pc st :=
  jv_callBG (wc := [wc]) (nb := fun u => [nb u]) (wl2 := wl2) pc X (by
    have e : (fun u => wB [nb u]) = nb := funext fun u => wB_1 (nb u)
    rw [wB_1, e]; exact hM) hw (fun _ _ _ _ _ _ => trivial) (fun _ _ _ _ _ _ _ => trivial) hR h0 hc d hn rest hst hW [j0] rfl (by rw [List.map_singleton, hj]; rfl) [ads] (by rw [List.map_singleton, hA0]) (fun u => by rw [List.map_singleton, hA1 u]) j0 hj hq hci hws kk
end LROWS
