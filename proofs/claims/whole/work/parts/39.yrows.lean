section RowsG
variable {E : EE} {K : Ctx} {cc : ByteArray} {nL : Nat} {own : String} {rm : Room} {cells slots : Nat} {wl : List va_W} {ws : va_W} {lv : List (Nat × Value)} {rest : List Value}
/-- an instance method on blocks of the world, in their places, with scratch -/
theorem jv_callBG {S : Type} (pc : Nat) (X : CX E K cc nL own rm) {index : Nat} {y : MethodName} {cy : ByteArray} {n k : Nat} {ret : Option FieldType} {rmy : Room} {b : Nat} {As : List Value} {wc : List va_W} {nb : S → List va_W} {B : Nat → State → Prop} {r0 : S → Option Value} (hM : CG E (kLa K) y cy n ret rmy (.ref b :: As) (wB wc) B r0 (fun u => wB (nb u))) (hw : WV own index y cy n ret k)
    (hBl : ∀ (sz : Nat) (U : State) (g : JFrame) (mk : MethodId) (a : Array Value), B sz U → B sz (U.calling g mk a)) (hBp : ∀ (H : Heap) (locs : List Loc) (U : State), va_S (kA K) (kS K).heap H locs → (∀ q, va_A (wB wc) H.size q → kA K q) → U.heap = H → (kS K).WarmedH U.vm → B H.size U)
    (hR : rmy.frames + 1 ≤ rm.frames ∧ 8 + (n + 11) + rmy.locals ≤ rm.locals) (h0 : rmy.cells = 0 ∧ rmy.slots = 0) (hc : cells ≤ rm.cells ∧ slots ≤ rm.slots) (d : decode cc pc = .ok (.invokevirtual index, 3)) (hn : As.length = k) (rest : List Value) {st : List Value} (hst : st = As.reverse ++ .ref b :: rest) (hW : (rest.map fun v => v.category).sum ≤ 8)
    (js : List Nat) (hnd : va_nd js = true) (hC : js.map (fun i => wl[i]?) = wc.map some) (ads : List (List Nat)) (hA0 : wc.map (fun b => b.map (fun q => q.1)) = ads) (hA1 : ∀ u, (nb u).map (fun b => b.map (fun q => q.1)) = ads) (j0 : Nat) {blk : va_W} (hj : wl[j0]? = some blk) {ci N : Nat} {fs : List Value} {T : u_T} (hq : blk[0]? = some (b, .inr (ci, fs))) (hci : vwCl[ci]? = some (y.cls, T, N)) {wl2 : S → List va_W} (hws : ∀ u, stL wl js (nb u) = wl2 u) (kk : ∀ u : S, JV E K cells slots (wB (wl2 u)) lv (pc + 3) ((r0 u).toList ++ rest)) : JV E K cells slots (wB wl) lv pc st := by
  intro ls H locs h1 h2 h3 h4
  obtain ⟨hx, hb, hml, hkl, hkr, hown, hts, hE, hA, hlk⟩ := id X
  have hBD := BD_iff.mp h3
  have hBc := BD_sub hBD hnd hC
  have hDc : va_D (kA K) (wB wc) := BD_iff.mpr hBc
  have hPc : va_P E.1 vwCl (wB wc) H := wB_P.mpr fun i c hi q hq => by
    obtain ⟨m, _, hm⟩ := calL_at hC i c hi
    exact wB_P.mp h2 m c hm q hq
  have hFc : ∀ q, va_A (wB wc) H.size q → kA K q := by
    rintro q (⟨j, e, hj⟩ | hq)
    · exact hDc.2 j _ hj
    · exact hA q (Nat.le_trans h4.1 hq)
  have hmem : (b, va_E_o ci fs) ∈ wB wl := List.mem_flatten.mpr ⟨blk, List.mem_of_getElem? hj, List.mem_of_getElem? hq⟩
  obtain ⟨q0, hq0⟩ := List.mem_iff_getElem?.mp hmem
  obtain ⟨w1, w2, w3, w4, w5, w6, w7, w8⟩ := hw
  refine vg_call (E := E) (A1 := va_A (wB wc) H.size) (va_runV (nL := nL) (As := As) (rest := rest) (n := k) ⟨hx, hb, hml, hown, hts⟩ (hM H.size) ⟨callB_of (bytes := cy) (maxL := n) (ret := ret) k hts (TB_wc w5) rfl rfl rfl (hts _ w4) (hts _ w1) ⟨w6, w7, w8⟩ (by rw [hkr]; exact hR), hts _ w2, hts _ w3⟩
    ⟨pc_blind (hBl H.size), va_recv hE.1 h2 hci hq0, fun U hU hW => ⟨rfl, by rw [hU], by rw [hU]; exact hPc, hE.warm hW, hDc.weaken (fun _ _ _ _ => trivial), hBp H locs U h4 hFc hU hW⟩⟩ rfl hn (h1.1.trans hkl) hst (lv_room hW) d (by rw [hkr, h0.1, h0.2]; exact hc)) h4 (fun q _ h => hFc q h) hFc (fun u H1 locs1 p1 d1 z1 k1 s1 => ?_)
  rw [h0.1, h0.2]
  obtain ⟨p2, d2⟩ := blk_P h2 h3 hC ((hA1 u).trans hA0.symm) k1 p1
  rw [hws u] at p2 d2
  exact kk u ls H1 locs1 h1 p2 d2 s1
def ykF (j : Nat) : Int32 := ([43, 45, 40, 41, 60, 62, 61, 46] : List Int32).getD j 0
def YB (t : Nat) (w : va_W) : Nat → State → Prop := fun sz U => va_Z RX9 "YEAR_KINDS" "[I" (.ref t) (va_A w sz) U U.heap ∧ va_T .int t 8 (fun j => .int (ykF j)) (va_A w sz) U U.heap
def YK (K : Ctx) (t : Nat) : Prop := va_Z RX9 "YEAR_KINDS" "[I" (.ref t) (kA K) (kS K) (kS K).heap ∧ va_T .int t 8 (fun j => .int (ykF j)) (kA K) (kS K) (kS K).heap
theorem YK_of {t : Nat} {w : va_W} (hk : kA K = va_A w (kS K).heap.size) (h : YB t w (kS K).heap.size (kS K)) : YK K t := by
  unfold YK
  rw [hk]
  exact h
theorem YB_call (t : Nat) (w : va_W) : ∀ (sz : Nat) (U : State) (g : JFrame) (mk : MethodId) (a : Array Value), YB t w sz U → YB t w sz (U.calling g mk a) := fun sz U g mk a h => ⟨va_Z.moved (u := U) (U := U.calling g mk a) (Vm.Alike.refl U.vm) h.1, va_T.moved (u := U) (U := U.calling g mk a) (Vm.Alike.refl U.vm) h.2⟩
theorem YB_sub {t : Nat} {w : va_W} (hY : YK K t) : ∀ (H : Heap) (locs : List Loc) (U : State), va_S (kA K) (kS K).heap H locs → (∀ q, va_A w H.size q → kA K q) → U.heap = H → (kS K).WarmedH U.vm → YB t w H.size U := by
  intro H locs U h4 hFc hU hW
  unfold YB
  rw [hU]
  exact ⟨((va_Z.moved hW.alike hY.1).kept (fun a ha hn => h4.2.1 a ha hn)).narrow hFc, ((va_T.moved hW.alike hY.2).kept (fun a ha hn => h4.2.1 a ha hn)).narrow hFc⟩
theorem jv_yk (pc : Nat) (X : CX E K cc nL RX8 rm) {t : Nat} (hY : YK K t) (d : decode cc pc = .ok (.getstatic 75, 3)) (kk : JV E K cells slots ws lv (pc + 3) (.ref t :: rest)) : JV E K cells slots ws lv pc rest := fun ls H locs h1 h2 h3 h4 => va_getsN X.1 X.2.1 hY.1 h4 X.2.2.2.2.2.1 (va_Nw.use rfl X.2.2.2.2.2.2.2.1.2.2.2.2.2.2) (fun x h => h) d (kk ls H locs h1 h2 h3 h4)
theorem jv_yt (pc : Nat) (X : CX E K cc nL own rm) {t : Nat} (hY : YK K t) {i : Int32} (j : Nat) (hi : i = nI j) (hj : j < 8) (d : decode cc pc = .ok (.iaload, 1)) (kk : JV E K cells slots ws lv (pc + 1) (.int (ykF j) :: rest)) : JV E K cells slots ws lv pc (.int i :: .ref t :: rest) := fun ls H locs h1 h2 h3 h4 => va_ti X.1 X.2.1 hY.2 h4 (by
    subst hi
    rintro (h | h)
    · exact absurd h (Int32.not_lt.mpr (nI_pos' (by omega)))
    · rw [nI_clamp (by omega)] at h; omega) (by rw [hi, nI_clamp (by omega)]) d (kk ls H locs h1 h2 h3 h4)
end RowsG
