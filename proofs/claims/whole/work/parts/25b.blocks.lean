-- worlds as rows of blocks
def wB (l : List va_W) : va_W := l.flatten
def stL {α : Type} : List α → List Nat → List α → List α
  | ws, i :: is, e :: es => stL (ws.set i e) is es
  | ws, _, _ => ws
theorem stL_get {α : Type} : ∀ (is : List Nat) (es ws : List α) (k : Nat) (q : α), is.length = es.length → (stL ws is es)[k]? = some q → (∃ j : Nat, es[j]? = some q) ∨ (ws[k]? = some q ∧ k ∉ is)
  | [], [], ws, k, q, _, h => Or.inr ⟨h, List.not_mem_nil⟩
  | [], e :: es, ws, k, q, hl, h => by simp at hl
  | i :: is, [], ws, k, q, hl, h => by simp at hl
  | i :: is, e :: es, ws, k, q, hl, h => by
    have hl2 : is.length = es.length := by simpa using hl
    rcases stL_get is es (ws.set i e) k q hl2 h with ⟨j, hj⟩ | ⟨h1, h2⟩
    · exact Or.inl ⟨j + 1, by simpa using hj⟩
    · rw [List.getElem?_set] at h1
      split at h1
      · split at h1
        · cases h1
          exact Or.inl ⟨0, rfl⟩
        · cases h1
      · rename_i hne
        exact Or.inr ⟨h1, fun hm => (List.mem_cons.mp hm).elim (fun e => hne e.symm) h2⟩
theorem stL_g {α β : Type} (g : α → β) : ∀ (is : List Nat) (es ws : List α) (k : Nat), (is.map fun i => (ws[i]?).map g) = es.map (fun q => some (g q)) → ((stL ws is es)[k]?).map g = (ws[k]?).map g
  | [], es, ws, k, _ => by cases es <;> rfl
  | i :: is, [], ws, k, _ => rfl
  | i :: is, e :: es, ws, k, h => by
    have h0 : (ws[i]?).map g = some (g e) := (List.cons.inj h).1
    have h1 : (is.map fun i => (ws[i]?).map g) = es.map (fun q => some (g q)) := (List.cons.inj h).2
    have hs : ∀ j : Nat, ((ws.set i e)[j]?).map g = (ws[j]?).map g := by
      intro j
      rw [List.getElem?_set]
      split
      · rename_i hij
        subst hij
        split
        · exact h0.symm
        · rename_i hlt
          rw [List.getElem?_eq_none (Nat.le_of_not_lt hlt)]
      · rfl
    show ((stL (ws.set i e) is es)[k]?).map g = (ws[k]?).map g
    rw [stL_g g is es (ws.set i e) k (by rw [← h1]; exact List.map_congr_left fun j _ => hs j)]
    exact hs k
theorem vP_iff {D : va_G} {cl : List vw_C} {ws : va_W} {H : Heap} : va_P D cl ws H ↔ ∀ q ∈ ws, va_at D cl q H := by
  constructor
  · intro h q hq
    obtain ⟨k, hk⟩ := List.mem_iff_getElem?.mp hq
    exact h k q hk
  · intro h k q hk
    exact h q (List.mem_of_getElem? hk)
theorem vD_iff {A : Nat → Prop} {ws : va_W} : va_D A ws ↔ ws.Pairwise (fun p q => p.1 ≠ q.1) ∧ ∀ q ∈ ws, A q.1 := by
  constructor
  · rintro ⟨h1, h2⟩
    refine ⟨List.pairwise_iff_getElem.mpr fun i j hi hj hij e => ?_, fun q hq => ?_⟩
    · exact absurd (h1 i j _ _ (List.getElem?_eq_getElem hi) (List.getElem?_eq_getElem hj) e) (Nat.ne_of_lt hij)
    · obtain ⟨k, hk⟩ := List.mem_iff_getElem?.mp hq
      exact h2 k q hk
  · rintro ⟨h1, h2⟩
    refine ⟨fun i j p q hp hq e => ?_, fun k q hk => h2 q (List.mem_of_getElem? hk)⟩
    rw [List.pairwise_iff_getElem] at h1
    obtain ⟨hi, hpe⟩ := List.getElem?_eq_some_iff.mp hp
    obtain ⟨hj, hqe⟩ := List.getElem?_eq_some_iff.mp hq
    rcases Nat.lt_trichotomy i j with z | z | z
    · exact absurd (by rw [hpe, hqe]; exact e) (h1 i j hi hj z)
    · exact z
    · exact absurd (by rw [hpe, hqe]; exact e.symm) (h1 j i hj hi z)
def BD (A : Nat → Prop) (wl : List va_W) : Prop := (∀ (i : Nat) (b : va_W), wl[i]? = some b → (b.map (fun q => q.1)).Nodup) ∧ (∀ (i j : Nat) (b c : va_W), i ≠ j → wl[i]? = some b → wl[j]? = some c → ∀ x ∈ b.map (fun q => q.1), ∀ y ∈ c.map (fun q => q.1), x ≠ y) ∧ ∀ (i : Nat) (b : va_W), wl[i]? = some b → ∀ x ∈ b.map (fun q => q.1), A x
theorem pw_ad {b : va_W} : b.Pairwise (fun p q => p.1 ≠ q.1) ↔ (b.map (fun q => q.1)).Nodup := by
  unfold List.Nodup
  rw [List.pairwise_map]
theorem BD_iff {A : Nat → Prop} {wl : List va_W} : va_D A (wB wl) ↔ BD A wl := by
  rw [vD_iff, wB, List.pairwise_flatten]
  constructor
  · rintro ⟨⟨h1, h2⟩, h3⟩
    refine ⟨fun i b hb => pw_ad.mp (h1 b (List.mem_of_getElem? hb)), fun i j b c hij hb hc x hx y hy => ?_, fun i b hb x hx => ?_⟩
    · obtain ⟨p, hp, rfl⟩ := List.mem_map.mp hx
      obtain ⟨q, hq, rfl⟩ := List.mem_map.mp hy
      rw [List.pairwise_iff_getElem] at h2
      obtain ⟨hi, hbe⟩ := List.getElem?_eq_some_iff.mp hb
      obtain ⟨hj, hce⟩ := List.getElem?_eq_some_iff.mp hc
      rcases Nat.lt_or_gt_of_ne hij with z | z
      · exact h2 i j hi hj z p (by rw [hbe]; exact hp) q (by rw [hce]; exact hq)
      · exact fun e => h2 j i hj hi z q (by rw [hce]; exact hq) p (by rw [hbe]; exact hp) e.symm
    · obtain ⟨p, hp, rfl⟩ := List.mem_map.mp hx
      exact h3 p (List.mem_flatten.mpr ⟨b, List.mem_of_getElem? hb, hp⟩)
  · rintro ⟨h1, h2, h3⟩
    refine ⟨⟨fun b hb => ?_, List.pairwise_iff_getElem.mpr fun i j hi hj hij p hp q hq => ?_⟩, fun q hq => ?_⟩
    · obtain ⟨i, hi⟩ := List.mem_iff_getElem?.mp hb
      exact pw_ad.mpr (h1 i b hi)
    · exact h2 i j _ _ (Nat.ne_of_lt hij) (List.getElem?_eq_getElem hi) (List.getElem?_eq_getElem hj) _ (List.mem_map.mpr ⟨p, hp, rfl⟩) _ (List.mem_map.mpr ⟨q, hq, rfl⟩)
    · obtain ⟨b, hb, hqb⟩ := List.mem_flatten.mp hq
      obtain ⟨i, hi⟩ := List.mem_iff_getElem?.mp hb
      exact h3 i b hi _ (List.mem_map.mpr ⟨q, hqb, rfl⟩)
theorem BD_ad {A : Nat → Prop} {wl w2 : List va_W} (h : BD A wl) (e : ∀ k : Nat, (w2[k]?).map (fun b => b.map (fun q => q.1)) = (wl[k]?).map (fun b => b.map (fun q => q.1))) : BD A w2 := by
  have got : ∀ (k : Nat) (b : va_W), w2[k]? = some b → ∃ c : va_W, wl[k]? = some c ∧ c.map (fun q => q.1) = b.map (fun q => q.1) := by
    intro k b hb
    have := e k
    rw [hb] at this
    cases hw : wl[k]? with
    | none => rw [hw] at this; cases this
    | some c => rw [hw] at this; exact ⟨c, rfl, (Option.some.inj this).symm⟩
  refine ⟨fun i b hb => ?_, fun i j b c hij hb hc x hx y hy => ?_, fun i b hb x hx => ?_⟩
  · obtain ⟨b2, h1, h2⟩ := got i b hb
    rw [← h2]; exact h.1 i b2 h1
  · obtain ⟨b2, h1, h2⟩ := got i b hb
    obtain ⟨c2, h3, h4⟩ := got j c hc
    exact h.2.1 i j b2 c2 hij h1 h3 x (by rw [h2]; exact hx) y (by rw [h4]; exact hy)
  · obtain ⟨b2, h1, h2⟩ := got i b hb
    exact h.2.2 i b2 h1 x (by rw [h2]; exact hx)
theorem calL_at {α : Type} {is : List Nat} {ws w : List α} (hs : is.map (fun i => ws[i]?) = w.map some) (k : Nat) (q : α) (hq : w[k]? = some q) : ∃ i, is[k]? = some i ∧ ws[i]? = some q := by
  have h1 : (is.map (fun i => ws[i]?))[k]? = some (some q) := by rw [hs, List.getElem?_map, hq]; rfl
  rw [List.getElem?_map] at h1
  cases hi : is[k]? with
  | none => rw [hi] at h1; cases h1
  | some i => rw [hi] at h1; exact ⟨i, rfl, Option.some.inj h1⟩
theorem BD_sub {A : Nat → Prop} {js : List Nat} {wl wc : List va_W} (h : BD A wl) (hn : va_nd js = true) (hC : js.map (fun i => wl[i]?) = wc.map some) : BD A wc := by
  refine ⟨fun i b hb => ?_, fun i j b c hij hb hc x hx y hy => ?_, fun i b hb x hx => ?_⟩
  · obtain ⟨k, _, h2⟩ := calL_at hC i b hb
    exact h.1 k b h2
  · obtain ⟨k, h1, h2⟩ := calL_at hC i b hb
    obtain ⟨m, h3, h4⟩ := calL_at hC j c hc
    exact h.2.1 k m b c (fun e => hij (va_nd_inj js hn i j m (by rw [h1, e]) h3)) h2 h4 x hx y hy
  · obtain ⟨k, _, h2⟩ := calL_at hC i b hb
    exact h.2.2 k b h2 x hx
theorem wB_P {D : va_G} {cl : List vw_C} {H : Heap} {wl : List va_W} : va_P D cl (wB wl) H ↔ ∀ (k : Nat) (b : va_W), wl[k]? = some b → ∀ q ∈ b, va_at D cl q H := by
  rw [vP_iff, wB]
  constructor
  · intro h k b hb q hq
    exact h q (List.mem_flatten.mpr ⟨b, List.mem_of_getElem? hb, hq⟩)
  · intro h q hq
    obtain ⟨b, hb, hqb⟩ := List.mem_flatten.mp hq
    obtain ⟨i, hi⟩ := List.mem_iff_getElem?.mp hb
    exact h i b hi q hqb
theorem blk_P {D : va_G} {cl : List vw_C} {A0 : Nat → Prop} {js : List Nat} {wl wc nb : List va_W} {H H1 : Heap} (hP : va_P D cl (wB wl) H) (hD : va_D A0 (wB wl)) (hC : js.map (fun i => wl[i]?) = wc.map some) (hw : nb.map (fun b => b.map (fun q => q.1)) = wc.map (fun b => b.map (fun q => q.1))) (hk : ∀ q : Nat, q < H.size → ¬ va_A (wB wc) H.size q → H1[q]? = H[q]?) (hP1 : va_P D cl (wB nb) H1) : va_P D cl (wB (stL wl js nb)) H1 ∧ va_D A0 (wB (stL wl js nb)) := by
  have hl1 : nb.length = wc.length := by have := congrArg List.length hw; simpa using this
  have hl2 : js.length = wc.length := by have := congrArg List.length hC; simpa using this
  have hBD := BD_iff.mp hD
  constructor
  · rw [wB_P]
    intro k b hb q hq
    rcases stL_get js nb wl k b (hl2.trans hl1.symm) hb with ⟨j, hj⟩ | ⟨h1, h2⟩
    · exact wB_P.mp hP1 j b hj q hq
    · have hat := wB_P.mp hP k b h1 q hq
      refine hat.kept (hk q.1 hat.lt ?_)
      rintro (⟨j, e, hj⟩ | hge)
      · obtain ⟨c, hc, hqc⟩ := List.mem_flatten.mp (List.mem_of_getElem? hj)
        obtain ⟨i, hi⟩ := List.mem_iff_getElem?.mp hc
        obtain ⟨m, hm1, hm2⟩ := calL_at hC i c hi
        have hkm : k ≠ m := fun e => h2 (e ▸ List.mem_of_getElem? hm1)
        exact hBD.2.1 k m b c hkm h1 hm2 q.1 (List.mem_map.mpr ⟨q, hq, rfl⟩) q.1 (List.mem_map.mpr ⟨_, hqc, rfl⟩) rfl
      · exact absurd hat.lt (Nat.not_lt.mpr hge)
  · apply BD_iff.mpr
    refine BD_ad hBD (fun k => stL_g _ js nb wl k ?_)
    have h1 := congrArg (List.map (fun o : Option va_W => o.map (fun b => b.map (fun q => q.1)))) hC
    have h2 := congrArg (List.map some) hw
    simp only [List.map_map] at h1 h2
    rw [show (js.map fun i => (wl[i]?).map (fun b => b.map (fun q => q.1))) = js.map ((fun o : Option va_W => o.map (fun b => b.map (fun q => q.1))) ∘ fun i => wl[i]?) from rfl, h1]
    exact h2.symm
section RowsE
variable {E : EE} {K : Ctx} {cc : ByteArray} {nL : Nat} {own : String} {rm : Room} {cells slots : Nat} {wl wl2 : List va_W} {lv : List (Nat × Value)}
abbrev va_E_o (ci : Nat) (fs : List Value) : va_E := .inr (ci, fs)
/-- an instance method on blocks of the world, in their places -/
theorem jv_callB (pc : Nat) (X : CX E K cc nL own rm) {index : Nat} {y : MethodName} {cy : ByteArray} {n k : Nat} {ret : Option FieldType} {rmy : Room} {b : Nat} {As : List Value} {wc nb : List va_W} {r0 : Option Value} (hM : CT E (kLa K) y cy n ret rmy (.ref b :: As) (wB wc) r0 (wB nb)) (hw : WV own index y cy n ret k)
    (hR : rmy.frames + 1 ≤ rm.frames ∧ 8 + (n + 11) + rmy.locals ≤ rm.locals) (h0 : rmy.cells = 0 ∧ rmy.slots = 0) (hc : cells ≤ rm.cells ∧ slots ≤ rm.slots) (d : decode cc pc = .ok (.invokevirtual index, 3)) (hn : As.length = k) (rest : List Value) {st : List Value} (hst : st = As.reverse ++ .ref b :: rest) (hW : (rest.map fun v => v.category).sum ≤ 8)
    (js : List Nat) (hnd : va_nd js = true) (hC : js.map (fun i => wl[i]?) = wc.map some) (ads : List (List Nat)) (hA0 : wc.map (fun b => b.map (fun q => q.1)) = ads) (hA1 : nb.map (fun b => b.map (fun q => q.1)) = ads) (j0 : Nat) {blk : va_W} (hj : wl[j0]? = some blk) {ci N : Nat} {fs : List Value} {T : u_T} (hq : blk[0]? = some (b, .inr (ci, fs))) (hci : vwCl[ci]? = some (y.cls, T, N)) (hws : stL wl js nb = wl2) (kk : JV E K cells slots (wB wl2) lv (pc + 3) (r0.toList ++ rest)) : JV E K cells slots (wB wl) lv pc st := by
  subst hws
  intro ls H locs h1 h2 h3 h4
  obtain ⟨hx, hb, hml, hkl, hkr, hown, hts, hE, hA, hlk⟩ := id X
  have hBD := BD_iff.mp h3
  have hBc := BD_sub hBD hnd hC
  have hDc : va_D (kA K) (wB wc) := BD_iff.mpr hBc
  have hPc : va_P E.1 vwCl (wB wc) H := wB_P.mpr fun i c hi q hq => by
    obtain ⟨m, _, hm⟩ := calL_at hC i c hi
    exact wB_P.mp h2 m c hm q hq
  have hFc : ∀ q, va_A (wB wc) H.size q → kA K q := by
    rintro q (⟨j, e, hj⟩ | hq)
    · exact hDc.2 j _ hj
    · exact hA q (Nat.le_trans h4.1 hq)
  have hmem : (b, va_E_o ci fs) ∈ wB wl := List.mem_flatten.mpr ⟨blk, List.mem_of_getElem? hj, List.mem_of_getElem? hq⟩
  obtain ⟨q0, hq0⟩ := List.mem_iff_getElem?.mp hmem
  obtain ⟨w1, w2, w3, w4, w5, w6, w7, w8⟩ := hw
  refine vg_call (E := E) (A1 := va_A (wB wc) H.size) (va_runV (nL := nL) (As := As) (rest := rest) (n := k) ⟨hx, hb, hml, hown, hts⟩ (hM H.size) ⟨callB_of (bytes := cy) (maxL := n) (ret := ret) k hts (TB_wc w5) rfl rfl rfl (hts _ w4) (hts _ w1) ⟨w6, w7, w8⟩ (by rw [hkr]; exact hR), hts _ w2, hts _ w3⟩
    ⟨pc_blind (fun _ _ _ _ _ => trivial), va_recv hE.1 h2 hci hq0, fun U hU hW => ⟨rfl, by rw [hU], by rw [hU]; exact hPc, hE.warm hW, hDc.weaken (fun _ _ _ _ => trivial), trivial⟩⟩ rfl hn (h1.1.trans hkl) hst (lv_room hW) d (by rw [hkr, h0.1, h0.2]; exact hc)) h4 (fun q _ h => hFc q h) hFc (fun u H1 locs1 p1 d1 z1 k1 s1 => ?_)
  rw [h0.1, h0.2]
  obtain ⟨p2, d2⟩ := blk_P h2 h3 hC (hA1.trans hA0.symm) k1 p1
  exact kk ls H1 locs1 h1 p2 d2 s1
theorem wB_1 (b : va_W) : wB [b] = b := List.append_nil b
theorem jv_callB1 (pc : Nat) (X : CX E K cc nL own rm) {index : Nat} {y : MethodName} {cy : ByteArray} {n k : Nat} {ret : Option FieldType} {rmy : Room} {b : Nat} {As : List Value} {wc nb : va_W} {r0 : Option Value} (hM : CT E (kLa K) y cy n ret rmy (.ref b :: As) wc r0 nb) (hw : WV own index y cy n ret k)
    (hR : rmy.frames + 1 ≤ rm.frames ∧ 8 + (n + 11) + rmy.locals ≤ rm.locals) (h0 : rmy.cells = 0 ∧ rmy.slots = 0) (hc : cells ≤ rm.cells ∧ slots ≤ rm.slots) (d : decode cc pc = .ok (.invokevirtual index, 3)) (hn : As.length = k) (rest : List Value) {st : List Value} (hst : st = As.reverse ++ .ref b :: rest) (hW : (rest.map fun v => v.category).sum ≤ 8)
    (j0 : Nat) (hj : wl[j0]? = some wc) (ads : List Nat) (hA0 : wc.map (fun q => q.1) = ads) (hA1 : nb.map (fun q => q.1) = ads) {ci N : Nat} {fs : List Value} {T : u_T} (hq : wc[0]? = some (b, .inr (ci, fs))) (hci : vwCl[ci]? = some (y.cls, T, N)) (hws : wl.set j0 nb = wl2) (kk : JV E K cells slots (wB wl2) lv (pc + 3) (r0.toList ++ rest)) : JV E K cells slots (wB wl) lv pc st :=
  jv_callB (wc := [wc]) (nb := [nb]) pc X (by rw [wB_1, wB_1]; exact hM) hw hR h0 hc d hn rest hst hW [j0] rfl (by rw [List.map_singleton, hj]; rfl) [ads] (by rw [List.map_singleton, hA0]) (by rw [List.map_singleton, hA1]) j0 hj hq hci hws kk
end RowsE
