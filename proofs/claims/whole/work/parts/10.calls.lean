def WV (own : String) (index : Nat) (y : MethodName) (cy : ByteArray) (n : Nat) (ret : Option FieldType) (k : Nat) : Prop := Cond.methodLink own index y ∈ TB ∧ Cond.instanceMethod y ∈ TB ∧ Cond.selects y.cls y y ∈ TB ∧ Cond.initialized y.cls ∈ TB ∧ Cond.code y cy n ret ∈ TB ∧ y.cls ≠ "java/lang/invoke/MethodHandle" ∧ y.cls ≠ "java/lang/invoke/VarHandle" ∧ (parseMethodDescriptor y.desc).map (fun d => d.parameters.length) = some k
def WS (own : String) (index : Nat) (y : MethodName) (cy : ByteArray) (n : Nat) (ret : Option FieldType) (k : Nat) : Prop := Cond.methodLink own index y ∈ TB ∧ Cond.static y ∈ TB ∧ Cond.initialized y.cls ∈ TB ∧ Cond.code y cy n ret ∈ TB ∧ y.cls ≠ "java/lang/invoke/MethodHandle" ∧ y.cls ≠ "java/lang/invoke/VarHandle" ∧ (parseMethodDescriptor y.desc).map (fun d => d.parameters.length) = some k
def WI (own : String) (index : Nat) (y : MethodName) (cy : ByteArray) (n : Nat) (k : Nat) : Prop := Cond.methodLink own index y ∈ TB ∧ Cond.instanceMethod y ∈ TB ∧ Cond.initialized y.cls ∈ TB ∧ Cond.code y cy n none ∈ TB ∧ y.name = "<init>" ∧ y.cls ≠ "java/lang/invoke/MethodHandle" ∧ y.cls ≠ "java/lang/invoke/VarHandle" ∧ (parseMethodDescriptor y.desc).map (fun d => d.parameters.length) = some k
def WN (own : String) (index : Nat) (y : MethodName) (host : String) (cy : ByteArray) (n : Nat) (ret : Option FieldType) (k : Nat) : Prop := Cond.static y ∈ TB ∧ Cond.initialized y.cls ∈ TB ∧ Cond.code y cy n ret ∈ TB ∧ y.cls ≠ "java/lang/invoke/MethodHandle" ∧ y.cls ≠ "java/lang/invoke/VarHandle" ∧ (parseMethodDescriptor y.desc).map (fun d => d.parameters.length) = some k ∧ ∀ (E : EE) (U : State), EV E U → va_Nw (.methodLinkNest own index y host) U
section CallG
variable {p : Program} {l : Launch} {e : Env} {R : Room} {s : State} {m : MethodId} {args : Array Value} {below : List Frame} {meth : Method} {c : Code} {H : Heap} {locs : List Loc} {cells slots : Nat} {Q : State → Prop}
variable {pc : Nat} {ls : Array Slot} {rest st0 : List Value} {a : Array Value} {A0 A1 : Nat → Prop} {H0 : Heap} {mc ms : Nat} {free : Addr → Prop}
theorem vg_call {S : Type} {E : EE} {r0 : S → Option Value} {wo : S → va_W} (hr : va_Run p l e R s m args below meth c H locs cells slots mc ms (F0 m pc ls st0) rest (QG E r0 wo A1 a) free) (hS : va_S A0 H0 H locs) (hA : ∀ q, q < H.size → A1 q → A0 q) (hf : ∀ q, free q → A0 q)
    (kk : ∀ (u : S) (H1 : Heap) (locs1 : List Loc), va_P E.1 vwCl (wo u) H1 → va_D A1 (wo u) → H.size ≤ H1.size → (∀ q : Nat, q < H.size → ¬ A1 q → H1[q]? = H[q]?) → va_S A0 H0 H1 locs1 → W p l e R s m args below meth c H1 locs1 (cells + mc) (slots + ms) Q (F0 m (pc + 3) ls ((r0 u).toList ++ rest))) : W p l e R s m args below meth c H locs cells slots Q (F0 m pc ls st0) := by
  intro T hT X
  obtain ⟨v, st₀, t, T', L, h0, X', hL, e1, e2, ⟨⟨u, hv, hp, hb⟩, hz, hk⟩, st⟩ := hr T hT X
  cases hv
  rw [h0] at hz hk
  obtain ⟨t2, a1, b1⟩ := kk u T'.heap (locs ++ L) (by rw [e1]; exact hp) hb (by rw [e1]; exact hz) (fun q h1 h2 => by rw [e1]; exact hk q h1 h2)
    ⟨Nat.le_trans hS.1 (by rw [e1]; exact hz), fun q h1 h2 => by rw [e1, hk q (Nat.lt_of_lt_of_le h1 hS.1) (fun z => h2 (hA q (Nat.lt_of_lt_of_le h1 hS.1) z))]; exact hS.2.1 q h1 h2, fun q hq => by
      rcases List.mem_append.mp hq with h | h
      · exact hS.2.2 q h
      · exact hf _ (hL q h)⟩ T' rfl X'
  exact ⟨t2, st t2 a1, b1⟩
end CallG
def stA : va_W → List Nat → va_W → va_W
  | ws, i :: is, e :: es => stA (ws.set i e) is es
  | ws, _, _ => ws
theorem stA_get : ∀ (is : List Nat) (es ws : va_W) (k : Nat) (q : Nat × va_E), is.length = es.length → (stA ws is es)[k]? = some q → (∃ j : Nat, es[j]? = some q) ∨ (ws[k]? = some q ∧ k ∉ is)
  | [], [], ws, k, q, _, h => Or.inr ⟨h, List.not_mem_nil⟩
  | [], e :: es, ws, k, q, hl, h => by simp at hl
  | i :: is, [], ws, k, q, hl, h => by simp at hl
  | i :: is, e :: es, ws, k, q, hl, h => by
    have hl2 : is.length = es.length := by simpa using hl
    rcases stA_get is es (ws.set i e) k q hl2 h with ⟨j, hj⟩ | ⟨h1, h2⟩
    · exact Or.inl ⟨j + 1, by simpa using hj⟩
    · rw [List.getElem?_set] at h1
      split at h1
      · split at h1
        · cases h1
          exact Or.inl ⟨0, rfl⟩
        · cases h1
      · rename_i hne
        exact Or.inr ⟨h1, fun hm => (List.mem_cons.mp hm).elim (fun e => hne e.symm) h2⟩
theorem stA_ad : ∀ (is : List Nat) (es ws : va_W) (k : Nat), (is.map fun i => (ws[i]?).map (fun q => q.1)) = es.map (fun q => some q.1) → ((stA ws is es)[k]?).map (fun q => q.1) = (ws[k]?).map (fun q => q.1)
  | [], es, ws, k, _ => by cases es <;> rfl
  | i :: is, [], ws, k, _ => rfl
  | i :: is, e :: es, ws, k, h => by
    have h0 : (ws[i]?).map (fun q => q.1) = some e.1 := (List.cons.inj h).1
    have h1 : (is.map fun i => (ws[i]?).map (fun q => q.1)) = es.map (fun q => some q.1) := (List.cons.inj h).2
    have hs : ∀ j : Nat, ((ws.set i e)[j]?).map (fun q => q.1) = (ws[j]?).map (fun q => q.1) := by
      intro j
      rw [List.getElem?_set]
      split
      · rename_i hij
        subst hij
        split
        · exact h0.symm
        · rename_i hlt
          rw [List.getElem?_eq_none (Nat.le_of_not_lt hlt)]
      · rfl
    show ((stA (ws.set i e) is es)[k]?).map (fun q => q.1) = (ws[k]?).map (fun q => q.1)
    rw [stA_ad is es (ws.set i e) k (by rw [← h1]; exact List.map_congr_left fun j _ => hs j)]
    exact hs k
theorem cal_at {is : List Nat} {ws w : va_W} (hs : is.map (fun i => ws[i]?) = w.map some) (k : Nat) (q : Nat × va_E) (hq : w[k]? = some q) : ∃ i, is[k]? = some i ∧ ws[i]? = some q := by
  have h1 : (is.map (fun i => ws[i]?))[k]? = some (some q) := by rw [hs, List.getElem?_map, hq]; rfl
  rw [List.getElem?_map] at h1
  cases hi : is[k]? with
  | none => rw [hi] at h1; cases h1
  | some i => rw [hi] at h1; exact ⟨i, rfl, Option.some.inj h1⟩
theorem cal_P {D : va_G} {cl : List vw_C} {is : List Nat} {ws w : va_W} {H : Heap} (hs : is.map (fun i => ws[i]?) = w.map some) (h : va_P D cl ws H) : va_P D cl w H := by
  intro k q hk
  obtain ⟨i, -, h2⟩ := cal_at hs k q hk
  exact h i q h2
theorem stA_P {D : va_G} {cl : List vw_C} {A0 : Nat → Prop} {is : List Nat} {ws wc w1 : va_W} {H H1 : Heap} (hP : va_P D cl ws H) (hD : va_D A0 ws) (hC : is.map (fun i => ws[i]?) = wc.map some) (hw : w1.map (fun q => q.1) = wc.map (fun q => q.1)) (hk : ∀ q : Nat, q < H.size → ¬ va_A wc H.size q → H1[q]? = H[q]?) (hP1 : va_P D cl w1 H1) : va_P D cl (stA ws is w1) H1 ∧ va_D A0 (stA ws is w1) := by
  have hl1 : w1.length = wc.length := by have := congrArg List.length hw; simpa using this
  have hl2 : is.length = wc.length := by have := congrArg List.length hC; simpa using this
  constructor
  · intro k q hq
    rcases stA_get is w1 ws k q (hl2.trans hl1.symm) hq with ⟨j, hj⟩ | ⟨h1, h2⟩
    · exact hP1 j q hj
    · refine (hP k q h1).kept (hk q.1 (hP k q h1).lt ?_)
      rintro (⟨j, e, hj⟩ | hge)
      · obtain ⟨i, hi1, hi2⟩ := cal_at hC j _ hj
        have : k = i := hD.1 k i q _ h1 hi2 rfl
        subst this
        exact h2 (List.mem_of_getElem? hi1)
      · exact absurd (hP k q h1).lt (Nat.not_lt.mpr hge)
  · have had : ∀ k : Nat, ((stA ws is w1)[k]?).map (fun q => q.1) = (ws[k]?).map (fun q => q.1) := by
      intro k
      apply stA_ad
      have h1 := congrArg (List.map (fun o : Option (Nat × va_E) => o.map (fun q => q.1))) hC
      have h2 := congrArg (List.map some) hw
      simp only [List.map_map] at h1 h2
      rw [show (is.map fun i => (ws[i]?).map (fun q => q.1)) = is.map ((fun o : Option (Nat × va_E) => o.map (fun q => q.1)) ∘ fun i => ws[i]?) from rfl, h1]
      exact h2.symm
    have got : ∀ (k : Nat) (q : Nat × va_E), (stA ws is w1)[k]? = some q → ∃ q' : Nat × va_E, ws[k]? = some q' ∧ q'.1 = q.1 := by
      intro k q hq
      have := had k
      rw [hq] at this
      cases hw : ws[k]? with
      | none => rw [hw] at this; cases this
      | some q' => rw [hw] at this; exact ⟨q', rfl, (Option.some.inj this).symm⟩
    refine ⟨fun i j p q hp hq hpq => ?_, fun k q hq => ?_⟩
    · obtain ⟨p', h1, h2⟩ := got i p hp
      obtain ⟨q', h3, h4⟩ := got j q hq
      exact hD.1 i j p' q' h1 h3 (h2.trans (hpq.trans h4.symm))
    · obtain ⟨q', h1, h2⟩ := got k q hq
      exact h2 ▸ hD.2 k q' h1
section RowsC
variable {E : EE} {K : Ctx} {cc : ByteArray} {nL : Nat} {own : String} {rm : Room} {cells slots : Nat} {ws ws2 : va_W} {lv : List (Nat × Value)}
theorem pc_blind {E : EE} {av : List Value} {w : va_W} {sz : Nat} {B : Nat → State → Prop} (hB : ∀ (U : State) (g : JFrame) (mk : MethodId) (a : Array Value), B sz U → B sz (U.calling g mk a)) : FrameBlind (va_Pc av (fun U => U.heap.size = sz ∧ va_P E.1 vwCl w U.heap ∧ EV E U ∧ va_D (fun _ => True) w ∧ B sz U)) := by
  intro a U g mk q
  obtain ⟨e1, e2, e3, e4, e5, e6⟩ := q
  exact ⟨e1, e2, e3, e4.calling g mk a, e5, hB U g mk a e6⟩
/-- an instance method on cells of the world, in their places -/
theorem jv_callG {S : Type} (pc : Nat) (X : CX E K cc nL own rm) {index : Nat} {y : MethodName} {cy : ByteArray} {n k : Nat} {ret : Option FieldType} {rmy : Room} {b : Nat} {As : List Value} {w : va_W} {B : Nat → State → Prop} {r0 : S → Option Value} {wo : S → va_W} (hM : CG E (kLa K) y cy n ret rmy (.ref b :: As) w B r0 wo) (hw : WV own index y cy n ret k)
    (hBl : ∀ (sz : Nat) (U : State) (g : JFrame) (mk : MethodId) (a : Array Value), B sz U → B sz (U.calling g mk a)) (hBp : ∀ (H : Heap) (locs : List Loc) (U : State), va_S (kA K) (kS K).heap H locs → (∀ q, va_A w H.size q → kA K q) → U.heap = H → (kS K).WarmedH U.vm → B H.size U)
    (hR : rmy.frames + 1 ≤ rm.frames ∧ 8 + (n + 11) + rmy.locals ≤ rm.locals) (h0 : rmy.cells = 0 ∧ rmy.slots = 0) (hc : cells ≤ rm.cells ∧ slots ≤ rm.slots) (d : decode cc pc = .ok (.invokevirtual index, 3)) (hn : As.length = k) (rest : List Value) {st : List Value} (hst : st = As.reverse ++ .ref b :: rest) (hW : (rest.map fun v => v.category).sum ≤ 8)
    (is : List Nat) (hnd : va_nd is = true) (hC : is.map (fun i => ws[i]?) = w.map some) (hA1 : ∀ u, (wo u).map (fun q => q.1) = w.map (fun q => q.1)) (q0 : Nat) {ci N : Nat} {fs : List Value} {T : u_T} (hq : ws[q0]? = some (b, .inr (ci, fs))) (hci : vwCl[ci]? = some (y.cls, T, N)) (kk : ∀ u : S, JV E K cells slots (stA ws is (wo u)) lv (pc + 3) ((r0 u).toList ++ rest)) : JV E K cells slots ws lv pc st := by
  intro ls H locs h1 h2 h3 h4
  obtain ⟨hx, hb, hml, hkl, hkr, hown, hts, hE, hA, hlk⟩ := id X
  have hDc := h3.sub is hnd hC
  have hPc := cal_P hC h2
  have hFc := va_free h3 h4 hA is hC
  obtain ⟨w1, w2, w3, w4, w5, w6, w7, w8⟩ := hw
  refine vg_call (E := E) (A1 := va_A w H.size) (va_runV (nL := nL) (As := As) (rest := rest) (n := k) ⟨hx, hb, hml, hown, hts⟩ (hM H.size) ⟨callB_of (bytes := cy) (maxL := n) (ret := ret) k hts (TB_wc w5) rfl rfl rfl (hts _ w4) (hts _ w1) ⟨w6, w7, w8⟩ (by rw [hkr]; exact hR), hts _ w2, hts _ w3⟩
    ⟨pc_blind (hBl H.size), va_recv hE.1 h2 hci hq, fun U hU hW => ⟨rfl, by rw [hU], by rw [hU]; exact hPc, hE.warm hW, hDc.weaken (fun _ _ _ _ => trivial), hBp H locs U h4 hFc hU hW⟩⟩ rfl hn (h1.1.trans hkl) hst (lv_room hW) d (by rw [hkr, h0.1, h0.2]; exact hc)) h4 (fun q _ h => hFc q h) hFc (fun u H1 locs1 p1 d1 z1 k1 s1 => ?_)
  rw [h0.1, h0.2]
  obtain ⟨p2, d2⟩ := stA_P h2 h3 hC (hA1 u) k1 p1
  exact kk u ls H1 locs1 h1 p2 d2 s1
theorem jv_callV (pc : Nat) (X : CX E K cc nL own rm) {index : Nat} {y : MethodName} {cy : ByteArray} {n k : Nat} {ret : Option FieldType} {rmy : Room} {b : Nat} {As : List Value} {w w1 : va_W} {r0 : Option Value} (hM : CT E (kLa K) y cy n ret rmy (.ref b :: As) w r0 w1) (hw : WV own index y cy n ret k)
    (hR : rmy.frames + 1 ≤ rm.frames ∧ 8 + (n + 11) + rmy.locals ≤ rm.locals) (h0 : rmy.cells = 0 ∧ rmy.slots = 0) (hc : cells ≤ rm.cells ∧ slots ≤ rm.slots) (d : decode cc pc = .ok (.invokevirtual index, 3)) (hn : As.length = k) (rest : List Value) {st : List Value} (hst : st = As.reverse ++ .ref b :: rest) (hW : (rest.map fun v => v.category).sum ≤ 8)
    (is : List Nat) (hnd : va_nd is = true) (hC : is.map (fun i => ws[i]?) = w.map some) (hA1 : w1.map (fun q => q.1) = w.map (fun q => q.1)) (q0 : Nat) {ci N : Nat} {fs : List Value} {T : u_T} (hq : ws[q0]? = some (b, .inr (ci, fs))) (hci : vwCl[ci]? = some (y.cls, T, N)) (hws : stA ws is w1 = ws2) (kk : JV E K cells slots ws2 lv (pc + 3) (r0.toList ++ rest)) : JV E K cells slots ws lv pc st := by
  subst hws
  exact jv_callG pc X hM hw (fun _ _ _ _ _ _ => trivial) (fun _ _ _ _ _ _ _ => trivial) hR h0 hc d hn rest hst hW is hnd hC (fun _ => hA1) q0 hq hci (fun _ => kk)
/-- the same where the method's world is the whole world -/
theorem jv_callW (pc : Nat) (X : CX E K cc nL own rm) {index : Nat} {y : MethodName} {cy : ByteArray} {n k : Nat} {ret : Option FieldType} {rmy : Room} {b : Nat} {As : List Value} {w1 : va_W} {r0 : Option Value} (hM : CT E (kLa K) y cy n ret rmy (.ref b :: As) ws r0 w1) (hw : WV own index y cy n ret k)
    (hR : rmy.frames + 1 ≤ rm.frames ∧ 8 + (n + 11) + rmy.locals ≤ rm.locals) (h0 : rmy.cells = 0 ∧ rmy.slots = 0) (hc : cells ≤ rm.cells ∧ slots ≤ rm.slots) (d : decode cc pc = .ok (.invokevirtual index, 3)) (hn : As.length = k) (rest : List Value) {st : List Value} (hst : st = As.reverse ++ .ref b :: rest) (hW : (rest.map fun v => v.category).sum ≤ 8)
    (q0 : Nat) {ci N : Nat} {fs : List Value} {T : u_T} (hq : ws[q0]? = some (b, .inr (ci, fs))) (hci : vwCl[ci]? = some (y.cls, T, N)) (kk : JV E K cells slots w1 lv (pc + 3) (r0.toList ++ rest)) : JV E K cells slots ws lv pc st := by
  intro ls H locs h1 h2 h3 h4
  obtain ⟨hx, hb, hml, hkl, hkr, hown, hts, hE, hA, hlk⟩ := id X
  have hFc : ∀ q, va_A ws H.size q → kA K q := by
    rintro q (⟨j, e, hj⟩ | hq)
    · exact h3.2 j _ hj
    · exact hA q (Nat.le_trans h4.1 hq)
  obtain ⟨w1, w2, w3, w4, w5, w6, w7, w8⟩ := hw
  refine vg_call (E := E) (A1 := va_A ws H.size) (va_runV (nL := nL) (As := As) (rest := rest) (n := k) ⟨hx, hb, hml, hown, hts⟩ (hM H.size) ⟨callB_of (bytes := cy) (maxL := n) (ret := ret) k hts (TB_wc w5) rfl rfl rfl (hts _ w4) (hts _ w1) ⟨w6, w7, w8⟩ (by rw [hkr]; exact hR), hts _ w2, hts _ w3⟩
    ⟨pc_blind (fun _ _ _ _ _ => trivial), va_recv hE.1 h2 hci hq, fun U hU hW => ⟨rfl, by rw [hU], by rw [hU]; exact h2, hE.warm hW, h3.weaken (fun _ _ _ _ => trivial), trivial⟩⟩ rfl hn (h1.1.trans hkl) hst (lv_room hW) d (by rw [hkr, h0.1, h0.2]; exact hc)) h4 (fun q _ h => hFc q h) hFc (fun u H1 locs1 p1 d1 z1 k1 s1 => ?_)
  rw [h0.1, h0.2]
  exact kk ls H1 locs1 h1 p1 (d1.weaken (fun k q _ h => hFc _ h)) s1
/-- a static method on cells of the world -/
theorem jv_callS (pc : Nat) (X : CX E K cc nL own rm) {index : Nat} {y : MethodName} {cy : ByteArray} {n k : Nat} {ret : Option FieldType} {rmy : Room} {As : List Value} {w w1 : va_W} {r0 : Option Value} (hM : CT E (kLa K) y cy n ret rmy As w r0 w1) (hw : WS own index y cy n ret k)
    (hR : rmy.frames + 1 ≤ rm.frames ∧ 8 + (n + 11) + rmy.locals ≤ rm.locals) (h0 : rmy.cells = 0 ∧ rmy.slots = 0) (hc : cells ≤ rm.cells ∧ slots ≤ rm.slots) (d : decode cc pc = .ok (.invokestatic index, 3)) (hn : As.length = k) (rest : List Value) {st : List Value} (hst : st = As.reverse ++ rest) (hW : (rest.map fun v => v.category).sum ≤ 8)
    (is : List Nat) (hnd : va_nd is = true) (hC : is.map (fun i => ws[i]?) = w.map some) (hA1 : w1.map (fun q => q.1) = w.map (fun q => q.1)) (hws : stA ws is w1 = ws2) (kk : JV E K cells slots ws2 lv (pc + 3) (r0.toList ++ rest)) : JV E K cells slots ws lv pc st := by
  subst hws
  intro ls H locs h1 h2 h3 h4
  obtain ⟨hx, hb, hml, hkl, hkr, hown, hts, hE, hA, hlk⟩ := id X
  have hDc := h3.sub is hnd hC
  have hPc := cal_P hC h2
  have hFc := va_free h3 h4 hA is hC
  obtain ⟨w1, w2, w4, w5, w6, w7, w8⟩ := hw
  refine vg_call (E := E) (A1 := va_A w H.size) (va_runS (nL := nL) (As := As) (rest := rest) (n := k) ⟨hx, hb, hml, hown, hts⟩ (hM H.size) ⟨callB_of (bytes := cy) (maxL := n) (ret := ret) k hts (TB_wc w5) rfl rfl rfl (hts _ w4) (hts _ w1) ⟨w6, w7, w8⟩ (by rw [hkr]; exact hR), hts _ w2⟩
    ⟨pc_blind (fun _ _ _ _ _ => trivial), fun U hU hW => ⟨rfl, by rw [hU], by rw [hU]; exact hPc, hE.warm hW, hDc.weaken (fun _ _ _ _ => trivial), trivial⟩⟩ rfl hn (h1.1.trans hkl) hst (lv_room hW) d (by rw [hkr, h0.1, h0.2]; exact hc)) h4 (fun q _ h => hFc q h) hFc (fun u H1 locs1 p1 d1 z1 k1 s1 => ?_)
  rw [h0.1, h0.2]
  obtain ⟨p2, d2⟩ := stA_P h2 h3 hC hA1 k1 p1
  exact kk ls H1 locs1 h1 p2 d2 s1
/-- a static function of numbers alone -/
theorem jv_fun (pc : Nat) (X : CX E K cc nL own rm) {index : Nat} {y : MethodName} {cy : ByteArray} {n k : Nat} {ret : Option FieldType} {rmy : Room} {As : List Value} {r0 : Option Value} (hM : CT E (kLa K) y cy n ret rmy As [] r0 []) (hw : WS own index y cy n ret k)
    (hR : rmy.frames + 1 ≤ rm.frames ∧ 8 + (n + 11) + rmy.locals ≤ rm.locals) (h0 : rmy.cells = 0 ∧ rmy.slots = 0) (hc : cells ≤ rm.cells ∧ slots ≤ rm.slots) (d : decode cc pc = .ok (.invokestatic index, 3)) (hn : As.length = k) (rest : List Value) {st : List Value} (hst : st = As.reverse ++ rest) (hW : (rest.map fun v => v.category).sum ≤ 8)
    (kk : JV E K cells slots ws lv (pc + 3) (r0.toList ++ rest)) : JV E K cells slots ws lv pc st := jv_callS pc X hM hw hR h0 hc d hn rest hst hW [] rfl rfl rfl rfl kk
/-- the same, a private one of the host -/
theorem jv_funN (pc : Nat) (X : CX E K cc nL own rm) {index : Nat} {y : MethodName} {host : String} {cy : ByteArray} {n k : Nat} {ret : Option FieldType} {rmy : Room} {As : List Value} {r0 : Option Value} (hM : CT E (kLa K) y cy n ret rmy As [] r0 []) (hw : WN own index y host cy n ret k)
    (hR : rmy.frames + 1 ≤ rm.frames ∧ 8 + (n + 11) + rmy.locals ≤ rm.locals) (h0 : rmy.cells = 0 ∧ rmy.slots = 0) (hc : cells ≤ rm.cells ∧ slots ≤ rm.slots) (d : decode cc pc = .ok (.invokestatic index, 3)) (hn : As.length = k) (rest : List Value) {st : List Value} (hst : st = As.reverse ++ rest) (hW : (rest.map fun v => v.category).sum ≤ 8)
    (kk : JV E K cells slots ws lv (pc + 3) (r0.toList ++ rest)) : JV E K cells slots ws lv pc st := by
  intro ls H locs h1 h2 h3 h4
  obtain ⟨hx, hb, hml, hkl, hkr, hown, hts, hE, hA, hlk⟩ := id X
  have hC : ([] : List Nat).map (fun i => ws[i]?) = ([] : va_W).map some := rfl
  have hDc := h3.sub (ws' := []) [] rfl hC
  have hPc : va_P E.1 vwCl [] H := cal_P hC h2
  have hFc := va_free (wc := []) h3 h4 hA [] hC
  obtain ⟨w1, w2, w3, w4, w5, w6, w7⟩ := hw
  refine vg_call (E := E) (A1 := va_A [] H.size) (va_runSN (nL := nL) (As := As) (rest := rest) (n := k) ⟨hx, hb, hml, hown, hts⟩ (hM H.size) ⟨va_cnB (bytes := cy) (maxL := n) (ret := ret) k hts (TB_wc w3) rfl rfl rfl (w7 E _ hE) (hts _ w2) ⟨w4, w5, w6⟩ (by rw [hkr]; exact hR), hts _ w1, trivial⟩
    ⟨pc_blind (fun _ _ _ _ _ => trivial), fun U hU hW => ⟨rfl, by rw [hU], by rw [hU]; exact hPc, hE.warm hW, hDc.weaken (fun _ _ _ _ => trivial), trivial⟩⟩ rfl hn (h1.1.trans hkl) hst (lv_room hW) d (by rw [hkr, h0.1, h0.2]; exact hc)) h4 (fun q _ h => hFc q h) hFc (fun u H1 locs1 p1 d1 z1 k1 s1 => ?_)
  rw [h0.1, h0.2]
  obtain ⟨p2, d2⟩ := stA_P h2 h3 hC rfl k1 p1
  exact kk ls H1 locs1 h1 p2 d2 s1
-- making
theorem jv_objInit (pc : Nat) (X : CX E K cc nL own rm) {index : Nat} (hl : Cond.methodLink own index objectInit ∈ TB) (d : decode cc pc = .ok (.invokespecial index, 3)) (hf : 1 ≤ rm.frames) {rest : List Value} {a : Nat} (hlo : (rest.map fun v => v.category).sum + 12 ≤ rm.locals) (kk : JV E K cells slots ws lv (pc + 3) rest) : JV E K cells slots ws lv pc (.ref a :: rest) := fun ls H locs h1 h2 h3 h4 => W.objInit X.1 X.2.1 X.2.2.2.2.2.1 (X.2.2.2.2.2.2.1 _ hl) (X.2.2.2.2.2.2.1 _ tm_im_obj) (X.2.2.2.2.2.2.1 _ tm_code_obj) rfl (h1.1.trans (X.2.2.2.1.trans X.2.2.1.symm)) rfl d (by rw [X.2.2.2.2.1]; exact hf) (by rw [X.2.2.2.2.1]; simpa [JFrame.monitorRoom] using hlo) (kk ls H locs h1 h2 h3 h4)
theorem arr_same {U : State} {c1 c2 : ClassId} {ty : FieldType} (hp : ∀ C, ty ≠ .object C) (h1 : va_RA U c1 ty) (h2 : va_RA U c2 ty) : c1 = c2 := by
  cases ty <;> first | exact absurd rfl (hp _) | exact Option.some.inj (h1.symm.trans h2)
theorem jv_newi (pc : Nat) (X : CX E K cc nL own rm) (d : decode cc pc = .ok (.newarray .int, 2)) {i : Int32} {n : Nat} (hi : i = nI n) (hn : n < 100000) (hc : cells + 1 ≤ rm.cells ∧ slots + n ≤ rm.slots) {rest : List Value} (kk : ∀ q : Nat, JV E K (cells + 1) (slots + n) (ws ++ [(q, .inl (E.2.1, n, .inl (fun _ => 0)))]) lv (pc + 2) (.ref q :: rest)) : JV E K cells slots ws lv pc (.int i :: rest) := by
  intro ls H locs h1 h2 h3 h4
  obtain ⟨hx, hb, hml, hkl, hkr, hown, hts, hE, hA, hlk⟩ := id X
  refine va_newa (atype := .int) (ty := .int) (a0 := (n, .inl (fun _ => 0))) hx hb (hts _ tm_arr_int) rfl hE.1 h2 h3 h4 hA (fun _ => rfl) (by rw [hi]; exact nI_pos (by omega)) (by rw [hi]; exact nI_clamp (by omega)) (by show n * 4 ≤ 536870912; omega) (by rw [hkr]; exact hc.1) (by rw [hkr]; exact hc.2) d (fun q cA H1 k1 p1 d1 s1 => ?_)
  have hcA : cA = E.2.1 := arr_same (ty := .int) (fun _ h => by cases h) (k1.2 3 (cA, .int) rfl).2 (k1.2 0 (E.2.1, .int) rfl).2
  subst hcA
  exact kk q ls H1 locs h1 p1 d1 s1
theorem jv_newl (pc : Nat) (X : CX E K cc nL own rm) (d : decode cc pc = .ok (.newarray .long, 2)) {i : Int32} {n : Nat} (hi : i = nI n) (hn : n < 100000) (hc : cells + 1 ≤ rm.cells ∧ slots + n ≤ rm.slots) {rest : List Value} (kk : ∀ q : Nat, JV E K (cells + 1) (slots + n) (ws ++ [(q, .inl (E.2.2.1, n, .inr (.inl (fun _ => 0))))]) lv (pc + 2) (.ref q :: rest)) : JV E K cells slots ws lv pc (.int i :: rest) := by
  intro ls H locs h1 h2 h3 h4
  obtain ⟨hx, hb, hml, hkl, hkr, hown, hts, hE, hA, hlk⟩ := id X
  refine va_newa (atype := .long) (ty := .long) (a0 := (n, .inr (.inl (fun _ => 0)))) hx hb (hts _ tm_arr_long) rfl hE.1 h2 h3 h4 hA (fun _ => rfl) (by rw [hi]; exact nI_pos (by omega)) (by rw [hi]; exact nI_clamp (by omega)) (by show n * 8 ≤ 536870912; omega) (by rw [hkr]; exact hc.1) (by rw [hkr]; exact hc.2) d (fun q cA H1 k1 p1 d1 s1 => ?_)
  have hcA : cA = E.2.2.1 := arr_same (ty := .long) (fun _ h => by cases h) (k1.2 3 (cA, .long) rfl).2 (k1.2 1 (E.2.2.1, .long) rfl).2
  subst hcA
  exact kk q ls H1 locs h1 p1 d1 s1
theorem jv_newz (pc : Nat) (X : CX E K cc nL own rm) (d : decode cc pc = .ok (.newarray .boolean, 2)) {i : Int32} {n : Nat} (hi : i = nI n) (hn : n < 100000) (hc : cells + 1 ≤ rm.cells ∧ slots + n ≤ rm.slots) {rest : List Value} (kk : ∀ q : Nat, JV E K (cells + 1) (slots + n) (ws ++ [(q, .inl (E.2.2.2, n, .inl (fun _ => 0)))]) lv (pc + 2) (.ref q :: rest)) : JV E K cells slots ws lv pc (.int i :: rest) := by
  intro ls H locs h1 h2 h3 h4
  obtain ⟨hx, hb, hml, hkl, hkr, hown, hts, hE, hA, hlk⟩ := id X
  refine va_newa (atype := .boolean) (ty := .boolean) (a0 := (n, .inl (fun _ => 0))) hx hb (hts _ tm_arr_boolean) rfl hE.1 h2 h3 h4 hA (fun _ => rfl) (by rw [hi]; exact nI_pos (by omega)) (by rw [hi]; exact nI_clamp (by omega)) (by show n * 1 ≤ 536870912; omega) (by rw [hkr]; exact hc.1) (by rw [hkr]; exact hc.2) d (fun q cA H1 k1 p1 d1 s1 => ?_)
  have hcA : cA = E.2.2.2 := arr_same (ty := .boolean) (fun _ h => by cases h) (k1.2 3 (cA, .boolean) rfl).2 (k1.2 2 (E.2.2.2, .boolean) rfl).2
  subst hcA
  exact kk q ls H1 locs h1 p1 d1 s1
def WC (own : String) (index ci : Nat) (C : String) (T : u_T) (N : Nat) : Prop := vwCl[ci]? = some (C, T, N) ∧ (∀ w ∈ u_ws C T N, w ∈ TB) ∧ Cond.classLink own index C ∈ TB ∧ Cond.instantiable C N ∈ TB ∧ Cond.initialized C ∈ TB
theorem jv_new (pc : Nat) (X : CX E K cc nL own rm) {index ci : Nat} {C : String} {T : u_T} {N : Nat} (g : WC own index ci C T N) {ty : Nat → FieldType} (hty : ∀ k, k < N → parseFieldDescriptor (T k).2.2.1 = some (ty k)) (d : decode cc pc = .ok (.new index, 3)) {fs : List Value} (hfs : ∀ j, j < N → defaultValue (ty j) = vp_V fs j) (hc : cells + 1 ≤ rm.cells ∧ slots + N ≤ rm.slots) {rest : List Value} (kk : ∀ q : Nat, JV E K (cells + 1) (slots + N) (ws ++ [(q, .inr (ci, fs))]) lv (pc + 3) (.ref q :: rest)) : JV E K cells slots ws lv pc rest := by
  intro ls H locs h1 h2 h3 h4
  obtain ⟨hx, hb, hml, hkl, hkr, hown, hts, hE, hA, hlk⟩ := id X
  exact va_new hx hb hts g.2.1 ty hty hown (hts _ g.2.2.1) (hts _ g.2.2.2.1) (hts _ g.2.2.2.2) hE.1 h2 h3 h4 hA g.1 hfs (by rw [hkr]; exact hc.1) (by rw [hkr]; exact hc.2) d (fun q H1 p1 d1 s1 => kk q ls H1 locs h1 p1 d1 s1)
/-- a constructor on the last cell of the world -/
theorem jv_callI {S : Type} (pc : Nat) (X : CX E K cc nL own rm) {index : Nat} {y : MethodName} {cy : ByteArray} {n : Nat} {rmy : Room} {b : Nat} {ce : va_E} {wo : S → va_W} (hM : CG E (kLa K) y cy n none rmy [.ref b] [(b, ce)] noB (fun _ : S => none) wo) (hw : WI own index y cy n 0)
    (hR : rmy.frames + 1 ≤ rm.frames ∧ 8 + (n + 11) + rmy.locals ≤ rm.locals) (hc : cells + rmy.cells ≤ rm.cells ∧ slots + rmy.slots ≤ rm.slots) (d : decode cc pc = .ok (.invokespecial index, 3)) {rest : List Value} (hW : (rest.map fun v => v.category).sum ≤ 8)
    (kk : ∀ u : S, JV E K (cells + rmy.cells) (slots + rmy.slots) (ws ++ wo u) lv (pc + 3) rest) : JV E K cells slots (ws ++ [(b, ce)]) lv pc (.ref b :: rest) := by
  intro ls H locs h1 h2 h3 h4
  obtain ⟨hx, hb, hml, hkl, hkr, hown, hts, hE, hA, hlk⟩ := id X
  have hlast : (ws ++ [(b, ce)])[ws.length]? = some (b, ce) := by rw [List.getElem?_append_right (Nat.le_refl _)]; simp
  have hC : [ws.length].map (fun i => (ws ++ [(b, ce)])[i]?) = [(b, ce)].map some := by rw [List.map_singleton, hlast]; rfl
  have hDc := h3.sub (ws' := [(b, ce)]) [ws.length] (by simp [va_nd]) hC
  have hPc := cal_P hC h2
  have hFc := va_free h3 h4 hA [ws.length] hC
  obtain ⟨w1, w2, w4, w5, w6, w7, w8, w9⟩ := hw
  refine vg_call (E := E) (A1 := va_A [(b, ce)] H.size) (va_runI (nL := nL) (As := []) (rest := rest) (n := 0) ⟨hx, hb, hml, hown, hts⟩ (hM H.size) ⟨callB_of (bytes := cy) (maxL := n) (ret := none) 0 hts (TB_wc w5) rfl rfl rfl (hts _ w4) (hts _ w1) ⟨w7, w8, w9⟩ (by rw [hkr]; exact hR), w6, hts _ w2⟩
    ⟨pc_blind (fun _ _ _ _ _ => trivial), fun U hU hW => ⟨rfl, by rw [hU], by rw [hU]; exact hPc, hE.warm hW, hDc.weaken (fun _ _ _ _ => trivial), trivial⟩⟩ rfl rfl (h1.1.trans hkl) rfl (lv_room hW) d (by rw [hkr]; exact hc)) h4 (fun q _ h => hFc q h) hFc (fun u H1 locs1 p1 d1 z1 k1 s1 => ?_)
  have inl : ∀ (k : Nat) (q : Nat × va_E), ws[k]? = some q → (ws ++ [(b, ce)])[k]? = some q := fun k q hq => by rw [List.getElem?_append_left (List.getElem?_eq_some_iff.mp hq).1]; exact hq
  have apart : ∀ (k : Nat) (q : Nat × va_E), ws[k]? = some q → ¬ va_A [(b, ce)] H.size q.1 := by
    rintro k q hq (⟨j, e, hj⟩ | hge)
    · have h5 := h3.1 k ws.length q (b, ce) (inl k q hq) hlast (by
        match j, hj with
        | 0, hj => exact (congrArg (fun o : Nat × va_E => o.1) (Option.some.inj hj)).symm
        | j + 1, hj => simp at hj)
      exact absurd (List.getElem?_eq_some_iff.mp hq).1 (by rw [h5]; exact Nat.lt_irrefl _)
    · exact absurd (h2 k q (inl k q hq)).lt (Nat.not_lt.mpr hge)
  have hPr : va_P E.1 vwCl ws H1 := fun k q hq => (h2 k q (inl k q hq)).kept (k1 q.1 (h2 k q (inl k q hq)).lt (apart k q hq))
  have hDr : va_D (kA K) ws := ⟨fun i j p q hp hq e => h3.1 i j p q (inl i p hp) (inl j q hq) e, fun k q hq => h3.2 k q (inl k q hq)⟩
  exact kk u ls H1 locs1 h1 (hPr.app p1) (hDr.app (d1.weaken (fun k q _ h => hFc _ h)) (fun i j p q hp hq e => apart i p hp (e ▸ d1.2 j q hq))) s1
end RowsC
