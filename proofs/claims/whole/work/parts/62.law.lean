def LawP (E : EE) (K : Ctx) (b : Nat) (g : Nat → Nat → Nat) (a : Nat → Nat) (pc k : Nat) : Prop := ∀ (r : Rl) (k0 : Int32) (i0 : Rl) (k1 : Int32) (i1 : Rl) (sn : Nat) (pa : Int32) (signs kd on pl nm : Nat → Int32) (w1 w2 w3 w4 w5 : Int32) (tr : Rl) (ah : Ah) (lw : Lw) (ri : Rg) (mv : Nat → Int32) (hd : Hd) (book week : Nat → Int32) (sk : Nat) (sight pad image isKept : Nat → Int32) (u : ScrM), REL r k0 i0 k1 i1 sn signs book week sk sight pad image isKept → JV E K 85 5993 (wB [bLR g, tRl E (g 1) r, bIm (g 2 0) (g 3 0) k0, tRl E (g 3) i0, bIm (g 4 0) (g 5 0) k1, tRl E (g 5) i1, bPd E (g 6) (nI sn) pa signs kd on pl nm, bWk (g 7 0) (g 8 0) w1 w2 w3 w4 w5, tRl E (g 8) tr, tAh E (g 9) ah, tLw E (g 10) lw, tRg E (g 11) ri, bTu E (g 12) mv, tHd E (g 13) hd, bMd E a (book) u.1 (week) (nI sk) (sight) (nI sn) (pad) u.2.1 u.2.2.1 u.2.2.2.1 u.2.2.2.2.1 u.2.2.2.2.2.1 u.2.2.2.2.2.2.1 u.2.2.2.2.2.2.2.1 u.2.2.2.2.2.2.2.2.1 u.2.2.2.2.2.2.2.2.2.1 u.2.2.2.2.2.2.2.2.2.2.1 u.2.2.2.2.2.2.2.2.2.2.2.1 u.2.2.2.2.2.2.2.2.2.2.2.2.1 u.2.2.2.2.2.2.2.2.2.2.2.2.2 (image) (isKept)]) [(0, .ref b), (1, .ref (g 0 0)), (2, .ref (a 0)), (3, .int (nI (6 * k)))] pc []
set_option maxRecDepth 100000 in
set_option maxHeartbeats 4000000 in
theorem law_inch {E : EE} {K : Ctx} {b L : Nat} {xs : Nat → Int32} {g : Nat → Nat → Nat} {a : Nat → Nat} {k : Nat} (X : CX E K cL_law 4 RL room_1) (S : SC K b L xs) (hk : 6 * k + 6 ≤ L) (hL : L ≤ 384) (h : LawP E K b g a 1192 k) : LawP E K b g a 180 k := by
  intro r k0 i0 k1 i1 sn pa signs kd on pl nm w1 w2 w3 w4 w5 tr ah lw ri mv hd book week sk sight pad image isKept u hR
  have hO := r_inch hR.1 (xs (6 * k + 1))
  have hC := c_X9_inch E (kLa K) g r (xs (6 * k + 1))
  have hM := c_X10_inch E (kLa K) a book u.1 week (nI sk) sight (nI sn) pad u.2.1 u.2.2.1 u.2.2.2.1 u.2.2.2.2.1 u.2.2.2.2.2.1 u.2.2.2.2.2.2.1 u.2.2.2.2.2.2.2.1 u.2.2.2.2.2.2.2.2.1 u.2.2.2.2.2.2.2.2.2.1 u.2.2.2.2.2.2.2.2.2.2.1 u.2.2.2.2.2.2.2.2.2.2.2.1 u.2.2.2.2.2.2.2.2.2.2.2.2.1 u.2.2.2.2.2.2.2.2.2.2.2.2.2 image isKept (xs (6 * k + 1))
  refine jv_aload_n 180 X dL_law_180 1 rfl ?_
  refine jv_aload_n 181 X dL_law_181 0 rfl ?_
  refine jv_iload_n 182 X dL_law_182 3 rfl ?_
  refine jv_iconst (v := 1) 183 X dL_law_183 rfl ?_
  refine jv_iadd 184 X dL_law_184 ?_
  refine jv_sld 185 X S dL_law_185 (6 * k + 1) (nx_add rfl rfl) (by omega) (by omega) ?_
  refine jv_callB (wl2 := [bLR g, tRl E (g 1) ((k_inch (xs (6 * k + 1)) r).2), bIm (g 2 0) (g 3 0) k0, tRl E (g 3) i0, bIm (g 4 0) (g 5 0) k1, tRl E (g 5) i1, bPd E (g 6) (nI sn) pa signs kd on pl nm, bWk (g 7 0) (g 8 0) w1 w2 w3 w4 w5, tRl E (g 8) tr, tAh E (g 9) ah, tLw E (g 10) lw, tRg E (g 11) ri, bTu E (g 12) mv, tHd E (g 13) hd, bMd E a (book) u.1 (week) (nI sk) (sight) (nI sn) (pad) u.2.1 u.2.2.1 u.2.2.2.1 u.2.2.2.2.1 u.2.2.2.2.2.1 u.2.2.2.2.2.2.1 u.2.2.2.2.2.2.2.1 u.2.2.2.2.2.2.2.2.1 u.2.2.2.2.2.2.2.2.2.1 u.2.2.2.2.2.2.2.2.2.2.1 u.2.2.2.2.2.2.2.2.2.2.2.1 u.2.2.2.2.2.2.2.2.2.2.2.2.1 u.2.2.2.2.2.2.2.2.2.2.2.2.2 (image) (isKept)]) 186 X hC wv_L_13 ⟨Nat.le_of_ble_eq_true rfl, Nat.le_of_ble_eq_true rfl⟩ ⟨rfl, rfl⟩ ⟨Nat.le_of_ble_eq_true rfl, Nat.le_of_ble_eq_true rfl⟩ dL_law_186 rfl [] rfl (Nat.le_of_ble_eq_true rfl) [0, 1] rfl rfl [[(g 0 0)], [(g 1 0), (g 1 1), (g 1 2), (g 1 3), (g 1 4), (g 1 5), (g 1 6), (g 1 7), (g 1 8), (g 1 9), (g 1 10)]] rfl rfl 0 rfl rfl rfl rfl ?_
  refine jv_aload_n 189 X dL_law_189 2 rfl ?_
  refine jv_aload_n 190 X dL_law_190 0 rfl ?_
  refine jv_iload_n 191 X dL_law_191 3 rfl ?_
  refine jv_iconst (v := 1) 192 X dL_law_192 rfl ?_
  refine jv_iadd 193 X dL_law_193 ?_
  refine jv_sld 194 X S dL_law_194 (6 * k + 1) (nx_add rfl rfl) (by omega) (by omega) ?_
  refine jv_callB1 (wl2 := [bLR g, tRl E (g 1) ((k_inch (xs (6 * k + 1)) r).2), bIm (g 2 0) (g 3 0) k0, tRl E (g 3) i0, bIm (g 4 0) (g 5 0) k1, tRl E (g 5) i1, bPd E (g 6) (nI sn) pa signs kd on pl nm, bWk (g 7 0) (g 8 0) w1 w2 w3 w4 w5, tRl E (g 8) tr, tAh E (g 9) ah, tLw E (g 10) lw, tRg E (g 11) ri, bTu E (g 12) mv, tHd E (g 13) hd, bMd E a ((f_inch book (xs (6 * k + 1))).2) u.1 (week) (nI sk) (sight) (nI sn) (pad) u.2.1 u.2.2.1 u.2.2.2.1 u.2.2.2.2.1 u.2.2.2.2.2.1 u.2.2.2.2.2.2.1 u.2.2.2.2.2.2.2.1 u.2.2.2.2.2.2.2.2.1 u.2.2.2.2.2.2.2.2.2.1 u.2.2.2.2.2.2.2.2.2.2.1 u.2.2.2.2.2.2.2.2.2.2.2.1 u.2.2.2.2.2.2.2.2.2.2.2.2.1 u.2.2.2.2.2.2.2.2.2.2.2.2.2 (image) (isKept)]) 195 X hM wv_L_17 ⟨Nat.le_of_ble_eq_true rfl, Nat.le_of_ble_eq_true rfl⟩ ⟨rfl, rfl⟩ ⟨Nat.le_of_ble_eq_true rfl, Nat.le_of_ble_eq_true rfl⟩ dL_law_195 rfl [_] rfl (Nat.le_of_ble_eq_true rfl) 14 rfl [(a 0), (a 1), (a 2), (a 3), (a 4), (a 5), (a 6), (a 7), (a 8), (a 9), (a 10), (a 11), (a 12), (a 13), (a 14), (a 15)] rfl rfl rfl rfl rfl ?_
  refine jn_icmp_eq 198 X dL_law_198 1192 (by decide) (fun _ => ?_) (fun hne => absurd hO.1 hne)
  exact h ((k_inch (xs (6 * k + 1)) r).2) k0 i0 k1 i1 sn pa signs kd on pl nm w1 w2 w3 w4 w5 tr ah lw ri mv hd ((f_inch book (xs (6 * k + 1))).2) week sk sight pad image isKept u (x_rr hR hO.2)
set_option maxRecDepth 100000 in
set_option maxHeartbeats 4000000 in
theorem law_week {E : EE} {K : Ctx} {b L : Nat} {xs : Nat → Int32} {g : Nat → Nat → Nat} {a : Nat → Nat} {k : Nat} (X : CX E K cL_law 4 RL room_1) (S : SC K b L xs) (hk : 6 * k + 6 ≤ L) (hL : L ≤ 384) (h : LawP E K b g a 1192 k) : LawP E K b g a 203 k := by
  intro r k0 i0 k1 i1 sn pa signs kd on pl nm w1 w2 w3 w4 w5 tr ah lw ri mv hd book week sk sight pad image isKept u hR
  have hO := r_week hR.1 (xs (6 * k + 1)) (xs (6 * k + 2))
  have hC := c_X9_week E (kLa K) g r (xs (6 * k + 1)) (xs (6 * k + 2))
  have hM := c_X10_week E (kLa K) a book u.1 week (nI sk) sight (nI sn) pad u.2.1 u.2.2.1 u.2.2.2.1 u.2.2.2.2.1 u.2.2.2.2.2.1 u.2.2.2.2.2.2.1 u.2.2.2.2.2.2.2.1 u.2.2.2.2.2.2.2.2.1 u.2.2.2.2.2.2.2.2.2.1 u.2.2.2.2.2.2.2.2.2.2.1 u.2.2.2.2.2.2.2.2.2.2.2.1 u.2.2.2.2.2.2.2.2.2.2.2.2.1 u.2.2.2.2.2.2.2.2.2.2.2.2.2 image isKept (xs (6 * k + 1)) (xs (6 * k + 2))
  refine jv_aload_n 203 X dL_law_203 1 rfl ?_
  refine jv_aload_n 204 X dL_law_204 0 rfl ?_
  refine jv_iload_n 205 X dL_law_205 3 rfl ?_
  refine jv_iconst (v := 1) 206 X dL_law_206 rfl ?_
  refine jv_iadd 207 X dL_law_207 ?_
  refine jv_sld 208 X S dL_law_208 (6 * k + 1) (nx_add rfl rfl) (by omega) (by omega) ?_
  refine jv_aload_n 209 X dL_law_209 0 rfl ?_
  refine jv_iload_n 210 X dL_law_210 3 rfl ?_
  refine jv_iconst (v := 2) 211 X dL_law_211 rfl ?_
  refine jv_iadd 212 X dL_law_212 ?_
  refine jv_sld 213 X S dL_law_213 (6 * k + 2) (nx_add rfl rfl) (by omega) (by omega) ?_
  refine jv_callB (wl2 := [bLR g, tRl E (g 1) ((k_week (xs (6 * k + 1)) (xs (6 * k + 2)) r).2), bIm (g 2 0) (g 3 0) k0, tRl E (g 3) i0, bIm (g 4 0) (g 5 0) k1, tRl E (g 5) i1, bPd E (g 6) (nI sn) pa signs kd on pl nm, bWk (g 7 0) (g 8 0) w1 w2 w3 w4 w5, tRl E (g 8) tr, tAh E (g 9) ah, tLw E (g 10) lw, tRg E (g 11) ri, bTu E (g 12) mv, tHd E (g 13) hd, bMd E a (book) u.1 (week) (nI sk) (sight) (nI sn) (pad) u.2.1 u.2.2.1 u.2.2.2.1 u.2.2.2.2.1 u.2.2.2.2.2.1 u.2.2.2.2.2.2.1 u.2.2.2.2.2.2.2.1 u.2.2.2.2.2.2.2.2.1 u.2.2.2.2.2.2.2.2.2.1 u.2.2.2.2.2.2.2.2.2.2.1 u.2.2.2.2.2.2.2.2.2.2.2.1 u.2.2.2.2.2.2.2.2.2.2.2.2.1 u.2.2.2.2.2.2.2.2.2.2.2.2.2 (image) (isKept)]) 214 X hC wv_L_18 ⟨Nat.le_of_ble_eq_true rfl, Nat.le_of_ble_eq_true rfl⟩ ⟨rfl, rfl⟩ ⟨Nat.le_of_ble_eq_true rfl, Nat.le_of_ble_eq_true rfl⟩ dL_law_214 rfl [] rfl (Nat.le_of_ble_eq_true rfl) [0, 1] rfl rfl [[(g 0 0)], [(g 1 0), (g 1 1), (g 1 2), (g 1 3), (g 1 4), (g 1 5), (g 1 6), (g 1 7), (g 1 8), (g 1 9), (g 1 10)]] rfl rfl 0 rfl rfl rfl rfl ?_
  refine jv_aload_n 217 X dL_law_217 2 rfl ?_
  refine jv_aload_n 218 X dL_law_218 0 rfl ?_
  refine jv_iload_n 219 X dL_law_219 3 rfl ?_
  refine jv_iconst (v := 1) 220 X dL_law_220 rfl ?_
  refine jv_iadd 221 X dL_law_221 ?_
  refine jv_sld 222 X S dL_law_222 (6 * k + 1) (nx_add rfl rfl) (by omega) (by omega) ?_
  refine jv_aload_n 223 X dL_law_223 0 rfl ?_
  refine jv_iload_n 224 X dL_law_224 3 rfl ?_
  refine jv_iconst (v := 2) 225 X dL_law_225 rfl ?_
  refine jv_iadd 226 X dL_law_226 ?_
  refine jv_sld 227 X S dL_law_227 (6 * k + 2) (nx_add rfl rfl) (by omega) (by omega) ?_
  refine jv_callB1 (wl2 := [bLR g, tRl E (g 1) ((k_week (xs (6 * k + 1)) (xs (6 * k + 2)) r).2), bIm (g 2 0) (g 3 0) k0, tRl E (g 3) i0, bIm (g 4 0) (g 5 0) k1, tRl E (g 5) i1, bPd E (g 6) (nI sn) pa signs kd on pl nm, bWk (g 7 0) (g 8 0) w1 w2 w3 w4 w5, tRl E (g 8) tr, tAh E (g 9) ah, tLw E (g 10) lw, tRg E (g 11) ri, bTu E (g 12) mv, tHd E (g 13) hd, bMd E a (book) u.1 ((f_week week (xs (6 * k + 1)) (xs (6 * k + 2))).2) (nI sk) (sight) (nI sn) (pad) u.2.1 u.2.2.1 u.2.2.2.1 u.2.2.2.2.1 u.2.2.2.2.2.1 u.2.2.2.2.2.2.1 u.2.2.2.2.2.2.2.1 u.2.2.2.2.2.2.2.2.1 u.2.2.2.2.2.2.2.2.2.1 u.2.2.2.2.2.2.2.2.2.2.1 u.2.2.2.2.2.2.2.2.2.2.2.1 u.2.2.2.2.2.2.2.2.2.2.2.2.1 u.2.2.2.2.2.2.2.2.2.2.2.2.2 (image) (isKept)]) 228 X hM wv_L_22 ⟨Nat.le_of_ble_eq_true rfl, Nat.le_of_ble_eq_true rfl⟩ ⟨rfl, rfl⟩ ⟨Nat.le_of_ble_eq_true rfl, Nat.le_of_ble_eq_true rfl⟩ dL_law_228 rfl [_] rfl (Nat.le_of_ble_eq_true rfl) 14 rfl [(a 0), (a 1), (a 2), (a 3), (a 4), (a 5), (a 6), (a 7), (a 8), (a 9), (a 10), (a 11), (a 12), (a 13), (a 14), (a 15)] rfl rfl rfl rfl rfl ?_
  refine jn_icmp_eq 231 X dL_law_231 1192 (by decide) (fun _ => ?_) (fun hne => absurd hO.1 hne)
  exact h ((k_week (xs (6 * k + 1)) (xs (6 * k + 2)) r).2) k0 i0 k1 i1 sn pa signs kd on pl nm w1 w2 w3 w4 w5 tr ah lw ri mv hd book ((f_week week (xs (6 * k + 1)) (xs (6 * k + 2))).2) sk sight pad image isKept u (x_rr hR hO.2)
set_option maxRecDepth 100000 in
set_option maxHeartbeats 4000000 in
theorem law_one {E : EE} {K : Ctx} {b L : Nat} {xs : Nat → Int32} {g : Nat → Nat → Nat} {a : Nat → Nat} {k : Nat} (X : CX E K cL_law 4 RL room_1) (S : SC K b L xs) (hk : 6 * k + 6 ≤ L) (hL : L ≤ 384) (h : LawP E K b g a 1192 k) : LawP E K b g a 236 k := by
  intro r k0 i0 k1 i1 sn pa signs kd on pl nm w1 w2 w3 w4 w5 tr ah lw ri mv hd book week sk sight pad image isKept u hR
  have hO := r_one hR.1 (xs (6 * k + 1)) (xs (6 * k + 2)) (xs (6 * k + 3)) (xs (6 * k + 4))
  have hC := c_X9_one E (kLa K) g r (xs (6 * k + 1)) (xs (6 * k + 2)) (xs (6 * k + 3)) (xs (6 * k + 4))
  have hM := c_X10_one E (kLa K) a book u.1 week (nI sk) sight (nI sn) pad u.2.1 u.2.2.1 u.2.2.2.1 u.2.2.2.2.1 u.2.2.2.2.2.1 u.2.2.2.2.2.2.1 u.2.2.2.2.2.2.2.1 u.2.2.2.2.2.2.2.2.1 u.2.2.2.2.2.2.2.2.2.1 u.2.2.2.2.2.2.2.2.2.2.1 u.2.2.2.2.2.2.2.2.2.2.2.1 u.2.2.2.2.2.2.2.2.2.2.2.2.1 u.2.2.2.2.2.2.2.2.2.2.2.2.2 image isKept (xs (6 * k + 1)) (xs (6 * k + 2)) (xs (6 * k + 3)) (xs (6 * k + 4))
  refine jv_aload_n 236 X dL_law_236 1 rfl ?_
  refine jv_aload_n 237 X dL_law_237 0 rfl ?_
  refine jv_iload_n 238 X dL_law_238 3 rfl ?_
  refine jv_iconst (v := 1) 239 X dL_law_239 rfl ?_
  refine jv_iadd 240 X dL_law_240 ?_
  refine jv_sld 241 X S dL_law_241 (6 * k + 1) (nx_add rfl rfl) (by omega) (by omega) ?_
  refine jv_aload_n 242 X dL_law_242 0 rfl ?_
  refine jv_iload_n 243 X dL_law_243 3 rfl ?_
  refine jv_iconst (v := 2) 244 X dL_law_244 rfl ?_
  refine jv_iadd 245 X dL_law_245 ?_
  refine jv_sld 246 X S dL_law_246 (6 * k + 2) (nx_add rfl rfl) (by omega) (by omega) ?_
  refine jv_aload_n 247 X dL_law_247 0 rfl ?_
  refine jv_iload_n 248 X dL_law_248 3 rfl ?_
  refine jv_iconst (v := 3) 249 X dL_law_249 rfl ?_
  refine jv_iadd 250 X dL_law_250 ?_
  refine jv_sld 251 X S dL_law_251 (6 * k + 3) (nx_add rfl rfl) (by omega) (by omega) ?_
  refine jv_aload_n 252 X dL_law_252 0 rfl ?_
  refine jv_iload_n 253 X dL_law_253 3 rfl ?_
  refine jv_iconst (v := 4) 254 X dL_law_254 rfl ?_
  refine jv_iadd 255 X dL_law_255 ?_
  refine jv_sld 256 X S dL_law_256 (6 * k + 4) (nx_add rfl rfl) (by omega) (by omega) ?_
  refine jv_callB (wl2 := [bLR g, tRl E (g 1) ((k_one (xs (6 * k + 1)) (xs (6 * k + 2)) (xs (6 * k + 3)) (xs (6 * k + 4)) r).2), bIm (g 2 0) (g 3 0) k0, tRl E (g 3) i0, bIm (g 4 0) (g 5 0) k1, tRl E (g 5) i1, bPd E (g 6) (nI sn) pa signs kd on pl nm, bWk (g 7 0) (g 8 0) w1 w2 w3 w4 w5, tRl E (g 8) tr, tAh E (g 9) ah, tLw E (g 10) lw, tRg E (g 11) ri, bTu E (g 12) mv, tHd E (g 13) hd, bMd E a (book) u.1 (week) (nI sk) (sight) (nI sn) (pad) u.2.1 u.2.2.1 u.2.2.2.1 u.2.2.2.2.1 u.2.2.2.2.2.1 u.2.2.2.2.2.2.1 u.2.2.2.2.2.2.2.1 u.2.2.2.2.2.2.2.2.1 u.2.2.2.2.2.2.2.2.2.1 u.2.2.2.2.2.2.2.2.2.2.1 u.2.2.2.2.2.2.2.2.2.2.2.1 u.2.2.2.2.2.2.2.2.2.2.2.2.1 u.2.2.2.2.2.2.2.2.2.2.2.2.2 (image) (isKept)]) 257 X hC wv_L_23 ⟨Nat.le_of_ble_eq_true rfl, Nat.le_of_ble_eq_true rfl⟩ ⟨rfl, rfl⟩ ⟨Nat.le_of_ble_eq_true rfl, Nat.le_of_ble_eq_true rfl⟩ dL_law_257 rfl [] rfl (Nat.le_of_ble_eq_true rfl) [0, 1] rfl rfl [[(g 0 0)], [(g 1 0), (g 1 1), (g 1 2), (g 1 3), (g 1 4), (g 1 5), (g 1 6), (g 1 7), (g 1 8), (g 1 9), (g 1 10)]] rfl rfl 0 rfl rfl rfl rfl ?_
  refine jv_aload_n 260 X dL_law_260 2 rfl ?_
  refine jv_aload_n 261 X dL_law_261 0 rfl ?_
  refine jv_iload_n 262 X dL_law_262 3 rfl ?_
  refine jv_iconst (v := 1) 263 X dL_law_263 rfl ?_
  refine jv_iadd 264 X dL_law_264 ?_
  refine jv_sld 265 X S dL_law_265 (6 * k + 1) (nx_add rfl rfl) (by omega) (by omega) ?_
  refine jv_aload_n 266 X dL_law_266 0 rfl ?_
  refine jv_iload_n 267 X dL_law_267 3 rfl ?_
  refine jv_iconst (v := 2) 268 X dL_law_268 rfl ?_
  refine jv_iadd 269 X dL_law_269 ?_
  refine jv_sld 270 X S dL_law_270 (6 * k + 2) (nx_add rfl rfl) (by omega) (by omega) ?_
  refine jv_aload_n 271 X dL_law_271 0 rfl ?_
  refine jv_iload_n 272 X dL_law_272 3 rfl ?_
  refine jv_iconst (v := 3) 273 X dL_law_273 rfl ?_
  refine jv_iadd 274 X dL_law_274 ?_
  refine jv_sld 275 X S dL_law_275 (6 * k + 3) (nx_add rfl rfl) (by omega) (by omega) ?_
  refine jv_aload_n 276 X dL_law_276 0 rfl ?_
  refine jv_iload_n 277 X dL_law_277 3 rfl ?_
  refine jv_iconst (v := 4) 278 X dL_law_278 rfl ?_
  refine jv_iadd 279 X dL_law_279 ?_
  refine jv_sld 280 X S dL_law_280 (6 * k + 4) (nx_add rfl rfl) (by omega) (by omega) ?_
  refine jv_callB1 (wl2 := [bLR g, tRl E (g 1) ((k_one (xs (6 * k + 1)) (xs (6 * k + 2)) (xs (6 * k + 3)) (xs (6 * k + 4)) r).2), bIm (g 2 0) (g 3 0) k0, tRl E (g 3) i0, bIm (g 4 0) (g 5 0) k1, tRl E (g 5) i1, bPd E (g 6) (nI sn) pa signs kd on pl nm, bWk (g 7 0) (g 8 0) w1 w2 w3 w4 w5, tRl E (g 8) tr, tAh E (g 9) ah, tLw E (g 10) lw, tRg E (g 11) ri, bTu E (g 12) mv, tHd E (g 13) hd, bMd E a ((f_one book (xs (6 * k + 1)) (xs (6 * k + 2)) (xs (6 * k + 3)) (xs (6 * k + 4))).2) u.1 (week) (nI sk) (sight) (nI sn) (pad) u.2.1 u.2.2.1 u.2.2.2.1 u.2.2.2.2.1 u.2.2.2.2.2.1 u.2.2.2.2.2.2.1 u.2.2.2.2.2.2.2.1 u.2.2.2.2.2.2.2.2.1 u.2.2.2.2.2.2.2.2.2.1 u.2.2.2.2.2.2.2.2.2.2.1 u.2.2.2.2.2.2.2.2.2.2.2.1 u.2.2.2.2.2.2.2.2.2.2.2.2.1 u.2.2.2.2.2.2.2.2.2.2.2.2.2 (image) (isKept)]) 281 X hM wv_L_27 ⟨Nat.le_of_ble_eq_true rfl, Nat.le_of_ble_eq_true rfl⟩ ⟨rfl, rfl⟩ ⟨Nat.le_of_ble_eq_true rfl, Nat.le_of_ble_eq_true rfl⟩ dL_law_281 rfl [_] rfl (Nat.le_of_ble_eq_true rfl) 14 rfl [(a 0), (a 1), (a 2), (a 3), (a 4), (a 5), (a 6), (a 7), (a 8), (a 9), (a 10), (a 11), (a 12), (a 13), (a 14), (a 15)] rfl rfl rfl rfl rfl ?_
  refine jn_icmp_eq 284 X dL_law_284 1192 (by decide) (fun _ => ?_) (fun hne => absurd hO.1 hne)
  exact h ((k_one (xs (6 * k + 1)) (xs (6 * k + 2)) (xs (6 * k + 3)) (xs (6 * k + 4)) r).2) k0 i0 k1 i1 sn pa signs kd on pl nm w1 w2 w3 w4 w5 tr ah lw ri mv hd ((f_one book (xs (6 * k + 1)) (xs (6 * k + 2)) (xs (6 * k + 3)) (xs (6 * k + 4))).2) week sk sight pad image isKept u (x_rr hR hO.2)
set_option maxRecDepth 100000 in
set_option maxHeartbeats 4000000 in
theorem law_stick {E : EE} {K : Ctx} {b L : Nat} {xs : Nat → Int32} {g : Nat → Nat → Nat} {a : Nat → Nat} {k : Nat} (X : CX E K cL_law 4 RL room_1) (S : SC K b L xs) (hk : 6 * k + 6 ≤ L) (hL : L ≤ 384) (h : LawP E K b g a 1192 k) : LawP E K b g a 289 k := by
  intro r k0 i0 k1 i1 sn pa signs kd on pl nm w1 w2 w3 w4 w5 tr ah lw ri mv hd book week sk sight pad image isKept u hR
  have hO := r_stick hR.1 (xs (6 * k + 1)) (xs (6 * k + 2))
  have hC := c_X9_stick E (kLa K) g r (xs (6 * k + 1)) (xs (6 * k + 2))
  have hM := c_X10_stick E (kLa K) a book u.1 week (nI sk) sight (nI sn) pad u.2.1 u.2.2.1 u.2.2.2.1 u.2.2.2.2.1 u.2.2.2.2.2.1 u.2.2.2.2.2.2.1 u.2.2.2.2.2.2.2.1 u.2.2.2.2.2.2.2.2.1 u.2.2.2.2.2.2.2.2.2.1 u.2.2.2.2.2.2.2.2.2.2.1 u.2.2.2.2.2.2.2.2.2.2.2.1 u.2.2.2.2.2.2.2.2.2.2.2.2.1 u.2.2.2.2.2.2.2.2.2.2.2.2.2 image isKept (xs (6 * k + 1)) (xs (6 * k + 2))
  refine jv_aload_n 289 X dL_law_289 1 rfl ?_
  refine jv_aload_n 290 X dL_law_290 0 rfl ?_
  refine jv_iload_n 291 X dL_law_291 3 rfl ?_
  refine jv_iconst (v := 1) 292 X dL_law_292 rfl ?_
  refine jv_iadd 293 X dL_law_293 ?_
  refine jv_sld 294 X S dL_law_294 (6 * k + 1) (nx_add rfl rfl) (by omega) (by omega) ?_
  refine jv_aload_n 295 X dL_law_295 0 rfl ?_
  refine jv_iload_n 296 X dL_law_296 3 rfl ?_
  refine jv_iconst (v := 2) 297 X dL_law_297 rfl ?_
  refine jv_iadd 298 X dL_law_298 ?_
  refine jv_sld 299 X S dL_law_299 (6 * k + 2) (nx_add rfl rfl) (by omega) (by omega) ?_
  refine jv_callB (wl2 := [bLR g, tRl E (g 1) ((k_stick (xs (6 * k + 1)) (xs (6 * k + 2)) r).2), bIm (g 2 0) (g 3 0) k0, tRl E (g 3) i0, bIm (g 4 0) (g 5 0) k1, tRl E (g 5) i1, bPd E (g 6) (nI sn) pa signs kd on pl nm, bWk (g 7 0) (g 8 0) w1 w2 w3 w4 w5, tRl E (g 8) tr, tAh E (g 9) ah, tLw E (g 10) lw, tRg E (g 11) ri, bTu E (g 12) mv, tHd E (g 13) hd, bMd E a (book) u.1 (week) (nI sk) (sight) (nI sn) (pad) u.2.1 u.2.2.1 u.2.2.2.1 u.2.2.2.2.1 u.2.2.2.2.2.1 u.2.2.2.2.2.2.1 u.2.2.2.2.2.2.2.1 u.2.2.2.2.2.2.2.2.1 u.2.2.2.2.2.2.2.2.2.1 u.2.2.2.2.2.2.2.2.2.2.1 u.2.2.2.2.2.2.2.2.2.2.2.1 u.2.2.2.2.2.2.2.2.2.2.2.2.1 u.2.2.2.2.2.2.2.2.2.2.2.2.2 (image) (isKept)]) 300 X hC wv_L_28 ⟨Nat.le_of_ble_eq_true rfl, Nat.le_of_ble_eq_true rfl⟩ ⟨rfl, rfl⟩ ⟨Nat.le_of_ble_eq_true rfl, Nat.le_of_ble_eq_true rfl⟩ dL_law_300 rfl [] rfl (Nat.le_of_ble_eq_true rfl) [0, 1] rfl rfl [[(g 0 0)], [(g 1 0), (g 1 1), (g 1 2), (g 1 3), (g 1 4), (g 1 5), (g 1 6), (g 1 7), (g 1 8), (g 1 9), (g 1 10)]] rfl rfl 0 rfl rfl rfl rfl ?_
  refine jv_aload_n 303 X dL_law_303 2 rfl ?_
  refine jv_aload_n 304 X dL_law_304 0 rfl ?_
  refine jv_iload_n 305 X dL_law_305 3 rfl ?_
  refine jv_iconst (v := 1) 306 X dL_law_306 rfl ?_
  refine jv_iadd 307 X dL_law_307 ?_
  refine jv_sld 308 X S dL_law_308 (6 * k + 1) (nx_add rfl rfl) (by omega) (by omega) ?_
  refine jv_aload_n 309 X dL_law_309 0 rfl ?_
  refine jv_iload_n 310 X dL_law_310 3 rfl ?_
  refine jv_iconst (v := 2) 311 X dL_law_311 rfl ?_
  refine jv_iadd 312 X dL_law_312 ?_
  refine jv_sld 313 X S dL_law_313 (6 * k + 2) (nx_add rfl rfl) (by omega) (by omega) ?_
  refine jv_callB1 (wl2 := [bLR g, tRl E (g 1) ((k_stick (xs (6 * k + 1)) (xs (6 * k + 2)) r).2), bIm (g 2 0) (g 3 0) k0, tRl E (g 3) i0, bIm (g 4 0) (g 5 0) k1, tRl E (g 5) i1, bPd E (g 6) (nI sn) pa signs kd on pl nm, bWk (g 7 0) (g 8 0) w1 w2 w3 w4 w5, tRl E (g 8) tr, tAh E (g 9) ah, tLw E (g 10) lw, tRg E (g 11) ri, bTu E (g 12) mv, tHd E (g 13) hd, bMd E a ((f_stick book (xs (6 * k + 1)) (xs (6 * k + 2))).2) u.1 (week) (nI sk) (sight) (nI sn) (pad) u.2.1 u.2.2.1 u.2.2.2.1 u.2.2.2.2.1 u.2.2.2.2.2.1 u.2.2.2.2.2.2.1 u.2.2.2.2.2.2.2.1 u.2.2.2.2.2.2.2.2.1 u.2.2.2.2.2.2.2.2.2.1 u.2.2.2.2.2.2.2.2.2.2.1 u.2.2.2.2.2.2.2.2.2.2.2.1 u.2.2.2.2.2.2.2.2.2.2.2.2.1 u.2.2.2.2.2.2.2.2.2.2.2.2.2 (image) (isKept)]) 314 X hM wv_L_31 ⟨Nat.le_of_ble_eq_true rfl, Nat.le_of_ble_eq_true rfl⟩ ⟨rfl, rfl⟩ ⟨Nat.le_of_ble_eq_true rfl, Nat.le_of_ble_eq_true rfl⟩ dL_law_314 rfl [_] rfl (Nat.le_of_ble_eq_true rfl) 14 rfl [(a 0), (a 1), (a 2), (a 3), (a 4), (a 5), (a 6), (a 7), (a 8), (a 9), (a 10), (a 11), (a 12), (a 13), (a 14), (a 15)] rfl rfl rfl rfl rfl ?_
  refine jn_icmp_eq 317 X dL_law_317 1192 (by decide) (fun _ => ?_) (fun hne => absurd hO.1 hne)
  exact h ((k_stick (xs (6 * k + 1)) (xs (6 * k + 2)) r).2) k0 i0 k1 i1 sn pa signs kd on pl nm w1 w2 w3 w4 w5 tr ah lw ri mv hd ((f_stick book (xs (6 * k + 1)) (xs (6 * k + 2))).2) week sk sight pad image isKept u (x_rr hR hO.2)
set_option maxRecDepth 100000 in
set_option maxHeartbeats 4000000 in
theorem law_bridge {E : EE} {K : Ctx} {b L : Nat} {xs : Nat → Int32} {g : Nat → Nat → Nat} {a : Nat → Nat} {k : Nat} (X : CX E K cL_law 4 RL room_1) (S : SC K b L xs) (hk : 6 * k + 6 ≤ L) (hL : L ≤ 384) (h : LawP E K b g a 1192 k) : LawP E K b g a 322 k := by
  intro r k0 i0 k1 i1 sn pa signs kd on pl nm w1 w2 w3 w4 w5 tr ah lw ri mv hd book week sk sight pad image isKept u hR
  have hO := r_bridge hR.1 (xs (6 * k + 1)) (xs (6 * k + 2))
  have hC := c_X9_bridge E (kLa K) g r (xs (6 * k + 1)) (xs (6 * k + 2))
  have hM := c_X10_bridge E (kLa K) a book u.1 week (nI sk) sight (nI sn) pad u.2.1 u.2.2.1 u.2.2.2.1 u.2.2.2.2.1 u.2.2.2.2.2.1 u.2.2.2.2.2.2.1 u.2.2.2.2.2.2.2.1 u.2.2.2.2.2.2.2.2.1 u.2.2.2.2.2.2.2.2.2.1 u.2.2.2.2.2.2.2.2.2.2.1 u.2.2.2.2.2.2.2.2.2.2.2.1 u.2.2.2.2.2.2.2.2.2.2.2.2.1 u.2.2.2.2.2.2.2.2.2.2.2.2.2 image isKept (xs (6 * k + 1)) (xs (6 * k + 2))
  refine jv_aload_n 322 X dL_law_322 1 rfl ?_
  refine jv_aload_n 323 X dL_law_323 0 rfl ?_
  refine jv_iload_n 324 X dL_law_324 3 rfl ?_
  refine jv_iconst (v := 1) 325 X dL_law_325 rfl ?_
  refine jv_iadd 326 X dL_law_326 ?_
  refine jv_sld 327 X S dL_law_327 (6 * k + 1) (nx_add rfl rfl) (by omega) (by omega) ?_
  refine jv_aload_n 328 X dL_law_328 0 rfl ?_
  refine jv_iload_n 329 X dL_law_329 3 rfl ?_
  refine jv_iconst (v := 2) 330 X dL_law_330 rfl ?_
  refine jv_iadd 331 X dL_law_331 ?_
  refine jv_sld 332 X S dL_law_332 (6 * k + 2) (nx_add rfl rfl) (by omega) (by omega) ?_
  refine jv_callB (wl2 := [bLR g, tRl E (g 1) ((k_bridge (xs (6 * k + 1)) (xs (6 * k + 2)) r).2), bIm (g 2 0) (g 3 0) k0, tRl E (g 3) i0, bIm (g 4 0) (g 5 0) k1, tRl E (g 5) i1, bPd E (g 6) (nI sn) pa signs kd on pl nm, bWk (g 7 0) (g 8 0) w1 w2 w3 w4 w5, tRl E (g 8) tr, tAh E (g 9) ah, tLw E (g 10) lw, tRg E (g 11) ri, bTu E (g 12) mv, tHd E (g 13) hd, bMd E a (book) u.1 (week) (nI sk) (sight) (nI sn) (pad) u.2.1 u.2.2.1 u.2.2.2.1 u.2.2.2.2.1 u.2.2.2.2.2.1 u.2.2.2.2.2.2.1 u.2.2.2.2.2.2.2.1 u.2.2.2.2.2.2.2.2.1 u.2.2.2.2.2.2.2.2.2.1 u.2.2.2.2.2.2.2.2.2.2.1 u.2.2.2.2.2.2.2.2.2.2.2.1 u.2.2.2.2.2.2.2.2.2.2.2.2.1 u.2.2.2.2.2.2.2.2.2.2.2.2.2 (image) (isKept)]) 333 X hC wv_L_32 ⟨Nat.le_of_ble_eq_true rfl, Nat.le_of_ble_eq_true rfl⟩ ⟨rfl, rfl⟩ ⟨Nat.le_of_ble_eq_true rfl, Nat.le_of_ble_eq_true rfl⟩ dL_law_333 rfl [] rfl (Nat.le_of_ble_eq_true rfl) [0, 1] rfl rfl [[(g 0 0)], [(g 1 0), (g 1 1), (g 1 2), (g 1 3), (g 1 4), (g 1 5), (g 1 6), (g 1 7), (g 1 8), (g 1 9), (g 1 10)]] rfl rfl 0 rfl rfl rfl rfl ?_
  refine jv_aload_n 336 X dL_law_336 2 rfl ?_
  refine jv_aload_n 337 X dL_law_337 0 rfl ?_
  refine jv_iload_n 338 X dL_law_338 3 rfl ?_
  refine jv_iconst (v := 1) 339 X dL_law_339 rfl ?_
  refine jv_iadd 340 X dL_law_340 ?_
  refine jv_sld 341 X S dL_law_341 (6 * k + 1) (nx_add rfl rfl) (by omega) (by omega) ?_
  refine jv_aload_n 342 X dL_law_342 0 rfl ?_
  refine jv_iload_n 343 X dL_law_343 3 rfl ?_
  refine jv_iconst (v := 2) 344 X dL_law_344 rfl ?_
  refine jv_iadd 345 X dL_law_345 ?_
  refine jv_sld 346 X S dL_law_346 (6 * k + 2) (nx_add rfl rfl) (by omega) (by omega) ?_
  refine jv_callB1 (wl2 := [bLR g, tRl E (g 1) ((k_bridge (xs (6 * k + 1)) (xs (6 * k + 2)) r).2), bIm (g 2 0) (g 3 0) k0, tRl E (g 3) i0, bIm (g 4 0) (g 5 0) k1, tRl E (g 5) i1, bPd E (g 6) (nI sn) pa signs kd on pl nm, bWk (g 7 0) (g 8 0) w1 w2 w3 w4 w5, tRl E (g 8) tr, tAh E (g 9) ah, tLw E (g 10) lw, tRg E (g 11) ri, bTu E (g 12) mv, tHd E (g 13) hd, bMd E a ((f_bridge book (xs (6 * k + 1)) (xs (6 * k + 2))).2) u.1 (week) (nI sk) (sight) (nI sn) (pad) u.2.1 u.2.2.1 u.2.2.2.1 u.2.2.2.2.1 u.2.2.2.2.2.1 u.2.2.2.2.2.2.1 u.2.2.2.2.2.2.2.1 u.2.2.2.2.2.2.2.2.1 u.2.2.2.2.2.2.2.2.2.1 u.2.2.2.2.2.2.2.2.2.2.1 u.2.2.2.2.2.2.2.2.2.2.2.1 u.2.2.2.2.2.2.2.2.2.2.2.2.1 u.2.2.2.2.2.2.2.2.2.2.2.2.2 (image) (isKept)]) 347 X hM wv_L_35 ⟨Nat.le_of_ble_eq_true rfl, Nat.le_of_ble_eq_true rfl⟩ ⟨rfl, rfl⟩ ⟨Nat.le_of_ble_eq_true rfl, Nat.le_of_ble_eq_true rfl⟩ dL_law_347 rfl [_] rfl (Nat.le_of_ble_eq_true rfl) 14 rfl [(a 0), (a 1), (a 2), (a 3), (a 4), (a 5), (a 6), (a 7), (a 8), (a 9), (a 10), (a 11), (a 12), (a 13), (a 14), (a 15)] rfl rfl rfl rfl rfl ?_
  refine jn_icmp_eq 350 X dL_law_350 1192 (by decide) (fun _ => ?_) (fun hne => absurd hO.1 hne)
  exact h ((k_bridge (xs (6 * k + 1)) (xs (6 * k + 2)) r).2) k0 i0 k1 i1 sn pa signs kd on pl nm w1 w2 w3 w4 w5 tr ah lw ri mv hd ((f_bridge book (xs (6 * k + 1)) (xs (6 * k + 2))).2) week sk sight pad image isKept u (x_rr hR hO.2)
set_option maxRecDepth 100000 in
set_option maxHeartbeats 4000000 in
theorem law_say {E : EE} {K : Ctx} {b L : Nat} {xs : Nat → Int32} {g : Nat → Nat → Nat} {a : Nat → Nat} {k : Nat} (X : CX E K cL_law 4 RL room_1) (S : SC K b L xs) (hk : 6 * k + 6 ≤ L) (hL : L ≤ 384) (h : LawP E K b g a 1192 k) : LawP E K b g a 355 k := by
  intro r k0 i0 k1 i1 sn pa signs kd on pl nm w1 w2 w3 w4 w5 tr ah lw ri mv hd book week sk sight pad image isKept u hR
  have hO := o_say hR (xs (6 * k + 1))
  have hC := c_X9_say E (kLa K) g sn pa signs kd on pl nm (xs (6 * k + 1)) (x_sn hR)
  rw [hO.2.1] at hC
  have hM := c_X10_say E (kLa K) a book u.1 week (nI sk) sight sn pad u.2.1 u.2.2.1 u.2.2.2.1 u.2.2.2.2.1 u.2.2.2.2.2.1 u.2.2.2.2.2.2.1 u.2.2.2.2.2.2.2.1 u.2.2.2.2.2.2.2.2.1 u.2.2.2.2.2.2.2.2.2.1 u.2.2.2.2.2.2.2.2.2.2.1 u.2.2.2.2.2.2.2.2.2.2.2.1 u.2.2.2.2.2.2.2.2.2.2.2.2.1 u.2.2.2.2.2.2.2.2.2.2.2.2.2 image isKept (xs (6 * k + 1)) (x_sn hR)
  refine jv_aload_n 355 X dL_law_355 1 rfl ?_
  refine jv_aload_n 356 X dL_law_356 0 rfl ?_
  refine jv_iload_n 357 X dL_law_357 3 rfl ?_
  refine jv_iconst (v := 1) 358 X dL_law_358 rfl ?_
  refine jv_iadd 359 X dL_law_359 ?_
  refine jv_sld 360 X S dL_law_360 (6 * k + 1) (nx_add rfl rfl) (by omega) (by omega) ?_
  refine jv_callB (wl2 := [bLR g, tRl E (g 1) r, bIm (g 2 0) (g 3 0) k0, tRl E (g 3) i0, bIm (g 4 0) (g 5 0) k1, tRl E (g 5) i1, bPd E (g 6) (nI (f_say sn pad (xs (6 * k + 1))).2.1) pa (if 33 ≤ (xs (6 * k + 1)) ∧ (xs (6 * k + 1)) ≤ 126 then (if 60 ≤ sn then signs else upd signs sn (xs (6 * k + 1))) else signs) kd on pl nm, bWk (g 7 0) (g 8 0) w1 w2 w3 w4 w5, tRl E (g 8) tr, tAh E (g 9) ah, tLw E (g 10) lw, tRg E (g 11) ri, bTu E (g 12) mv, tHd E (g 13) hd, bMd E a (book) u.1 (week) (nI sk) (sight) (nI sn) (pad) u.2.1 u.2.2.1 u.2.2.2.1 u.2.2.2.2.1 u.2.2.2.2.2.1 u.2.2.2.2.2.2.1 u.2.2.2.2.2.2.2.1 u.2.2.2.2.2.2.2.2.1 u.2.2.2.2.2.2.2.2.2.1 u.2.2.2.2.2.2.2.2.2.2.1 u.2.2.2.2.2.2.2.2.2.2.2.1 u.2.2.2.2.2.2.2.2.2.2.2.2.1 u.2.2.2.2.2.2.2.2.2.2.2.2.2 (image) (isKept)]) 361 X hC wv_L_36 ⟨Nat.le_of_ble_eq_true rfl, Nat.le_of_ble_eq_true rfl⟩ ⟨rfl, rfl⟩ ⟨Nat.le_of_ble_eq_true rfl, Nat.le_of_ble_eq_true rfl⟩ dL_law_361 rfl [] rfl (Nat.le_of_ble_eq_true rfl) [0, 6] rfl rfl [[(g 0 0)], [(g 6 0), (g 6 1), (g 6 2), (g 6 3), (g 6 4), (g 6 5)]] rfl rfl 0 rfl rfl rfl rfl ?_
  refine jv_aload_n 364 X dL_law_364 2 rfl ?_
  refine jv_aload_n 365 X dL_law_365 0 rfl ?_
  refine jv_iload_n 366 X dL_law_366 3 rfl ?_
  refine jv_iconst (v := 1) 367 X dL_law_367 rfl ?_
  refine jv_iadd 368 X dL_law_368 ?_
  refine jv_sld 369 X S dL_law_369 (6 * k + 1) (nx_add rfl rfl) (by omega) (by omega) ?_
  refine jv_callB1 (wl2 := [bLR g, tRl E (g 1) r, bIm (g 2 0) (g 3 0) k0, tRl E (g 3) i0, bIm (g 4 0) (g 5 0) k1, tRl E (g 5) i1, bPd E (g 6) (nI (f_say sn pad (xs (6 * k + 1))).2.1) pa (if 33 ≤ (xs (6 * k + 1)) ∧ (xs (6 * k + 1)) ≤ 126 then (if 60 ≤ sn then signs else upd signs sn (xs (6 * k + 1))) else signs) kd on pl nm, bWk (g 7 0) (g 8 0) w1 w2 w3 w4 w5, tRl E (g 8) tr, tAh E (g 9) ah, tLw E (g 10) lw, tRg E (g 11) ri, bTu E (g 12) mv, tHd E (g 13) hd, bMd E a (book) u.1 (week) (nI sk) (sight) (nI (f_say sn pad (xs (6 * k + 1))).2.1) ((f_say sn pad (xs (6 * k + 1))).2.2) u.2.1 u.2.2.1 u.2.2.2.1 u.2.2.2.2.1 u.2.2.2.2.2.1 u.2.2.2.2.2.2.1 u.2.2.2.2.2.2.2.1 u.2.2.2.2.2.2.2.2.1 u.2.2.2.2.2.2.2.2.2.1 u.2.2.2.2.2.2.2.2.2.2.1 u.2.2.2.2.2.2.2.2.2.2.2.1 u.2.2.2.2.2.2.2.2.2.2.2.2.1 u.2.2.2.2.2.2.2.2.2.2.2.2.2 (image) (isKept)]) 370 X hM wv_L_39 ⟨Nat.le_of_ble_eq_true rfl, Nat.le_of_ble_eq_true rfl⟩ ⟨rfl, rfl⟩ ⟨Nat.le_of_ble_eq_true rfl, Nat.le_of_ble_eq_true rfl⟩ dL_law_370 rfl [_] rfl (Nat.le_of_ble_eq_true rfl) 14 rfl [(a 0), (a 1), (a 2), (a 3), (a 4), (a 5), (a 6), (a 7), (a 8), (a 9), (a 10), (a 11), (a 12), (a 13), (a 14), (a 15)] rfl rfl rfl rfl rfl ?_
  refine jn_icmp_eq 373 X dL_law_373 1192 (by decide) (fun _ => ?_) (fun hne => absurd hO.1 hne)
  exact h r k0 i0 k1 i1 ((f_say sn pad (xs (6 * k + 1))).2.1) pa (if 33 ≤ (xs (6 * k + 1)) ∧ (xs (6 * k + 1)) ≤ 126 then (if 60 ≤ sn then signs else upd signs sn (xs (6 * k + 1))) else signs) kd on pl nm w1 w2 w3 w4 w5 tr ah lw ri mv hd book week sk sight ((f_say sn pad (xs (6 * k + 1))).2.2) image isKept u hO.2.2
set_option maxRecDepth 100000 in
set_option maxHeartbeats 4000000 in
theorem law_wipe {E : EE} {K : Ctx} {b L : Nat} {xs : Nat → Int32} {g : Nat → Nat → Nat} {a : Nat → Nat} {k : Nat} (X : CX E K cL_law 4 RL room_1) (S : SC K b L xs) (hk : 6 * k + 6 ≤ L) (hL : L ≤ 384) (h : LawP E K b g a 1192 k) : LawP E K b g a 378 k := by
  intro r k0 i0 k1 i1 sn pa signs kd on pl nm w1 w2 w3 w4 w5 tr ah lw ri mv hd book week sk sight pad image isKept u hR
  have hC := c_X9_wipe E (kLa K) g (nI sn) pa signs kd on pl nm
  have hM := c_X10_wipe E (kLa K) a book u.1 week (nI sk) sight (nI sn) pad u.2.1 u.2.2.1 u.2.2.2.1 u.2.2.2.2.1 u.2.2.2.2.2.1 u.2.2.2.2.2.2.1 u.2.2.2.2.2.2.2.1 u.2.2.2.2.2.2.2.2.1 u.2.2.2.2.2.2.2.2.2.1 u.2.2.2.2.2.2.2.2.2.2.1 u.2.2.2.2.2.2.2.2.2.2.2.1 u.2.2.2.2.2.2.2.2.2.2.2.2.1 u.2.2.2.2.2.2.2.2.2.2.2.2.2 image isKept 
  refine jv_aload_n 378 X dL_law_378 1 rfl ?_
  refine jv_callB (wl2 := [bLR g, tRl E (g 1) r, bIm (g 2 0) (g 3 0) k0, tRl E (g 3) i0, bIm (g 4 0) (g 5 0) k1, tRl E (g 5) i1, bPd E (g 6) 0 pa signs kd on pl nm, bWk (g 7 0) (g 8 0) w1 w2 w3 w4 w5, tRl E (g 8) tr, tAh E (g 9) ah, tLw E (g 10) lw, tRg E (g 11) ri, bTu E (g 12) mv, tHd E (g 13) hd, bMd E a (book) u.1 (week) (nI sk) (sight) (nI sn) (pad) u.2.1 u.2.2.1 u.2.2.2.1 u.2.2.2.2.1 u.2.2.2.2.2.1 u.2.2.2.2.2.2.1 u.2.2.2.2.2.2.2.1 u.2.2.2.2.2.2.2.2.1 u.2.2.2.2.2.2.2.2.2.1 u.2.2.2.2.2.2.2.2.2.2.1 u.2.2.2.2.2.2.2.2.2.2.2.1 u.2.2.2.2.2.2.2.2.2.2.2.2.1 u.2.2.2.2.2.2.2.2.2.2.2.2.2 (image) (isKept)]) 379 X hC wv_L_40 ⟨Nat.le_of_ble_eq_true rfl, Nat.le_of_ble_eq_true rfl⟩ ⟨rfl, rfl⟩ ⟨Nat.le_of_ble_eq_true rfl, Nat.le_of_ble_eq_true rfl⟩ dL_law_379 rfl [] rfl (Nat.le_of_ble_eq_true rfl) [0, 6] rfl rfl [[(g 0 0)], [(g 6 0), (g 6 1), (g 6 2), (g 6 3), (g 6 4), (g 6 5)]] rfl rfl 0 rfl rfl rfl rfl ?_
  refine jv_aload_n 382 X dL_law_382 2 rfl ?_
  refine jv_callB1 (wl2 := [bLR g, tRl E (g 1) r, bIm (g 2 0) (g 3 0) k0, tRl E (g 3) i0, bIm (g 4 0) (g 5 0) k1, tRl E (g 5) i1, bPd E (g 6) 0 pa signs kd on pl nm, bWk (g 7 0) (g 8 0) w1 w2 w3 w4 w5, tRl E (g 8) tr, tAh E (g 9) ah, tLw E (g 10) lw, tRg E (g 11) ri, bTu E (g 12) mv, tHd E (g 13) hd, bMd E a (book) u.1 (week) (nI sk) (sight) (0) (pad) u.2.1 u.2.2.1 u.2.2.2.1 u.2.2.2.2.1 u.2.2.2.2.2.1 u.2.2.2.2.2.2.1 u.2.2.2.2.2.2.2.1 u.2.2.2.2.2.2.2.2.1 u.2.2.2.2.2.2.2.2.2.1 u.2.2.2.2.2.2.2.2.2.2.1 u.2.2.2.2.2.2.2.2.2.2.2.1 u.2.2.2.2.2.2.2.2.2.2.2.2.1 u.2.2.2.2.2.2.2.2.2.2.2.2.2 (image) (isKept)]) 383 X hM wv_L_44 ⟨Nat.le_of_ble_eq_true rfl, Nat.le_of_ble_eq_true rfl⟩ ⟨rfl, rfl⟩ ⟨Nat.le_of_ble_eq_true rfl, Nat.le_of_ble_eq_true rfl⟩ dL_law_383 rfl [_] rfl (Nat.le_of_ble_eq_true rfl) 14 rfl [(a 0), (a 1), (a 2), (a 3), (a 4), (a 5), (a 6), (a 7), (a 8), (a 9), (a 10), (a 11), (a 12), (a 13), (a 14), (a 15)] rfl rfl rfl rfl rfl ?_
  refine jn_icmp_eq 386 X dL_law_386 1192 (by decide) (fun _ => ?_) (fun hne => absurd rfl hne)
  exact h r k0 i0 k1 i1 0 pa signs kd on pl nm w1 w2 w3 w4 w5 tr ah lw ri mv hd book week sk sight pad image isKept u (o_wipe hR)
set_option maxRecDepth 100000 in
set_option maxHeartbeats 4000000 in
theorem law_fault {E : EE} {K : Ctx} {b L : Nat} {xs : Nat → Int32} {g : Nat → Nat → Nat} {a : Nat → Nat} {k : Nat} (X : CX E K cL_law 4 RL room_1) (S : SC K b L xs) (hk : 6 * k + 6 ≤ L) (hL : L ≤ 384) (h : LawP E K b g a 1192 k) : LawP E K b g a 391 k := by
  intro r k0 i0 k1 i1 sn pa signs kd on pl nm w1 w2 w3 w4 w5 tr ah lw ri mv hd book week sk sight pad image isKept u hR
  have hC := c_X9_fault E (kLa K) g sn pa signs kd on pl nm (x_sn hR)
  have hM := c_X10_fault E (kLa K) a book u.1 week (nI sk) sight sn pad u.2.1 u.2.2.1 u.2.2.2.1 u.2.2.2.2.1 u.2.2.2.2.2.1 u.2.2.2.2.2.2.1 u.2.2.2.2.2.2.2.1 u.2.2.2.2.2.2.2.2.1 u.2.2.2.2.2.2.2.2.2.1 u.2.2.2.2.2.2.2.2.2.2.1 u.2.2.2.2.2.2.2.2.2.2.2.1 u.2.2.2.2.2.2.2.2.2.2.2.2.1 u.2.2.2.2.2.2.2.2.2.2.2.2.2 image isKept (x_sn hR)
  refine jv_aload_n 391 X dL_law_391 1 rfl ?_
  refine jv_callBG (wl2 := fun v : Int32 × (Nat → Int32) × (Nat → Int32) × (Nat → Int32) × (Nat → Int32) => [bLR g, tRl E (g 1) r, bIm (g 2 0) (g 3 0) k0, tRl E (g 3) i0, bIm (g 4 0) (g 5 0) k1, tRl E (g 5) i1, bPd E (g 6) (nI sn) v.1 signs v.2.1 v.2.2.1 v.2.2.2.1 v.2.2.2.2, bWk (g 7 0) (g 8 0) w1 w2 w3 w4 w5, tRl E (g 8) tr, tAh E (g 9) ah, tLw E (g 10) lw, tRg E (g 11) ri, bTu E (g 12) mv, tHd E (g 13) hd, bMd E a (book) u.1 (week) (nI sk) (sight) (nI sn) (pad) u.2.1 u.2.2.1 u.2.2.2.1 u.2.2.2.2.1 u.2.2.2.2.2.1 u.2.2.2.2.2.2.1 u.2.2.2.2.2.2.2.1 u.2.2.2.2.2.2.2.2.1 u.2.2.2.2.2.2.2.2.2.1 u.2.2.2.2.2.2.2.2.2.2.1 u.2.2.2.2.2.2.2.2.2.2.2.1 u.2.2.2.2.2.2.2.2.2.2.2.2.1 u.2.2.2.2.2.2.2.2.2.2.2.2.2 (image) (isKept)]) 392 X hC wv_L_45 (fun _ _ _ _ _ _ => trivial) (fun _ _ _ _ _ _ _ => trivial) ⟨Nat.le_of_ble_eq_true rfl, Nat.le_of_ble_eq_true rfl⟩ ⟨rfl, rfl⟩ ⟨Nat.le_of_ble_eq_true rfl, Nat.le_of_ble_eq_true rfl⟩ dL_law_392 rfl [] rfl (Nat.le_of_ble_eq_true rfl) [0, 6] rfl rfl [[(g 0 0)], [(g 6 0), (g 6 1), (g 6 2), (g 6 3), (g 6 4), (g 6 5)]] rfl (fun _ => rfl) 0 rfl rfl rfl (fun _ => rfl) (fun v => ?_)
  refine jv_aload_n 395 X dL_law_395 2 rfl ?_
  refine jv_callB1 (wl2 := [bLR g, tRl E (g 1) r, bIm (g 2 0) (g 3 0) k0, tRl E (g 3) i0, bIm (g 4 0) (g 5 0) k1, tRl E (g 5) i1, bPd E (g 6) (nI sn) v.1 signs v.2.1 v.2.2.1 v.2.2.2.1 v.2.2.2.2, bWk (g 7 0) (g 8 0) w1 w2 w3 w4 w5, tRl E (g 8) tr, tAh E (g 9) ah, tLw E (g 10) lw, tRg E (g 11) ri, bTu E (g 12) mv, tHd E (g 13) hd, bMd E a (book) u.1 (week) (nI sk) (sight) (nI sn) (pad) u.2.1 u.2.2.1 u.2.2.2.1 u.2.2.2.2.1 u.2.2.2.2.2.1 u.2.2.2.2.2.2.1 u.2.2.2.2.2.2.2.1 u.2.2.2.2.2.2.2.2.1 u.2.2.2.2.2.2.2.2.2.1 u.2.2.2.2.2.2.2.2.2.2.1 u.2.2.2.2.2.2.2.2.2.2.2.1 u.2.2.2.2.2.2.2.2.2.2.2.2.1 u.2.2.2.2.2.2.2.2.2.2.2.2.2 (image) (isKept)]) 396 X hM wv_L_48 ⟨Nat.le_of_ble_eq_true rfl, Nat.le_of_ble_eq_true rfl⟩ ⟨rfl, rfl⟩ ⟨Nat.le_of_ble_eq_true rfl, Nat.le_of_ble_eq_true rfl⟩ dL_law_396 rfl [_] rfl (Nat.le_of_ble_eq_true rfl) 14 rfl [(a 0), (a 1), (a 2), (a 3), (a 4), (a 5), (a 6), (a 7), (a 8), (a 9), (a 10), (a 11), (a 12), (a 13), (a 14), (a 15)] rfl rfl rfl rfl rfl ?_
  refine jn_icmp_eq 399 X dL_law_399 1192 (by decide) (fun _ => ?_) (fun hne => absurd (r_fault hR.2.1.2 kd on pl nm) hne)
  exact h r k0 i0 k1 i1 sn v.1 signs v.2.1 v.2.2.1 v.2.2.2.1 v.2.2.2.2 w1 w2 w3 w4 w5 tr ah lw ri mv hd book week sk sight pad image isKept u hR
set_option maxRecDepth 100000 in
set_option maxHeartbeats 4000000 in
theorem law_judge {E : EE} {K : Ctx} {b L : Nat} {xs : Nat → Int32} {g : Nat → Nat → Nat} {a : Nat → Nat} {k : Nat} (X : CX E K cL_law 4 RL room_1) (S : SC K b L xs) (hk : 6 * k + 6 ≤ L) (hL : L ≤ 384) (h : LawP E K b g a 1192 k) : LawP E K b g a 404 k := by
  intro r k0 i0 k1 i1 sn pa signs kd on pl nm w1 w2 w3 w4 w5 tr ah lw ri mv hd book week sk sight pad image isKept u hR
  have hC := c_X9_judge E (kLa K) g r sn pa signs kd on pl nm w1 w2 w3 w4 w5 tr (xs (6 * k + 1)) (x_sn hR) (x_dyC hR)
  have hM := c_X10_judge E (kLa K) a book u.1 week (nI sk) sight sn pad u.2.1 u.2.2.1 u.2.2.2.1 u.2.2.2.2.1 u.2.2.2.2.2.1 u.2.2.2.2.2.2.1 u.2.2.2.2.2.2.2.1 u.2.2.2.2.2.2.2.2.1 u.2.2.2.2.2.2.2.2.2.1 u.2.2.2.2.2.2.2.2.2.2.1 u.2.2.2.2.2.2.2.2.2.2.2.1 u.2.2.2.2.2.2.2.2.2.2.2.2.1 u.2.2.2.2.2.2.2.2.2.2.2.2.2 image isKept (xs (6 * k + 1)) (x_sn hR) (x_dyOK hR)
  refine jv_aload_n 404 X dL_law_404 1 rfl ?_
  refine jv_aload_n 405 X dL_law_405 0 rfl ?_
  refine jv_iload_n 406 X dL_law_406 3 rfl ?_
  refine jv_iconst (v := 1) 407 X dL_law_407 rfl ?_
  refine jv_iadd 408 X dL_law_408 ?_
  refine jv_sld 409 X S dL_law_409 (6 * k + 1) (nx_add rfl rfl) (by omega) (by omega) ?_
  refine jv_callBG (wl2 := fun v : Int32 × (Nat → Int32) × (Nat → Int32) × (Nat → Int32) × (Nat → Int32) × Int32 × Int32 × Int32 × Int32 × Int32 × Rl => [bLR g, tRl E (g 1) r, bIm (g 2 0) (g 3 0) k0, tRl E (g 3) i0, bIm (g 4 0) (g 5 0) k1, tRl E (g 5) i1, bPd E (g 6) (nI sn) v.1 signs v.2.1 v.2.2.1 v.2.2.2.1 v.2.2.2.2.1, bWk (g 7 0) (g 8 0) v.2.2.2.2.2.1 v.2.2.2.2.2.2.1 v.2.2.2.2.2.2.2.1 v.2.2.2.2.2.2.2.2.1 v.2.2.2.2.2.2.2.2.2.1, tRl E (g 8) v.2.2.2.2.2.2.2.2.2.2, tAh E (g 9) ah, tLw E (g 10) lw, tRg E (g 11) ri, bTu E (g 12) mv, tHd E (g 13) hd, bMd E a (book) u.1 (week) (nI sk) (sight) (nI sn) (pad) u.2.1 u.2.2.1 u.2.2.2.1 u.2.2.2.2.1 u.2.2.2.2.2.1 u.2.2.2.2.2.2.1 u.2.2.2.2.2.2.2.1 u.2.2.2.2.2.2.2.2.1 u.2.2.2.2.2.2.2.2.2.1 u.2.2.2.2.2.2.2.2.2.2.1 u.2.2.2.2.2.2.2.2.2.2.2.1 u.2.2.2.2.2.2.2.2.2.2.2.2.1 u.2.2.2.2.2.2.2.2.2.2.2.2.2 (image) (isKept)]) 410 X hC wv_L_49 (fun _ _ _ _ _ _ => trivial) (fun _ _ _ _ _ _ _ => trivial) ⟨Nat.le_of_ble_eq_true rfl, Nat.le_of_ble_eq_true rfl⟩ ⟨rfl, rfl⟩ ⟨Nat.le_of_ble_eq_true rfl, Nat.le_of_ble_eq_true rfl⟩ dL_law_410 rfl [] rfl (Nat.le_of_ble_eq_true rfl) [0, 1, 6, 7, 8] rfl rfl [[(g 0 0)], [(g 1 0), (g 1 1), (g 1 2), (g 1 3), (g 1 4), (g 1 5), (g 1 6), (g 1 7), (g 1 8), (g 1 9), (g 1 10)], [(g 6 0), (g 6 1), (g 6 2), (g 6 3), (g 6 4), (g 6 5)], [(g 7 0)], [(g 8 0), (g 8 1), (g 8 2), (g 8 3), (g 8 4), (g 8 5), (g 8 6), (g 8 7), (g 8 8), (g 8 9), (g 8 10)]] rfl (fun _ => rfl) 0 rfl rfl rfl (fun _ => rfl) (fun v => ?_)
  refine jv_aload_n 413 X dL_law_413 2 rfl ?_
  refine jv_aload_n 414 X dL_law_414 0 rfl ?_
  refine jv_iload_n 415 X dL_law_415 3 rfl ?_
  refine jv_iconst (v := 1) 416 X dL_law_416 rfl ?_
  refine jv_iadd 417 X dL_law_417 ?_
  refine jv_sld 418 X S dL_law_418 (6 * k + 1) (nx_add rfl rfl) (by omega) (by omega) ?_
  refine jv_callBG1 (wl2 := fun z : ScrM => [bLR g, tRl E (g 1) r, bIm (g 2 0) (g 3 0) k0, tRl E (g 3) i0, bIm (g 4 0) (g 5 0) k1, tRl E (g 5) i1, bPd E (g 6) (nI sn) v.1 signs v.2.1 v.2.2.1 v.2.2.2.1 v.2.2.2.2.1, bWk (g 7 0) (g 8 0) v.2.2.2.2.2.1 v.2.2.2.2.2.2.1 v.2.2.2.2.2.2.2.1 v.2.2.2.2.2.2.2.2.1 v.2.2.2.2.2.2.2.2.2.1, tRl E (g 8) v.2.2.2.2.2.2.2.2.2.2, tAh E (g 9) ah, tLw E (g 10) lw, tRg E (g 11) ri, bTu E (g 12) mv, tHd E (g 13) hd, bMd E a (book) z.1 (week) (nI sk) (sight) (nI sn) (pad) z.2.1 z.2.2.1 z.2.2.2.1 z.2.2.2.2.1 z.2.2.2.2.2.1 z.2.2.2.2.2.2.1 z.2.2.2.2.2.2.2.1 z.2.2.2.2.2.2.2.2.1 z.2.2.2.2.2.2.2.2.2.1 z.2.2.2.2.2.2.2.2.2.2.1 z.2.2.2.2.2.2.2.2.2.2.2.1 z.2.2.2.2.2.2.2.2.2.2.2.2.1 z.2.2.2.2.2.2.2.2.2.2.2.2.2 (image) (isKept)]) 419 X hM wv_L_52 ⟨Nat.le_of_ble_eq_true rfl, Nat.le_of_ble_eq_true rfl⟩ ⟨rfl, rfl⟩ ⟨Nat.le_of_ble_eq_true rfl, Nat.le_of_ble_eq_true rfl⟩ dL_law_419 rfl [_] rfl (Nat.le_of_ble_eq_true rfl) 14 rfl [(a 0), (a 1), (a 2), (a 3), (a 4), (a 5), (a 6), (a 7), (a 8), (a 9), (a 10), (a 11), (a 12), (a 13), (a 14), (a 15)] rfl (fun _ => rfl) rfl rfl (fun _ => rfl) (fun z => ?_)
  refine jn_icmp_eq 422 X dL_law_422 1192 (by decide) (fun _ => ?_) (fun hne => absurd (o_judge hR kd on pl nm u.2.2.2.1 (xs (6 * k + 1))) hne)
  exact h r k0 i0 k1 i1 sn v.1 signs v.2.1 v.2.2.1 v.2.2.2.1 v.2.2.2.2.1 v.2.2.2.2.2.1 v.2.2.2.2.2.2.1 v.2.2.2.2.2.2.2.1 v.2.2.2.2.2.2.2.2.1 v.2.2.2.2.2.2.2.2.2.1 v.2.2.2.2.2.2.2.2.2.2 ah lw ri mv hd book week sk sight pad image isKept z hR
set_option maxRecDepth 100000 in
set_option maxHeartbeats 4000000 in
theorem law_done {E : EE} {K : Ctx} {b L : Nat} {xs : Nat → Int32} {g : Nat → Nat → Nat} {a : Nat → Nat} {k : Nat} (X : CX E K cL_law 4 RL room_1) (S : SC K b L xs) (hk : 6 * k + 6 ≤ L) (hL : L ≤ 384) (h : LawP E K b g a 1192 k) : LawP E K b g a 427 k := by
  intro r k0 i0 k1 i1 sn pa signs kd on pl nm w1 w2 w3 w4 w5 tr ah lw ri mv hd book week sk sight pad image isKept u hR
  obtain ⟨hE, sn2, hq1, hq2, hR2⟩ := o_done hR kd on pl nm u.2.2.2.1
  have hC := c_X9_done E (kLa K) g r sn pa signs kd on pl nm w1 w2 w3 w4 w5 tr (x_sn hR) (x_dyC hR)
  rw [hq1] at hC
  have hM := c_X10_done E (kLa K) a book u.1 week (nI sk) sight sn pad u.2.1 u.2.2.1 u.2.2.2.1 u.2.2.2.2.1 u.2.2.2.2.2.1 u.2.2.2.2.2.2.1 u.2.2.2.2.2.2.2.1 u.2.2.2.2.2.2.2.2.1 u.2.2.2.2.2.2.2.2.2.1 u.2.2.2.2.2.2.2.2.2.2.1 u.2.2.2.2.2.2.2.2.2.2.2.1 u.2.2.2.2.2.2.2.2.2.2.2.2.1 u.2.2.2.2.2.2.2.2.2.2.2.2.2 image isKept (x_sn hR) (x_dyOK hR)
  rw [hq2] at hM
  refine jv_aload_n 427 X dL_law_427 1 rfl ?_
  refine jv_callBG (wl2 := fun v : Int32 × (Nat → Int32) × (Nat → Int32) × (Nat → Int32) × (Nat → Int32) × Int32 × Int32 × Int32 × Int32 × Int32 × Rl => [bLR g, tRl E (g 1) (if acC signs sn kd on pl nm r then (tyC signs sn kd on pl nm r).1 else r), bIm (g 2 0) (g 3 0) k0, tRl E (g 3) i0, bIm (g 4 0) (g 5 0) k1, tRl E (g 5) i1, bPd E (g 6) (nI sn2) v.1 signs v.2.1 v.2.2.1 v.2.2.2.1 v.2.2.2.2.1, bWk (g 7 0) (g 8 0) v.2.2.2.2.2.1 v.2.2.2.2.2.2.1 v.2.2.2.2.2.2.2.1 v.2.2.2.2.2.2.2.2.1 v.2.2.2.2.2.2.2.2.2.1, tRl E (g 8) v.2.2.2.2.2.2.2.2.2.2, tAh E (g 9) ah, tLw E (g 10) lw, tRg E (g 11) ri, bTu E (g 12) mv, tHd E (g 13) hd, bMd E a (book) u.1 (week) (nI sk) (sight) (nI sn) (pad) u.2.1 u.2.2.1 u.2.2.2.1 u.2.2.2.2.1 u.2.2.2.2.2.1 u.2.2.2.2.2.2.1 u.2.2.2.2.2.2.2.1 u.2.2.2.2.2.2.2.2.1 u.2.2.2.2.2.2.2.2.2.1 u.2.2.2.2.2.2.2.2.2.2.1 u.2.2.2.2.2.2.2.2.2.2.2.1 u.2.2.2.2.2.2.2.2.2.2.2.2.1 u.2.2.2.2.2.2.2.2.2.2.2.2.2 (image) (isKept)]) 428 X hC wv_L_53 (fun _ _ _ _ _ _ => trivial) (fun _ _ _ _ _ _ _ => trivial) ⟨Nat.le_of_ble_eq_true rfl, Nat.le_of_ble_eq_true rfl⟩ ⟨rfl, rfl⟩ ⟨Nat.le_of_ble_eq_true rfl, Nat.le_of_ble_eq_true rfl⟩ dL_law_428 rfl [] rfl (Nat.le_of_ble_eq_true rfl) [0, 1, 6, 7, 8] rfl rfl [[(g 0 0)], [(g 1 0), (g 1 1), (g 1 2), (g 1 3), (g 1 4), (g 1 5), (g 1 6), (g 1 7), (g 1 8), (g 1 9), (g 1 10)], [(g 6 0), (g 6 1), (g 6 2), (g 6 3), (g 6 4), (g 6 5)], [(g 7 0)], [(g 8 0), (g 8 1), (g 8 2), (g 8 3), (g 8 4), (g 8 5), (g 8 6), (g 8 7), (g 8 8), (g 8 9), (g 8 10)]] rfl (fun _ => rfl) 0 rfl rfl rfl (fun _ => rfl) (fun v => ?_)
  refine jv_aload_n 431 X dL_law_431 2 rfl ?_
  refine jv_callBG1 (wl2 := fun z : ScrM => [bLR g, tRl E (g 1) (if acC signs sn kd on pl nm r then (tyC signs sn kd on pl nm r).1 else r), bIm (g 2 0) (g 3 0) k0, tRl E (g 3) i0, bIm (g 4 0) (g 5 0) k1, tRl E (g 5) i1, bPd E (g 6) (nI sn2) v.1 signs v.2.1 v.2.2.1 v.2.2.2.1 v.2.2.2.2.1, bWk (g 7 0) (g 8 0) v.2.2.2.2.2.1 v.2.2.2.2.2.2.1 v.2.2.2.2.2.2.2.1 v.2.2.2.2.2.2.2.2.1 v.2.2.2.2.2.2.2.2.2.1, tRl E (g 8) v.2.2.2.2.2.2.2.2.2.2, tAh E (g 9) ah, tLw E (g 10) lw, tRg E (g 11) ri, bTu E (g 12) mv, tHd E (g 13) hd, bMd E a (if (¬ 0 ≤ ftM pad sn ∧ ¬ 0 ≤ (gwM pad week book sn u.2.2.2.1).1) then (gwM pad week book sn u.2.2.2.1).2.2.2.1 else book) z.1 (week) (nI sk) (sight) (nI sn2) (pad) z.2.1 z.2.2.1 z.2.2.2.1 z.2.2.2.2.1 z.2.2.2.2.2.1 z.2.2.2.2.2.2.1 z.2.2.2.2.2.2.2.1 z.2.2.2.2.2.2.2.2.1 z.2.2.2.2.2.2.2.2.2.1 z.2.2.2.2.2.2.2.2.2.2.1 z.2.2.2.2.2.2.2.2.2.2.2.1 z.2.2.2.2.2.2.2.2.2.2.2.2.1 z.2.2.2.2.2.2.2.2.2.2.2.2.2 (image) (isKept)]) 432 X hM wv_L_56 ⟨Nat.le_of_ble_eq_true rfl, Nat.le_of_ble_eq_true rfl⟩ ⟨rfl, rfl⟩ ⟨Nat.le_of_ble_eq_true rfl, Nat.le_of_ble_eq_true rfl⟩ dL_law_432 rfl [_] rfl (Nat.le_of_ble_eq_true rfl) 14 rfl [(a 0), (a 1), (a 2), (a 3), (a 4), (a 5), (a 6), (a 7), (a 8), (a 9), (a 10), (a 11), (a 12), (a 13), (a 14), (a 15)] rfl (fun _ => rfl) rfl rfl (fun _ => rfl) (fun z => ?_)
  refine jn_icmp_eq 435 X dL_law_435 1192 (by decide) (fun _ => ?_) (fun hne => absurd hE hne)
  exact h (if acC signs sn kd on pl nm r then (tyC signs sn kd on pl nm r).1 else r) k0 i0 k1 i1 sn2 v.1 signs v.2.1 v.2.2.1 v.2.2.2.1 v.2.2.2.2.1 v.2.2.2.2.2.1 v.2.2.2.2.2.2.1 v.2.2.2.2.2.2.2.1 v.2.2.2.2.2.2.2.2.1 v.2.2.2.2.2.2.2.2.2.1 v.2.2.2.2.2.2.2.2.2.2 ah lw ri mv hd (if (¬ 0 ≤ ftM pad sn ∧ ¬ 0 ≤ (gwM pad week book sn u.2.2.2.1).1) then (gwM pad week book sn u.2.2.2.1).2.2.2.1 else book) week sk sight pad image isKept z hR2
set_option maxRecDepth 100000 in
set_option maxHeartbeats 4000000 in
theorem law_behind {E : EE} {K : Ctx} {b L : Nat} {xs : Nat → Int32} {g : Nat → Nat → Nat} {a : Nat → Nat} {k : Nat} (X : CX E K cL_law 4 RL room_1) (S : SC K b L xs) (hk : 6 * k + 6 ≤ L) (hL : L ≤ 384) (h : LawP E K b g a 1192 k) : LawP E K b g a 440 k := by
  intro r k0 i0 k1 i1 sn pa signs kd on pl nm w1 w2 w3 w4 w5 tr ah lw ri mv hd book week sk sight pad image isKept u hR
  have hC := c_X9_behind E (kLa K) g r sn pa signs kd on pl nm w1 w2 w3 w4 w5 tr (xs (6 * k + 1)) (xs (6 * k + 2)) (x_sn hR) (x_dyC hR)
  have hM := c_X10_behind E (kLa K) a book u.1 week (nI sk) sight sn pad u.2.1 u.2.2.1 u.2.2.2.1 u.2.2.2.2.1 u.2.2.2.2.2.1 u.2.2.2.2.2.2.1 u.2.2.2.2.2.2.2.1 u.2.2.2.2.2.2.2.2.1 u.2.2.2.2.2.2.2.2.2.1 u.2.2.2.2.2.2.2.2.2.2.1 u.2.2.2.2.2.2.2.2.2.2.2.1 u.2.2.2.2.2.2.2.2.2.2.2.2.1 u.2.2.2.2.2.2.2.2.2.2.2.2.2 image isKept (xs (6 * k + 1)) (xs (6 * k + 2)) (x_sn hR) (x_dyOK hR)
  refine jv_aload_n 440 X dL_law_440 1 rfl ?_
  refine jv_aload_n 441 X dL_law_441 0 rfl ?_
  refine jv_iload_n 442 X dL_law_442 3 rfl ?_
  refine jv_iconst (v := 1) 443 X dL_law_443 rfl ?_
  refine jv_iadd 444 X dL_law_444 ?_
  refine jv_sld 445 X S dL_law_445 (6 * k + 1) (nx_add rfl rfl) (by omega) (by omega) ?_
  refine jv_aload_n 446 X dL_law_446 0 rfl ?_
  refine jv_iload_n 447 X dL_law_447 3 rfl ?_
  refine jv_iconst (v := 2) 448 X dL_law_448 rfl ?_
  refine jv_iadd 449 X dL_law_449 ?_
  refine jv_sld 450 X S dL_law_450 (6 * k + 2) (nx_add rfl rfl) (by omega) (by omega) ?_
  refine jv_callBG (wl2 := fun v : Int32 × (Nat → Int32) × (Nat → Int32) × (Nat → Int32) × (Nat → Int32) × Int32 × Int32 × Int32 × Int32 × Int32 × Rl => [bLR g, tRl E (g 1) r, bIm (g 2 0) (g 3 0) k0, tRl E (g 3) i0, bIm (g 4 0) (g 5 0) k1, tRl E (g 5) i1, bPd E (g 6) (nI sn) v.1 signs v.2.1 v.2.2.1 v.2.2.2.1 v.2.2.2.2.1, bWk (g 7 0) (g 8 0) v.2.2.2.2.2.1 v.2.2.2.2.2.2.1 v.2.2.2.2.2.2.2.1 v.2.2.2.2.2.2.2.2.1 v.2.2.2.2.2.2.2.2.2.1, tRl E (g 8) v.2.2.2.2.2.2.2.2.2.2, tAh E (g 9) ah, tLw E (g 10) lw, tRg E (g 11) ri, bTu E (g 12) mv, tHd E (g 13) hd, bMd E a (book) u.1 (week) (nI sk) (sight) (nI sn) (pad) u.2.1 u.2.2.1 u.2.2.2.1 u.2.2.2.2.1 u.2.2.2.2.2.1 u.2.2.2.2.2.2.1 u.2.2.2.2.2.2.2.1 u.2.2.2.2.2.2.2.2.1 u.2.2.2.2.2.2.2.2.2.1 u.2.2.2.2.2.2.2.2.2.2.1 u.2.2.2.2.2.2.2.2.2.2.2.1 u.2.2.2.2.2.2.2.2.2.2.2.2.1 u.2.2.2.2.2.2.2.2.2.2.2.2.2 (image) (isKept)]) 451 X hC wv_L_57 (fun _ _ _ _ _ _ => trivial) (fun _ _ _ _ _ _ _ => trivial) ⟨Nat.le_of_ble_eq_true rfl, Nat.le_of_ble_eq_true rfl⟩ ⟨rfl, rfl⟩ ⟨Nat.le_of_ble_eq_true rfl, Nat.le_of_ble_eq_true rfl⟩ dL_law_451 rfl [] rfl (Nat.le_of_ble_eq_true rfl) [0, 1, 6, 7, 8] rfl rfl [[(g 0 0)], [(g 1 0), (g 1 1), (g 1 2), (g 1 3), (g 1 4), (g 1 5), (g 1 6), (g 1 7), (g 1 8), (g 1 9), (g 1 10)], [(g 6 0), (g 6 1), (g 6 2), (g 6 3), (g 6 4), (g 6 5)], [(g 7 0)], [(g 8 0), (g 8 1), (g 8 2), (g 8 3), (g 8 4), (g 8 5), (g 8 6), (g 8 7), (g 8 8), (g 8 9), (g 8 10)]] rfl (fun _ => rfl) 0 rfl rfl rfl (fun _ => rfl) (fun v => ?_)
  refine jv_aload_n 454 X dL_law_454 2 rfl ?_
  refine jv_aload_n 455 X dL_law_455 0 rfl ?_
  refine jv_iload_n 456 X dL_law_456 3 rfl ?_
  refine jv_iconst (v := 1) 457 X dL_law_457 rfl ?_
  refine jv_iadd 458 X dL_law_458 ?_
  refine jv_sld 459 X S dL_law_459 (6 * k + 1) (nx_add rfl rfl) (by omega) (by omega) ?_
  refine jv_aload_n 460 X dL_law_460 0 rfl ?_
  refine jv_iload_n 461 X dL_law_461 3 rfl ?_
  refine jv_iconst (v := 2) 462 X dL_law_462 rfl ?_
  refine jv_iadd 463 X dL_law_463 ?_
  refine jv_sld 464 X S dL_law_464 (6 * k + 2) (nx_add rfl rfl) (by omega) (by omega) ?_
  refine jv_callBG1 (wl2 := fun z : ScrM => [bLR g, tRl E (g 1) r, bIm (g 2 0) (g 3 0) k0, tRl E (g 3) i0, bIm (g 4 0) (g 5 0) k1, tRl E (g 5) i1, bPd E (g 6) (nI sn) v.1 signs v.2.1 v.2.2.1 v.2.2.2.1 v.2.2.2.2.1, bWk (g 7 0) (g 8 0) v.2.2.2.2.2.1 v.2.2.2.2.2.2.1 v.2.2.2.2.2.2.2.1 v.2.2.2.2.2.2.2.2.1 v.2.2.2.2.2.2.2.2.2.1, tRl E (g 8) v.2.2.2.2.2.2.2.2.2.2, tAh E (g 9) ah, tLw E (g 10) lw, tRg E (g 11) ri, bTu E (g 12) mv, tHd E (g 13) hd, bMd E a (book) z.1 (week) (nI sk) (sight) (nI sn) (pad) z.2.1 z.2.2.1 z.2.2.2.1 z.2.2.2.2.1 z.2.2.2.2.2.1 z.2.2.2.2.2.2.1 z.2.2.2.2.2.2.2.1 z.2.2.2.2.2.2.2.2.1 z.2.2.2.2.2.2.2.2.2.1 z.2.2.2.2.2.2.2.2.2.2.1 z.2.2.2.2.2.2.2.2.2.2.2.1 z.2.2.2.2.2.2.2.2.2.2.2.2.1 z.2.2.2.2.2.2.2.2.2.2.2.2.2 (image) (isKept)]) 465 X hM wv_L_60 ⟨Nat.le_of_ble_eq_true rfl, Nat.le_of_ble_eq_true rfl⟩ ⟨rfl, rfl⟩ ⟨Nat.le_of_ble_eq_true rfl, Nat.le_of_ble_eq_true rfl⟩ dL_law_465 rfl [_] rfl (Nat.le_of_ble_eq_true rfl) 14 rfl [(a 0), (a 1), (a 2), (a 3), (a 4), (a 5), (a 6), (a 7), (a 8), (a 9), (a 10), (a 11), (a 12), (a 13), (a 14), (a 15)] rfl (fun _ => rfl) rfl rfl (fun _ => rfl) (fun z => ?_)
  refine jn_icmp_eq 468 X dL_law_468 1192 (by decide) (fun _ => ?_) (fun hne => absurd (o_behind hR kd on pl nm u.2.2.2.1 (xs (6 * k + 1)) (xs (6 * k + 2))) hne)
  exact h r k0 i0 k1 i1 sn v.1 signs v.2.1 v.2.2.1 v.2.2.2.1 v.2.2.2.2.1 v.2.2.2.2.2.1 v.2.2.2.2.2.2.1 v.2.2.2.2.2.2.2.1 v.2.2.2.2.2.2.2.2.1 v.2.2.2.2.2.2.2.2.2.1 v.2.2.2.2.2.2.2.2.2.2 ah lw ri mv hd book week sk sight pad image isKept z hR
set_option maxRecDepth 100000 in
set_option maxHeartbeats 4000000 in
theorem law_lies {E : EE} {K : Ctx} {b L : Nat} {xs : Nat → Int32} {g : Nat → Nat → Nat} {a : Nat → Nat} {k : Nat} (X : CX E K cL_law 4 RL room_1) (S : SC K b L xs) (hk : 6 * k + 6 ≤ L) (hL : L ≤ 384) (h : LawP E K b g a 1192 k) : LawP E K b g a 473 k := by
  intro r k0 i0 k1 i1 sn pa signs kd on pl nm w1 w2 w3 w4 w5 tr ah lw ri mv hd book week sk sight pad image isKept u hR
  have hC := c_X9_lies E (kLa K) g r sn pa signs kd on pl nm w1 w2 w3 w4 w5 tr (xs (6 * k + 1)) (x_sn hR) (x_dyC hR)
  have hM := c_X10_lies E (kLa K) a book u.1 week (nI sk) sight sn pad u.2.1 u.2.2.1 u.2.2.2.1 u.2.2.2.2.1 u.2.2.2.2.2.1 u.2.2.2.2.2.2.1 u.2.2.2.2.2.2.2.1 u.2.2.2.2.2.2.2.2.1 u.2.2.2.2.2.2.2.2.2.1 u.2.2.2.2.2.2.2.2.2.2.1 u.2.2.2.2.2.2.2.2.2.2.2.1 u.2.2.2.2.2.2.2.2.2.2.2.2.1 u.2.2.2.2.2.2.2.2.2.2.2.2.2 image isKept (xs (6 * k + 1)) (x_sn hR) (x_dyOK hR)
  refine jv_aload_n 473 X dL_law_473 1 rfl ?_
  refine jv_aload_n 474 X dL_law_474 0 rfl ?_
  refine jv_iload_n 475 X dL_law_475 3 rfl ?_
  refine jv_iconst (v := 1) 476 X dL_law_476 rfl ?_
  refine jv_iadd 477 X dL_law_477 ?_
  refine jv_sld 478 X S dL_law_478 (6 * k + 1) (nx_add rfl rfl) (by omega) (by omega) ?_
  refine jv_callBG (wl2 := fun v : Int32 × (Nat → Int32) × (Nat → Int32) × (Nat → Int32) × (Nat → Int32) × Int32 × Int32 × Int32 × Int32 × Int32 × Rl => [bLR g, tRl E (g 1) r, bIm (g 2 0) (g 3 0) k0, tRl E (g 3) i0, bIm (g 4 0) (g 5 0) k1, tRl E (g 5) i1, bPd E (g 6) (nI sn) v.1 signs v.2.1 v.2.2.1 v.2.2.2.1 v.2.2.2.2.1, bWk (g 7 0) (g 8 0) v.2.2.2.2.2.1 v.2.2.2.2.2.2.1 v.2.2.2.2.2.2.2.1 v.2.2.2.2.2.2.2.2.1 v.2.2.2.2.2.2.2.2.2.1, tRl E (g 8) v.2.2.2.2.2.2.2.2.2.2, tAh E (g 9) ah, tLw E (g 10) lw, tRg E (g 11) ri, bTu E (g 12) mv, tHd E (g 13) hd, bMd E a (book) u.1 (week) (nI sk) (sight) (nI sn) (pad) u.2.1 u.2.2.1 u.2.2.2.1 u.2.2.2.2.1 u.2.2.2.2.2.1 u.2.2.2.2.2.2.1 u.2.2.2.2.2.2.2.1 u.2.2.2.2.2.2.2.2.1 u.2.2.2.2.2.2.2.2.2.1 u.2.2.2.2.2.2.2.2.2.2.1 u.2.2.2.2.2.2.2.2.2.2.2.1 u.2.2.2.2.2.2.2.2.2.2.2.2.1 u.2.2.2.2.2.2.2.2.2.2.2.2.2 (image) (isKept)]) 479 X hC wv_L_61 (fun _ _ _ _ _ _ => trivial) (fun _ _ _ _ _ _ _ => trivial) ⟨Nat.le_of_ble_eq_true rfl, Nat.le_of_ble_eq_true rfl⟩ ⟨rfl, rfl⟩ ⟨Nat.le_of_ble_eq_true rfl, Nat.le_of_ble_eq_true rfl⟩ dL_law_479 rfl [] rfl (Nat.le_of_ble_eq_true rfl) [0, 1, 6, 7, 8] rfl rfl [[(g 0 0)], [(g 1 0), (g 1 1), (g 1 2), (g 1 3), (g 1 4), (g 1 5), (g 1 6), (g 1 7), (g 1 8), (g 1 9), (g 1 10)], [(g 6 0), (g 6 1), (g 6 2), (g 6 3), (g 6 4), (g 6 5)], [(g 7 0)], [(g 8 0), (g 8 1), (g 8 2), (g 8 3), (g 8 4), (g 8 5), (g 8 6), (g 8 7), (g 8 8), (g 8 9), (g 8 10)]] rfl (fun _ => rfl) 0 rfl rfl rfl (fun _ => rfl) (fun v => ?_)
  refine jv_aload_n 482 X dL_law_482 2 rfl ?_
  refine jv_aload_n 483 X dL_law_483 0 rfl ?_
  refine jv_iload_n 484 X dL_law_484 3 rfl ?_
  refine jv_iconst (v := 1) 485 X dL_law_485 rfl ?_
  refine jv_iadd 486 X dL_law_486 ?_
  refine jv_sld 487 X S dL_law_487 (6 * k + 1) (nx_add rfl rfl) (by omega) (by omega) ?_
  refine jv_callBG1 (wl2 := fun z : ScrM => [bLR g, tRl E (g 1) r, bIm (g 2 0) (g 3 0) k0, tRl E (g 3) i0, bIm (g 4 0) (g 5 0) k1, tRl E (g 5) i1, bPd E (g 6) (nI sn) v.1 signs v.2.1 v.2.2.1 v.2.2.2.1 v.2.2.2.2.1, bWk (g 7 0) (g 8 0) v.2.2.2.2.2.1 v.2.2.2.2.2.2.1 v.2.2.2.2.2.2.2.1 v.2.2.2.2.2.2.2.2.1 v.2.2.2.2.2.2.2.2.2.1, tRl E (g 8) v.2.2.2.2.2.2.2.2.2.2, tAh E (g 9) ah, tLw E (g 10) lw, tRg E (g 11) ri, bTu E (g 12) mv, tHd E (g 13) hd, bMd E a (book) z.1 (week) (nI sk) (sight) (nI sn) (pad) z.2.1 z.2.2.1 z.2.2.2.1 z.2.2.2.2.1 z.2.2.2.2.2.1 z.2.2.2.2.2.2.1 z.2.2.2.2.2.2.2.1 z.2.2.2.2.2.2.2.2.1 z.2.2.2.2.2.2.2.2.2.1 z.2.2.2.2.2.2.2.2.2.2.1 z.2.2.2.2.2.2.2.2.2.2.2.1 z.2.2.2.2.2.2.2.2.2.2.2.2.1 z.2.2.2.2.2.2.2.2.2.2.2.2.2 (image) (isKept)]) 488 X hM wv_L_64 ⟨Nat.le_of_ble_eq_true rfl, Nat.le_of_ble_eq_true rfl⟩ ⟨rfl, rfl⟩ ⟨Nat.le_of_ble_eq_true rfl, Nat.le_of_ble_eq_true rfl⟩ dL_law_488 rfl [_] rfl (Nat.le_of_ble_eq_true rfl) 14 rfl [(a 0), (a 1), (a 2), (a 3), (a 4), (a 5), (a 6), (a 7), (a 8), (a 9), (a 10), (a 11), (a 12), (a 13), (a 14), (a 15)] rfl (fun _ => rfl) rfl rfl (fun _ => rfl) (fun z => ?_)
  refine jn_icmp_eq 491 X dL_law_491 1192 (by decide) (fun _ => ?_) (fun hne => absurd (o_lies hR kd on pl nm u.2.2.2.1 (xs (6 * k + 1))) hne)
  exact h r k0 i0 k1 i1 sn v.1 signs v.2.1 v.2.2.1 v.2.2.2.1 v.2.2.2.2.1 v.2.2.2.2.2.1 v.2.2.2.2.2.2.1 v.2.2.2.2.2.2.2.1 v.2.2.2.2.2.2.2.2.1 v.2.2.2.2.2.2.2.2.2.1 v.2.2.2.2.2.2.2.2.2.2 ah lw ri mv hd book week sk sight pad image isKept z hR
set_option maxRecDepth 100000 in
set_option maxHeartbeats 4000000 in
theorem law_built {E : EE} {K : Ctx} {b L : Nat} {xs : Nat → Int32} {g : Nat → Nat → Nat} {a : Nat → Nat} {k : Nat} (X : CX E K cL_law 4 RL room_1) (S : SC K b L xs) (hk : 6 * k + 6 ≤ L) (hL : L ≤ 384) (h : LawP E K b g a 1192 k) : LawP E K b g a 496 k := by
  intro r k0 i0 k1 i1 sn pa signs kd on pl nm w1 w2 w3 w4 w5 tr ah lw ri mv hd book week sk sight pad image isKept u hR
  have hC := c_X9_built E (kLa K) g r sn pa signs kd on pl nm w1 w2 w3 w4 w5 tr (xs (6 * k + 1)) (xs (6 * k + 2)) (x_sn hR) (x_dyC hR)
  have hM := c_X10_built E (kLa K) a book u.1 week (nI sk) sight sn pad u.2.1 u.2.2.1 u.2.2.2.1 u.2.2.2.2.1 u.2.2.2.2.2.1 u.2.2.2.2.2.2.1 u.2.2.2.2.2.2.2.1 u.2.2.2.2.2.2.2.2.1 u.2.2.2.2.2.2.2.2.2.1 u.2.2.2.2.2.2.2.2.2.2.1 u.2.2.2.2.2.2.2.2.2.2.2.1 u.2.2.2.2.2.2.2.2.2.2.2.2.1 u.2.2.2.2.2.2.2.2.2.2.2.2.2 image isKept (xs (6 * k + 1)) (xs (6 * k + 2)) (x_sn hR) (x_dyOK hR)
  refine jv_aload_n 496 X dL_law_496 1 rfl ?_
  refine jv_aload_n 497 X dL_law_497 0 rfl ?_
  refine jv_iload_n 498 X dL_law_498 3 rfl ?_
  refine jv_iconst (v := 1) 499 X dL_law_499 rfl ?_
  refine jv_iadd 500 X dL_law_500 ?_
  refine jv_sld 501 X S dL_law_501 (6 * k + 1) (nx_add rfl rfl) (by omega) (by omega) ?_
  refine jv_aload_n 502 X dL_law_502 0 rfl ?_
  refine jv_iload_n 503 X dL_law_503 3 rfl ?_
  refine jv_iconst (v := 2) 504 X dL_law_504 rfl ?_
  refine jv_iadd 505 X dL_law_505 ?_
  refine jv_sld 506 X S dL_law_506 (6 * k + 2) (nx_add rfl rfl) (by omega) (by omega) ?_
  refine jv_callBG (wl2 := fun v : Int32 × (Nat → Int32) × (Nat → Int32) × (Nat → Int32) × (Nat → Int32) × Int32 × Int32 × Int32 × Int32 × Int32 × Rl => [bLR g, tRl E (g 1) r, bIm (g 2 0) (g 3 0) k0, tRl E (g 3) i0, bIm (g 4 0) (g 5 0) k1, tRl E (g 5) i1, bPd E (g 6) (nI sn) v.1 signs v.2.1 v.2.2.1 v.2.2.2.1 v.2.2.2.2.1, bWk (g 7 0) (g 8 0) v.2.2.2.2.2.1 v.2.2.2.2.2.2.1 v.2.2.2.2.2.2.2.1 v.2.2.2.2.2.2.2.2.1 v.2.2.2.2.2.2.2.2.2.1, tRl E (g 8) v.2.2.2.2.2.2.2.2.2.2, tAh E (g 9) ah, tLw E (g 10) lw, tRg E (g 11) ri, bTu E (g 12) mv, tHd E (g 13) hd, bMd E a (book) u.1 (week) (nI sk) (sight) (nI sn) (pad) u.2.1 u.2.2.1 u.2.2.2.1 u.2.2.2.2.1 u.2.2.2.2.2.1 u.2.2.2.2.2.2.1 u.2.2.2.2.2.2.2.1 u.2.2.2.2.2.2.2.2.1 u.2.2.2.2.2.2.2.2.2.1 u.2.2.2.2.2.2.2.2.2.2.1 u.2.2.2.2.2.2.2.2.2.2.2.1 u.2.2.2.2.2.2.2.2.2.2.2.2.1 u.2.2.2.2.2.2.2.2.2.2.2.2.2 (image) (isKept)]) 507 X hC wv_L_65 (fun _ _ _ _ _ _ => trivial) (fun _ _ _ _ _ _ _ => trivial) ⟨Nat.le_of_ble_eq_true rfl, Nat.le_of_ble_eq_true rfl⟩ ⟨rfl, rfl⟩ ⟨Nat.le_of_ble_eq_true rfl, Nat.le_of_ble_eq_true rfl⟩ dL_law_507 rfl [] rfl (Nat.le_of_ble_eq_true rfl) [0, 1, 6, 7, 8] rfl rfl [[(g 0 0)], [(g 1 0), (g 1 1), (g 1 2), (g 1 3), (g 1 4), (g 1 5), (g 1 6), (g 1 7), (g 1 8), (g 1 9), (g 1 10)], [(g 6 0), (g 6 1), (g 6 2), (g 6 3), (g 6 4), (g 6 5)], [(g 7 0)], [(g 8 0), (g 8 1), (g 8 2), (g 8 3), (g 8 4), (g 8 5), (g 8 6), (g 8 7), (g 8 8), (g 8 9), (g 8 10)]] rfl (fun _ => rfl) 0 rfl rfl rfl (fun _ => rfl) (fun v => ?_)
  refine jv_aload_n 510 X dL_law_510 2 rfl ?_
  refine jv_aload_n 511 X dL_law_511 0 rfl ?_
  refine jv_iload_n 512 X dL_law_512 3 rfl ?_
  refine jv_iconst (v := 1) 513 X dL_law_513 rfl ?_
  refine jv_iadd 514 X dL_law_514 ?_
  refine jv_sld 515 X S dL_law_515 (6 * k + 1) (nx_add rfl rfl) (by omega) (by omega) ?_
  refine jv_aload_n 516 X dL_law_516 0 rfl ?_
  refine jv_iload_n 517 X dL_law_517 3 rfl ?_
  refine jv_iconst (v := 2) 518 X dL_law_518 rfl ?_
  refine jv_iadd 519 X dL_law_519 ?_
  refine jv_sld 520 X S dL_law_520 (6 * k + 2) (nx_add rfl rfl) (by omega) (by omega) ?_
  refine jv_callBG1 (wl2 := fun z : ScrM => [bLR g, tRl E (g 1) r, bIm (g 2 0) (g 3 0) k0, tRl E (g 3) i0, bIm (g 4 0) (g 5 0) k1, tRl E (g 5) i1, bPd E (g 6) (nI sn) v.1 signs v.2.1 v.2.2.1 v.2.2.2.1 v.2.2.2.2.1, bWk (g 7 0) (g 8 0) v.2.2.2.2.2.1 v.2.2.2.2.2.2.1 v.2.2.2.2.2.2.2.1 v.2.2.2.2.2.2.2.2.1 v.2.2.2.2.2.2.2.2.2.1, tRl E (g 8) v.2.2.2.2.2.2.2.2.2.2, tAh E (g 9) ah, tLw E (g 10) lw, tRg E (g 11) ri, bTu E (g 12) mv, tHd E (g 13) hd, bMd E a (book) z.1 (week) (nI sk) (sight) (nI sn) (pad) z.2.1 z.2.2.1 z.2.2.2.1 z.2.2.2.2.1 z.2.2.2.2.2.1 z.2.2.2.2.2.2.1 z.2.2.2.2.2.2.2.1 z.2.2.2.2.2.2.2.2.1 z.2.2.2.2.2.2.2.2.2.1 z.2.2.2.2.2.2.2.2.2.2.1 z.2.2.2.2.2.2.2.2.2.2.2.1 z.2.2.2.2.2.2.2.2.2.2.2.2.1 z.2.2.2.2.2.2.2.2.2.2.2.2.2 (image) (isKept)]) 521 X hM wv_L_68 ⟨Nat.le_of_ble_eq_true rfl, Nat.le_of_ble_eq_true rfl⟩ ⟨rfl, rfl⟩ ⟨Nat.le_of_ble_eq_true rfl, Nat.le_of_ble_eq_true rfl⟩ dL_law_521 rfl [_] rfl (Nat.le_of_ble_eq_true rfl) 14 rfl [(a 0), (a 1), (a 2), (a 3), (a 4), (a 5), (a 6), (a 7), (a 8), (a 9), (a 10), (a 11), (a 12), (a 13), (a 14), (a 15)] rfl (fun _ => rfl) rfl rfl (fun _ => rfl) (fun z => ?_)
  refine jn_icmp_eq 524 X dL_law_524 1192 (by decide) (fun _ => ?_) (fun hne => absurd (o_built hR kd on pl nm u.2.2.2.1 (xs (6 * k + 1)) (xs (6 * k + 2))) hne)
  exact h r k0 i0 k1 i1 sn v.1 signs v.2.1 v.2.2.1 v.2.2.2.1 v.2.2.2.2.1 v.2.2.2.2.2.1 v.2.2.2.2.2.2.1 v.2.2.2.2.2.2.2.1 v.2.2.2.2.2.2.2.2.1 v.2.2.2.2.2.2.2.2.2.1 v.2.2.2.2.2.2.2.2.2.2 ah lw ri mv hd book week sk sight pad image isKept z hR
set_option maxRecDepth 100000 in
set_option maxHeartbeats 4000000 in
theorem law_then {E : EE} {K : Ctx} {b L : Nat} {xs : Nat → Int32} {g : Nat → Nat → Nat} {a : Nat → Nat} {k : Nat} (X : CX E K cL_law 4 RL room_1) (S : SC K b L xs) (hk : 6 * k + 6 ≤ L) (hL : L ≤ 384) (h : LawP E K b g a 1192 k) : LawP E K b g a 529 k := by
  intro r k0 i0 k1 i1 sn pa signs kd on pl nm w1 w2 w3 w4 w5 tr ah lw ri mv hd book week sk sight pad image isKept u hR
  have hC := c_X9_then E (kLa K) g r sn pa signs kd on pl nm w1 w2 w3 w4 w5 tr (xs (6 * k + 1)) (x_sn hR) (x_dyC hR)
  have hM := c_X10_then E (kLa K) a book u.1 week (nI sk) sight sn pad u.2.1 u.2.2.1 u.2.2.2.1 u.2.2.2.2.1 u.2.2.2.2.2.1 u.2.2.2.2.2.2.1 u.2.2.2.2.2.2.2.1 u.2.2.2.2.2.2.2.2.1 u.2.2.2.2.2.2.2.2.2.1 u.2.2.2.2.2.2.2.2.2.2.1 u.2.2.2.2.2.2.2.2.2.2.2.1 u.2.2.2.2.2.2.2.2.2.2.2.2.1 u.2.2.2.2.2.2.2.2.2.2.2.2.2 image isKept (xs (6 * k + 1)) (x_sn hR) (x_dyOK hR)
  refine jv_aload_n 529 X dL_law_529 1 rfl ?_
  refine jv_aload_n 530 X dL_law_530 0 rfl ?_
  refine jv_iload_n 531 X dL_law_531 3 rfl ?_
  refine jv_iconst (v := 1) 532 X dL_law_532 rfl ?_
  refine jv_iadd 533 X dL_law_533 ?_
  refine jv_sld 534 X S dL_law_534 (6 * k + 1) (nx_add rfl rfl) (by omega) (by omega) ?_
  refine jv_callBG (wl2 := fun v : Int32 × (Nat → Int32) × (Nat → Int32) × (Nat → Int32) × (Nat → Int32) × Int32 × Int32 × Int32 × Int32 × Int32 × Rl => [bLR g, tRl E (g 1) r, bIm (g 2 0) (g 3 0) k0, tRl E (g 3) i0, bIm (g 4 0) (g 5 0) k1, tRl E (g 5) i1, bPd E (g 6) (nI sn) v.1 signs v.2.1 v.2.2.1 v.2.2.2.1 v.2.2.2.2.1, bWk (g 7 0) (g 8 0) v.2.2.2.2.2.1 v.2.2.2.2.2.2.1 v.2.2.2.2.2.2.2.1 v.2.2.2.2.2.2.2.2.1 v.2.2.2.2.2.2.2.2.2.1, tRl E (g 8) v.2.2.2.2.2.2.2.2.2.2, tAh E (g 9) ah, tLw E (g 10) lw, tRg E (g 11) ri, bTu E (g 12) mv, tHd E (g 13) hd, bMd E a (book) u.1 (week) (nI sk) (sight) (nI sn) (pad) u.2.1 u.2.2.1 u.2.2.2.1 u.2.2.2.2.1 u.2.2.2.2.2.1 u.2.2.2.2.2.2.1 u.2.2.2.2.2.2.2.1 u.2.2.2.2.2.2.2.2.1 u.2.2.2.2.2.2.2.2.2.1 u.2.2.2.2.2.2.2.2.2.2.1 u.2.2.2.2.2.2.2.2.2.2.2.1 u.2.2.2.2.2.2.2.2.2.2.2.2.1 u.2.2.2.2.2.2.2.2.2.2.2.2.2 (image) (isKept)]) 535 X hC wv_L_69 (fun _ _ _ _ _ _ => trivial) (fun _ _ _ _ _ _ _ => trivial) ⟨Nat.le_of_ble_eq_true rfl, Nat.le_of_ble_eq_true rfl⟩ ⟨rfl, rfl⟩ ⟨Nat.le_of_ble_eq_true rfl, Nat.le_of_ble_eq_true rfl⟩ dL_law_535 rfl [] rfl (Nat.le_of_ble_eq_true rfl) [0, 1, 6, 7, 8] rfl rfl [[(g 0 0)], [(g 1 0), (g 1 1), (g 1 2), (g 1 3), (g 1 4), (g 1 5), (g 1 6), (g 1 7), (g 1 8), (g 1 9), (g 1 10)], [(g 6 0), (g 6 1), (g 6 2), (g 6 3), (g 6 4), (g 6 5)], [(g 7 0)], [(g 8 0), (g 8 1), (g 8 2), (g 8 3), (g 8 4), (g 8 5), (g 8 6), (g 8 7), (g 8 8), (g 8 9), (g 8 10)]] rfl (fun _ => rfl) 0 rfl rfl rfl (fun _ => rfl) (fun v => ?_)
  refine jv_aload_n 538 X dL_law_538 2 rfl ?_
  refine jv_aload_n 539 X dL_law_539 0 rfl ?_
  refine jv_iload_n 540 X dL_law_540 3 rfl ?_
  refine jv_iconst (v := 1) 541 X dL_law_541 rfl ?_
  refine jv_iadd 542 X dL_law_542 ?_
  refine jv_sld 543 X S dL_law_543 (6 * k + 1) (nx_add rfl rfl) (by omega) (by omega) ?_
  refine jv_callBG1 (wl2 := fun z : ScrM => [bLR g, tRl E (g 1) r, bIm (g 2 0) (g 3 0) k0, tRl E (g 3) i0, bIm (g 4 0) (g 5 0) k1, tRl E (g 5) i1, bPd E (g 6) (nI sn) v.1 signs v.2.1 v.2.2.1 v.2.2.2.1 v.2.2.2.2.1, bWk (g 7 0) (g 8 0) v.2.2.2.2.2.1 v.2.2.2.2.2.2.1 v.2.2.2.2.2.2.2.1 v.2.2.2.2.2.2.2.2.1 v.2.2.2.2.2.2.2.2.2.1, tRl E (g 8) v.2.2.2.2.2.2.2.2.2.2, tAh E (g 9) ah, tLw E (g 10) lw, tRg E (g 11) ri, bTu E (g 12) mv, tHd E (g 13) hd, bMd E a (book) z.1 (week) (nI sk) (sight) (nI sn) (pad) z.2.1 z.2.2.1 z.2.2.2.1 z.2.2.2.2.1 z.2.2.2.2.2.1 z.2.2.2.2.2.2.1 z.2.2.2.2.2.2.2.1 z.2.2.2.2.2.2.2.2.1 z.2.2.2.2.2.2.2.2.2.1 z.2.2.2.2.2.2.2.2.2.2.1 z.2.2.2.2.2.2.2.2.2.2.2.1 z.2.2.2.2.2.2.2.2.2.2.2.2.1 z.2.2.2.2.2.2.2.2.2.2.2.2.2 (image) (isKept)]) 544 X hM wv_L_72 ⟨Nat.le_of_ble_eq_true rfl, Nat.le_of_ble_eq_true rfl⟩ ⟨rfl, rfl⟩ ⟨Nat.le_of_ble_eq_true rfl, Nat.le_of_ble_eq_true rfl⟩ dL_law_544 rfl [_] rfl (Nat.le_of_ble_eq_true rfl) 14 rfl [(a 0), (a 1), (a 2), (a 3), (a 4), (a 5), (a 6), (a 7), (a 8), (a 9), (a 10), (a 11), (a 12), (a 13), (a 14), (a 15)] rfl (fun _ => rfl) rfl rfl (fun _ => rfl) (fun z => ?_)
  refine jn_icmp_eq 547 X dL_law_547 1192 (by decide) (fun _ => ?_) (fun hne => absurd (o_then hR kd on pl nm u.2.2.2.1 (xs (6 * k + 1))) hne)
  exact h r k0 i0 k1 i1 sn v.1 signs v.2.1 v.2.2.1 v.2.2.2.1 v.2.2.2.2.1 v.2.2.2.2.2.1 v.2.2.2.2.2.2.1 v.2.2.2.2.2.2.2.1 v.2.2.2.2.2.2.2.2.1 v.2.2.2.2.2.2.2.2.2.1 v.2.2.2.2.2.2.2.2.2.2 ah lw ri mv hd book week sk sight pad image isKept z hR
set_option maxRecDepth 100000 in
set_option maxHeartbeats 4000000 in
theorem law_inches {E : EE} {K : Ctx} {b L : Nat} {xs : Nat → Int32} {g : Nat → Nat → Nat} {a : Nat → Nat} {k : Nat} (X : CX E K cL_law 4 RL room_1) (S : SC K b L xs) (hk : 6 * k + 6 ≤ L) (hL : L ≤ 384) (h : LawP E K b g a 1192 k) : LawP E K b g a 552 k := by
  intro r k0 i0 k1 i1 sn pa signs kd on pl nm w1 w2 w3 w4 w5 tr ah lw ri mv hd book week sk sight pad image isKept u hR
  have hC := c_X9_inches E (kLa K) g r (xs (6 * k + 1)) (xs (6 * k + 2)) (xs (6 * k + 3)) (x_st hR) (x_ms hR)
  have hM := c_X10_inches E (kLa K) a book u.1 week (nI sk) sight (nI sn) pad u.2.1 u.2.2.1 u.2.2.2.1 u.2.2.2.2.1 u.2.2.2.2.2.1 u.2.2.2.2.2.2.1 u.2.2.2.2.2.2.2.1 u.2.2.2.2.2.2.2.2.1 u.2.2.2.2.2.2.2.2.2.1 u.2.2.2.2.2.2.2.2.2.2.1 u.2.2.2.2.2.2.2.2.2.2.2.1 u.2.2.2.2.2.2.2.2.2.2.2.2.1 u.2.2.2.2.2.2.2.2.2.2.2.2.2 image isKept (xs (6 * k + 1)) (xs (6 * k + 2)) (xs (6 * k + 3)) (x_stM hR) (x_msM hR)
  refine jv_aload_n 552 X dL_law_552 1 rfl ?_
  refine jv_aload_n 553 X dL_law_553 0 rfl ?_
  refine jv_iload_n 554 X dL_law_554 3 rfl ?_
  refine jv_iconst (v := 1) 555 X dL_law_555 rfl ?_
  refine jv_iadd 556 X dL_law_556 ?_
  refine jv_sld 557 X S dL_law_557 (6 * k + 1) (nx_add rfl rfl) (by omega) (by omega) ?_
  refine jv_aload_n 558 X dL_law_558 0 rfl ?_
  refine jv_iload_n 559 X dL_law_559 3 rfl ?_
  refine jv_iconst (v := 2) 560 X dL_law_560 rfl ?_
  refine jv_iadd 561 X dL_law_561 ?_
  refine jv_sld 562 X S dL_law_562 (6 * k + 2) (nx_add rfl rfl) (by omega) (by omega) ?_
  refine jv_aload_n 563 X dL_law_563 0 rfl ?_
  refine jv_iload_n 564 X dL_law_564 3 rfl ?_
  refine jv_iconst (v := 3) 565 X dL_law_565 rfl ?_
  refine jv_iadd 566 X dL_law_566 ?_
  refine jv_sld 567 X S dL_law_567 (6 * k + 3) (nx_add rfl rfl) (by omega) (by omega) ?_
  refine jv_callB (wl2 := [bLR g, tRl E (g 1) r, bIm (g 2 0) (g 3 0) k0, tRl E (g 3) i0, bIm (g 4 0) (g 5 0) k1, tRl E (g 5) i1, bPd E (g 6) (nI sn) pa signs kd on pl nm, bWk (g 7 0) (g 8 0) w1 w2 w3 w4 w5, tRl E (g 8) tr, tAh E (g 9) ah, tLw E (g 10) lw, tRg E (g 11) ri, bTu E (g 12) mv, tHd E (g 13) hd, bMd E a (book) u.1 (week) (nI sk) (sight) (nI sn) (pad) u.2.1 u.2.2.1 u.2.2.2.1 u.2.2.2.2.1 u.2.2.2.2.2.1 u.2.2.2.2.2.2.1 u.2.2.2.2.2.2.2.1 u.2.2.2.2.2.2.2.2.1 u.2.2.2.2.2.2.2.2.2.1 u.2.2.2.2.2.2.2.2.2.2.1 u.2.2.2.2.2.2.2.2.2.2.2.1 u.2.2.2.2.2.2.2.2.2.2.2.2.1 u.2.2.2.2.2.2.2.2.2.2.2.2.2 (image) (isKept)]) 568 X hC wv_L_73 ⟨Nat.le_of_ble_eq_true rfl, Nat.le_of_ble_eq_true rfl⟩ ⟨rfl, rfl⟩ ⟨Nat.le_of_ble_eq_true rfl, Nat.le_of_ble_eq_true rfl⟩ dL_law_568 rfl [] rfl (Nat.le_of_ble_eq_true rfl) [0, 1] rfl rfl [[(g 0 0)], [(g 1 0), (g 1 1), (g 1 2), (g 1 3), (g 1 4), (g 1 5), (g 1 6), (g 1 7), (g 1 8), (g 1 9), (g 1 10)]] rfl rfl 0 rfl rfl rfl rfl ?_
  refine jv_aload_n 571 X dL_law_571 2 rfl ?_
  refine jv_aload_n 572 X dL_law_572 0 rfl ?_
  refine jv_iload_n 573 X dL_law_573 3 rfl ?_
  refine jv_iconst (v := 1) 574 X dL_law_574 rfl ?_
  refine jv_iadd 575 X dL_law_575 ?_
  refine jv_sld 576 X S dL_law_576 (6 * k + 1) (nx_add rfl rfl) (by omega) (by omega) ?_
  refine jv_aload_n 577 X dL_law_577 0 rfl ?_
  refine jv_iload_n 578 X dL_law_578 3 rfl ?_
  refine jv_iconst (v := 2) 579 X dL_law_579 rfl ?_
  refine jv_iadd 580 X dL_law_580 ?_
  refine jv_sld 581 X S dL_law_581 (6 * k + 2) (nx_add rfl rfl) (by omega) (by omega) ?_
  refine jv_aload_n 582 X dL_law_582 0 rfl ?_
  refine jv_iload_n 583 X dL_law_583 3 rfl ?_
  refine jv_iconst (v := 3) 584 X dL_law_584 rfl ?_
  refine jv_iadd 585 X dL_law_585 ?_
  refine jv_sld 586 X S dL_law_586 (6 * k + 3) (nx_add rfl rfl) (by omega) (by omega) ?_
  refine jv_callBG1 (wl2 := fun z : ScrM => [bLR g, tRl E (g 1) r, bIm (g 2 0) (g 3 0) k0, tRl E (g 3) i0, bIm (g 4 0) (g 5 0) k1, tRl E (g 5) i1, bPd E (g 6) (nI sn) pa signs kd on pl nm, bWk (g 7 0) (g 8 0) w1 w2 w3 w4 w5, tRl E (g 8) tr, tAh E (g 9) ah, tLw E (g 10) lw, tRg E (g 11) ri, bTu E (g 12) mv, tHd E (g 13) hd, bMd E a (book) z.1 (week) (nI sk) (sight) (nI sn) (pad) z.2.1 z.2.2.1 z.2.2.2.1 z.2.2.2.2.1 z.2.2.2.2.2.1 z.2.2.2.2.2.2.1 z.2.2.2.2.2.2.2.1 z.2.2.2.2.2.2.2.2.1 z.2.2.2.2.2.2.2.2.2.1 z.2.2.2.2.2.2.2.2.2.2.1 z.2.2.2.2.2.2.2.2.2.2.2.1 z.2.2.2.2.2.2.2.2.2.2.2.2.1 z.2.2.2.2.2.2.2.2.2.2.2.2.2 (image) (isKept)]) 587 X hM wv_L_77 ⟨Nat.le_of_ble_eq_true rfl, Nat.le_of_ble_eq_true rfl⟩ ⟨rfl, rfl⟩ ⟨Nat.le_of_ble_eq_true rfl, Nat.le_of_ble_eq_true rfl⟩ dL_law_587 rfl [_] rfl (Nat.le_of_ble_eq_true rfl) 14 rfl [(a 0), (a 1), (a 2), (a 3), (a 4), (a 5), (a 6), (a 7), (a 8), (a 9), (a 10), (a 11), (a 12), (a 13), (a 14), (a 15)] rfl (fun _ => rfl) rfl rfl (fun _ => rfl) (fun z => ?_)
  refine jv_lcmp 590 X dL_law_590 ?_
  refine jn_if_eq 591 X dL_law_591 1192 (by decide) (fun _ => ?_) (fun hne => absurd ((lg_cmp_eq _ _).mpr (o_inches hR (xs (6 * k + 1)) (xs (6 * k + 2)) (xs (6 * k + 3)))) hne)
  exact h r k0 i0 k1 i1 sn pa signs kd on pl nm w1 w2 w3 w4 w5 tr ah lw ri mv hd book week sk sight pad image isKept z hR
set_option maxRecDepth 100000 in
set_option maxHeartbeats 4000000 in
theorem law_will {E : EE} {K : Ctx} {b L : Nat} {xs : Nat → Int32} {g : Nat → Nat → Nat} {a : Nat → Nat} {k : Nat} (X : CX E K cL_law 4 RL room_1) (S : SC K b L xs) (hk : 6 * k + 6 ≤ L) (hL : L ≤ 384) (h : LawP E K b g a 1192 k) : LawP E K b g a 596 k := by
  intro r k0 i0 k1 i1 sn pa signs kd on pl nm w1 w2 w3 w4 w5 tr ah lw ri mv hd book week sk sight pad image isKept u hR
  have hC := c_X9_will E (kLa K) g r ah (xs (6 * k + 1)) (x_dyC hR)
  rw [o_wl hR] at hC
  have hM := c_X10_will E (kLa K) a book u.1 week (nI sk) sight (nI sn) pad u.2.1 u.2.2.1 u.2.2.2.1 u.2.2.2.2.1 u.2.2.2.2.2.1 u.2.2.2.2.2.2.1 u.2.2.2.2.2.2.2.1 u.2.2.2.2.2.2.2.2.1 u.2.2.2.2.2.2.2.2.2.1 u.2.2.2.2.2.2.2.2.2.2.1 u.2.2.2.2.2.2.2.2.2.2.2.1 u.2.2.2.2.2.2.2.2.2.2.2.2.1 u.2.2.2.2.2.2.2.2.2.2.2.2.2 image isKept (xs (6 * k + 1)) (x_dyOK hR)
  refine jv_aload_n 596 X dL_law_596 1 rfl ?_
  refine jv_aload_n 597 X dL_law_597 0 rfl ?_
  refine jv_iload_n 598 X dL_law_598 3 rfl ?_
  refine jv_iconst (v := 1) 599 X dL_law_599 rfl ?_
  refine jv_iadd 600 X dL_law_600 ?_
  refine jv_sld 601 X S dL_law_601 (6 * k + 1) (nx_add rfl rfl) (by omega) (by omega) ?_
  refine jv_callBG (wl2 := fun v : Ah => [bLR g, tRl E (g 1) r, bIm (g 2 0) (g 3 0) k0, tRl E (g 3) i0, bIm (g 4 0) (g 5 0) k1, tRl E (g 5) i1, bPd E (g 6) (nI sn) pa signs kd on pl nm, bWk (g 7 0) (g 8 0) w1 w2 w3 w4 w5, tRl E (g 8) tr, tAh E (g 9) v, tLw E (g 10) lw, tRg E (g 11) ri, bTu E (g 12) mv, tHd E (g 13) hd, bMd E a (book) u.1 (week) (nI sk) (sight) (nI sn) (pad) u.2.1 u.2.2.1 u.2.2.2.1 u.2.2.2.2.1 u.2.2.2.2.2.1 u.2.2.2.2.2.2.1 u.2.2.2.2.2.2.2.1 u.2.2.2.2.2.2.2.2.1 u.2.2.2.2.2.2.2.2.2.1 u.2.2.2.2.2.2.2.2.2.2.1 u.2.2.2.2.2.2.2.2.2.2.2.1 u.2.2.2.2.2.2.2.2.2.2.2.2.1 u.2.2.2.2.2.2.2.2.2.2.2.2.2 (image) (isKept)]) 602 X hC wv_L_78 (fun _ _ _ _ _ _ => trivial) (fun _ _ _ _ _ _ _ => trivial) ⟨Nat.le_of_ble_eq_true rfl, Nat.le_of_ble_eq_true rfl⟩ ⟨rfl, rfl⟩ ⟨Nat.le_of_ble_eq_true rfl, Nat.le_of_ble_eq_true rfl⟩ dL_law_602 rfl [] rfl (Nat.le_of_ble_eq_true rfl) [0, 1, 9] rfl rfl [[(g 0 0)], [(g 1 0), (g 1 1), (g 1 2), (g 1 3), (g 1 4), (g 1 5), (g 1 6), (g 1 7), (g 1 8), (g 1 9), (g 1 10)], [(g 9 0), (g 9 1), (g 9 2)]] rfl (fun _ => rfl) 0 rfl rfl rfl (fun _ => rfl) (fun v => ?_)
  refine jv_aload_n 605 X dL_law_605 2 rfl ?_
  refine jv_aload_n 606 X dL_law_606 0 rfl ?_
  refine jv_iload_n 607 X dL_law_607 3 rfl ?_
  refine jv_iconst (v := 1) 608 X dL_law_608 rfl ?_
  refine jv_iadd 609 X dL_law_609 ?_
  refine jv_sld 610 X S dL_law_610 (6 * k + 1) (nx_add rfl rfl) (by omega) (by omega) ?_
  refine jv_callBG1 (wl2 := fun z : ScrM => [bLR g, tRl E (g 1) r, bIm (g 2 0) (g 3 0) k0, tRl E (g 3) i0, bIm (g 4 0) (g 5 0) k1, tRl E (g 5) i1, bPd E (g 6) (nI sn) pa signs kd on pl nm, bWk (g 7 0) (g 8 0) w1 w2 w3 w4 w5, tRl E (g 8) tr, tAh E (g 9) v, tLw E (g 10) lw, tRg E (g 11) ri, bTu E (g 12) mv, tHd E (g 13) hd, bMd E a (book) z.1 (week) (nI sk) (sight) (nI sn) (pad) z.2.1 z.2.2.1 z.2.2.2.1 z.2.2.2.2.1 z.2.2.2.2.2.1 z.2.2.2.2.2.2.1 z.2.2.2.2.2.2.2.1 z.2.2.2.2.2.2.2.2.1 z.2.2.2.2.2.2.2.2.2.1 z.2.2.2.2.2.2.2.2.2.2.1 z.2.2.2.2.2.2.2.2.2.2.2.1 z.2.2.2.2.2.2.2.2.2.2.2.2.1 z.2.2.2.2.2.2.2.2.2.2.2.2.2 (image) (isKept)]) 611 X hM wv_L_81 ⟨Nat.le_of_ble_eq_true rfl, Nat.le_of_ble_eq_true rfl⟩ ⟨rfl, rfl⟩ ⟨Nat.le_of_ble_eq_true rfl, Nat.le_of_ble_eq_true rfl⟩ dL_law_611 rfl [_] rfl (Nat.le_of_ble_eq_true rfl) 14 rfl [(a 0), (a 1), (a 2), (a 3), (a 4), (a 5), (a 6), (a 7), (a 8), (a 9), (a 10), (a 11), (a 12), (a 13), (a 14), (a 15)] rfl (fun _ => rfl) rfl rfl (fun _ => rfl) (fun z => ?_)
  refine jn_icmp_eq 614 X dL_law_614 1192 (by decide) (fun _ => ?_) (fun hne => absurd rfl hne)
  exact h r k0 i0 k1 i1 sn pa signs kd on pl nm w1 w2 w3 w4 w5 tr v lw ri mv hd book week sk sight pad image isKept z hR
set_option maxRecDepth 100000 in
set_option maxHeartbeats 4000000 in
theorem law_sure {E : EE} {K : Ctx} {b L : Nat} {xs : Nat → Int32} {g : Nat → Nat → Nat} {a : Nat → Nat} {k : Nat} (X : CX E K cL_law 4 RL room_1) (S : SC K b L xs) (hk : 6 * k + 6 ≤ L) (hL : L ≤ 384) (h : LawP E K b g a 1192 k) : LawP E K b g a 619 k := by
  intro r k0 i0 k1 i1 sn pa signs kd on pl nm w1 w2 w3 w4 w5 tr ah lw ri mv hd book week sk sight pad image isKept u hR
  have hC := c_X9_sure E (kLa K) g r ah (xs (6 * k + 1)) (xs (6 * k + 2)) (x_dyC hR) (x_in hR)
  rw [o_wl hR] at hC
  have hM := c_X10_sure E (kLa K) a book u.1 week (nI sk) sight (nI sn) pad u.2.1 u.2.2.1 u.2.2.2.1 u.2.2.2.2.1 u.2.2.2.2.2.1 u.2.2.2.2.2.2.1 u.2.2.2.2.2.2.2.1 u.2.2.2.2.2.2.2.2.1 u.2.2.2.2.2.2.2.2.2.1 u.2.2.2.2.2.2.2.2.2.2.1 u.2.2.2.2.2.2.2.2.2.2.2.1 u.2.2.2.2.2.2.2.2.2.2.2.2.1 u.2.2.2.2.2.2.2.2.2.2.2.2.2 image isKept (xs (6 * k + 1)) (xs (6 * k + 2)) (x_dyOK hR) (x_inM hR)
  refine jv_aload_n 619 X dL_law_619 1 rfl ?_
  refine jv_aload_n 620 X dL_law_620 0 rfl ?_
  refine jv_iload_n 621 X dL_law_621 3 rfl ?_
  refine jv_iconst (v := 1) 622 X dL_law_622 rfl ?_
  refine jv_iadd 623 X dL_law_623 ?_
  refine jv_sld 624 X S dL_law_624 (6 * k + 1) (nx_add rfl rfl) (by omega) (by omega) ?_
  refine jv_aload_n 625 X dL_law_625 0 rfl ?_
  refine jv_iload_n 626 X dL_law_626 3 rfl ?_
  refine jv_iconst (v := 2) 627 X dL_law_627 rfl ?_
  refine jv_iadd 628 X dL_law_628 ?_
  refine jv_sld 629 X S dL_law_629 (6 * k + 2) (nx_add rfl rfl) (by omega) (by omega) ?_
  refine jv_callBG (wl2 := fun v : Ah => [bLR g, tRl E (g 1) r, bIm (g 2 0) (g 3 0) k0, tRl E (g 3) i0, bIm (g 4 0) (g 5 0) k1, tRl E (g 5) i1, bPd E (g 6) (nI sn) pa signs kd on pl nm, bWk (g 7 0) (g 8 0) w1 w2 w3 w4 w5, tRl E (g 8) tr, tAh E (g 9) v, tLw E (g 10) lw, tRg E (g 11) ri, bTu E (g 12) mv, tHd E (g 13) hd, bMd E a (book) u.1 (week) (nI sk) (sight) (nI sn) (pad) u.2.1 u.2.2.1 u.2.2.2.1 u.2.2.2.2.1 u.2.2.2.2.2.1 u.2.2.2.2.2.2.1 u.2.2.2.2.2.2.2.1 u.2.2.2.2.2.2.2.2.1 u.2.2.2.2.2.2.2.2.2.1 u.2.2.2.2.2.2.2.2.2.2.1 u.2.2.2.2.2.2.2.2.2.2.2.1 u.2.2.2.2.2.2.2.2.2.2.2.2.1 u.2.2.2.2.2.2.2.2.2.2.2.2.2 (image) (isKept)]) 630 X hC wv_L_82 (fun _ _ _ _ _ _ => trivial) (fun _ _ _ _ _ _ _ => trivial) ⟨Nat.le_of_ble_eq_true rfl, Nat.le_of_ble_eq_true rfl⟩ ⟨rfl, rfl⟩ ⟨Nat.le_of_ble_eq_true rfl, Nat.le_of_ble_eq_true rfl⟩ dL_law_630 rfl [] rfl (Nat.le_of_ble_eq_true rfl) [0, 1, 9] rfl rfl [[(g 0 0)], [(g 1 0), (g 1 1), (g 1 2), (g 1 3), (g 1 4), (g 1 5), (g 1 6), (g 1 7), (g 1 8), (g 1 9), (g 1 10)], [(g 9 0), (g 9 1), (g 9 2)]] rfl (fun _ => rfl) 0 rfl rfl rfl (fun _ => rfl) (fun v => ?_)
  refine jv_aload_n 633 X dL_law_633 2 rfl ?_
  refine jv_aload_n 634 X dL_law_634 0 rfl ?_
  refine jv_iload_n 635 X dL_law_635 3 rfl ?_
  refine jv_iconst (v := 1) 636 X dL_law_636 rfl ?_
  refine jv_iadd 637 X dL_law_637 ?_
  refine jv_sld 638 X S dL_law_638 (6 * k + 1) (nx_add rfl rfl) (by omega) (by omega) ?_
  refine jv_aload_n 639 X dL_law_639 0 rfl ?_
  refine jv_iload_n 640 X dL_law_640 3 rfl ?_
  refine jv_iconst (v := 2) 641 X dL_law_641 rfl ?_
  refine jv_iadd 642 X dL_law_642 ?_
  refine jv_sld 643 X S dL_law_643 (6 * k + 2) (nx_add rfl rfl) (by omega) (by omega) ?_
  refine jv_callBG1 (wl2 := fun z : ScrM => [bLR g, tRl E (g 1) r, bIm (g 2 0) (g 3 0) k0, tRl E (g 3) i0, bIm (g 4 0) (g 5 0) k1, tRl E (g 5) i1, bPd E (g 6) (nI sn) pa signs kd on pl nm, bWk (g 7 0) (g 8 0) w1 w2 w3 w4 w5, tRl E (g 8) tr, tAh E (g 9) v, tLw E (g 10) lw, tRg E (g 11) ri, bTu E (g 12) mv, tHd E (g 13) hd, bMd E a (book) z.1 (week) (nI sk) (sight) (nI sn) (pad) z.2.1 z.2.2.1 z.2.2.2.1 z.2.2.2.2.1 z.2.2.2.2.2.1 z.2.2.2.2.2.2.1 z.2.2.2.2.2.2.2.1 z.2.2.2.2.2.2.2.2.1 z.2.2.2.2.2.2.2.2.2.1 z.2.2.2.2.2.2.2.2.2.2.1 z.2.2.2.2.2.2.2.2.2.2.2.1 z.2.2.2.2.2.2.2.2.2.2.2.2.1 z.2.2.2.2.2.2.2.2.2.2.2.2.2 (image) (isKept)]) 644 X hM wv_L_86 ⟨Nat.le_of_ble_eq_true rfl, Nat.le_of_ble_eq_true rfl⟩ ⟨rfl, rfl⟩ ⟨Nat.le_of_ble_eq_true rfl, Nat.le_of_ble_eq_true rfl⟩ dL_law_644 rfl [_] rfl (Nat.le_of_ble_eq_true rfl) 14 rfl [(a 0), (a 1), (a 2), (a 3), (a 4), (a 5), (a 6), (a 7), (a 8), (a 9), (a 10), (a 11), (a 12), (a 13), (a 14), (a 15)] rfl (fun _ => rfl) rfl rfl (fun _ => rfl) (fun z => ?_)
  refine jv_lcmp 647 X dL_law_647 ?_
  refine jn_if_eq 648 X dL_law_648 1192 (by decide) (fun _ => ?_) (fun hne => absurd ((lg_cmp_eq _ _).mpr rfl) hne)
  exact h r k0 i0 k1 i1 sn pa signs kd on pl nm w1 w2 w3 w4 w5 tr v lw ri mv hd book week sk sight pad image isKept z hR
set_option maxRecDepth 100000 in
set_option maxHeartbeats 4000000 in
theorem law_when {E : EE} {K : Ctx} {b L : Nat} {xs : Nat → Int32} {g : Nat → Nat → Nat} {a : Nat → Nat} {k : Nat} (X : CX E K cL_law 4 RL room_1) (S : SC K b L xs) (hk : 6 * k + 6 ≤ L) (hL : L ≤ 384) (h : LawP E K b g a 1192 k) : LawP E K b g a 653 k := by
  intro r k0 i0 k1 i1 sn pa signs kd on pl nm w1 w2 w3 w4 w5 tr ah lw ri mv hd book week sk sight pad image isKept u hR
  have hC := c_X9_when E (kLa K) g r ah (xs (6 * k + 1)) (x_dyC hR)
  rw [o_wl hR] at hC
  have hM := c_X10_when E (kLa K) a book u.1 week (nI sk) sight (nI sn) pad u.2.1 u.2.2.1 u.2.2.2.1 u.2.2.2.2.1 u.2.2.2.2.2.1 u.2.2.2.2.2.2.1 u.2.2.2.2.2.2.2.1 u.2.2.2.2.2.2.2.2.1 u.2.2.2.2.2.2.2.2.2.1 u.2.2.2.2.2.2.2.2.2.2.1 u.2.2.2.2.2.2.2.2.2.2.2.1 u.2.2.2.2.2.2.2.2.2.2.2.2.1 u.2.2.2.2.2.2.2.2.2.2.2.2.2 image isKept (xs (6 * k + 1)) (x_dyOK hR)
  refine jv_aload_n 653 X dL_law_653 1 rfl ?_
  refine jv_aload_n 654 X dL_law_654 0 rfl ?_
  refine jv_iload_n 655 X dL_law_655 3 rfl ?_
  refine jv_iconst (v := 1) 656 X dL_law_656 rfl ?_
  refine jv_iadd 657 X dL_law_657 ?_
  refine jv_sld 658 X S dL_law_658 (6 * k + 1) (nx_add rfl rfl) (by omega) (by omega) ?_
  refine jv_callBG (wl2 := fun v : Ah => [bLR g, tRl E (g 1) r, bIm (g 2 0) (g 3 0) k0, tRl E (g 3) i0, bIm (g 4 0) (g 5 0) k1, tRl E (g 5) i1, bPd E (g 6) (nI sn) pa signs kd on pl nm, bWk (g 7 0) (g 8 0) w1 w2 w3 w4 w5, tRl E (g 8) tr, tAh E (g 9) v, tLw E (g 10) lw, tRg E (g 11) ri, bTu E (g 12) mv, tHd E (g 13) hd, bMd E a (book) u.1 (week) (nI sk) (sight) (nI sn) (pad) u.2.1 u.2.2.1 u.2.2.2.1 u.2.2.2.2.1 u.2.2.2.2.2.1 u.2.2.2.2.2.2.1 u.2.2.2.2.2.2.2.1 u.2.2.2.2.2.2.2.2.1 u.2.2.2.2.2.2.2.2.2.1 u.2.2.2.2.2.2.2.2.2.2.1 u.2.2.2.2.2.2.2.2.2.2.2.1 u.2.2.2.2.2.2.2.2.2.2.2.2.1 u.2.2.2.2.2.2.2.2.2.2.2.2.2 (image) (isKept)]) 659 X hC wv_L_87 (fun _ _ _ _ _ _ => trivial) (fun _ _ _ _ _ _ _ => trivial) ⟨Nat.le_of_ble_eq_true rfl, Nat.le_of_ble_eq_true rfl⟩ ⟨rfl, rfl⟩ ⟨Nat.le_of_ble_eq_true rfl, Nat.le_of_ble_eq_true rfl⟩ dL_law_659 rfl [] rfl (Nat.le_of_ble_eq_true rfl) [0, 1, 9] rfl rfl [[(g 0 0)], [(g 1 0), (g 1 1), (g 1 2), (g 1 3), (g 1 4), (g 1 5), (g 1 6), (g 1 7), (g 1 8), (g 1 9), (g 1 10)], [(g 9 0), (g 9 1), (g 9 2)]] rfl (fun _ => rfl) 0 rfl rfl rfl (fun _ => rfl) (fun v => ?_)
  refine jv_aload_n 662 X dL_law_662 2 rfl ?_
  refine jv_aload_n 663 X dL_law_663 0 rfl ?_
  refine jv_iload_n 664 X dL_law_664 3 rfl ?_
  refine jv_iconst (v := 1) 665 X dL_law_665 rfl ?_
  refine jv_iadd 666 X dL_law_666 ?_
  refine jv_sld 667 X S dL_law_667 (6 * k + 1) (nx_add rfl rfl) (by omega) (by omega) ?_
  refine jv_callBG1 (wl2 := fun z : ScrM => [bLR g, tRl E (g 1) r, bIm (g 2 0) (g 3 0) k0, tRl E (g 3) i0, bIm (g 4 0) (g 5 0) k1, tRl E (g 5) i1, bPd E (g 6) (nI sn) pa signs kd on pl nm, bWk (g 7 0) (g 8 0) w1 w2 w3 w4 w5, tRl E (g 8) tr, tAh E (g 9) v, tLw E (g 10) lw, tRg E (g 11) ri, bTu E (g 12) mv, tHd E (g 13) hd, bMd E a (book) z.1 (week) (nI sk) (sight) (nI sn) (pad) z.2.1 z.2.2.1 z.2.2.2.1 z.2.2.2.2.1 z.2.2.2.2.2.1 z.2.2.2.2.2.2.1 z.2.2.2.2.2.2.2.1 z.2.2.2.2.2.2.2.2.1 z.2.2.2.2.2.2.2.2.2.1 z.2.2.2.2.2.2.2.2.2.2.1 z.2.2.2.2.2.2.2.2.2.2.2.1 z.2.2.2.2.2.2.2.2.2.2.2.2.1 z.2.2.2.2.2.2.2.2.2.2.2.2.2 (image) (isKept)]) 668 X hM wv_L_90 ⟨Nat.le_of_ble_eq_true rfl, Nat.le_of_ble_eq_true rfl⟩ ⟨rfl, rfl⟩ ⟨Nat.le_of_ble_eq_true rfl, Nat.le_of_ble_eq_true rfl⟩ dL_law_668 rfl [_] rfl (Nat.le_of_ble_eq_true rfl) 14 rfl [(a 0), (a 1), (a 2), (a 3), (a 4), (a 5), (a 6), (a 7), (a 8), (a 9), (a 10), (a 11), (a 12), (a 13), (a 14), (a 15)] rfl (fun _ => rfl) rfl rfl (fun _ => rfl) (fun z => ?_)
  refine jn_icmp_eq 671 X dL_law_671 1192 (by decide) (fun _ => ?_) (fun hne => absurd rfl hne)
  exact h r k0 i0 k1 i1 sn pa signs kd on pl nm w1 w2 w3 w4 w5 tr v lw ri mv hd book week sk sight pad image isKept z hR
set_option maxRecDepth 100000 in
set_option maxHeartbeats 4000000 in
theorem law_meet {E : EE} {K : Ctx} {b L : Nat} {xs : Nat → Int32} {g : Nat → Nat → Nat} {a : Nat → Nat} {k : Nat} (X : CX E K cL_law 4 RL room_1) (S : SC K b L xs) (hk : 6 * k + 6 ≤ L) (hL : L ≤ 384) (h : LawP E K b g a 1192 k) : LawP E K b g a 676 k := by
  intro r k0 i0 k1 i1 sn pa signs kd on pl nm w1 w2 w3 w4 w5 tr ah lw ri mv hd book week sk sight pad image isKept u hR
  have hC := c_X9_meet E (kLa K) g r ah (xs (6 * k + 1)) (xs (6 * k + 2)) (xs (6 * k + 3)) (xs (6 * k + 4)) (xs (6 * k + 5)) (x_dyC hR)
  rw [o_wl hR] at hC
  have hM := c_X10_meet E (kLa K) a book u.1 week (nI sk) sight (nI sn) pad u.2.1 u.2.2.1 u.2.2.2.1 u.2.2.2.2.1 u.2.2.2.2.2.1 u.2.2.2.2.2.2.1 u.2.2.2.2.2.2.2.1 u.2.2.2.2.2.2.2.2.1 u.2.2.2.2.2.2.2.2.2.1 u.2.2.2.2.2.2.2.2.2.2.1 u.2.2.2.2.2.2.2.2.2.2.2.1 u.2.2.2.2.2.2.2.2.2.2.2.2.1 u.2.2.2.2.2.2.2.2.2.2.2.2.2 image isKept (xs (6 * k + 1)) (xs (6 * k + 2)) (xs (6 * k + 3)) (xs (6 * k + 4)) (xs (6 * k + 5)) (x_dyOK hR)
  refine jv_aload_n 676 X dL_law_676 1 rfl ?_
  refine jv_aload_n 677 X dL_law_677 0 rfl ?_
  refine jv_iload_n 678 X dL_law_678 3 rfl ?_
  refine jv_iconst (v := 1) 679 X dL_law_679 rfl ?_
  refine jv_iadd 680 X dL_law_680 ?_
  refine jv_sld 681 X S dL_law_681 (6 * k + 1) (nx_add rfl rfl) (by omega) (by omega) ?_
  refine jv_aload_n 682 X dL_law_682 0 rfl ?_
  refine jv_iload_n 683 X dL_law_683 3 rfl ?_
  refine jv_iconst (v := 2) 684 X dL_law_684 rfl ?_
  refine jv_iadd 685 X dL_law_685 ?_
  refine jv_sld 686 X S dL_law_686 (6 * k + 2) (nx_add rfl rfl) (by omega) (by omega) ?_
  refine jv_aload_n 687 X dL_law_687 0 rfl ?_
  refine jv_iload_n 688 X dL_law_688 3 rfl ?_
  refine jv_iconst (v := 3) 689 X dL_law_689 rfl ?_
  refine jv_iadd 690 X dL_law_690 ?_
  refine jv_sld 691 X S dL_law_691 (6 * k + 3) (nx_add rfl rfl) (by omega) (by omega) ?_
  refine jv_aload_n 692 X dL_law_692 0 rfl ?_
  refine jv_iload_n 693 X dL_law_693 3 rfl ?_
  refine jv_iconst (v := 4) 694 X dL_law_694 rfl ?_
  refine jv_iadd 695 X dL_law_695 ?_
  refine jv_sld 696 X S dL_law_696 (6 * k + 4) (nx_add rfl rfl) (by omega) (by omega) ?_
  refine jv_aload_n 697 X dL_law_697 0 rfl ?_
  refine jv_iload_n 698 X dL_law_698 3 rfl ?_
  refine jv_iconst (v := 5) 699 X dL_law_699 rfl ?_
  refine jv_iadd 700 X dL_law_700 ?_
  refine jv_sld 701 X S dL_law_701 (6 * k + 5) (nx_add rfl rfl) (by omega) (by omega) ?_
  refine jv_callBG (wl2 := fun v : Ah => [bLR g, tRl E (g 1) r, bIm (g 2 0) (g 3 0) k0, tRl E (g 3) i0, bIm (g 4 0) (g 5 0) k1, tRl E (g 5) i1, bPd E (g 6) (nI sn) pa signs kd on pl nm, bWk (g 7 0) (g 8 0) w1 w2 w3 w4 w5, tRl E (g 8) tr, tAh E (g 9) v, tLw E (g 10) lw, tRg E (g 11) ri, bTu E (g 12) mv, tHd E (g 13) hd, bMd E a (book) u.1 (week) (nI sk) (sight) (nI sn) (pad) u.2.1 u.2.2.1 u.2.2.2.1 u.2.2.2.2.1 u.2.2.2.2.2.1 u.2.2.2.2.2.2.1 u.2.2.2.2.2.2.2.1 u.2.2.2.2.2.2.2.2.1 u.2.2.2.2.2.2.2.2.2.1 u.2.2.2.2.2.2.2.2.2.2.1 u.2.2.2.2.2.2.2.2.2.2.2.1 u.2.2.2.2.2.2.2.2.2.2.2.2.1 u.2.2.2.2.2.2.2.2.2.2.2.2.2 (image) (isKept)]) 702 X hC wv_L_91 (fun _ _ _ _ _ _ => trivial) (fun _ _ _ _ _ _ _ => trivial) ⟨Nat.le_of_ble_eq_true rfl, Nat.le_of_ble_eq_true rfl⟩ ⟨rfl, rfl⟩ ⟨Nat.le_of_ble_eq_true rfl, Nat.le_of_ble_eq_true rfl⟩ dL_law_702 rfl [] rfl (Nat.le_of_ble_eq_true rfl) [0, 1, 9] rfl rfl [[(g 0 0)], [(g 1 0), (g 1 1), (g 1 2), (g 1 3), (g 1 4), (g 1 5), (g 1 6), (g 1 7), (g 1 8), (g 1 9), (g 1 10)], [(g 9 0), (g 9 1), (g 9 2)]] rfl (fun _ => rfl) 0 rfl rfl rfl (fun _ => rfl) (fun v => ?_)
  refine jv_aload_n 705 X dL_law_705 2 rfl ?_
  refine jv_aload_n 706 X dL_law_706 0 rfl ?_
  refine jv_iload_n 707 X dL_law_707 3 rfl ?_
  refine jv_iconst (v := 1) 708 X dL_law_708 rfl ?_
  refine jv_iadd 709 X dL_law_709 ?_
  refine jv_sld 710 X S dL_law_710 (6 * k + 1) (nx_add rfl rfl) (by omega) (by omega) ?_
  refine jv_aload_n 711 X dL_law_711 0 rfl ?_
  refine jv_iload_n 712 X dL_law_712 3 rfl ?_
  refine jv_iconst (v := 2) 713 X dL_law_713 rfl ?_
  refine jv_iadd 714 X dL_law_714 ?_
  refine jv_sld 715 X S dL_law_715 (6 * k + 2) (nx_add rfl rfl) (by omega) (by omega) ?_
  refine jv_aload_n 716 X dL_law_716 0 rfl ?_
  refine jv_iload_n 717 X dL_law_717 3 rfl ?_
  refine jv_iconst (v := 3) 718 X dL_law_718 rfl ?_
  refine jv_iadd 719 X dL_law_719 ?_
  refine jv_sld 720 X S dL_law_720 (6 * k + 3) (nx_add rfl rfl) (by omega) (by omega) ?_
  refine jv_aload_n 721 X dL_law_721 0 rfl ?_
  refine jv_iload_n 722 X dL_law_722 3 rfl ?_
  refine jv_iconst (v := 4) 723 X dL_law_723 rfl ?_
  refine jv_iadd 724 X dL_law_724 ?_
  refine jv_sld 725 X S dL_law_725 (6 * k + 4) (nx_add rfl rfl) (by omega) (by omega) ?_
  refine jv_aload_n 726 X dL_law_726 0 rfl ?_
  refine jv_iload_n 727 X dL_law_727 3 rfl ?_
  refine jv_iconst (v := 5) 728 X dL_law_728 rfl ?_
  refine jv_iadd 729 X dL_law_729 ?_
  refine jv_sld 730 X S dL_law_730 (6 * k + 5) (nx_add rfl rfl) (by omega) (by omega) ?_
  refine jv_callBG1 (wl2 := fun z : ScrM => [bLR g, tRl E (g 1) r, bIm (g 2 0) (g 3 0) k0, tRl E (g 3) i0, bIm (g 4 0) (g 5 0) k1, tRl E (g 5) i1, bPd E (g 6) (nI sn) pa signs kd on pl nm, bWk (g 7 0) (g 8 0) w1 w2 w3 w4 w5, tRl E (g 8) tr, tAh E (g 9) v, tLw E (g 10) lw, tRg E (g 11) ri, bTu E (g 12) mv, tHd E (g 13) hd, bMd E a (book) z.1 (week) (nI sk) (sight) (nI sn) (pad) z.2.1 z.2.2.1 z.2.2.2.1 z.2.2.2.2.1 z.2.2.2.2.2.1 z.2.2.2.2.2.2.1 z.2.2.2.2.2.2.2.1 z.2.2.2.2.2.2.2.2.1 z.2.2.2.2.2.2.2.2.2.1 z.2.2.2.2.2.2.2.2.2.2.1 z.2.2.2.2.2.2.2.2.2.2.2.1 z.2.2.2.2.2.2.2.2.2.2.2.2.1 z.2.2.2.2.2.2.2.2.2.2.2.2.2 (image) (isKept)]) 731 X hM wv_L_95 ⟨Nat.le_of_ble_eq_true rfl, Nat.le_of_ble_eq_true rfl⟩ ⟨rfl, rfl⟩ ⟨Nat.le_of_ble_eq_true rfl, Nat.le_of_ble_eq_true rfl⟩ dL_law_731 rfl [_] rfl (Nat.le_of_ble_eq_true rfl) 14 rfl [(a 0), (a 1), (a 2), (a 3), (a 4), (a 5), (a 6), (a 7), (a 8), (a 9), (a 10), (a 11), (a 12), (a 13), (a 14), (a 15)] rfl (fun _ => rfl) rfl rfl (fun _ => rfl) (fun z => ?_)
  refine jn_icmp_eq 734 X dL_law_734 1192 (by decide) (fun _ => ?_) (fun hne => absurd rfl hne)
  exact h r k0 i0 k1 i1 sn pa signs kd on pl nm w1 w2 w3 w4 w5 tr v lw ri mv hd book week sk sight pad image isKept z hR
set_option maxRecDepth 100000 in
set_option maxHeartbeats 4000000 in
theorem law_waste {E : EE} {K : Ctx} {b L : Nat} {xs : Nat → Int32} {g : Nat → Nat → Nat} {a : Nat → Nat} {k : Nat} (X : CX E K cL_law 4 RL room_1) (S : SC K b L xs) (hk : 6 * k + 6 ≤ L) (hL : L ≤ 384) (h : LawP E K b g a 1192 k) : LawP E K b g a 739 k := by
  intro r k0 i0 k1 i1 sn pa signs kd on pl nm w1 w2 w3 w4 w5 tr ah lw ri mv hd book week sk sight pad image isKept u hR
  have hC := c_X9_waste E (kLa K) g r (xs (6 * k + 1)) (xs (6 * k + 2)) (xs (6 * k + 3)) (xs (6 * k + 4)) (x_st hR) (x_in hR)
  have hM := c_X10_waste E (kLa K) a book u.1 week (nI sk) sight (nI sn) pad u.2.1 u.2.2.1 u.2.2.2.1 u.2.2.2.2.1 u.2.2.2.2.2.1 u.2.2.2.2.2.2.1 u.2.2.2.2.2.2.2.1 u.2.2.2.2.2.2.2.2.1 u.2.2.2.2.2.2.2.2.2.1 u.2.2.2.2.2.2.2.2.2.2.1 u.2.2.2.2.2.2.2.2.2.2.2.1 u.2.2.2.2.2.2.2.2.2.2.2.2.1 u.2.2.2.2.2.2.2.2.2.2.2.2.2 image isKept (xs (6 * k + 1)) (xs (6 * k + 2)) (xs (6 * k + 3)) (xs (6 * k + 4)) (x_stM hR) (x_inM hR)
  refine jv_aload_n 739 X dL_law_739 1 rfl ?_
  refine jv_aload_n 740 X dL_law_740 0 rfl ?_
  refine jv_iload_n 741 X dL_law_741 3 rfl ?_
  refine jv_iconst (v := 1) 742 X dL_law_742 rfl ?_
  refine jv_iadd 743 X dL_law_743 ?_
  refine jv_sld 744 X S dL_law_744 (6 * k + 1) (nx_add rfl rfl) (by omega) (by omega) ?_
  refine jv_aload_n 745 X dL_law_745 0 rfl ?_
  refine jv_iload_n 746 X dL_law_746 3 rfl ?_
  refine jv_iconst (v := 2) 747 X dL_law_747 rfl ?_
  refine jv_iadd 748 X dL_law_748 ?_
  refine jv_sld 749 X S dL_law_749 (6 * k + 2) (nx_add rfl rfl) (by omega) (by omega) ?_
  refine jv_aload_n 750 X dL_law_750 0 rfl ?_
  refine jv_iload_n 751 X dL_law_751 3 rfl ?_
  refine jv_iconst (v := 3) 752 X dL_law_752 rfl ?_
  refine jv_iadd 753 X dL_law_753 ?_
  refine jv_sld 754 X S dL_law_754 (6 * k + 3) (nx_add rfl rfl) (by omega) (by omega) ?_
  refine jv_aload_n 755 X dL_law_755 0 rfl ?_
  refine jv_iload_n 756 X dL_law_756 3 rfl ?_
  refine jv_iconst (v := 4) 757 X dL_law_757 rfl ?_
  refine jv_iadd 758 X dL_law_758 ?_
  refine jv_sld 759 X S dL_law_759 (6 * k + 4) (nx_add rfl rfl) (by omega) (by omega) ?_
  refine jv_callB (wl2 := [bLR g, tRl E (g 1) r, bIm (g 2 0) (g 3 0) k0, tRl E (g 3) i0, bIm (g 4 0) (g 5 0) k1, tRl E (g 5) i1, bPd E (g 6) (nI sn) pa signs kd on pl nm, bWk (g 7 0) (g 8 0) w1 w2 w3 w4 w5, tRl E (g 8) tr, tAh E (g 9) ah, tLw E (g 10) lw, tRg E (g 11) ri, bTu E (g 12) mv, tHd E (g 13) hd, bMd E a (book) u.1 (week) (nI sk) (sight) (nI sn) (pad) u.2.1 u.2.2.1 u.2.2.2.1 u.2.2.2.2.1 u.2.2.2.2.2.1 u.2.2.2.2.2.2.1 u.2.2.2.2.2.2.2.1 u.2.2.2.2.2.2.2.2.1 u.2.2.2.2.2.2.2.2.2.1 u.2.2.2.2.2.2.2.2.2.2.1 u.2.2.2.2.2.2.2.2.2.2.2.1 u.2.2.2.2.2.2.2.2.2.2.2.2.1 u.2.2.2.2.2.2.2.2.2.2.2.2.2 (image) (isKept)]) 760 X hC wv_L_96 ⟨Nat.le_of_ble_eq_true rfl, Nat.le_of_ble_eq_true rfl⟩ ⟨rfl, rfl⟩ ⟨Nat.le_of_ble_eq_true rfl, Nat.le_of_ble_eq_true rfl⟩ dL_law_760 rfl [] rfl (Nat.le_of_ble_eq_true rfl) [0, 1] rfl rfl [[(g 0 0)], [(g 1 0), (g 1 1), (g 1 2), (g 1 3), (g 1 4), (g 1 5), (g 1 6), (g 1 7), (g 1 8), (g 1 9), (g 1 10)]] rfl rfl 0 rfl rfl rfl rfl ?_
  refine jv_aload_n 763 X dL_law_763 2 rfl ?_
  refine jv_aload_n 764 X dL_law_764 0 rfl ?_
  refine jv_iload_n 765 X dL_law_765 3 rfl ?_
  refine jv_iconst (v := 1) 766 X dL_law_766 rfl ?_
  refine jv_iadd 767 X dL_law_767 ?_
  refine jv_sld 768 X S dL_law_768 (6 * k + 1) (nx_add rfl rfl) (by omega) (by omega) ?_
  refine jv_aload_n 769 X dL_law_769 0 rfl ?_
  refine jv_iload_n 770 X dL_law_770 3 rfl ?_
  refine jv_iconst (v := 2) 771 X dL_law_771 rfl ?_
  refine jv_iadd 772 X dL_law_772 ?_
  refine jv_sld 773 X S dL_law_773 (6 * k + 2) (nx_add rfl rfl) (by omega) (by omega) ?_
  refine jv_aload_n 774 X dL_law_774 0 rfl ?_
  refine jv_iload_n 775 X dL_law_775 3 rfl ?_
  refine jv_iconst (v := 3) 776 X dL_law_776 rfl ?_
  refine jv_iadd 777 X dL_law_777 ?_
  refine jv_sld 778 X S dL_law_778 (6 * k + 3) (nx_add rfl rfl) (by omega) (by omega) ?_
  refine jv_aload_n 779 X dL_law_779 0 rfl ?_
  refine jv_iload_n 780 X dL_law_780 3 rfl ?_
  refine jv_iconst (v := 4) 781 X dL_law_781 rfl ?_
  refine jv_iadd 782 X dL_law_782 ?_
  refine jv_sld 783 X S dL_law_783 (6 * k + 4) (nx_add rfl rfl) (by omega) (by omega) ?_
  refine jv_callBG1 (wl2 := fun z : ScrM => [bLR g, tRl E (g 1) r, bIm (g 2 0) (g 3 0) k0, tRl E (g 3) i0, bIm (g 4 0) (g 5 0) k1, tRl E (g 5) i1, bPd E (g 6) (nI sn) pa signs kd on pl nm, bWk (g 7 0) (g 8 0) w1 w2 w3 w4 w5, tRl E (g 8) tr, tAh E (g 9) ah, tLw E (g 10) lw, tRg E (g 11) ri, bTu E (g 12) mv, tHd E (g 13) hd, bMd E a (book) z.1 (week) (nI sk) (sight) (nI sn) (pad) z.2.1 z.2.2.1 z.2.2.2.1 z.2.2.2.2.1 z.2.2.2.2.2.1 z.2.2.2.2.2.2.1 z.2.2.2.2.2.2.2.1 z.2.2.2.2.2.2.2.2.1 z.2.2.2.2.2.2.2.2.2.1 z.2.2.2.2.2.2.2.2.2.2.1 z.2.2.2.2.2.2.2.2.2.2.2.1 z.2.2.2.2.2.2.2.2.2.2.2.2.1 z.2.2.2.2.2.2.2.2.2.2.2.2.2 (image) (isKept)]) 784 X hM wv_L_99 ⟨Nat.le_of_ble_eq_true rfl, Nat.le_of_ble_eq_true rfl⟩ ⟨rfl, rfl⟩ ⟨Nat.le_of_ble_eq_true rfl, Nat.le_of_ble_eq_true rfl⟩ dL_law_784 rfl [_] rfl (Nat.le_of_ble_eq_true rfl) 14 rfl [(a 0), (a 1), (a 2), (a 3), (a 4), (a 5), (a 6), (a 7), (a 8), (a 9), (a 10), (a 11), (a 12), (a 13), (a 14), (a 15)] rfl (fun _ => rfl) rfl rfl (fun _ => rfl) (fun z => ?_)
  refine jn_icmp_eq 787 X dL_law_787 1192 (by decide) (fun _ => ?_) (fun hne => absurd (o_waste hR (xs (6 * k + 1)) (xs (6 * k + 2)) (xs (6 * k + 3)) (xs (6 * k + 4))) hne)
  exact h r k0 i0 k1 i1 sn pa signs kd on pl nm w1 w2 w3 w4 w5 tr ah lw ri mv hd book week sk sight pad image isKept z hR
set_option maxRecDepth 100000 in
set_option maxHeartbeats 4000000 in
theorem law_days {E : EE} {K : Ctx} {b L : Nat} {xs : Nat → Int32} {g : Nat → Nat → Nat} {a : Nat → Nat} {k : Nat} (X : CX E K cL_law 4 RL room_1) (S : SC K b L xs) (hk : 6 * k + 6 ≤ L) (hL : L ≤ 384) (h : LawP E K b g a 1192 k) : LawP E K b g a 792 k := by
  intro r k0 i0 k1 i1 sn pa signs kd on pl nm w1 w2 w3 w4 w5 tr ah lw ri mv hd book week sk sight pad image isKept u hR
  have hC := c_X9_days E (kLa K) g r ah (xs (6 * k + 1)) (xs (6 * k + 2)) (xs (6 * k + 3)) (x_dyC hR) (x_in hR)
  rw [o_wl hR] at hC
  have hM := c_X10_days E (kLa K) a book u.1 week (nI sk) sight (nI sn) pad u.2.1 u.2.2.1 u.2.2.2.1 u.2.2.2.2.1 u.2.2.2.2.2.1 u.2.2.2.2.2.2.1 u.2.2.2.2.2.2.2.1 u.2.2.2.2.2.2.2.2.1 u.2.2.2.2.2.2.2.2.2.1 u.2.2.2.2.2.2.2.2.2.2.1 u.2.2.2.2.2.2.2.2.2.2.2.1 u.2.2.2.2.2.2.2.2.2.2.2.2.1 u.2.2.2.2.2.2.2.2.2.2.2.2.2 image isKept (xs (6 * k + 1)) (xs (6 * k + 2)) (xs (6 * k + 3)) (x_dyOK hR) (x_inM hR)
  refine jv_aload_n 792 X dL_law_792 1 rfl ?_
  refine jv_aload_n 793 X dL_law_793 0 rfl ?_
  refine jv_iload_n 794 X dL_law_794 3 rfl ?_
  refine jv_iconst (v := 1) 795 X dL_law_795 rfl ?_
  refine jv_iadd 796 X dL_law_796 ?_
  refine jv_sld 797 X S dL_law_797 (6 * k + 1) (nx_add rfl rfl) (by omega) (by omega) ?_
  refine jv_aload_n 798 X dL_law_798 0 rfl ?_
  refine jv_iload_n 799 X dL_law_799 3 rfl ?_
  refine jv_iconst (v := 2) 800 X dL_law_800 rfl ?_
  refine jv_iadd 801 X dL_law_801 ?_
  refine jv_sld 802 X S dL_law_802 (6 * k + 2) (nx_add rfl rfl) (by omega) (by omega) ?_
  refine jv_aload_n 803 X dL_law_803 0 rfl ?_
  refine jv_iload_n 804 X dL_law_804 3 rfl ?_
  refine jv_iconst (v := 3) 805 X dL_law_805 rfl ?_
  refine jv_iadd 806 X dL_law_806 ?_
  refine jv_sld 807 X S dL_law_807 (6 * k + 3) (nx_add rfl rfl) (by omega) (by omega) ?_
  refine jv_callBG (wl2 := fun v : Ah => [bLR g, tRl E (g 1) r, bIm (g 2 0) (g 3 0) k0, tRl E (g 3) i0, bIm (g 4 0) (g 5 0) k1, tRl E (g 5) i1, bPd E (g 6) (nI sn) pa signs kd on pl nm, bWk (g 7 0) (g 8 0) w1 w2 w3 w4 w5, tRl E (g 8) tr, tAh E (g 9) v, tLw E (g 10) lw, tRg E (g 11) ri, bTu E (g 12) mv, tHd E (g 13) hd, bMd E a (book) u.1 (week) (nI sk) (sight) (nI sn) (pad) u.2.1 u.2.2.1 u.2.2.2.1 u.2.2.2.2.1 u.2.2.2.2.2.1 u.2.2.2.2.2.2.1 u.2.2.2.2.2.2.2.1 u.2.2.2.2.2.2.2.2.1 u.2.2.2.2.2.2.2.2.2.1 u.2.2.2.2.2.2.2.2.2.2.1 u.2.2.2.2.2.2.2.2.2.2.2.1 u.2.2.2.2.2.2.2.2.2.2.2.2.1 u.2.2.2.2.2.2.2.2.2.2.2.2.2 (image) (isKept)]) 808 X hC wv_L_100 (fun _ _ _ _ _ _ => trivial) (fun _ _ _ _ _ _ _ => trivial) ⟨Nat.le_of_ble_eq_true rfl, Nat.le_of_ble_eq_true rfl⟩ ⟨rfl, rfl⟩ ⟨Nat.le_of_ble_eq_true rfl, Nat.le_of_ble_eq_true rfl⟩ dL_law_808 rfl [] rfl (Nat.le_of_ble_eq_true rfl) [0, 1, 9] rfl rfl [[(g 0 0)], [(g 1 0), (g 1 1), (g 1 2), (g 1 3), (g 1 4), (g 1 5), (g 1 6), (g 1 7), (g 1 8), (g 1 9), (g 1 10)], [(g 9 0), (g 9 1), (g 9 2)]] rfl (fun _ => rfl) 0 rfl rfl rfl (fun _ => rfl) (fun v => ?_)
  refine jv_aload_n 811 X dL_law_811 2 rfl ?_
  refine jv_aload_n 812 X dL_law_812 0 rfl ?_
  refine jv_iload_n 813 X dL_law_813 3 rfl ?_
  refine jv_iconst (v := 1) 814 X dL_law_814 rfl ?_
  refine jv_iadd 815 X dL_law_815 ?_
  refine jv_sld 816 X S dL_law_816 (6 * k + 1) (nx_add rfl rfl) (by omega) (by omega) ?_
  refine jv_aload_n 817 X dL_law_817 0 rfl ?_
  refine jv_iload_n 818 X dL_law_818 3 rfl ?_
  refine jv_iconst (v := 2) 819 X dL_law_819 rfl ?_
  refine jv_iadd 820 X dL_law_820 ?_
  refine jv_sld 821 X S dL_law_821 (6 * k + 2) (nx_add rfl rfl) (by omega) (by omega) ?_
  refine jv_aload_n 822 X dL_law_822 0 rfl ?_
  refine jv_iload_n 823 X dL_law_823 3 rfl ?_
  refine jv_iconst (v := 3) 824 X dL_law_824 rfl ?_
  refine jv_iadd 825 X dL_law_825 ?_
  refine jv_sld 826 X S dL_law_826 (6 * k + 3) (nx_add rfl rfl) (by omega) (by omega) ?_
  refine jv_callBG1 (wl2 := fun z : ScrM => [bLR g, tRl E (g 1) r, bIm (g 2 0) (g 3 0) k0, tRl E (g 3) i0, bIm (g 4 0) (g 5 0) k1, tRl E (g 5) i1, bPd E (g 6) (nI sn) pa signs kd on pl nm, bWk (g 7 0) (g 8 0) w1 w2 w3 w4 w5, tRl E (g 8) tr, tAh E (g 9) v, tLw E (g 10) lw, tRg E (g 11) ri, bTu E (g 12) mv, tHd E (g 13) hd, bMd E a (book) z.1 (week) (nI sk) (sight) (nI sn) (pad) z.2.1 z.2.2.1 z.2.2.2.1 z.2.2.2.2.1 z.2.2.2.2.2.1 z.2.2.2.2.2.2.1 z.2.2.2.2.2.2.2.1 z.2.2.2.2.2.2.2.2.1 z.2.2.2.2.2.2.2.2.2.1 z.2.2.2.2.2.2.2.2.2.2.1 z.2.2.2.2.2.2.2.2.2.2.2.1 z.2.2.2.2.2.2.2.2.2.2.2.2.1 z.2.2.2.2.2.2.2.2.2.2.2.2.2 (image) (isKept)]) 827 X hM wv_L_104 ⟨Nat.le_of_ble_eq_true rfl, Nat.le_of_ble_eq_true rfl⟩ ⟨rfl, rfl⟩ ⟨Nat.le_of_ble_eq_true rfl, Nat.le_of_ble_eq_true rfl⟩ dL_law_827 rfl [_] rfl (Nat.le_of_ble_eq_true rfl) 14 rfl [(a 0), (a 1), (a 2), (a 3), (a 4), (a 5), (a 6), (a 7), (a 8), (a 9), (a 10), (a 11), (a 12), (a 13), (a 14), (a 15)] rfl (fun _ => rfl) rfl rfl (fun _ => rfl) (fun z => ?_)
  refine jn_icmp_eq 830 X dL_law_830 1192 (by decide) (fun _ => ?_) (fun hne => absurd rfl hne)
  exact h r k0 i0 k1 i1 sn pa signs kd on pl nm w1 w2 w3 w4 w5 tr v lw ri mv hd book week sk sight pad image isKept z hR
set_option maxRecDepth 100000 in
set_option maxHeartbeats 4000000 in
theorem law_seen {E : EE} {K : Ctx} {b L : Nat} {xs : Nat → Int32} {g : Nat → Nat → Nat} {a : Nat → Nat} {k : Nat} (X : CX E K cL_law 4 RL room_1) (S : SC K b L xs) (hk : 6 * k + 6 ≤ L) (hL : L ≤ 384) (h : LawP E K b g a 1192 k) : LawP E K b g a 835 k := by
  intro r k0 i0 k1 i1 sn pa signs kd on pl nm w1 w2 w3 w4 w5 tr ah lw ri mv hd book week sk sight pad image isKept u hR
  have hO := r_seen hR.1 (xs (6 * k + 1)) (xs (6 * k + 2))
  have hC := c_X9_seen E (kLa K) g r (xs (6 * k + 1)) (xs (6 * k + 2)) (x_sk hR)
  have hM := c_X10_seen E (kLa K) a book u.1 week sk sight (nI sn) pad u.2.1 u.2.2.1 u.2.2.2.1 u.2.2.2.2.1 u.2.2.2.2.2.1 u.2.2.2.2.2.2.1 u.2.2.2.2.2.2.2.1 u.2.2.2.2.2.2.2.2.1 u.2.2.2.2.2.2.2.2.2.1 u.2.2.2.2.2.2.2.2.2.2.1 u.2.2.2.2.2.2.2.2.2.2.2.1 u.2.2.2.2.2.2.2.2.2.2.2.2.1 u.2.2.2.2.2.2.2.2.2.2.2.2.2 image isKept (xs (6 * k + 1)) (xs (6 * k + 2)) (x_sk8 hR)
  refine jv_aload_n 835 X dL_law_835 1 rfl ?_
  refine jv_aload_n 836 X dL_law_836 0 rfl ?_
  refine jv_iload_n 837 X dL_law_837 3 rfl ?_
  refine jv_iconst (v := 1) 838 X dL_law_838 rfl ?_
  refine jv_iadd 839 X dL_law_839 ?_
  refine jv_sld 840 X S dL_law_840 (6 * k + 1) (nx_add rfl rfl) (by omega) (by omega) ?_
  refine jv_aload_n 841 X dL_law_841 0 rfl ?_
  refine jv_iload_n 842 X dL_law_842 3 rfl ?_
  refine jv_iconst (v := 2) 843 X dL_law_843 rfl ?_
  refine jv_iadd 844 X dL_law_844 ?_
  refine jv_sld 845 X S dL_law_845 (6 * k + 2) (nx_add rfl rfl) (by omega) (by omega) ?_
  refine jv_callB (wl2 := [bLR g, tRl E (g 1) ((k_seen (xs (6 * k + 1)) (xs (6 * k + 2)) r).2), bIm (g 2 0) (g 3 0) k0, tRl E (g 3) i0, bIm (g 4 0) (g 5 0) k1, tRl E (g 5) i1, bPd E (g 6) (nI sn) pa signs kd on pl nm, bWk (g 7 0) (g 8 0) w1 w2 w3 w4 w5, tRl E (g 8) tr, tAh E (g 9) ah, tLw E (g 10) lw, tRg E (g 11) ri, bTu E (g 12) mv, tHd E (g 13) hd, bMd E a (book) u.1 (week) (nI sk) (sight) (nI sn) (pad) u.2.1 u.2.2.1 u.2.2.2.1 u.2.2.2.2.1 u.2.2.2.2.2.1 u.2.2.2.2.2.2.1 u.2.2.2.2.2.2.2.1 u.2.2.2.2.2.2.2.2.1 u.2.2.2.2.2.2.2.2.2.1 u.2.2.2.2.2.2.2.2.2.2.1 u.2.2.2.2.2.2.2.2.2.2.2.1 u.2.2.2.2.2.2.2.2.2.2.2.2.1 u.2.2.2.2.2.2.2.2.2.2.2.2.2 (image) (isKept)]) 846 X hC wv_L_105 ⟨Nat.le_of_ble_eq_true rfl, Nat.le_of_ble_eq_true rfl⟩ ⟨rfl, rfl⟩ ⟨Nat.le_of_ble_eq_true rfl, Nat.le_of_ble_eq_true rfl⟩ dL_law_846 rfl [] rfl (Nat.le_of_ble_eq_true rfl) [0, 1] rfl rfl [[(g 0 0)], [(g 1 0), (g 1 1), (g 1 2), (g 1 3), (g 1 4), (g 1 5), (g 1 6), (g 1 7), (g 1 8), (g 1 9), (g 1 10)]] rfl rfl 0 rfl rfl rfl rfl ?_
  refine jv_aload_n 849 X dL_law_849 2 rfl ?_
  refine jv_aload_n 850 X dL_law_850 0 rfl ?_
  refine jv_iload_n 851 X dL_law_851 3 rfl ?_
  refine jv_iconst (v := 1) 852 X dL_law_852 rfl ?_
  refine jv_iadd 853 X dL_law_853 ?_
  refine jv_sld 854 X S dL_law_854 (6 * k + 1) (nx_add rfl rfl) (by omega) (by omega) ?_
  refine jv_aload_n 855 X dL_law_855 0 rfl ?_
  refine jv_iload_n 856 X dL_law_856 3 rfl ?_
  refine jv_iconst (v := 2) 857 X dL_law_857 rfl ?_
  refine jv_iadd 858 X dL_law_858 ?_
  refine jv_sld 859 X S dL_law_859 (6 * k + 2) (nx_add rfl rfl) (by omega) (by omega) ?_
  refine jv_callB1 (wl2 := [bLR g, tRl E (g 1) ((k_seen (xs (6 * k + 1)) (xs (6 * k + 2)) r).2), bIm (g 2 0) (g 3 0) k0, tRl E (g 3) i0, bIm (g 4 0) (g 5 0) k1, tRl E (g 5) i1, bPd E (g 6) (nI sn) pa signs kd on pl nm, bWk (g 7 0) (g 8 0) w1 w2 w3 w4 w5, tRl E (g 8) tr, tAh E (g 9) ah, tLw E (g 10) lw, tRg E (g 11) ri, bTu E (g 12) mv, tHd E (g 13) hd, bMd E a (book) u.1 (week) (nI (f_seen sk sight (xs (6 * k + 1)) (xs (6 * k + 2))).2.1) ((f_seen sk sight (xs (6 * k + 1)) (xs (6 * k + 2))).2.2) (nI sn) (pad) u.2.1 u.2.2.1 u.2.2.2.1 u.2.2.2.2.1 u.2.2.2.2.2.1 u.2.2.2.2.2.2.1 u.2.2.2.2.2.2.2.1 u.2.2.2.2.2.2.2.2.1 u.2.2.2.2.2.2.2.2.2.1 u.2.2.2.2.2.2.2.2.2.2.1 u.2.2.2.2.2.2.2.2.2.2.2.1 u.2.2.2.2.2.2.2.2.2.2.2.2.1 u.2.2.2.2.2.2.2.2.2.2.2.2.2 (image) (isKept)]) 860 X hM wv_L_108 ⟨Nat.le_of_ble_eq_true rfl, Nat.le_of_ble_eq_true rfl⟩ ⟨rfl, rfl⟩ ⟨Nat.le_of_ble_eq_true rfl, Nat.le_of_ble_eq_true rfl⟩ dL_law_860 rfl [_] rfl (Nat.le_of_ble_eq_true rfl) 14 rfl [(a 0), (a 1), (a 2), (a 3), (a 4), (a 5), (a 6), (a 7), (a 8), (a 9), (a 10), (a 11), (a 12), (a 13), (a 14), (a 15)] rfl rfl rfl rfl rfl ?_
  refine jn_icmp_eq 863 X dL_law_863 1192 (by decide) (fun _ => ?_) (fun hne => absurd hO.1 hne)
  exact h ((k_seen (xs (6 * k + 1)) (xs (6 * k + 2)) r).2) k0 i0 k1 i1 sn pa signs kd on pl nm w1 w2 w3 w4 w5 tr ah lw ri mv hd book week ((f_seen sk sight (xs (6 * k + 1)) (xs (6 * k + 2))).2.1) ((f_seen sk sight (xs (6 * k + 1)) (xs (6 * k + 2))).2.2) pad image isKept u (x_rr hR hO.2)
set_option maxRecDepth 100000 in
set_option maxHeartbeats 4000000 in
theorem law_forget {E : EE} {K : Ctx} {b L : Nat} {xs : Nat → Int32} {g : Nat → Nat → Nat} {a : Nat → Nat} {k : Nat} (X : CX E K cL_law 4 RL room_1) (S : SC K b L xs) (hk : 6 * k + 6 ≤ L) (hL : L ≤ 384) (h : LawP E K b g a 1192 k) : LawP E K b g a 868 k := by
  intro r k0 i0 k1 i1 sn pa signs kd on pl nm w1 w2 w3 w4 w5 tr ah lw ri mv hd book week sk sight pad image isKept u hR
  have hO := r_forget hR.1
  have hC := c_X9_forget E (kLa K) g r
  have hM := c_X10_forget E (kLa K) a book u.1 week (nI sk) sight (nI sn) pad u.2.1 u.2.2.1 u.2.2.2.1 u.2.2.2.2.1 u.2.2.2.2.2.1 u.2.2.2.2.2.2.1 u.2.2.2.2.2.2.2.1 u.2.2.2.2.2.2.2.2.1 u.2.2.2.2.2.2.2.2.2.1 u.2.2.2.2.2.2.2.2.2.2.1 u.2.2.2.2.2.2.2.2.2.2.2.1 u.2.2.2.2.2.2.2.2.2.2.2.2.1 u.2.2.2.2.2.2.2.2.2.2.2.2.2 image isKept 
  refine jv_aload_n 868 X dL_law_868 1 rfl ?_
  refine jv_callB (wl2 := [bLR g, tRl E (g 1) ((k_forget r).2), bIm (g 2 0) (g 3 0) k0, tRl E (g 3) i0, bIm (g 4 0) (g 5 0) k1, tRl E (g 5) i1, bPd E (g 6) (nI sn) pa signs kd on pl nm, bWk (g 7 0) (g 8 0) w1 w2 w3 w4 w5, tRl E (g 8) tr, tAh E (g 9) ah, tLw E (g 10) lw, tRg E (g 11) ri, bTu E (g 12) mv, tHd E (g 13) hd, bMd E a (book) u.1 (week) (nI sk) (sight) (nI sn) (pad) u.2.1 u.2.2.1 u.2.2.2.1 u.2.2.2.2.1 u.2.2.2.2.2.1 u.2.2.2.2.2.2.1 u.2.2.2.2.2.2.2.1 u.2.2.2.2.2.2.2.2.1 u.2.2.2.2.2.2.2.2.2.1 u.2.2.2.2.2.2.2.2.2.2.1 u.2.2.2.2.2.2.2.2.2.2.2.1 u.2.2.2.2.2.2.2.2.2.2.2.2.1 u.2.2.2.2.2.2.2.2.2.2.2.2.2 (image) (isKept)]) 869 X hC wv_L_109 ⟨Nat.le_of_ble_eq_true rfl, Nat.le_of_ble_eq_true rfl⟩ ⟨rfl, rfl⟩ ⟨Nat.le_of_ble_eq_true rfl, Nat.le_of_ble_eq_true rfl⟩ dL_law_869 rfl [] rfl (Nat.le_of_ble_eq_true rfl) [0, 1] rfl rfl [[(g 0 0)], [(g 1 0), (g 1 1), (g 1 2), (g 1 3), (g 1 4), (g 1 5), (g 1 6), (g 1 7), (g 1 8), (g 1 9), (g 1 10)]] rfl rfl 0 rfl rfl rfl rfl ?_
  refine jv_aload_n 872 X dL_law_872 2 rfl ?_
  refine jv_callB1 (wl2 := [bLR g, tRl E (g 1) ((k_forget r).2), bIm (g 2 0) (g 3 0) k0, tRl E (g 3) i0, bIm (g 4 0) (g 5 0) k1, tRl E (g 5) i1, bPd E (g 6) (nI sn) pa signs kd on pl nm, bWk (g 7 0) (g 8 0) w1 w2 w3 w4 w5, tRl E (g 8) tr, tAh E (g 9) ah, tLw E (g 10) lw, tRg E (g 11) ri, bTu E (g 12) mv, tHd E (g 13) hd, bMd E a (book) u.1 (week) (0) (sight) (nI sn) (pad) u.2.1 u.2.2.1 u.2.2.2.1 u.2.2.2.2.1 u.2.2.2.2.2.1 u.2.2.2.2.2.2.1 u.2.2.2.2.2.2.2.1 u.2.2.2.2.2.2.2.2.1 u.2.2.2.2.2.2.2.2.2.1 u.2.2.2.2.2.2.2.2.2.2.1 u.2.2.2.2.2.2.2.2.2.2.2.1 u.2.2.2.2.2.2.2.2.2.2.2.2.1 u.2.2.2.2.2.2.2.2.2.2.2.2.2 (image) (isKept)]) 873 X hM wv_L_112 ⟨Nat.le_of_ble_eq_true rfl, Nat.le_of_ble_eq_true rfl⟩ ⟨rfl, rfl⟩ ⟨Nat.le_of_ble_eq_true rfl, Nat.le_of_ble_eq_true rfl⟩ dL_law_873 rfl [_] rfl (Nat.le_of_ble_eq_true rfl) 14 rfl [(a 0), (a 1), (a 2), (a 3), (a 4), (a 5), (a 6), (a 7), (a 8), (a 9), (a 10), (a 11), (a 12), (a 13), (a 14), (a 15)] rfl rfl rfl rfl rfl ?_
  refine jn_icmp_eq 876 X dL_law_876 1192 (by decide) (fun _ => ?_) (fun hne => absurd hO.1 hne)
  exact h ((k_forget r).2) k0 i0 k1 i1 sn pa signs kd on pl nm w1 w2 w3 w4 w5 tr ah lw ri mv hd book week 0 sight pad image isKept u (x_rr hR hO.2)
set_option maxRecDepth 100000 in
set_option maxHeartbeats 4000000 in
theorem law_fits {E : EE} {K : Ctx} {b L : Nat} {xs : Nat → Int32} {g : Nat → Nat → Nat} {a : Nat → Nat} {k : Nat} (X : CX E K cL_law 4 RL room_1) (S : SC K b L xs) (hk : 6 * k + 6 ≤ L) (hL : L ≤ 384) (h : LawP E K b g a 1192 k) : LawP E K b g a 881 k := by
  intro r k0 i0 k1 i1 sn pa signs kd on pl nm w1 w2 w3 w4 w5 tr ah lw ri mv hd book week sk sight pad image isKept u hR
  have hC := c_X9_fits E (kLa K) g r lw (xs (6 * k + 1)) (x_sk hR)
  have hM := c_X10_fits E (kLa K) a book u.1 week sk sight (nI sn) pad u.2.1 u.2.2.1 u.2.2.2.1 u.2.2.2.2.1 u.2.2.2.2.2.1 u.2.2.2.2.2.2.1 u.2.2.2.2.2.2.2.1 u.2.2.2.2.2.2.2.2.1 u.2.2.2.2.2.2.2.2.2.1 u.2.2.2.2.2.2.2.2.2.2.1 u.2.2.2.2.2.2.2.2.2.2.2.1 u.2.2.2.2.2.2.2.2.2.2.2.2.1 u.2.2.2.2.2.2.2.2.2.2.2.2.2 image isKept (xs (6 * k + 1)) (x_sk8 hR)
  refine jv_aload_n 881 X dL_law_881 1 rfl ?_
  refine jv_aload_n 882 X dL_law_882 0 rfl ?_
  refine jv_iload_n 883 X dL_law_883 3 rfl ?_
  refine jv_iconst (v := 1) 884 X dL_law_884 rfl ?_
  refine jv_iadd 885 X dL_law_885 ?_
  refine jv_sld 886 X S dL_law_886 (6 * k + 1) (nx_add rfl rfl) (by omega) (by omega) ?_
  refine jv_callBG (wl2 := fun v : Lw => [bLR g, tRl E (g 1) r, bIm (g 2 0) (g 3 0) k0, tRl E (g 3) i0, bIm (g 4 0) (g 5 0) k1, tRl E (g 5) i1, bPd E (g 6) (nI sn) pa signs kd on pl nm, bWk (g 7 0) (g 8 0) w1 w2 w3 w4 w5, tRl E (g 8) tr, tAh E (g 9) ah, tLw E (g 10) v, tRg E (g 11) ri, bTu E (g 12) mv, tHd E (g 13) hd, bMd E a (book) u.1 (week) (nI sk) (sight) (nI sn) (pad) u.2.1 u.2.2.1 u.2.2.2.1 u.2.2.2.2.1 u.2.2.2.2.2.1 u.2.2.2.2.2.2.1 u.2.2.2.2.2.2.2.1 u.2.2.2.2.2.2.2.2.1 u.2.2.2.2.2.2.2.2.2.1 u.2.2.2.2.2.2.2.2.2.2.1 u.2.2.2.2.2.2.2.2.2.2.2.1 u.2.2.2.2.2.2.2.2.2.2.2.2.1 u.2.2.2.2.2.2.2.2.2.2.2.2.2 (image) (isKept)]) 887 X hC wv_L_113 (fun _ _ _ _ _ _ => trivial) (fun _ _ _ _ _ _ _ => trivial) ⟨Nat.le_of_ble_eq_true rfl, Nat.le_of_ble_eq_true rfl⟩ ⟨rfl, rfl⟩ ⟨Nat.le_of_ble_eq_true rfl, Nat.le_of_ble_eq_true rfl⟩ dL_law_887 rfl [] rfl (Nat.le_of_ble_eq_true rfl) [0, 1, 10] rfl rfl [[(g 0 0)], [(g 1 0), (g 1 1), (g 1 2), (g 1 3), (g 1 4), (g 1 5), (g 1 6), (g 1 7), (g 1 8), (g 1 9), (g 1 10)], [(g 10 0), (g 10 1), (g 10 2), (g 10 3)]] rfl (fun _ => rfl) 0 rfl rfl rfl (fun _ => rfl) (fun v => ?_)
  refine jv_aload_n 890 X dL_law_890 2 rfl ?_
  refine jv_aload_n 891 X dL_law_891 0 rfl ?_
  refine jv_iload_n 892 X dL_law_892 3 rfl ?_
  refine jv_iconst (v := 1) 893 X dL_law_893 rfl ?_
  refine jv_iadd 894 X dL_law_894 ?_
  refine jv_sld 895 X S dL_law_895 (6 * k + 1) (nx_add rfl rfl) (by omega) (by omega) ?_
  refine jv_callBG1 (wl2 := fun z : ScrM => [bLR g, tRl E (g 1) r, bIm (g 2 0) (g 3 0) k0, tRl E (g 3) i0, bIm (g 4 0) (g 5 0) k1, tRl E (g 5) i1, bPd E (g 6) (nI sn) pa signs kd on pl nm, bWk (g 7 0) (g 8 0) w1 w2 w3 w4 w5, tRl E (g 8) tr, tAh E (g 9) ah, tLw E (g 10) v, tRg E (g 11) ri, bTu E (g 12) mv, tHd E (g 13) hd, bMd E a (book) z.1 (week) (nI sk) (sight) (nI sn) (pad) z.2.1 z.2.2.1 z.2.2.2.1 z.2.2.2.2.1 z.2.2.2.2.2.1 z.2.2.2.2.2.2.1 z.2.2.2.2.2.2.2.1 z.2.2.2.2.2.2.2.2.1 z.2.2.2.2.2.2.2.2.2.1 z.2.2.2.2.2.2.2.2.2.2.1 z.2.2.2.2.2.2.2.2.2.2.2.1 z.2.2.2.2.2.2.2.2.2.2.2.2.1 z.2.2.2.2.2.2.2.2.2.2.2.2.2 (image) (isKept)]) 896 X hM wv_L_116 ⟨Nat.le_of_ble_eq_true rfl, Nat.le_of_ble_eq_true rfl⟩ ⟨rfl, rfl⟩ ⟨Nat.le_of_ble_eq_true rfl, Nat.le_of_ble_eq_true rfl⟩ dL_law_896 rfl [_] rfl (Nat.le_of_ble_eq_true rfl) 14 rfl [(a 0), (a 1), (a 2), (a 3), (a 4), (a 5), (a 6), (a 7), (a 8), (a 9), (a 10), (a 11), (a 12), (a 13), (a 14), (a 15)] rfl (fun _ => rfl) rfl rfl (fun _ => rfl) (fun z => ?_)
  refine jn_icmp_eq 899 X dL_law_899 1192 (by decide) (fun _ => ?_) (fun hne => absurd (o_fits hR (xs (6 * k + 1))) hne)
  exact h r k0 i0 k1 i1 sn pa signs kd on pl nm w1 w2 w3 w4 w5 tr ah v ri mv hd book week sk sight pad image isKept z hR
set_option maxRecDepth 100000 in
set_option maxHeartbeats 4000000 in
theorem law_ask {E : EE} {K : Ctx} {b L : Nat} {xs : Nat → Int32} {g : Nat → Nat → Nat} {a : Nat → Nat} {k : Nat} (X : CX E K cL_law 4 RL room_1) (S : SC K b L xs) (hk : 6 * k + 6 ≤ L) (hL : L ≤ 384) (h : LawP E K b g a 1192 k) : LawP E K b g a 904 k := by
  intro r k0 i0 k1 i1 sn pa signs kd on pl nm w1 w2 w3 w4 w5 tr ah lw ri mv hd book week sk sight pad image isKept u hR
  have hC := c_X9_ask E (kLa K) g r lw (xs (6 * k + 1)) (x_sk hR)
  have hM := c_X10_ask E (kLa K) a book u.1 week sk sight (nI sn) pad u.2.1 u.2.2.1 u.2.2.2.1 u.2.2.2.2.1 u.2.2.2.2.2.1 u.2.2.2.2.2.2.1 u.2.2.2.2.2.2.2.1 u.2.2.2.2.2.2.2.2.1 u.2.2.2.2.2.2.2.2.2.1 u.2.2.2.2.2.2.2.2.2.2.1 u.2.2.2.2.2.2.2.2.2.2.2.1 u.2.2.2.2.2.2.2.2.2.2.2.2.1 u.2.2.2.2.2.2.2.2.2.2.2.2.2 image isKept (xs (6 * k + 1)) (x_sk8 hR)
  refine jv_aload_n 904 X dL_law_904 1 rfl ?_
  refine jv_aload_n 905 X dL_law_905 0 rfl ?_
  refine jv_iload_n 906 X dL_law_906 3 rfl ?_
  refine jv_iconst (v := 1) 907 X dL_law_907 rfl ?_
  refine jv_iadd 908 X dL_law_908 ?_
  refine jv_sld 909 X S dL_law_909 (6 * k + 1) (nx_add rfl rfl) (by omega) (by omega) ?_
  refine jv_callBG (wl2 := fun v : Lw => [bLR g, tRl E (g 1) r, bIm (g 2 0) (g 3 0) k0, tRl E (g 3) i0, bIm (g 4 0) (g 5 0) k1, tRl E (g 5) i1, bPd E (g 6) (nI sn) pa signs kd on pl nm, bWk (g 7 0) (g 8 0) w1 w2 w3 w4 w5, tRl E (g 8) tr, tAh E (g 9) ah, tLw E (g 10) v, tRg E (g 11) ri, bTu E (g 12) mv, tHd E (g 13) hd, bMd E a (book) u.1 (week) (nI sk) (sight) (nI sn) (pad) u.2.1 u.2.2.1 u.2.2.2.1 u.2.2.2.2.1 u.2.2.2.2.2.1 u.2.2.2.2.2.2.1 u.2.2.2.2.2.2.2.1 u.2.2.2.2.2.2.2.2.1 u.2.2.2.2.2.2.2.2.2.1 u.2.2.2.2.2.2.2.2.2.2.1 u.2.2.2.2.2.2.2.2.2.2.2.1 u.2.2.2.2.2.2.2.2.2.2.2.2.1 u.2.2.2.2.2.2.2.2.2.2.2.2.2 (image) (isKept)]) 910 X hC wv_L_117 (fun _ _ _ _ _ _ => trivial) (fun _ _ _ _ _ _ _ => trivial) ⟨Nat.le_of_ble_eq_true rfl, Nat.le_of_ble_eq_true rfl⟩ ⟨rfl, rfl⟩ ⟨Nat.le_of_ble_eq_true rfl, Nat.le_of_ble_eq_true rfl⟩ dL_law_910 rfl [] rfl (Nat.le_of_ble_eq_true rfl) [0, 1, 10] rfl rfl [[(g 0 0)], [(g 1 0), (g 1 1), (g 1 2), (g 1 3), (g 1 4), (g 1 5), (g 1 6), (g 1 7), (g 1 8), (g 1 9), (g 1 10)], [(g 10 0), (g 10 1), (g 10 2), (g 10 3)]] rfl (fun _ => rfl) 0 rfl rfl rfl (fun _ => rfl) (fun v => ?_)
  refine jv_aload_n 913 X dL_law_913 2 rfl ?_
  refine jv_aload_n 914 X dL_law_914 0 rfl ?_
  refine jv_iload_n 915 X dL_law_915 3 rfl ?_
  refine jv_iconst (v := 1) 916 X dL_law_916 rfl ?_
  refine jv_iadd 917 X dL_law_917 ?_
  refine jv_sld 918 X S dL_law_918 (6 * k + 1) (nx_add rfl rfl) (by omega) (by omega) ?_
  refine jv_callBG1 (wl2 := fun z : ScrM => [bLR g, tRl E (g 1) r, bIm (g 2 0) (g 3 0) k0, tRl E (g 3) i0, bIm (g 4 0) (g 5 0) k1, tRl E (g 5) i1, bPd E (g 6) (nI sn) pa signs kd on pl nm, bWk (g 7 0) (g 8 0) w1 w2 w3 w4 w5, tRl E (g 8) tr, tAh E (g 9) ah, tLw E (g 10) v, tRg E (g 11) ri, bTu E (g 12) mv, tHd E (g 13) hd, bMd E a (book) z.1 (week) (nI sk) (sight) (nI sn) (pad) z.2.1 z.2.2.1 z.2.2.2.1 z.2.2.2.2.1 z.2.2.2.2.2.1 z.2.2.2.2.2.2.1 z.2.2.2.2.2.2.2.1 z.2.2.2.2.2.2.2.2.1 z.2.2.2.2.2.2.2.2.2.1 z.2.2.2.2.2.2.2.2.2.2.1 z.2.2.2.2.2.2.2.2.2.2.2.1 z.2.2.2.2.2.2.2.2.2.2.2.2.1 z.2.2.2.2.2.2.2.2.2.2.2.2.2 (image) (isKept)]) 919 X hM wv_L_120 ⟨Nat.le_of_ble_eq_true rfl, Nat.le_of_ble_eq_true rfl⟩ ⟨rfl, rfl⟩ ⟨Nat.le_of_ble_eq_true rfl, Nat.le_of_ble_eq_true rfl⟩ dL_law_919 rfl [_] rfl (Nat.le_of_ble_eq_true rfl) 14 rfl [(a 0), (a 1), (a 2), (a 3), (a 4), (a 5), (a 6), (a 7), (a 8), (a 9), (a 10), (a 11), (a 12), (a 13), (a 14), (a 15)] rfl (fun _ => rfl) rfl rfl (fun _ => rfl) (fun z => ?_)
  refine jn_icmp_eq 922 X dL_law_922 1192 (by decide) (fun _ => ?_) (fun hne => absurd (o_ask hR u.2.2.2.2.2.2.2.1 (xs (6 * k + 1))) hne)
  exact h r k0 i0 k1 i1 sn pa signs kd on pl nm w1 w2 w3 w4 w5 tr ah v ri mv hd book week sk sight pad image isKept z hR
set_option maxRecDepth 100000 in
set_option maxHeartbeats 4000000 in
theorem law_settle {E : EE} {K : Ctx} {b L : Nat} {xs : Nat → Int32} {g : Nat → Nat → Nat} {a : Nat → Nat} {k : Nat} (X : CX E K cL_law 4 RL room_1) (S : SC K b L xs) (hk : 6 * k + 6 ≤ L) (hL : L ≤ 384) (h : LawP E K b g a 1192 k) : LawP E K b g a 927 k := by
  intro r k0 i0 k1 i1 sn pa signs kd on pl nm w1 w2 w3 w4 w5 tr ah lw ri mv hd book week sk sight pad image isKept u hR
  have hC := c_X9_settle E (kLa K) g r ri (xs (6 * k + 1)) (xs (6 * k + 2))
  have hM := c_X10_settle E (kLa K) a book u.1 week (nI sk) sight (nI sn) pad u.2.1 u.2.2.1 u.2.2.2.1 u.2.2.2.2.1 u.2.2.2.2.2.1 u.2.2.2.2.2.2.1 u.2.2.2.2.2.2.2.1 u.2.2.2.2.2.2.2.2.1 u.2.2.2.2.2.2.2.2.2.1 u.2.2.2.2.2.2.2.2.2.2.1 u.2.2.2.2.2.2.2.2.2.2.2.1 u.2.2.2.2.2.2.2.2.2.2.2.2.1 u.2.2.2.2.2.2.2.2.2.2.2.2.2 image isKept (xs (6 * k + 1)) (xs (6 * k + 2))
  refine jv_aload_n 927 X dL_law_927 1 rfl ?_
  refine jv_aload_n 928 X dL_law_928 0 rfl ?_
  refine jv_iload_n 929 X dL_law_929 3 rfl ?_
  refine jv_iconst (v := 1) 930 X dL_law_930 rfl ?_
  refine jv_iadd 931 X dL_law_931 ?_
  refine jv_sld 932 X S dL_law_932 (6 * k + 1) (nx_add rfl rfl) (by omega) (by omega) ?_
  refine jv_aload_n 933 X dL_law_933 0 rfl ?_
  refine jv_iload_n 934 X dL_law_934 3 rfl ?_
  refine jv_iconst (v := 2) 935 X dL_law_935 rfl ?_
  refine jv_iadd 936 X dL_law_936 ?_
  refine jv_sld 937 X S dL_law_937 (6 * k + 2) (nx_add rfl rfl) (by omega) (by omega) ?_
  refine jv_callBG (wl2 := fun v : Rg => [bLR g, tRl E (g 1) r, bIm (g 2 0) (g 3 0) k0, tRl E (g 3) i0, bIm (g 4 0) (g 5 0) k1, tRl E (g 5) i1, bPd E (g 6) (nI sn) pa signs kd on pl nm, bWk (g 7 0) (g 8 0) w1 w2 w3 w4 w5, tRl E (g 8) tr, tAh E (g 9) ah, tLw E (g 10) lw, tRg E (g 11) v, bTu E (g 12) mv, tHd E (g 13) hd, bMd E a (book) u.1 (week) (nI sk) (sight) (nI sn) (pad) u.2.1 u.2.2.1 u.2.2.2.1 u.2.2.2.2.1 u.2.2.2.2.2.1 u.2.2.2.2.2.2.1 u.2.2.2.2.2.2.2.1 u.2.2.2.2.2.2.2.2.1 u.2.2.2.2.2.2.2.2.2.1 u.2.2.2.2.2.2.2.2.2.2.1 u.2.2.2.2.2.2.2.2.2.2.2.1 u.2.2.2.2.2.2.2.2.2.2.2.2.1 u.2.2.2.2.2.2.2.2.2.2.2.2.2 (image) (isKept)]) 938 X hC wv_L_121 (fun _ _ _ _ _ _ => trivial) (fun _ _ _ _ _ _ _ => trivial) ⟨Nat.le_of_ble_eq_true rfl, Nat.le_of_ble_eq_true rfl⟩ ⟨rfl, rfl⟩ ⟨Nat.le_of_ble_eq_true rfl, Nat.le_of_ble_eq_true rfl⟩ dL_law_938 rfl [] rfl (Nat.le_of_ble_eq_true rfl) [0, 1, 11] rfl rfl [[(g 0 0)], [(g 1 0), (g 1 1), (g 1 2), (g 1 3), (g 1 4), (g 1 5), (g 1 6), (g 1 7), (g 1 8), (g 1 9), (g 1 10)], [(g 11 0), (g 11 1), (g 11 2)]] rfl (fun _ => rfl) 0 rfl rfl rfl (fun _ => rfl) (fun v => ?_)
  refine jv_aload_n 941 X dL_law_941 2 rfl ?_
  refine jv_aload_n 942 X dL_law_942 0 rfl ?_
  refine jv_iload_n 943 X dL_law_943 3 rfl ?_
  refine jv_iconst (v := 1) 944 X dL_law_944 rfl ?_
  refine jv_iadd 945 X dL_law_945 ?_
  refine jv_sld 946 X S dL_law_946 (6 * k + 1) (nx_add rfl rfl) (by omega) (by omega) ?_
  refine jv_aload_n 947 X dL_law_947 0 rfl ?_
  refine jv_iload_n 948 X dL_law_948 3 rfl ?_
  refine jv_iconst (v := 2) 949 X dL_law_949 rfl ?_
  refine jv_iadd 950 X dL_law_950 ?_
  refine jv_sld 951 X S dL_law_951 (6 * k + 2) (nx_add rfl rfl) (by omega) (by omega) ?_
  refine jv_callBG1 (wl2 := fun z : ScrM => [bLR g, tRl E (g 1) r, bIm (g 2 0) (g 3 0) k0, tRl E (g 3) i0, bIm (g 4 0) (g 5 0) k1, tRl E (g 5) i1, bPd E (g 6) (nI sn) pa signs kd on pl nm, bWk (g 7 0) (g 8 0) w1 w2 w3 w4 w5, tRl E (g 8) tr, tAh E (g 9) ah, tLw E (g 10) lw, tRg E (g 11) v, bTu E (g 12) mv, tHd E (g 13) hd, bMd E a (book) z.1 (week) (nI sk) (sight) (nI sn) (pad) z.2.1 z.2.2.1 z.2.2.2.1 z.2.2.2.2.1 z.2.2.2.2.2.1 z.2.2.2.2.2.2.1 z.2.2.2.2.2.2.2.1 z.2.2.2.2.2.2.2.2.1 z.2.2.2.2.2.2.2.2.2.1 z.2.2.2.2.2.2.2.2.2.2.1 z.2.2.2.2.2.2.2.2.2.2.2.1 z.2.2.2.2.2.2.2.2.2.2.2.2.1 z.2.2.2.2.2.2.2.2.2.2.2.2.2 (image) (isKept)]) 952 X hM wv_L_124 ⟨Nat.le_of_ble_eq_true rfl, Nat.le_of_ble_eq_true rfl⟩ ⟨rfl, rfl⟩ ⟨Nat.le_of_ble_eq_true rfl, Nat.le_of_ble_eq_true rfl⟩ dL_law_952 rfl [_] rfl (Nat.le_of_ble_eq_true rfl) 14 rfl [(a 0), (a 1), (a 2), (a 3), (a 4), (a 5), (a 6), (a 7), (a 8), (a 9), (a 10), (a 11), (a 12), (a 13), (a 14), (a 15)] rfl (fun _ => rfl) rfl rfl (fun _ => rfl) (fun z => ?_)
  refine jn_icmp_eq 955 X dL_law_955 1192 (by decide) (fun _ => ?_) (fun hne => absurd (o_settle hR (xs (6 * k + 1)) (xs (6 * k + 2))) hne)
  exact h r k0 i0 k1 i1 sn pa signs kd on pl nm w1 w2 w3 w4 w5 tr ah lw v mv hd book week sk sight pad image isKept z hR
set_option maxRecDepth 100000 in
set_option maxHeartbeats 4000000 in
theorem law_settled {E : EE} {K : Ctx} {b L : Nat} {xs : Nat → Int32} {g : Nat → Nat → Nat} {a : Nat → Nat} {k : Nat} (X : CX E K cL_law 4 RL room_1) (S : SC K b L xs) (hk : 6 * k + 6 ≤ L) (hL : L ≤ 384) (h : LawP E K b g a 1192 k) : LawP E K b g a 960 k := by
  intro r k0 i0 k1 i1 sn pa signs kd on pl nm w1 w2 w3 w4 w5 tr ah lw ri mv hd book week sk sight pad image isKept u hR
  obtain ⟨M, hM1, hM2, hM3, hM4, hM5⟩ := r_settled hR.1
  have hC := c_X9_settled E (kLa K) g r ri M hM1 hM2 hM3
  have hM := c_X10_settled E (kLa K) a book u.1 week (nI sk) sight (nI sn) pad u.2.1 u.2.2.1 u.2.2.2.1 u.2.2.2.2.1 u.2.2.2.2.2.1 u.2.2.2.2.2.2.1 u.2.2.2.2.2.2.2.1 u.2.2.2.2.2.2.2.2.1 u.2.2.2.2.2.2.2.2.2.1 u.2.2.2.2.2.2.2.2.2.2.1 u.2.2.2.2.2.2.2.2.2.2.2.1 u.2.2.2.2.2.2.2.2.2.2.2.2.1 u.2.2.2.2.2.2.2.2.2.2.2.2.2 image isKept M (by omega) hM4 hM5
  refine jv_aload_n 960 X dL_law_960 1 rfl ?_
  refine jv_callBG (wl2 := fun v : Rg => [bLR g, tRl E (g 1) r, bIm (g 2 0) (g 3 0) k0, tRl E (g 3) i0, bIm (g 4 0) (g 5 0) k1, tRl E (g 5) i1, bPd E (g 6) (nI sn) pa signs kd on pl nm, bWk (g 7 0) (g 8 0) w1 w2 w3 w4 w5, tRl E (g 8) tr, tAh E (g 9) ah, tLw E (g 10) lw, tRg E (g 11) v, bTu E (g 12) mv, tHd E (g 13) hd, bMd E a (book) u.1 (week) (nI sk) (sight) (nI sn) (pad) u.2.1 u.2.2.1 u.2.2.2.1 u.2.2.2.2.1 u.2.2.2.2.2.1 u.2.2.2.2.2.2.1 u.2.2.2.2.2.2.2.1 u.2.2.2.2.2.2.2.2.1 u.2.2.2.2.2.2.2.2.2.1 u.2.2.2.2.2.2.2.2.2.2.1 u.2.2.2.2.2.2.2.2.2.2.2.1 u.2.2.2.2.2.2.2.2.2.2.2.2.1 u.2.2.2.2.2.2.2.2.2.2.2.2.2 (image) (isKept)]) 961 X hC wv_L_125 (fun _ _ _ _ _ _ => trivial) (fun _ _ _ _ _ _ _ => trivial) ⟨Nat.le_of_ble_eq_true rfl, Nat.le_of_ble_eq_true rfl⟩ ⟨rfl, rfl⟩ ⟨Nat.le_of_ble_eq_true rfl, Nat.le_of_ble_eq_true rfl⟩ dL_law_961 rfl [] rfl (Nat.le_of_ble_eq_true rfl) [0, 1, 11] rfl rfl [[(g 0 0)], [(g 1 0), (g 1 1), (g 1 2), (g 1 3), (g 1 4), (g 1 5), (g 1 6), (g 1 7), (g 1 8), (g 1 9), (g 1 10)], [(g 11 0), (g 11 1), (g 11 2)]] rfl (fun _ => rfl) 0 rfl rfl rfl (fun _ => rfl) (fun v => ?_)
  refine jv_aload_n 964 X dL_law_964 2 rfl ?_
  refine jv_callBG1 (wl2 := fun z : ScrM => [bLR g, tRl E (g 1) r, bIm (g 2 0) (g 3 0) k0, tRl E (g 3) i0, bIm (g 4 0) (g 5 0) k1, tRl E (g 5) i1, bPd E (g 6) (nI sn) pa signs kd on pl nm, bWk (g 7 0) (g 8 0) w1 w2 w3 w4 w5, tRl E (g 8) tr, tAh E (g 9) ah, tLw E (g 10) lw, tRg E (g 11) v, bTu E (g 12) mv, tHd E (g 13) hd, bMd E a (book) z.1 (week) (nI sk) (sight) (nI sn) (pad) z.2.1 z.2.2.1 z.2.2.2.1 z.2.2.2.2.1 z.2.2.2.2.2.1 z.2.2.2.2.2.2.1 z.2.2.2.2.2.2.2.1 z.2.2.2.2.2.2.2.2.1 z.2.2.2.2.2.2.2.2.2.1 z.2.2.2.2.2.2.2.2.2.2.1 z.2.2.2.2.2.2.2.2.2.2.2.1 z.2.2.2.2.2.2.2.2.2.2.2.2.1 z.2.2.2.2.2.2.2.2.2.2.2.2.2 (image) (isKept)]) 965 X hM wv_L_128 ⟨Nat.le_of_ble_eq_true rfl, Nat.le_of_ble_eq_true rfl⟩ ⟨rfl, rfl⟩ ⟨Nat.le_of_ble_eq_true rfl, Nat.le_of_ble_eq_true rfl⟩ dL_law_965 rfl [_] rfl (Nat.le_of_ble_eq_true rfl) 14 rfl [(a 0), (a 1), (a 2), (a 3), (a 4), (a 5), (a 6), (a 7), (a 8), (a 9), (a 10), (a 11), (a 12), (a 13), (a 14), (a 15)] rfl (fun _ => rfl) rfl rfl (fun _ => rfl) (fun z => ?_)
  refine jn_icmp_eq 968 X dL_law_968 1192 (by decide) (fun _ => ?_) (fun hne => absurd rfl hne)
  exact h r k0 i0 k1 i1 sn pa signs kd on pl nm w1 w2 w3 w4 w5 tr ah lw v mv hd book week sk sight pad image isKept z hR
set_option maxRecDepth 100000 in
set_option maxHeartbeats 4000000 in
theorem law_halves {E : EE} {K : Ctx} {b L : Nat} {xs : Nat → Int32} {g : Nat → Nat → Nat} {a : Nat → Nat} {k : Nat} (X : CX E K cL_law 4 RL room_1) (S : SC K b L xs) (hk : 6 * k + 6 ≤ L) (hL : L ≤ 384) (h : LawP E K b g a 1192 k) : LawP E K b g a 973 k := by
  intro r k0 i0 k1 i1 sn pa signs kd on pl nm w1 w2 w3 w4 w5 tr ah lw ri mv hd book week sk sight pad image isKept u hR
  have hC := c_X9_halves E (kLa K) g mv (xs (6 * k + 1)) (xs (6 * k + 2)) (xs (6 * k + 3))
  have hM := c_X10_halves E (kLa K) a book u.1 week (nI sk) sight (nI sn) pad u.2.1 u.2.2.1 u.2.2.2.1 u.2.2.2.2.1 u.2.2.2.2.2.1 u.2.2.2.2.2.2.1 u.2.2.2.2.2.2.2.1 u.2.2.2.2.2.2.2.2.1 u.2.2.2.2.2.2.2.2.2.1 u.2.2.2.2.2.2.2.2.2.2.1 u.2.2.2.2.2.2.2.2.2.2.2.1 u.2.2.2.2.2.2.2.2.2.2.2.2.1 u.2.2.2.2.2.2.2.2.2.2.2.2.2 image isKept (xs (6 * k + 1)) (xs (6 * k + 2)) (xs (6 * k + 3))
  refine jv_aload_n 973 X dL_law_973 1 rfl ?_
  refine jv_aload_n 974 X dL_law_974 0 rfl ?_
  refine jv_iload_n 975 X dL_law_975 3 rfl ?_
  refine jv_iconst (v := 1) 976 X dL_law_976 rfl ?_
  refine jv_iadd 977 X dL_law_977 ?_
  refine jv_sld 978 X S dL_law_978 (6 * k + 1) (nx_add rfl rfl) (by omega) (by omega) ?_
  refine jv_aload_n 979 X dL_law_979 0 rfl ?_
  refine jv_iload_n 980 X dL_law_980 3 rfl ?_
  refine jv_iconst (v := 2) 981 X dL_law_981 rfl ?_
  refine jv_iadd 982 X dL_law_982 ?_
  refine jv_sld 983 X S dL_law_983 (6 * k + 2) (nx_add rfl rfl) (by omega) (by omega) ?_
  refine jv_aload_n 984 X dL_law_984 0 rfl ?_
  refine jv_iload_n 985 X dL_law_985 3 rfl ?_
  refine jv_iconst (v := 3) 986 X dL_law_986 rfl ?_
  refine jv_iadd 987 X dL_law_987 ?_
  refine jv_sld 988 X S dL_law_988 (6 * k + 3) (nx_add rfl rfl) (by omega) (by omega) ?_
  refine jv_callBG (wl2 := fun v : Nat → Int32 => [bLR g, tRl E (g 1) r, bIm (g 2 0) (g 3 0) k0, tRl E (g 3) i0, bIm (g 4 0) (g 5 0) k1, tRl E (g 5) i1, bPd E (g 6) (nI sn) pa signs kd on pl nm, bWk (g 7 0) (g 8 0) w1 w2 w3 w4 w5, tRl E (g 8) tr, tAh E (g 9) ah, tLw E (g 10) lw, tRg E (g 11) ri, bTu E (g 12) v, tHd E (g 13) hd, bMd E a (book) u.1 (week) (nI sk) (sight) (nI sn) (pad) u.2.1 u.2.2.1 u.2.2.2.1 u.2.2.2.2.1 u.2.2.2.2.2.1 u.2.2.2.2.2.2.1 u.2.2.2.2.2.2.2.1 u.2.2.2.2.2.2.2.2.1 u.2.2.2.2.2.2.2.2.2.1 u.2.2.2.2.2.2.2.2.2.2.1 u.2.2.2.2.2.2.2.2.2.2.2.1 u.2.2.2.2.2.2.2.2.2.2.2.2.1 u.2.2.2.2.2.2.2.2.2.2.2.2.2 (image) (isKept)]) 989 X hC wv_L_129 (fun _ _ _ _ _ _ => trivial) (fun _ _ _ _ _ _ _ => trivial) ⟨Nat.le_of_ble_eq_true rfl, Nat.le_of_ble_eq_true rfl⟩ ⟨rfl, rfl⟩ ⟨Nat.le_of_ble_eq_true rfl, Nat.le_of_ble_eq_true rfl⟩ dL_law_989 rfl [] rfl (Nat.le_of_ble_eq_true rfl) [0, 12] rfl rfl [[(g 0 0)], [(g 12 0), (g 12 1)]] rfl (fun _ => rfl) 0 rfl rfl rfl (fun _ => rfl) (fun v => ?_)
  refine jv_aload_n 992 X dL_law_992 2 rfl ?_
  refine jv_aload_n 993 X dL_law_993 0 rfl ?_
  refine jv_iload_n 994 X dL_law_994 3 rfl ?_
  refine jv_iconst (v := 1) 995 X dL_law_995 rfl ?_
  refine jv_iadd 996 X dL_law_996 ?_
  refine jv_sld 997 X S dL_law_997 (6 * k + 1) (nx_add rfl rfl) (by omega) (by omega) ?_
  refine jv_aload_n 998 X dL_law_998 0 rfl ?_
  refine jv_iload_n 999 X dL_law_999 3 rfl ?_
  refine jv_iconst (v := 2) 1000 X dL_law_1000 rfl ?_
  refine jv_iadd 1001 X dL_law_1001 ?_
  refine jv_sld 1002 X S dL_law_1002 (6 * k + 2) (nx_add rfl rfl) (by omega) (by omega) ?_
  refine jv_aload_n 1003 X dL_law_1003 0 rfl ?_
  refine jv_iload_n 1004 X dL_law_1004 3 rfl ?_
  refine jv_iconst (v := 3) 1005 X dL_law_1005 rfl ?_
  refine jv_iadd 1006 X dL_law_1006 ?_
  refine jv_sld 1007 X S dL_law_1007 (6 * k + 3) (nx_add rfl rfl) (by omega) (by omega) ?_
  refine jv_callBG1 (wl2 := fun z : ScrM => [bLR g, tRl E (g 1) r, bIm (g 2 0) (g 3 0) k0, tRl E (g 3) i0, bIm (g 4 0) (g 5 0) k1, tRl E (g 5) i1, bPd E (g 6) (nI sn) pa signs kd on pl nm, bWk (g 7 0) (g 8 0) w1 w2 w3 w4 w5, tRl E (g 8) tr, tAh E (g 9) ah, tLw E (g 10) lw, tRg E (g 11) ri, bTu E (g 12) v, tHd E (g 13) hd, bMd E a (book) z.1 (week) (nI sk) (sight) (nI sn) (pad) z.2.1 z.2.2.1 z.2.2.2.1 z.2.2.2.2.1 z.2.2.2.2.2.1 z.2.2.2.2.2.2.1 z.2.2.2.2.2.2.2.1 z.2.2.2.2.2.2.2.2.1 z.2.2.2.2.2.2.2.2.2.1 z.2.2.2.2.2.2.2.2.2.2.1 z.2.2.2.2.2.2.2.2.2.2.2.1 z.2.2.2.2.2.2.2.2.2.2.2.2.1 z.2.2.2.2.2.2.2.2.2.2.2.2.2 (image) (isKept)]) 1008 X hM wv_L_132 ⟨Nat.le_of_ble_eq_true rfl, Nat.le_of_ble_eq_true rfl⟩ ⟨rfl, rfl⟩ ⟨Nat.le_of_ble_eq_true rfl, Nat.le_of_ble_eq_true rfl⟩ dL_law_1008 rfl [_] rfl (Nat.le_of_ble_eq_true rfl) 14 rfl [(a 0), (a 1), (a 2), (a 3), (a 4), (a 5), (a 6), (a 7), (a 8), (a 9), (a 10), (a 11), (a 12), (a 13), (a 14), (a 15)] rfl (fun _ => rfl) rfl rfl (fun _ => rfl) (fun z => ?_)
  refine jn_icmp_eq 1011 X dL_law_1011 1192 (by decide) (fun _ => ?_) (fun hne => absurd (o_halves mv u.2.2.2.2.2.2.2.2.2.2.2.1 (xs (6 * k + 1)) (xs (6 * k + 2)) (xs (6 * k + 3))) hne)
  exact h r k0 i0 k1 i1 sn pa signs kd on pl nm w1 w2 w3 w4 w5 tr ah lw ri v hd book week sk sight pad image isKept z hR
set_option maxRecDepth 100000 in
set_option maxHeartbeats 4000000 in
theorem law_shake {E : EE} {K : Ctx} {b L : Nat} {xs : Nat → Int32} {g : Nat → Nat → Nat} {a : Nat → Nat} {k : Nat} (X : CX E K cL_law 4 RL room_1) (S : SC K b L xs) (hk : 6 * k + 6 ≤ L) (hL : L ≤ 384) (h : LawP E K b g a 1192 k) : LawP E K b g a 1016 k := by
  intro r k0 i0 k1 i1 sn pa signs kd on pl nm w1 w2 w3 w4 w5 tr ah lw ri mv hd book week sk sight pad image isKept u hR
  have hC := c_X9_shake E (kLa K) g hd (xs (6 * k + 1)) (xs (6 * k + 2)) (xs (6 * k + 3)) (xs (6 * k + 4)) (xs (6 * k + 5))
  have hM := c_X10_shake E (kLa K) a book u.1 week (nI sk) sight (nI sn) pad u.2.1 u.2.2.1 u.2.2.2.1 u.2.2.2.2.1 u.2.2.2.2.2.1 u.2.2.2.2.2.2.1 u.2.2.2.2.2.2.2.1 u.2.2.2.2.2.2.2.2.1 u.2.2.2.2.2.2.2.2.2.1 u.2.2.2.2.2.2.2.2.2.2.1 u.2.2.2.2.2.2.2.2.2.2.2.1 u.2.2.2.2.2.2.2.2.2.2.2.2.1 u.2.2.2.2.2.2.2.2.2.2.2.2.2 image isKept (xs (6 * k + 1)) (xs (6 * k + 2)) (xs (6 * k + 3)) (xs (6 * k + 4)) (xs (6 * k + 5))
  refine jv_aload_n 1016 X dL_law_1016 1 rfl ?_
  refine jv_aload_n 1017 X dL_law_1017 0 rfl ?_
  refine jv_iload_n 1018 X dL_law_1018 3 rfl ?_
  refine jv_iconst (v := 1) 1019 X dL_law_1019 rfl ?_
  refine jv_iadd 1020 X dL_law_1020 ?_
  refine jv_sld 1021 X S dL_law_1021 (6 * k + 1) (nx_add rfl rfl) (by omega) (by omega) ?_
  refine jv_aload_n 1022 X dL_law_1022 0 rfl ?_
  refine jv_iload_n 1023 X dL_law_1023 3 rfl ?_
  refine jv_iconst (v := 2) 1024 X dL_law_1024 rfl ?_
  refine jv_iadd 1025 X dL_law_1025 ?_
  refine jv_sld 1026 X S dL_law_1026 (6 * k + 2) (nx_add rfl rfl) (by omega) (by omega) ?_
  refine jv_aload_n 1027 X dL_law_1027 0 rfl ?_
  refine jv_iload_n 1028 X dL_law_1028 3 rfl ?_
  refine jv_iconst (v := 3) 1029 X dL_law_1029 rfl ?_
  refine jv_iadd 1030 X dL_law_1030 ?_
  refine jv_sld 1031 X S dL_law_1031 (6 * k + 3) (nx_add rfl rfl) (by omega) (by omega) ?_
  refine jv_aload_n 1032 X dL_law_1032 0 rfl ?_
  refine jv_iload_n 1033 X dL_law_1033 3 rfl ?_
  refine jv_iconst (v := 4) 1034 X dL_law_1034 rfl ?_
  refine jv_iadd 1035 X dL_law_1035 ?_
  refine jv_sld 1036 X S dL_law_1036 (6 * k + 4) (nx_add rfl rfl) (by omega) (by omega) ?_
  refine jv_aload_n 1037 X dL_law_1037 0 rfl ?_
  refine jv_iload_n 1038 X dL_law_1038 3 rfl ?_
  refine jv_iconst (v := 5) 1039 X dL_law_1039 rfl ?_
  refine jv_iadd 1040 X dL_law_1040 ?_
  refine jv_sld 1041 X S dL_law_1041 (6 * k + 5) (nx_add rfl rfl) (by omega) (by omega) ?_
  refine jv_callBG (wl2 := fun v : Hd => [bLR g, tRl E (g 1) r, bIm (g 2 0) (g 3 0) k0, tRl E (g 3) i0, bIm (g 4 0) (g 5 0) k1, tRl E (g 5) i1, bPd E (g 6) (nI sn) pa signs kd on pl nm, bWk (g 7 0) (g 8 0) w1 w2 w3 w4 w5, tRl E (g 8) tr, tAh E (g 9) ah, tLw E (g 10) lw, tRg E (g 11) ri, bTu E (g 12) mv, tHd E (g 13) v, bMd E a (book) u.1 (week) (nI sk) (sight) (nI sn) (pad) u.2.1 u.2.2.1 u.2.2.2.1 u.2.2.2.2.1 u.2.2.2.2.2.1 u.2.2.2.2.2.2.1 u.2.2.2.2.2.2.2.1 u.2.2.2.2.2.2.2.2.1 u.2.2.2.2.2.2.2.2.2.1 u.2.2.2.2.2.2.2.2.2.2.1 u.2.2.2.2.2.2.2.2.2.2.2.1 u.2.2.2.2.2.2.2.2.2.2.2.2.1 u.2.2.2.2.2.2.2.2.2.2.2.2.2 (image) (isKept)]) 1042 X hC wv_L_133 (fun _ _ _ _ _ _ => trivial) (fun _ _ _ _ _ _ _ => trivial) ⟨Nat.le_of_ble_eq_true rfl, Nat.le_of_ble_eq_true rfl⟩ ⟨rfl, rfl⟩ ⟨Nat.le_of_ble_eq_true rfl, Nat.le_of_ble_eq_true rfl⟩ dL_law_1042 rfl [] rfl (Nat.le_of_ble_eq_true rfl) [0, 13] rfl rfl [[(g 0 0)], [(g 13 0), (g 13 1), (g 13 2)]] rfl (fun _ => rfl) 0 rfl rfl rfl (fun _ => rfl) (fun v => ?_)
  refine jv_aload_n 1045 X dL_law_1045 2 rfl ?_
  refine jv_aload_n 1046 X dL_law_1046 0 rfl ?_
  refine jv_iload_n 1047 X dL_law_1047 3 rfl ?_
  refine jv_iconst (v := 1) 1048 X dL_law_1048 rfl ?_
  refine jv_iadd 1049 X dL_law_1049 ?_
  refine jv_sld 1050 X S dL_law_1050 (6 * k + 1) (nx_add rfl rfl) (by omega) (by omega) ?_
  refine jv_aload_n 1051 X dL_law_1051 0 rfl ?_
  refine jv_iload_n 1052 X dL_law_1052 3 rfl ?_
  refine jv_iconst (v := 2) 1053 X dL_law_1053 rfl ?_
  refine jv_iadd 1054 X dL_law_1054 ?_
  refine jv_sld 1055 X S dL_law_1055 (6 * k + 2) (nx_add rfl rfl) (by omega) (by omega) ?_
  refine jv_aload_n 1056 X dL_law_1056 0 rfl ?_
  refine jv_iload_n 1057 X dL_law_1057 3 rfl ?_
  refine jv_iconst (v := 3) 1058 X dL_law_1058 rfl ?_
  refine jv_iadd 1059 X dL_law_1059 ?_
  refine jv_sld 1060 X S dL_law_1060 (6 * k + 3) (nx_add rfl rfl) (by omega) (by omega) ?_
  refine jv_aload_n 1061 X dL_law_1061 0 rfl ?_
  refine jv_iload_n 1062 X dL_law_1062 3 rfl ?_
  refine jv_iconst (v := 4) 1063 X dL_law_1063 rfl ?_
  refine jv_iadd 1064 X dL_law_1064 ?_
  refine jv_sld 1065 X S dL_law_1065 (6 * k + 4) (nx_add rfl rfl) (by omega) (by omega) ?_
  refine jv_aload_n 1066 X dL_law_1066 0 rfl ?_
  refine jv_iload_n 1067 X dL_law_1067 3 rfl ?_
  refine jv_iconst (v := 5) 1068 X dL_law_1068 rfl ?_
  refine jv_iadd 1069 X dL_law_1069 ?_
  refine jv_sld 1070 X S dL_law_1070 (6 * k + 5) (nx_add rfl rfl) (by omega) (by omega) ?_
  refine jv_callBG1 (wl2 := fun z : ScrM => [bLR g, tRl E (g 1) r, bIm (g 2 0) (g 3 0) k0, tRl E (g 3) i0, bIm (g 4 0) (g 5 0) k1, tRl E (g 5) i1, bPd E (g 6) (nI sn) pa signs kd on pl nm, bWk (g 7 0) (g 8 0) w1 w2 w3 w4 w5, tRl E (g 8) tr, tAh E (g 9) ah, tLw E (g 10) lw, tRg E (g 11) ri, bTu E (g 12) mv, tHd E (g 13) v, bMd E a (book) z.1 (week) (nI sk) (sight) (nI sn) (pad) z.2.1 z.2.2.1 z.2.2.2.1 z.2.2.2.2.1 z.2.2.2.2.2.1 z.2.2.2.2.2.2.1 z.2.2.2.2.2.2.2.1 z.2.2.2.2.2.2.2.2.1 z.2.2.2.2.2.2.2.2.2.1 z.2.2.2.2.2.2.2.2.2.2.1 z.2.2.2.2.2.2.2.2.2.2.2.1 z.2.2.2.2.2.2.2.2.2.2.2.2.1 z.2.2.2.2.2.2.2.2.2.2.2.2.2 (image) (isKept)]) 1071 X hM wv_L_137 ⟨Nat.le_of_ble_eq_true rfl, Nat.le_of_ble_eq_true rfl⟩ ⟨rfl, rfl⟩ ⟨Nat.le_of_ble_eq_true rfl, Nat.le_of_ble_eq_true rfl⟩ dL_law_1071 rfl [_] rfl (Nat.le_of_ble_eq_true rfl) 14 rfl [(a 0), (a 1), (a 2), (a 3), (a 4), (a 5), (a 6), (a 7), (a 8), (a 9), (a 10), (a 11), (a 12), (a 13), (a 14), (a 15)] rfl (fun _ => rfl) rfl rfl (fun _ => rfl) (fun z => ?_)
  refine jv_lcmp 1074 X dL_law_1074 ?_
  refine jn_if_eq 1075 X dL_law_1075 1192 (by decide) (fun _ => ?_) (fun hne => absurd ((lg_cmp_eq _ _).mpr (o_shake (xs (6 * k + 1)) (xs (6 * k + 2)) (xs (6 * k + 3)) (xs (6 * k + 4)) (xs (6 * k + 5)))) hne)
  exact h r k0 i0 k1 i1 sn pa signs kd on pl nm w1 w2 w3 w4 w5 tr ah lw ri mv v book week sk sight pad image isKept z hR
set_option maxRecDepth 100000 in
set_option maxHeartbeats 4000000 in
theorem law_year {E : EE} {K : Ctx} {b L : Nat} {xs : Nat → Int32} {g : Nat → Nat → Nat} {a : Nat → Nat} {k : Nat} (X : CX E K cL_law 4 RL room_1) (S : SC K b L xs) {yk : Nat} (hY : YK K yk) (hk : 6 * k + 6 ≤ L) (hL : L ≤ 384) (h : LawP E K b g a 1192 k) : LawP E K b g a 1080 k := by
  intro r k0 i0 k1 i1 sn pa signs kd on pl nm w1 w2 w3 w4 w5 tr ah lw ri mv hd book week sk sight pad image isKept u hR
  have hC := c_X9_year E (kLa K) g r w1 w2 w3 w4 w5 tr (xs (6 * k + 1)) (xs (6 * k + 2)) (xs (6 * k + 3)) yk (x_dyC hR)
  have hM := c_X10_year E (kLa K) a book u.1 week (nI sk) sight (nI sn) pad u.2.1 u.2.2.1 u.2.2.2.1 u.2.2.2.2.1 u.2.2.2.2.2.1 u.2.2.2.2.2.2.1 u.2.2.2.2.2.2.2.1 u.2.2.2.2.2.2.2.2.1 u.2.2.2.2.2.2.2.2.2.1 u.2.2.2.2.2.2.2.2.2.2.1 u.2.2.2.2.2.2.2.2.2.2.2.1 u.2.2.2.2.2.2.2.2.2.2.2.2.1 u.2.2.2.2.2.2.2.2.2.2.2.2.2 image isKept (xs (6 * k + 1)) (xs (6 * k + 2)) (xs (6 * k + 3)) (x_dyOK hR)
  refine jv_aload_n 1080 X dL_law_1080 1 rfl ?_
  refine jv_aload_n 1081 X dL_law_1081 0 rfl ?_
  refine jv_iload_n 1082 X dL_law_1082 3 rfl ?_
  refine jv_iconst (v := 1) 1083 X dL_law_1083 rfl ?_
  refine jv_iadd 1084 X dL_law_1084 ?_
  refine jv_sld 1085 X S dL_law_1085 (6 * k + 1) (nx_add rfl rfl) (by omega) (by omega) ?_
  refine jv_aload_n 1086 X dL_law_1086 0 rfl ?_
  refine jv_iload_n 1087 X dL_law_1087 3 rfl ?_
  refine jv_iconst (v := 2) 1088 X dL_law_1088 rfl ?_
  refine jv_iadd 1089 X dL_law_1089 ?_
  refine jv_sld 1090 X S dL_law_1090 (6 * k + 2) (nx_add rfl rfl) (by omega) (by omega) ?_
  refine jv_aload_n 1091 X dL_law_1091 0 rfl ?_
  refine jv_iload_n 1092 X dL_law_1092 3 rfl ?_
  refine jv_iconst (v := 3) 1093 X dL_law_1093 rfl ?_
  refine jv_iadd 1094 X dL_law_1094 ?_
  refine jv_sld 1095 X S dL_law_1095 (6 * k + 3) (nx_add rfl rfl) (by omega) (by omega) ?_
  refine jv_callBG (wl2 := fun v : Rl => [bLR g, tRl E (g 1) r, bIm (g 2 0) (g 3 0) k0, tRl E (g 3) i0, bIm (g 4 0) (g 5 0) k1, tRl E (g 5) i1, bPd E (g 6) (nI sn) pa signs kd on pl nm, bWk (g 7 0) (g 8 0) w1 w2 w3 w4 w5, tRl E (g 8) v, tAh E (g 9) ah, tLw E (g 10) lw, tRg E (g 11) ri, bTu E (g 12) mv, tHd E (g 13) hd, bMd E a (book) u.1 (week) (nI sk) (sight) (nI sn) (pad) u.2.1 u.2.2.1 u.2.2.2.1 u.2.2.2.2.1 u.2.2.2.2.2.1 u.2.2.2.2.2.2.1 u.2.2.2.2.2.2.2.1 u.2.2.2.2.2.2.2.2.1 u.2.2.2.2.2.2.2.2.2.1 u.2.2.2.2.2.2.2.2.2.2.1 u.2.2.2.2.2.2.2.2.2.2.2.1 u.2.2.2.2.2.2.2.2.2.2.2.2.1 u.2.2.2.2.2.2.2.2.2.2.2.2.2 (image) (isKept)]) 1096 X hC wv_L_138 (YB_call _ _) (YB_sub hY) ⟨Nat.le_of_ble_eq_true rfl, Nat.le_of_ble_eq_true rfl⟩ ⟨rfl, rfl⟩ ⟨Nat.le_of_ble_eq_true rfl, Nat.le_of_ble_eq_true rfl⟩ dL_law_1096 rfl [] rfl (Nat.le_of_ble_eq_true rfl) [0, 1, 7, 8] rfl rfl [[(g 0 0)], [(g 1 0), (g 1 1), (g 1 2), (g 1 3), (g 1 4), (g 1 5), (g 1 6), (g 1 7), (g 1 8), (g 1 9), (g 1 10)], [(g 7 0)], [(g 8 0), (g 8 1), (g 8 2), (g 8 3), (g 8 4), (g 8 5), (g 8 6), (g 8 7), (g 8 8), (g 8 9), (g 8 10)]] rfl (fun _ => rfl) 0 rfl rfl rfl (fun _ => rfl) (fun v => ?_)
  refine jv_aload_n 1099 X dL_law_1099 2 rfl ?_
  refine jv_aload_n 1100 X dL_law_1100 0 rfl ?_
  refine jv_iload_n 1101 X dL_law_1101 3 rfl ?_
  refine jv_iconst (v := 1) 1102 X dL_law_1102 rfl ?_
  refine jv_iadd 1103 X dL_law_1103 ?_
  refine jv_sld 1104 X S dL_law_1104 (6 * k + 1) (nx_add rfl rfl) (by omega) (by omega) ?_
  refine jv_aload_n 1105 X dL_law_1105 0 rfl ?_
  refine jv_iload_n 1106 X dL_law_1106 3 rfl ?_
  refine jv_iconst (v := 2) 1107 X dL_law_1107 rfl ?_
  refine jv_iadd 1108 X dL_law_1108 ?_
  refine jv_sld 1109 X S dL_law_1109 (6 * k + 2) (nx_add rfl rfl) (by omega) (by omega) ?_
  refine jv_aload_n 1110 X dL_law_1110 0 rfl ?_
  refine jv_iload_n 1111 X dL_law_1111 3 rfl ?_
  refine jv_iconst (v := 3) 1112 X dL_law_1112 rfl ?_
  refine jv_iadd 1113 X dL_law_1113 ?_
  refine jv_sld 1114 X S dL_law_1114 (6 * k + 3) (nx_add rfl rfl) (by omega) (by omega) ?_
  refine jv_callBG1 (wl2 := fun z : ScrM => [bLR g, tRl E (g 1) r, bIm (g 2 0) (g 3 0) k0, tRl E (g 3) i0, bIm (g 4 0) (g 5 0) k1, tRl E (g 5) i1, bPd E (g 6) (nI sn) pa signs kd on pl nm, bWk (g 7 0) (g 8 0) w1 w2 w3 w4 w5, tRl E (g 8) v, tAh E (g 9) ah, tLw E (g 10) lw, tRg E (g 11) ri, bTu E (g 12) mv, tHd E (g 13) hd, bMd E a (book) z.1 (week) (nI sk) (sight) (nI sn) (pad) z.2.1 z.2.2.1 z.2.2.2.1 z.2.2.2.2.1 z.2.2.2.2.2.1 z.2.2.2.2.2.2.1 z.2.2.2.2.2.2.2.1 z.2.2.2.2.2.2.2.2.1 z.2.2.2.2.2.2.2.2.2.1 z.2.2.2.2.2.2.2.2.2.2.1 z.2.2.2.2.2.2.2.2.2.2.2.1 z.2.2.2.2.2.2.2.2.2.2.2.2.1 z.2.2.2.2.2.2.2.2.2.2.2.2.2 (image) (isKept)]) 1115 X hM wv_L_141 ⟨Nat.le_of_ble_eq_true rfl, Nat.le_of_ble_eq_true rfl⟩ ⟨rfl, rfl⟩ ⟨Nat.le_of_ble_eq_true rfl, Nat.le_of_ble_eq_true rfl⟩ dL_law_1115 rfl [_] rfl (Nat.le_of_ble_eq_true rfl) 14 rfl [(a 0), (a 1), (a 2), (a 3), (a 4), (a 5), (a 6), (a 7), (a 8), (a 9), (a 10), (a 11), (a 12), (a 13), (a 14), (a 15)] rfl (fun _ => rfl) rfl rfl (fun _ => rfl) (fun z => ?_)
  refine jn_icmp_eq 1118 X dL_law_1118 1192 (by decide) (fun _ => ?_) (fun hne => absurd (o_year hR (xs (6 * k + 1)) (xs (6 * k + 2)) (xs (6 * k + 3))) hne)
  exact h r k0 i0 k1 i1 sn pa signs kd on pl nm w1 w2 w3 w4 w5 v ah lw ri mv hd book week sk sight pad image isKept z hR
set_option maxRecDepth 100000 in
set_option maxHeartbeats 4000000 in
theorem law_image {E : EE} {K : Ctx} {b L : Nat} {xs : Nat → Int32} {g : Nat → Nat → Nat} {a : Nat → Nat} {k : Nat} (X : CX E K cL_law 4 RL room_1) (S : SC K b L xs) (hk : 6 * k + 6 ≤ L) (hL : L ≤ 384) (h : LawP E K b g a 1192 k) : LawP E K b g a 1123 k := by
  intro r k0 i0 k1 i1 sn pa signs kd on pl nm w1 w2 w3 w4 w5 tr ah lw ri mv hd book week sk sight pad image isKept u hR
  have hC := c_X9_image E (kLa K) g r k0 i0 k1 i1 (xs (6 * k + 1))
  have hM := c_X10_image E (kLa K) a book u.1 week (nI sk) sight (nI sn) pad u.2.1 u.2.2.1 u.2.2.2.1 u.2.2.2.2.1 u.2.2.2.2.2.1 u.2.2.2.2.2.2.1 u.2.2.2.2.2.2.2.1 u.2.2.2.2.2.2.2.2.1 u.2.2.2.2.2.2.2.2.2.1 u.2.2.2.2.2.2.2.2.2.2.1 u.2.2.2.2.2.2.2.2.2.2.2.1 u.2.2.2.2.2.2.2.2.2.2.2.2.1 u.2.2.2.2.2.2.2.2.2.2.2.2.2 image isKept (xs (6 * k + 1))
  refine jv_aload_n 1123 X dL_law_1123 1 rfl ?_
  refine jv_aload_n 1124 X dL_law_1124 0 rfl ?_
  refine jv_iload_n 1125 X dL_law_1125 3 rfl ?_
  refine jv_iconst (v := 1) 1126 X dL_law_1126 rfl ?_
  refine jv_iadd 1127 X dL_law_1127 ?_
  refine jv_sld 1128 X S dL_law_1128 (6 * k + 1) (nx_add rfl rfl) (by omega) (by omega) ?_
  refine jv_callB (wl2 := [bLR g, tRl E (g 1) r, bIm (g 2 0) (g 3 0) (if (xs (6 * k + 1)) = 0 then 1 else k0), tRl E (g 3) (if (xs (6 * k + 1)) = 0 then r else i0), bIm (g 4 0) (g 5 0) (if (xs (6 * k + 1)) = 1 then 1 else k1), tRl E (g 5) (if (xs (6 * k + 1)) = 1 then r else i1), bPd E (g 6) (nI sn) pa signs kd on pl nm, bWk (g 7 0) (g 8 0) w1 w2 w3 w4 w5, tRl E (g 8) tr, tAh E (g 9) ah, tLw E (g 10) lw, tRg E (g 11) ri, bTu E (g 12) mv, tHd E (g 13) hd, bMd E a (book) u.1 (week) (nI sk) (sight) (nI sn) (pad) u.2.1 u.2.2.1 u.2.2.2.1 u.2.2.2.2.1 u.2.2.2.2.2.1 u.2.2.2.2.2.2.1 u.2.2.2.2.2.2.2.1 u.2.2.2.2.2.2.2.2.1 u.2.2.2.2.2.2.2.2.2.1 u.2.2.2.2.2.2.2.2.2.2.1 u.2.2.2.2.2.2.2.2.2.2.2.1 u.2.2.2.2.2.2.2.2.2.2.2.2.1 u.2.2.2.2.2.2.2.2.2.2.2.2.2 (image) (isKept)]) 1129 X hC wv_L_142 ⟨Nat.le_of_ble_eq_true rfl, Nat.le_of_ble_eq_true rfl⟩ ⟨rfl, rfl⟩ ⟨Nat.le_of_ble_eq_true rfl, Nat.le_of_ble_eq_true rfl⟩ dL_law_1129 rfl [] rfl (Nat.le_of_ble_eq_true rfl) [0, 1, 2, 3, 4, 5] rfl rfl [[(g 0 0)], [(g 1 0), (g 1 1), (g 1 2), (g 1 3), (g 1 4), (g 1 5), (g 1 6), (g 1 7), (g 1 8), (g 1 9), (g 1 10)], [(g 2 0)], [(g 3 0), (g 3 1), (g 3 2), (g 3 3), (g 3 4), (g 3 5), (g 3 6), (g 3 7), (g 3 8), (g 3 9), (g 3 10)], [(g 4 0)], [(g 5 0), (g 5 1), (g 5 2), (g 5 3), (g 5 4), (g 5 5), (g 5 6), (g 5 7), (g 5 8), (g 5 9), (g 5 10)]] rfl rfl 0 rfl rfl rfl rfl ?_
  refine jv_aload_n 1132 X dL_law_1132 2 rfl ?_
  refine jv_aload_n 1133 X dL_law_1133 0 rfl ?_
  refine jv_iload_n 1134 X dL_law_1134 3 rfl ?_
  refine jv_iconst (v := 1) 1135 X dL_law_1135 rfl ?_
  refine jv_iadd 1136 X dL_law_1136 ?_
  refine jv_sld 1137 X S dL_law_1137 (6 * k + 1) (nx_add rfl rfl) (by omega) (by omega) ?_
  refine jv_callBG1 (wl2 := fun z : ScrM => [bLR g, tRl E (g 1) r, bIm (g 2 0) (g 3 0) (if (xs (6 * k + 1)) = 0 then 1 else k0), tRl E (g 3) (if (xs (6 * k + 1)) = 0 then r else i0), bIm (g 4 0) (g 5 0) (if (xs (6 * k + 1)) = 1 then 1 else k1), tRl E (g 5) (if (xs (6 * k + 1)) = 1 then r else i1), bPd E (g 6) (nI sn) pa signs kd on pl nm, bWk (g 7 0) (g 8 0) w1 w2 w3 w4 w5, tRl E (g 8) tr, tAh E (g 9) ah, tLw E (g 10) lw, tRg E (g 11) ri, bTu E (g 12) mv, tHd E (g 13) hd, bMd E a (book) z.1 (week) (nI sk) (sight) (nI sn) (pad) z.2.1 z.2.2.1 z.2.2.2.1 z.2.2.2.2.1 z.2.2.2.2.2.1 z.2.2.2.2.2.2.1 z.2.2.2.2.2.2.2.1 z.2.2.2.2.2.2.2.2.1 z.2.2.2.2.2.2.2.2.2.1 z.2.2.2.2.2.2.2.2.2.2.1 z.2.2.2.2.2.2.2.2.2.2.2.1 z.2.2.2.2.2.2.2.2.2.2.2.2.1 z.2.2.2.2.2.2.2.2.2.2.2.2.2 (if 0 ≤ (xs (6 * k + 1)) ∧ (xs (6 * k + 1)) ≤ 1 then imF image book week sight (nI sk) ((xs (6 * k + 1))).toNatClampNeg else image) (if 0 ≤ (xs (6 * k + 1)) ∧ (xs (6 * k + 1)) ≤ 1 then upd isKept ((xs (6 * k + 1))).toNatClampNeg 1 else isKept)]) 1138 X hM wv_L_145 ⟨Nat.le_of_ble_eq_true rfl, Nat.le_of_ble_eq_true rfl⟩ ⟨rfl, rfl⟩ ⟨Nat.le_of_ble_eq_true rfl, Nat.le_of_ble_eq_true rfl⟩ dL_law_1138 rfl [_] rfl (Nat.le_of_ble_eq_true rfl) 14 rfl [(a 0), (a 1), (a 2), (a 3), (a 4), (a 5), (a 6), (a 7), (a 8), (a 9), (a 10), (a 11), (a 12), (a 13), (a 14), (a 15)] rfl (fun _ => rfl) rfl rfl (fun _ => rfl) (fun z => ?_)
  refine jn_icmp_eq 1141 X dL_law_1141 1192 (by decide) (fun _ => ?_) (fun hne => absurd rfl hne)
  exact h r (if (xs (6 * k + 1)) = 0 then 1 else k0) (if (xs (6 * k + 1)) = 0 then r else i0) (if (xs (6 * k + 1)) = 1 then 1 else k1) (if (xs (6 * k + 1)) = 1 then r else i1) sn pa signs kd on pl nm w1 w2 w3 w4 w5 tr ah lw ri mv hd book week sk sight pad (if 0 ≤ (xs (6 * k + 1)) ∧ (xs (6 * k + 1)) ≤ 1 then imF image book week sight (nI sk) ((xs (6 * k + 1))).toNatClampNeg else image) (if 0 ≤ (xs (6 * k + 1)) ∧ (xs (6 * k + 1)) ≤ 1 then upd isKept ((xs (6 * k + 1))).toNatClampNeg 1 else isKept) z (r_image hR (xs (6 * k + 1)))
set_option maxRecDepth 100000 in
set_option maxHeartbeats 4000000 in
theorem law_restore {E : EE} {K : Ctx} {b L : Nat} {xs : Nat → Int32} {g : Nat → Nat → Nat} {a : Nat → Nat} {k : Nat} (X : CX E K cL_law 4 RL room_1) (S : SC K b L xs) (hk : 6 * k + 6 ≤ L) (hL : L ≤ 384) (h : LawP E K b g a 1192 k) : LawP E K b g a 1146 k := by
  intro r k0 i0 k1 i1 sn pa signs kd on pl nm w1 w2 w3 w4 w5 tr ah lw ri mv hd book week sk sight pad image isKept u hR
  obtain ⟨hE, sk2, hq1, hR2⟩ := r_restore hR (xs (6 * k + 1))
  have hC := c_X9_restore E (kLa K) g r k0 i0 k1 i1 (xs (6 * k + 1))
  have hM := c_X10_restore E (kLa K) a book u.1 week (nI sk) sight (nI sn) pad u.2.1 u.2.2.1 u.2.2.2.1 u.2.2.2.2.1 u.2.2.2.2.2.1 u.2.2.2.2.2.2.1 u.2.2.2.2.2.2.2.1 u.2.2.2.2.2.2.2.2.1 u.2.2.2.2.2.2.2.2.2.1 u.2.2.2.2.2.2.2.2.2.2.1 u.2.2.2.2.2.2.2.2.2.2.2.1 u.2.2.2.2.2.2.2.2.2.2.2.2.1 u.2.2.2.2.2.2.2.2.2.2.2.2.2 image isKept (xs (6 * k + 1))
  rw [hq1] at hM
  refine jv_aload_n 1146 X dL_law_1146 1 rfl ?_
  refine jv_aload_n 1147 X dL_law_1147 0 rfl ?_
  refine jv_iload_n 1148 X dL_law_1148 3 rfl ?_
  refine jv_iconst (v := 1) 1149 X dL_law_1149 rfl ?_
  refine jv_iadd 1150 X dL_law_1150 ?_
  refine jv_sld 1151 X S dL_law_1151 (6 * k + 1) (nx_add rfl rfl) (by omega) (by omega) ?_
  refine jv_callB (wl2 := [bLR g, tRl E (g 1) (if (xs (6 * k + 1)) = 0 then (if k0 = 0 then r else i0) else if (xs (6 * k + 1)) = 1 then (if k1 = 0 then r else i1) else r), bIm (g 2 0) (g 3 0) k0, tRl E (g 3) i0, bIm (g 4 0) (g 5 0) k1, tRl E (g 5) i1, bPd E (g 6) (nI sn) pa signs kd on pl nm, bWk (g 7 0) (g 8 0) w1 w2 w3 w4 w5, tRl E (g 8) tr, tAh E (g 9) ah, tLw E (g 10) lw, tRg E (g 11) ri, bTu E (g 12) mv, tHd E (g 13) hd, bMd E a (book) u.1 (week) (nI sk) (sight) (nI sn) (pad) u.2.1 u.2.2.1 u.2.2.2.1 u.2.2.2.2.1 u.2.2.2.2.2.1 u.2.2.2.2.2.2.1 u.2.2.2.2.2.2.2.1 u.2.2.2.2.2.2.2.2.1 u.2.2.2.2.2.2.2.2.2.1 u.2.2.2.2.2.2.2.2.2.2.1 u.2.2.2.2.2.2.2.2.2.2.2.1 u.2.2.2.2.2.2.2.2.2.2.2.2.1 u.2.2.2.2.2.2.2.2.2.2.2.2.2 (image) (isKept)]) 1152 X hC wv_L_146 ⟨Nat.le_of_ble_eq_true rfl, Nat.le_of_ble_eq_true rfl⟩ ⟨rfl, rfl⟩ ⟨Nat.le_of_ble_eq_true rfl, Nat.le_of_ble_eq_true rfl⟩ dL_law_1152 rfl [] rfl (Nat.le_of_ble_eq_true rfl) [0, 1, 2, 3, 4, 5] rfl rfl [[(g 0 0)], [(g 1 0), (g 1 1), (g 1 2), (g 1 3), (g 1 4), (g 1 5), (g 1 6), (g 1 7), (g 1 8), (g 1 9), (g 1 10)], [(g 2 0)], [(g 3 0), (g 3 1), (g 3 2), (g 3 3), (g 3 4), (g 3 5), (g 3 6), (g 3 7), (g 3 8), (g 3 9), (g 3 10)], [(g 4 0)], [(g 5 0), (g 5 1), (g 5 2), (g 5 3), (g 5 4), (g 5 5), (g 5 6), (g 5 7), (g 5 8), (g 5 9), (g 5 10)]] rfl rfl 0 rfl rfl rfl rfl ?_
  refine jv_aload_n 1155 X dL_law_1155 2 rfl ?_
  refine jv_aload_n 1156 X dL_law_1156 0 rfl ?_
  refine jv_iload_n 1157 X dL_law_1157 3 rfl ?_
  refine jv_iconst (v := 1) 1158 X dL_law_1158 rfl ?_
  refine jv_iadd 1159 X dL_law_1159 ?_
  refine jv_sld 1160 X S dL_law_1160 (6 * k + 1) (nx_add rfl rfl) (by omega) (by omega) ?_
  refine jv_callBG1 (wl2 := fun z : ScrM => [bLR g, tRl E (g 1) (if (xs (6 * k + 1)) = 0 then (if k0 = 0 then r else i0) else if (xs (6 * k + 1)) = 1 then (if k1 = 0 then r else i1) else r), bIm (g 2 0) (g 3 0) k0, tRl E (g 3) i0, bIm (g 4 0) (g 5 0) k1, tRl E (g 5) i1, bPd E (g 6) (nI sn) pa signs kd on pl nm, bWk (g 7 0) (g 8 0) w1 w2 w3 w4 w5, tRl E (g 8) tr, tAh E (g 9) ah, tLw E (g 10) lw, tRg E (g 11) ri, bTu E (g 12) mv, tHd E (g 13) hd, bMd E a (if (0 ≤ (xs (6 * k + 1)) ∧ (xs (6 * k + 1)) ≤ 1) ∧ ¬ isKept ((xs (6 * k + 1))).toNatClampNeg = 0 then (fun j => image (70 * ((xs (6 * k + 1))).toNatClampNeg + 0 + j)) else book) z.1 (if (0 ≤ (xs (6 * k + 1)) ∧ (xs (6 * k + 1)) ≤ 1) ∧ ¬ isKept ((xs (6 * k + 1))).toNatClampNeg = 0 then (fun j => image (70 * ((xs (6 * k + 1))).toNatClampNeg + 40 + j)) else week) (nI sk2) (if (0 ≤ (xs (6 * k + 1)) ∧ (xs (6 * k + 1)) ≤ 1) ∧ ¬ isKept ((xs (6 * k + 1))).toNatClampNeg = 0 then (fun j => image (70 * ((xs (6 * k + 1))).toNatClampNeg + 47 + j)) else sight) (nI sn) (pad) z.2.1 z.2.2.1 z.2.2.2.1 z.2.2.2.2.1 z.2.2.2.2.2.1 z.2.2.2.2.2.2.1 z.2.2.2.2.2.2.2.1 z.2.2.2.2.2.2.2.2.1 z.2.2.2.2.2.2.2.2.2.1 z.2.2.2.2.2.2.2.2.2.2.1 z.2.2.2.2.2.2.2.2.2.2.2.1 z.2.2.2.2.2.2.2.2.2.2.2.2.1 z.2.2.2.2.2.2.2.2.2.2.2.2.2 (image) (isKept)]) 1161 X hM wv_L_149 ⟨Nat.le_of_ble_eq_true rfl, Nat.le_of_ble_eq_true rfl⟩ ⟨rfl, rfl⟩ ⟨Nat.le_of_ble_eq_true rfl, Nat.le_of_ble_eq_true rfl⟩ dL_law_1161 rfl [_] rfl (Nat.le_of_ble_eq_true rfl) 14 rfl [(a 0), (a 1), (a 2), (a 3), (a 4), (a 5), (a 6), (a 7), (a 8), (a 9), (a 10), (a 11), (a 12), (a 13), (a 14), (a 15)] rfl (fun _ => rfl) rfl rfl (fun _ => rfl) (fun z => ?_)
  refine jn_icmp_eq 1164 X dL_law_1164 1192 (by decide) (fun _ => ?_) (fun hne => absurd hE hne)
  exact h (if (xs (6 * k + 1)) = 0 then (if k0 = 0 then r else i0) else if (xs (6 * k + 1)) = 1 then (if k1 = 0 then r else i1) else r) k0 i0 k1 i1 sn pa signs kd on pl nm w1 w2 w3 w4 w5 tr ah lw ri mv hd (if (0 ≤ (xs (6 * k + 1)) ∧ (xs (6 * k + 1)) ≤ 1) ∧ ¬ isKept ((xs (6 * k + 1))).toNatClampNeg = 0 then (fun j => image (70 * ((xs (6 * k + 1))).toNatClampNeg + 0 + j)) else book) (if (0 ≤ (xs (6 * k + 1)) ∧ (xs (6 * k + 1)) ≤ 1) ∧ ¬ isKept ((xs (6 * k + 1))).toNatClampNeg = 0 then (fun j => image (70 * ((xs (6 * k + 1))).toNatClampNeg + 40 + j)) else week) sk2 (if (0 ≤ (xs (6 * k + 1)) ∧ (xs (6 * k + 1)) ≤ 1) ∧ ¬ isKept ((xs (6 * k + 1))).toNatClampNeg = 0 then (fun j => image (70 * ((xs (6 * k + 1))).toNatClampNeg + 47 + j)) else sight) pad image isKept z hR2
set_option maxRecDepth 100000 in
set_option maxHeartbeats 4000000 in
theorem law_told {E : EE} {K : Ctx} {b L : Nat} {xs : Nat → Int32} {g : Nat → Nat → Nat} {a : Nat → Nat} {k : Nat} (X : CX E K cL_law 4 RL room_1) (S : SC K b L xs) (hk : 6 * k + 6 ≤ L) (hL : L ≤ 384) (h : LawP E K b g a 1192 k) : LawP E K b g a 1169 k := by
  intro r k0 i0 k1 i1 sn pa signs kd on pl nm w1 w2 w3 w4 w5 tr ah lw ri mv hd book week sk sight pad image isKept u hR
  have hC := c_X9_told E (kLa K) g r sn pa signs kd on pl nm (xs (6 * k + 1))
  have hM := c_X10_told E (kLa K) a book u.1 week (nI sk) sight (nI sn) pad u.2.1 u.2.2.1 u.2.2.2.1 u.2.2.2.2.1 u.2.2.2.2.2.1 u.2.2.2.2.2.2.1 u.2.2.2.2.2.2.2.1 u.2.2.2.2.2.2.2.2.1 u.2.2.2.2.2.2.2.2.2.1 u.2.2.2.2.2.2.2.2.2.2.1 u.2.2.2.2.2.2.2.2.2.2.2.1 u.2.2.2.2.2.2.2.2.2.2.2.2.1 u.2.2.2.2.2.2.2.2.2.2.2.2.2 image isKept (xs (6 * k + 1))
  refine jv_aload_n 1169 X dL_law_1169 1 rfl ?_
  refine jv_aload_n 1170 X dL_law_1170 0 rfl ?_
  refine jv_iload_n 1171 X dL_law_1171 3 rfl ?_
  refine jv_iconst (v := 1) 1172 X dL_law_1172 rfl ?_
  refine jv_iadd 1173 X dL_law_1173 ?_
  refine jv_sld 1174 X S dL_law_1174 (6 * k + 1) (nx_add rfl rfl) (by omega) (by omega) ?_
  refine jv_callB (wl2 := [bLR g, tRl E (g 1) r, bIm (g 2 0) (g 3 0) k0, tRl E (g 3) i0, bIm (g 4 0) (g 5 0) k1, tRl E (g 5) i1, bPd E (g 6) (nI sn) pa signs kd on pl nm, bWk (g 7 0) (g 8 0) w1 w2 w3 w4 w5, tRl E (g 8) tr, tAh E (g 9) ah, tLw E (g 10) lw, tRg E (g 11) ri, bTu E (g 12) mv, tHd E (g 13) hd, bMd E a (book) u.1 (week) (nI sk) (sight) (nI sn) (pad) u.2.1 u.2.2.1 u.2.2.2.1 u.2.2.2.2.1 u.2.2.2.2.2.1 u.2.2.2.2.2.2.1 u.2.2.2.2.2.2.2.1 u.2.2.2.2.2.2.2.2.1 u.2.2.2.2.2.2.2.2.2.1 u.2.2.2.2.2.2.2.2.2.2.1 u.2.2.2.2.2.2.2.2.2.2.2.1 u.2.2.2.2.2.2.2.2.2.2.2.2.1 u.2.2.2.2.2.2.2.2.2.2.2.2.2 (image) (isKept)]) 1175 X hC wv_L_150 ⟨Nat.le_of_ble_eq_true rfl, Nat.le_of_ble_eq_true rfl⟩ ⟨rfl, rfl⟩ ⟨Nat.le_of_ble_eq_true rfl, Nat.le_of_ble_eq_true rfl⟩ dL_law_1175 rfl [] rfl (Nat.le_of_ble_eq_true rfl) [0, 1, 6] rfl rfl [[(g 0 0)], [(g 1 0), (g 1 1), (g 1 2), (g 1 3), (g 1 4), (g 1 5), (g 1 6), (g 1 7), (g 1 8), (g 1 9), (g 1 10)], [(g 6 0), (g 6 1), (g 6 2), (g 6 3), (g 6 4), (g 6 5)]] rfl rfl 0 rfl rfl rfl rfl ?_
  refine jv_aload_n 1178 X dL_law_1178 2 rfl ?_
  refine jv_aload_n 1179 X dL_law_1179 0 rfl ?_
  refine jv_iload_n 1180 X dL_law_1180 3 rfl ?_
  refine jv_iconst (v := 1) 1181 X dL_law_1181 rfl ?_
  refine jv_iadd 1182 X dL_law_1182 ?_
  refine jv_sld 1183 X S dL_law_1183 (6 * k + 1) (nx_add rfl rfl) (by omega) (by omega) ?_
  refine jv_callBG1 (wl2 := fun z : ScrM => [bLR g, tRl E (g 1) r, bIm (g 2 0) (g 3 0) k0, tRl E (g 3) i0, bIm (g 4 0) (g 5 0) k1, tRl E (g 5) i1, bPd E (g 6) (nI sn) pa signs kd on pl nm, bWk (g 7 0) (g 8 0) w1 w2 w3 w4 w5, tRl E (g 8) tr, tAh E (g 9) ah, tLw E (g 10) lw, tRg E (g 11) ri, bTu E (g 12) mv, tHd E (g 13) hd, bMd E a (book) z.1 (week) (nI sk) (sight) (nI sn) (pad) z.2.1 z.2.2.1 z.2.2.2.1 z.2.2.2.2.1 z.2.2.2.2.2.1 z.2.2.2.2.2.2.1 z.2.2.2.2.2.2.2.1 z.2.2.2.2.2.2.2.2.1 z.2.2.2.2.2.2.2.2.2.1 z.2.2.2.2.2.2.2.2.2.2.1 z.2.2.2.2.2.2.2.2.2.2.2.1 z.2.2.2.2.2.2.2.2.2.2.2.2.1 z.2.2.2.2.2.2.2.2.2.2.2.2.2 (image) (isKept)]) 1184 X hM wv_L_153 ⟨Nat.le_of_ble_eq_true rfl, Nat.le_of_ble_eq_true rfl⟩ ⟨rfl, rfl⟩ ⟨Nat.le_of_ble_eq_true rfl, Nat.le_of_ble_eq_true rfl⟩ dL_law_1184 rfl [_] rfl (Nat.le_of_ble_eq_true rfl) 14 rfl [(a 0), (a 1), (a 2), (a 3), (a 4), (a 5), (a 6), (a 7), (a 8), (a 9), (a 10), (a 11), (a 12), (a 13), (a 14), (a 15)] rfl (fun _ => rfl) rfl rfl (fun _ => rfl) (fun z => ?_)
  refine jn_icmp_eq 1187 X dL_law_1187 1192 (by decide) (fun _ => ?_) (fun hne => absurd (r_told hR.1 (xs (6 * k + 1))) hne)
  exact h r k0 i0 k1 i1 sn pa signs kd on pl nm w1 w2 w3 w4 w5 tr ah lw ri mv hd book week sk sight pad image isKept z hR
