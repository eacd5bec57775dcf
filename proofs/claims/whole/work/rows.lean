section
-- ===== PART A: goes FIRST, ahead of the names: the tables' words, and 'selects' of the private methods out of them =====
/-- a private method of a class that the tables say can be made, by its rows of tables_1 -/
def lw_okq (q : MethodName × Nat) : Prop := (q.1.cls ≠ "java/lang/invoke/MethodHandle" ∧ q.1.cls ≠ "java/lang/invoke/VarHandle") ∧ Cond.instantiable q.1.cls q.2 ∈ tables_1 ∧ Cond.privateMethod q.1 ∈ tables_1 ∧ Cond.instanceMethod q.1 ∈ tables_1
theorem lw_p0 : lw_okq (⟨"LentRulers$Pad", "afterSign", "(II)I"⟩, 7) := ⟨⟨by decide +kernel, by decide +kernel⟩, List.mem_of_getElem? (i := 108) (by decide +kernel), List.mem_of_getElem? (i := 339) (by decide +kernel), List.mem_of_getElem? (i := 340) (by decide +kernel)⟩
theorem lw_p1 : lw_okq (⟨"LentRulers$Pad", "begin", "(I)I"⟩, 7) := ⟨⟨by decide +kernel, by decide +kernel⟩, List.mem_of_getElem? (i := 108) (by decide +kernel), List.mem_of_getElem? (i := 343) (by decide +kernel), List.mem_of_getElem? (i := 344) (by decide +kernel)⟩
theorem lw_p2 : lw_okq (⟨"LentRulers$Pad", "end", "()I"⟩, 7) := ⟨⟨by decide +kernel, by decide +kernel⟩, List.mem_of_getElem? (i := 108) (by decide +kernel), List.mem_of_getElem? (i := 348) (by decide +kernel), List.mem_of_getElem? (i := 349) (by decide +kernel)⟩
theorem lw_p3 : lw_okq (⟨"LentRulers$Pad", "readVerb", "(I)I"⟩, 7) := ⟨⟨by decide +kernel, by decide +kernel⟩, List.mem_of_getElem? (i := 108) (by decide +kernel), List.mem_of_getElem? (i := 352) (by decide +kernel), List.mem_of_getElem? (i := 353) (by decide +kernel)⟩
theorem lw_p4 : lw_okq (⟨"LentRulers$Pad", "readPlace", "(I)I"⟩, 7) := ⟨⟨by decide +kernel, by decide +kernel⟩, List.mem_of_getElem? (i := 108) (by decide +kernel), List.mem_of_getElem? (i := 356) (by decide +kernel), List.mem_of_getElem? (i := 357) (by decide +kernel)⟩
theorem lw_p5 : lw_okq (⟨"LentRulers$Pad", "readNumber", "(I)I"⟩, 7) := ⟨⟨by decide +kernel, by decide +kernel⟩, List.mem_of_getElem? (i := 108) (by decide +kernel), List.mem_of_getElem? (i := 360) (by decide +kernel), List.mem_of_getElem? (i := 361) (by decide +kernel)⟩
theorem lw_p6 : lw_okq (⟨"LentRulers$Weeks", "tryAct", "(LLentRulers$Pad;I)V"⟩, 6) := ⟨⟨by decide +kernel, by decide +kernel⟩, List.mem_of_getElem? (i := 142) (by decide +kernel), List.mem_of_getElem? (i := 380) (by decide +kernel), List.mem_of_getElem? (i := 381) (by decide +kernel)⟩
theorem lw_p7 : lw_okq (⟨"LentRulers", "allCanBe", "()Z"⟩, 10) := ⟨⟨by decide +kernel, by decide +kernel⟩, List.mem_of_getElem? (i := 16) (by decide +kernel), List.mem_of_getElem? (i := 425) (by decide +kernel), List.mem_of_getElem? (i := 426) (by decide +kernel)⟩
theorem lw_p8 : lw_okq (⟨"LentRulers$Ahead", "sort", "(I)V"⟩, 4) := ⟨⟨by decide +kernel, by decide +kernel⟩, List.mem_of_getElem? (i := 175) (by decide +kernel), List.mem_of_getElem? (i := 513) (by decide +kernel), List.mem_of_getElem? (i := 514) (by decide +kernel)⟩
theorem lw_p9 : lw_okq (⟨"LentRulers$Ahead", "begins", "(IIII)Z"⟩, 4) := ⟨⟨by decide +kernel, by decide +kernel⟩, List.mem_of_getElem? (i := 175) (by decide +kernel), List.mem_of_getElem? (i := 522) (by decide +kernel), List.mem_of_getElem? (i := 523) (by decide +kernel)⟩
theorem lw_p10 : lw_okq (⟨"LentRulers$Ahead", "daysWithin", "(IIII)I"⟩, 4) := ⟨⟨by decide +kernel, by decide +kernel⟩, List.mem_of_getElem? (i := 175) (by decide +kernel), List.mem_of_getElem? (i := 527) (by decide +kernel), List.mem_of_getElem? (i := 528) (by decide +kernel)⟩
theorem lw_p11 : lw_okq (⟨"LentRulers$Laws", "narrow", "(III)V"⟩, 3) := ⟨⟨by decide +kernel, by decide +kernel⟩, List.mem_of_getElem? (i := 197) (by decide +kernel), List.mem_of_getElem? (i := 547) (by decide +kernel), List.mem_of_getElem? (i := 548) (by decide +kernel)⟩
theorem lw_p12 : lw_okq (⟨"LentRulers$Laws", "raise", "(II)V"⟩, 3) := ⟨⟨by decide +kernel, by decide +kernel⟩, List.mem_of_getElem? (i := 197) (by decide +kernel), List.mem_of_getElem? (i := 575) (by decide +kernel), List.mem_of_getElem? (i := 576) (by decide +kernel)⟩
theorem lw_p13 : lw_okq (⟨"LentRulers$Laws", "highestRise", "()I"⟩, 3) := ⟨⟨by decide +kernel, by decide +kernel⟩, List.mem_of_getElem? (i := 197) (by decide +kernel), List.mem_of_getElem? (i := 579) (by decide +kernel), List.mem_of_getElem? (i := 580) (by decide +kernel)⟩
theorem lw_p14 : lw_okq (⟨"LentRulers$Turns", "winningMove", "(II)I"⟩, 1) := ⟨⟨by decide +kernel, by decide +kernel⟩, List.mem_of_getElem? (i := 227) (by decide +kernel), List.mem_of_getElem? (i := 616) (by decide +kernel), List.mem_of_getElem? (i := 617) (by decide +kernel)⟩
theorem lw_p15 : lw_okq (⟨"LentRulers$Hand", "waysAt", "(I)J"⟩, 2) := ⟨⟨by decide +kernel, by decide +kernel⟩, List.mem_of_getElem? (i := 237) (by decide +kernel), List.mem_of_getElem? (i := 631) (by decide +kernel), List.mem_of_getElem? (i := 632) (by decide +kernel)⟩
def lw_privs_1 : List (MethodName × Nat) := [(⟨"LentRulers$Pad", "afterSign", "(II)I"⟩, 7), (⟨"LentRulers$Pad", "begin", "(I)I"⟩, 7), (⟨"LentRulers$Pad", "end", "()I"⟩, 7), (⟨"LentRulers$Pad", "readVerb", "(I)I"⟩, 7), (⟨"LentRulers$Pad", "readPlace", "(I)I"⟩, 7), (⟨"LentRulers$Pad", "readNumber", "(I)I"⟩, 7), (⟨"LentRulers$Weeks", "tryAct", "(LLentRulers$Pad;I)V"⟩, 6), (⟨"LentRulers", "allCanBe", "()Z"⟩, 10), (⟨"LentRulers$Ahead", "sort", "(I)V"⟩, 4), (⟨"LentRulers$Ahead", "begins", "(IIII)Z"⟩, 4), (⟨"LentRulers$Ahead", "daysWithin", "(IIII)I"⟩, 4), (⟨"LentRulers$Laws", "narrow", "(III)V"⟩, 3), (⟨"LentRulers$Laws", "raise", "(II)V"⟩, 3), (⟨"LentRulers$Laws", "highestRise", "()I"⟩, 3), (⟨"LentRulers$Turns", "winningMove", "(II)I"⟩, 1), (⟨"LentRulers$Hand", "waysAt", "(I)J"⟩, 2)]
theorem lw_r1 : ∀ q ∈ lw_privs_1, lw_okq q := List.forall_mem_cons.mpr ⟨lw_p0, List.forall_mem_cons.mpr ⟨lw_p1, List.forall_mem_cons.mpr ⟨lw_p2, List.forall_mem_cons.mpr ⟨lw_p3, List.forall_mem_cons.mpr ⟨lw_p4, List.forall_mem_cons.mpr ⟨lw_p5, List.forall_mem_cons.mpr ⟨lw_p6, List.forall_mem_cons.mpr ⟨lw_p7, List.forall_mem_cons.mpr ⟨lw_p8, List.forall_mem_cons.mpr ⟨lw_p9, List.forall_mem_cons.mpr ⟨lw_p10, List.forall_mem_cons.mpr ⟨lw_p11, List.forall_mem_cons.mpr ⟨lw_p12, List.forall_mem_cons.mpr ⟨lw_p13, List.forall_mem_cons.mpr ⟨lw_p14, List.forall_mem_cons.mpr ⟨lw_p15, fun _ h => absurd h List.not_mem_nil⟩⟩⟩⟩⟩⟩⟩⟩⟩⟩⟩⟩⟩⟩⟩⟩
theorem lw_p16 : lw_okq (⟨"LentRulers", "imageOf", "(I)LLentRulers$Image;"⟩, 10) := ⟨⟨by decide +kernel, by decide +kernel⟩, List.mem_of_getElem? (i := 16) (by decide +kernel), List.mem_of_getElem? (i := 672) (by decide +kernel), List.mem_of_getElem? (i := 673) (by decide +kernel)⟩
theorem lw_p17 : lw_okq (⟨"LentRulers", "toldOfAll", "(I)I"⟩, 10) := ⟨⟨by decide +kernel, by decide +kernel⟩, List.mem_of_getElem? (i := 16) (by decide +kernel), List.mem_of_getElem? (i := 684) (by decide +kernel), List.mem_of_getElem? (i := 685) (by decide +kernel)⟩
theorem lw_p18 : lw_okq (⟨"LentRulersModel", "faultOf", "()I"⟩, 22) := ⟨⟨by decide +kernel, by decide +kernel⟩, List.mem_of_getElem? (i := 692) (by decide +kernel), List.mem_of_getElem? (i := 811) (by decide +kernel), List.mem_of_getElem? (i := 812) (by decide +kernel)⟩
theorem lw_p19 : lw_okq (⟨"LentRulersModel", "goWeeks", "()I"⟩, 22) := ⟨⟨by decide +kernel, by decide +kernel⟩, List.mem_of_getElem? (i := 692) (by decide +kernel), List.mem_of_getElem? (i := 822) (by decide +kernel), List.mem_of_getElem? (i := 823) (by decide +kernel)⟩
theorem lw_p20 : lw_okq (⟨"LentRulersModel", "asNow", "()V"⟩, 22) := ⟨⟨by decide +kernel, by decide +kernel⟩, List.mem_of_getElem? (i := 692) (by decide +kernel), List.mem_of_getElem? (i := 826) (by decide +kernel), List.mem_of_getElem? (i := 827) (by decide +kernel)⟩
theorem lw_p21 : lw_okq (⟨"LentRulersModel", "met", "()I"⟩, 22) := ⟨⟨by decide +kernel, by decide +kernel⟩, List.mem_of_getElem? (i := 692) (by decide +kernel), List.mem_of_getElem? (i := 830) (by decide +kernel), List.mem_of_getElem? (i := 831) (by decide +kernel)⟩
theorem lw_p22 : lw_okq (⟨"LentRulersModel", "hasMet", "(I)Z"⟩, 22) := ⟨⟨by decide +kernel, by decide +kernel⟩, List.mem_of_getElem? (i := 692) (by decide +kernel), List.mem_of_getElem? (i := 834) (by decide +kernel), List.mem_of_getElem? (i := 835) (by decide +kernel)⟩
theorem lw_p23 : lw_okq (⟨"LentRulersModel", "endDay", "()I"⟩, 22) := ⟨⟨by decide +kernel, by decide +kernel⟩, List.mem_of_getElem? (i := 692) (by decide +kernel), List.mem_of_getElem? (i := 838) (by decide +kernel), List.mem_of_getElem? (i := 839) (by decide +kernel)⟩
theorem lw_p24 : lw_okq (⟨"LentRulersModel", "numberAt", "(I)I"⟩, 22) := ⟨⟨by decide +kernel, by decide +kernel⟩, List.mem_of_getElem? (i := 692) (by decide +kernel), List.mem_of_getElem? (i := 845) (by decide +kernel), List.mem_of_getElem? (i := 846) (by decide +kernel)⟩
theorem lw_p25 : lw_okq (⟨"LentRulersModel", "change", "(I)I"⟩, 22) := ⟨⟨by decide +kernel, by decide +kernel⟩, List.mem_of_getElem? (i := 692) (by decide +kernel), List.mem_of_getElem? (i := 849) (by decide +kernel), List.mem_of_getElem? (i := 850) (by decide +kernel)⟩
theorem lw_p26 : lw_okq (⟨"LentRulersModel", "oneAct", "(I)I"⟩, 22) := ⟨⟨by decide +kernel, by decide +kernel⟩, List.mem_of_getElem? (i := 692) (by decide +kernel), List.mem_of_getElem? (i := 853) (by decide +kernel), List.mem_of_getElem? (i := 854) (by decide +kernel)⟩
theorem lw_p27 : lw_okq (⟨"LentRulersModel", "copy", "(I)I"⟩, 22) := ⟨⟨by decide +kernel, by decide +kernel⟩, List.mem_of_getElem? (i := 692) (by decide +kernel), List.mem_of_getElem? (i := 857) (by decide +kernel), List.mem_of_getElem? (i := 858) (by decide +kernel)⟩
theorem lw_p28 : lw_okq (⟨"LentRulersModel", "lay", "(I)I"⟩, 22) := ⟨⟨by decide +kernel, by decide +kernel⟩, List.mem_of_getElem? (i := 692) (by decide +kernel), List.mem_of_getElem? (i := 861) (by decide +kernel), List.mem_of_getElem? (i := 862) (by decide +kernel)⟩
theorem lw_p29 : lw_okq (⟨"LentRulersModel", "buy", "(II)I"⟩, 22) := ⟨⟨by decide +kernel, by decide +kernel⟩, List.mem_of_getElem? (i := 692) (by decide +kernel), List.mem_of_getElem? (i := 865) (by decide +kernel), List.mem_of_getElem? (i := 866) (by decide +kernel)⟩
theorem lw_p30 : lw_okq (⟨"LentRulersModel", "sell", "(II)I"⟩, 22) := ⟨⟨by decide +kernel, by decide +kernel⟩, List.mem_of_getElem? (i := 692) (by decide +kernel), List.mem_of_getElem? (i := 869) (by decide +kernel), List.mem_of_getElem? (i := 870) (by decide +kernel)⟩
theorem lw_p31 : lw_okq (⟨"LentRulersModel", "measureOf", "(I)I"⟩, 22) := ⟨⟨by decide +kernel, by decide +kernel⟩, List.mem_of_getElem? (i := 692) (by decide +kernel), List.mem_of_getElem? (i := 873) (by decide +kernel), List.mem_of_getElem? (i := 874) (by decide +kernel)⟩
def lw_privs_2 : List (MethodName × Nat) := [(⟨"LentRulers", "imageOf", "(I)LLentRulers$Image;"⟩, 10), (⟨"LentRulers", "toldOfAll", "(I)I"⟩, 10), (⟨"LentRulersModel", "faultOf", "()I"⟩, 22), (⟨"LentRulersModel", "goWeeks", "()I"⟩, 22), (⟨"LentRulersModel", "asNow", "()V"⟩, 22), (⟨"LentRulersModel", "met", "()I"⟩, 22), (⟨"LentRulersModel", "hasMet", "(I)Z"⟩, 22), (⟨"LentRulersModel", "endDay", "()I"⟩, 22), (⟨"LentRulersModel", "numberAt", "(I)I"⟩, 22), (⟨"LentRulersModel", "change", "(I)I"⟩, 22), (⟨"LentRulersModel", "oneAct", "(I)I"⟩, 22), (⟨"LentRulersModel", "copy", "(I)I"⟩, 22), (⟨"LentRulersModel", "lay", "(I)I"⟩, 22), (⟨"LentRulersModel", "buy", "(II)I"⟩, 22), (⟨"LentRulersModel", "sell", "(II)I"⟩, 22), (⟨"LentRulersModel", "measureOf", "(I)I"⟩, 22)]
theorem lw_r2 : ∀ q ∈ lw_privs_2, lw_okq q := List.forall_mem_cons.mpr ⟨lw_p16, List.forall_mem_cons.mpr ⟨lw_p17, List.forall_mem_cons.mpr ⟨lw_p18, List.forall_mem_cons.mpr ⟨lw_p19, List.forall_mem_cons.mpr ⟨lw_p20, List.forall_mem_cons.mpr ⟨lw_p21, List.forall_mem_cons.mpr ⟨lw_p22, List.forall_mem_cons.mpr ⟨lw_p23, List.forall_mem_cons.mpr ⟨lw_p24, List.forall_mem_cons.mpr ⟨lw_p25, List.forall_mem_cons.mpr ⟨lw_p26, List.forall_mem_cons.mpr ⟨lw_p27, List.forall_mem_cons.mpr ⟨lw_p28, List.forall_mem_cons.mpr ⟨lw_p29, List.forall_mem_cons.mpr ⟨lw_p30, List.forall_mem_cons.mpr ⟨lw_p31, fun _ h => absurd h List.not_mem_nil⟩⟩⟩⟩⟩⟩⟩⟩⟩⟩⟩⟩⟩⟩⟩⟩
theorem lw_p32 : lw_okq (⟨"LentRulersModel", "build", "(IIII)I"⟩, 22) := ⟨⟨by decide +kernel, by decide +kernel⟩, List.mem_of_getElem? (i := 692) (by decide +kernel), List.mem_of_getElem? (i := 877) (by decide +kernel), List.mem_of_getElem? (i := 878) (by decide +kernel)⟩
theorem lw_p33 : lw_okq (⟨"LentRulersModel", "barOfWeeks", "()I"⟩, 22) := ⟨⟨by decide +kernel, by decide +kernel⟩, List.mem_of_getElem? (i := 692) (by decide +kernel), List.mem_of_getElem? (i := 885) (by decide +kernel), List.mem_of_getElem? (i := 886) (by decide +kernel)⟩
theorem lw_p34 : lw_okq (⟨"LentRulersModel", "layWill", "()V"⟩, 22) := ⟨⟨by decide +kernel, by decide +kernel⟩, List.mem_of_getElem? (i := 692) (by decide +kernel), List.mem_of_getElem? (i := 918) (by decide +kernel), List.mem_of_getElem? (i := 919) (by decide +kernel)⟩
theorem lw_p35 : lw_okq (⟨"LentRulersModel", "best", "(I)I"⟩, 22) := ⟨⟨by decide +kernel, by decide +kernel⟩, List.mem_of_getElem? (i := 692) (by decide +kernel), List.mem_of_getElem? (i := 926) (by decide +kernel), List.mem_of_getElem? (i := 927) (by decide +kernel)⟩
theorem lw_p36 : lw_okq (⟨"LentRulersModel", "countDays", "(IIII)I"⟩, 22) := ⟨⟨by decide +kernel, by decide +kernel⟩, List.mem_of_getElem? (i := 692) (by decide +kernel), List.mem_of_getElem? (i := 947) (by decide +kernel), List.mem_of_getElem? (i := 948) (by decide +kernel)⟩
theorem lw_p37 : lw_okq (⟨"LentRulersModel", "isLaw", "(I)Z"⟩, 22) := ⟨⟨by decide +kernel, by decide +kernel⟩, List.mem_of_getElem? (i := 692) (by decide +kernel), List.mem_of_getElem? (i := 963) (by decide +kernel), List.mem_of_getElem? (i := 964) (by decide +kernel)⟩
theorem lw_p38 : lw_okq (⟨"LentRulersModel", "layRing", "()V"⟩, 22) := ⟨⟨by decide +kernel, by decide +kernel⟩, List.mem_of_getElem? (i := 692) (by decide +kernel), List.mem_of_getElem? (i := 978) (by decide +kernel), List.mem_of_getElem? (i := 979) (by decide +kernel)⟩
theorem lw_p39 : lw_okq (⟨"LentRulersModel", "takeMeans", "()Z"⟩, 22) := ⟨⟨by decide +kernel, by decide +kernel⟩, List.mem_of_getElem? (i := 692) (by decide +kernel), List.mem_of_getElem? (i := 982) (by decide +kernel), List.mem_of_getElem? (i := 983) (by decide +kernel)⟩
def lw_privs_3 : List (MethodName × Nat) := [(⟨"LentRulersModel", "build", "(IIII)I"⟩, 22), (⟨"LentRulersModel", "barOfWeeks", "()I"⟩, 22), (⟨"LentRulersModel", "layWill", "()V"⟩, 22), (⟨"LentRulersModel", "best", "(I)I"⟩, 22), (⟨"LentRulersModel", "countDays", "(IIII)I"⟩, 22), (⟨"LentRulersModel", "isLaw", "(I)Z"⟩, 22), (⟨"LentRulersModel", "layRing", "()V"⟩, 22), (⟨"LentRulersModel", "takeMeans", "()Z"⟩, 22)]
theorem lw_r3 : ∀ q ∈ lw_privs_3, lw_okq q := List.forall_mem_cons.mpr ⟨lw_p32, List.forall_mem_cons.mpr ⟨lw_p33, List.forall_mem_cons.mpr ⟨lw_p34, List.forall_mem_cons.mpr ⟨lw_p35, List.forall_mem_cons.mpr ⟨lw_p36, List.forall_mem_cons.mpr ⟨lw_p37, List.forall_mem_cons.mpr ⟨lw_p38, List.forall_mem_cons.mpr ⟨lw_p39, fun _ h => absurd h List.not_mem_nil⟩⟩⟩⟩⟩⟩⟩⟩
def lw_privs : List (MethodName × Nat) := lw_privs_1 ++ (lw_privs_2 ++ (lw_privs_3))
def lw_tbl : List Cond := k2_sels lw_privs ++ tables_1
theorem lw_privs_ok : ∀ q ∈ lw_privs, lw_okq q := by
  show ∀ q ∈ lw_privs_1 ++ (lw_privs_2 ++ (lw_privs_3)), lw_okq q
  exact List.forall_mem_append.mpr ⟨lw_r1, List.forall_mem_append.mpr ⟨lw_r2, lw_r3⟩⟩
end
section
/-! ===== BEGIN words of one list among another's, by their places ===== -/
theorem goodIn_r {big : List Cond} (ws : List Cond) (ps : List Nat) (hp : ws = ps.filterMap (fun i => big[i]?)) (h : ws.all goodWord = true) : GoodIn big ws := by
  intro w hw
  have h1 := List.all_eq_true.mp h w hw
  rw [hp] at hw
  obtain ⟨i, -, hi⟩ := List.mem_filterMap.mp hw
  have hm : w ∈ big := by first | exact List.mem_of_getElem? hi | exact List.getElem?_mem hi
  exact ⟨hm, good_of_word h1⟩
theorem goodIn_app {big a b : List Cond} (ha : GoodIn big a) (hb : GoodIn big b) : GoodIn big (a ++ b) := fun w h => (List.mem_append.mp h).elim (ha w) (hb w)
theorem goodIn_ca {big a b : List Cond} {c : Cond} (ha : GoodIn big (c :: a)) (hb : GoodIn big b) : GoodIn big (c :: (a ++ b)) := fun w h => (List.mem_cons.mp h).elim (fun e => ha w (List.mem_cons.mpr (Or.inl e))) (fun h => (List.mem_append.mp h).elim (fun h => ha w (List.mem_cons.mpr (Or.inr h))) (hb w))
theorem goodIn_sub {big ws : List Cond} (hm : ∀ w ∈ ws, w ∈ big) (h : ws.all goodWord = true) : GoodIn big ws := fun w hw => ⟨hm w hw, good_of_word (List.all_eq_true.mp h w hw)⟩
/-! ===== END ===== -/

/-! ===== BEGIN printed: names, fields, word lists, decode rows ===== -/
def RX0 : String := "LentRulers$Ahead"
def TX0 : u_T := fun k => match k with
  | 0 => ("LentRulers$Ahead", "inches", "[I", true)
  | 1 => ("LentRulers$Ahead", "sorted", "[I", true)
  | 2 => ("LentRulers$Ahead", "buyDay", "I", false)
  | _ => ("LentRulers$Ahead", "sellDay", "I", false)
def tyX0 : Nat → FieldType := fun k => match k with
  | 0 => .array .int
  | 1 => .array .int
  | 2 => .int
  | _ => .int
abbrev wsX00 : List Cond := u_ws RX0 TX0 4
theorem nmX0 : ∀ a, a < 4 → ∀ b, b < 4 → a ≠ b → (TX0 a).2.1 ≠ (TX0 b).2.1 := by decide +kernel
theorem tyX0_ok : ∀ k, k < 4 → parseFieldDescriptor (TX0 k).2.2.1 = some (tyX0 k) := by decide +kernel
abbrev cX0_init : ByteArray := prog_2_method_1_code
def yX0_init : MethodName := ⟨RX0, "<init>", "()V"⟩
abbrev cX0_look : ByteArray := prog_2_method_2_code
def yX0_look : MethodName := ⟨RX0, "look", "(LLentRulers$Realm;I)V"⟩
abbrev cX0_trade : ByteArray := prog_2_method_3_code
def yX0_trade : MethodName := ⟨RX0, "trade", "(I)V"⟩
abbrev cX0_leastSpread : ByteArray := prog_2_method_4_code
def yX0_leastSpread : MethodName := ⟨RX0, "leastSpread", "(II)I"⟩
abbrev cX0_sort : ByteArray := prog_2_method_5_code
def yX0_sort : MethodName := ⟨RX0, "sort", "(I)V"⟩
abbrev cX0_firstDay : ByteArray := prog_2_method_6_code
def yX0_firstDay : MethodName := ⟨RX0, "firstDay", "(III)I"⟩
abbrev cX0_begins : ByteArray := prog_2_method_7_code
def yX0_begins : MethodName := ⟨RX0, "begins", "(IIII)Z"⟩
abbrev cX0_daysWithin : ByteArray := prog_2_method_8_code
def yX0_daysWithin : MethodName := ⟨RX0, "daysWithin", "(IIII)I"⟩
def RX1 : String := "LentRulers$Hand"
def TX1 : u_T := fun k => match k with
  | 0 => ("LentRulers$Hand", "ways", "[J", true)
  | _ => ("LentRulers$Hand", "next", "[J", true)
def tyX1 : Nat → FieldType := fun k => match k with
  | 0 => .array .long
  | _ => .array .long
abbrev wsX10 : List Cond := u_ws RX1 TX1 2
theorem nmX1 : ∀ a, a < 2 → ∀ b, b < 2 → a ≠ b → (TX1 a).2.1 ≠ (TX1 b).2.1 := by decide +kernel
theorem tyX1_ok : ∀ k, k < 2 → parseFieldDescriptor (TX1 k).2.2.1 = some (tyX1 k) := by decide +kernel
abbrev cX1_init : ByteArray := prog_3_method_1_code
def yX1_init : MethodName := ⟨RX1, "<init>", "()V"⟩
abbrev cX1_spread : ByteArray := prog_3_method_2_code
def yX1_spread : MethodName := ⟨RX1, "spread", "(III)V"⟩
abbrev cX1_waysAt : ByteArray := prog_3_method_3_code
def yX1_waysAt : MethodName := ⟨RX1, "waysAt", "(I)J"⟩
abbrev cX1_waysOff : ByteArray := prog_3_method_4_code
def yX1_waysOff : MethodName := ⟨RX1, "waysOff", "(I)J"⟩
abbrev cX1_allWays : ByteArray := prog_3_method_5_code
def yX1_allWays : MethodName := ⟨RX1, "allWays", "(I)J"⟩
def RX2 : String := "LentRulers$Image"
def TX2 : u_T := fun k => match k with
  | 0 => ("LentRulers$Image", "realm", "LLentRulers$Realm;", true)
  | _ => ("LentRulers$Image", "kept", "Z", false)
def tyX2 : Nat → FieldType := fun k => match k with
  | 0 => .object "LentRulers$Realm"
  | _ => .boolean
abbrev wsX20 : List Cond := u_ws RX2 TX2 2
theorem nmX2 : ∀ a, a < 2 → ∀ b, b < 2 → a ≠ b → (TX2 a).2.1 ≠ (TX2 b).2.1 := by decide +kernel
theorem tyX2_ok : ∀ k, k < 2 → parseFieldDescriptor (TX2 k).2.2.1 = some (tyX2 k) := by decide +kernel
abbrev cX2_init : ByteArray := prog_4_method_1_code
def yX2_init : MethodName := ⟨RX2, "<init>", "()V"⟩
def RX3 : String := "LentRulers$Laws"
def TX3 : u_T := fun k => match k with
  | 0 => ("LentRulers$Laws", "least", "[I", true)
  | 1 => ("LentRulers$Laws", "most", "[I", true)
  | _ => ("LentRulers$Laws", "rise", "[I", true)
def tyX3 : Nat → FieldType := fun k => match k with
  | 0 => .array .int
  | 1 => .array .int
  | _ => .array .int
abbrev wsX30 : List Cond := u_ws RX3 TX3 3
theorem nmX3 : ∀ a, a < 3 → ∀ b, b < 3 → a ≠ b → (TX3 a).2.1 ≠ (TX3 b).2.1 := by decide +kernel
theorem tyX3_ok : ∀ k, k < 3 → parseFieldDescriptor (TX3 k).2.2.1 = some (tyX3 k) := by decide +kernel
abbrev cX3_init : ByteArray := prog_5_method_1_code
def yX3_init : MethodName := ⟨RX3, "<init>", "()V"⟩
abbrev cX3_fit : ByteArray := prog_5_method_2_code
def yX3_fit : MethodName := ⟨RX3, "fit", "(LLentRulers$Realm;)V"⟩
abbrev cX3_narrow : ByteArray := prog_5_method_3_code
def yX3_narrow : MethodName := ⟨RX3, "narrow", "(III)V"⟩
abbrev cX3_howMany : ByteArray := prog_5_method_4_code
def yX3_howMany : MethodName := ⟨RX3, "howMany", "()I"⟩
abbrev cX3_lawAt : ByteArray := prog_5_method_5_code
def yX3_lawAt : MethodName := ⟨RX3, "lawAt", "(I)I"⟩
abbrev cX3_bestDay : ByteArray := prog_5_method_6_code
def yX3_bestDay : MethodName := ⟨RX3, "bestDay", "()I"⟩
abbrev cX3_mostLeft : ByteArray := prog_5_method_7_code
def yX3_mostLeft : MethodName := ⟨RX3, "mostLeft", "(I)I"⟩
abbrev cX3_raise : ByteArray := prog_5_method_8_code
def yX3_raise : MethodName := ⟨RX3, "raise", "(II)V"⟩
abbrev cX3_highestRise : ByteArray := prog_5_method_9_code
def yX3_highestRise : MethodName := ⟨RX3, "highestRise", "()I"⟩
def RX4 : String := "LentRulers$Pad"
def TX4 : u_T := fun k => match k with
  | 0 => ("LentRulers$Pad", "count", "I", false)
  | 1 => ("LentRulers$Pad", "acts", "I", false)
  | 2 => ("LentRulers$Pad", "signs", "[I", true)
  | 3 => ("LentRulers$Pad", "kinds", "[I", true)
  | 4 => ("LentRulers$Pad", "ones", "[I", true)
  | 5 => ("LentRulers$Pad", "places", "[I", true)
  | _ => ("LentRulers$Pad", "numbers", "[I", true)
def tyX4 : Nat → FieldType := fun k => match k with
  | 0 => .int
  | 1 => .int
  | 2 => .array .int
  | 3 => .array .int
  | 4 => .array .int
  | 5 => .array .int
  | _ => .array .int
abbrev wsX40 : List Cond := u_ws RX4 TX4 7
theorem nmX4 : ∀ a, a < 7 → ∀ b, b < 7 → a ≠ b → (TX4 a).2.1 ≠ (TX4 b).2.1 := by decide +kernel
theorem tyX4_ok : ∀ k, k < 7 → parseFieldDescriptor (TX4 k).2.2.1 = some (tyX4 k) := by decide +kernel
abbrev cX4_init : ByteArray := prog_6_method_1_code
def yX4_init : MethodName := ⟨RX4, "<init>", "()V"⟩
abbrev cX4_write : ByteArray := prog_6_method_2_code
def yX4_write : MethodName := ⟨RX4, "write", "(I)Z"⟩
abbrev cX4_clear : ByteArray := prog_6_method_3_code
def yX4_clear : MethodName := ⟨RX4, "clear", "()I"⟩
abbrev cX4_read : ByteArray := prog_6_method_4_code
def yX4_read : MethodName := ⟨RX4, "read", "()I"⟩
abbrev cX4_afterSign : ByteArray := prog_6_method_5_code
def yX4_afterSign : MethodName := ⟨RX4, "afterSign", "(II)I"⟩
abbrev cX4_begin : ByteArray := prog_6_method_6_code
def yX4_begin : MethodName := ⟨RX4, "begin", "(I)I"⟩
abbrev cX4_readVerb : ByteArray := prog_6_method_7_code
def yX4_readVerb : MethodName := ⟨RX4, "readVerb", "(I)I"⟩
abbrev cX4_readPlace : ByteArray := prog_6_method_8_code
def yX4_readPlace : MethodName := ⟨RX4, "readPlace", "(I)I"⟩
abbrev cX4_readNumber : ByteArray := prog_6_method_9_code
def yX4_readNumber : MethodName := ⟨RX4, "readNumber", "(I)I"⟩
abbrev cX4_end : ByteArray := prog_6_method_10_code
def yX4_end : MethodName := ⟨RX4, "end", "()I"⟩
def RX5 : String := "LentRulers$Realm"
def TX5 : u_T := fun k => match k with
  | 0 => ("LentRulers$Realm", "inch", "I", false)
  | 1 => ("LentRulers$Realm", "day", "I", false)
  | 2 => ("LentRulers$Realm", "sights", "I", false)
  | 3 => ("LentRulers$Realm", "week", "[I", true)
  | 4 => ("LentRulers$Realm", "purse", "[I", true)
  | 5 => ("LentRulers$Realm", "cloth", "[I", true)
  | 6 => ("LentRulers$Realm", "ruler", "[I", true)
  | 7 => ("LentRulers$Realm", "stick", "[I", true)
  | 8 => ("LentRulers$Realm", "span", "[I", true)
  | 9 => ("LentRulers$Realm", "west", "[I", true)
  | 10 => ("LentRulers$Realm", "east", "[I", true)
  | 11 => ("LentRulers$Realm", "sightDay", "[I", true)
  | _ => ("LentRulers$Realm", "sightInch", "[I", true)
def tyX5 : Nat → FieldType := fun k => match k with
  | 0 => .int
  | 1 => .int
  | 2 => .int
  | 3 => .array .int
  | 4 => .array .int
  | 5 => .array .int
  | 6 => .array .int
  | 7 => .array .int
  | 8 => .array .int
  | 9 => .array .int
  | 10 => .array .int
  | 11 => .array .int
  | _ => .array .int
abbrev wsX50 : List Cond := u_ws RX5 TX5 13
theorem nmX5 : ∀ a, a < 13 → ∀ b, b < 13 → a ≠ b → (TX5 a).2.1 ≠ (TX5 b).2.1 := by decide +kernel
theorem tyX5_ok : ∀ k, k < 13 → parseFieldDescriptor (TX5 k).2.2.1 = some (tyX5 k) := by decide +kernel
abbrev cX5_init : ByteArray := prog_7_method_1_code
def yX5_init : MethodName := ⟨RX5, "<init>", "()V"⟩
abbrev cX5_become : ByteArray := prog_7_method_2_code
def yX5_become : MethodName := ⟨RX5, "become", "(LLentRulers$Realm;)V"⟩
abbrev cX5_measure : ByteArray := prog_7_method_3_code
def yX5_measure : MethodName := ⟨RX5, "measure", "(I)I"⟩
abbrev cX5_hasMet : ByteArray := prog_7_method_4_code
def yX5_hasMet : MethodName := ⟨RX5, "hasMet", "(I)Z"⟩
abbrev cX5_overlap : ByteArray := prog_7_method_5_code
def yX5_overlap : MethodName := ⟨RX5, "overlap", "(I)I"⟩
abbrev cX5_ofOne : ByteArray := prog_7_method_6_code
def yX5_ofOne : MethodName := ⟨RX5, "ofOne", "(II)I"⟩
abbrev cX5_ofBridge : ByteArray := prog_7_method_7_code
def yX5_ofBridge : MethodName := ⟨RX5, "ofBridge", "(II)I"⟩
abbrev cX5_coins : ByteArray := prog_7_method_8_code
def yX5_coins : MethodName := ⟨RX5, "coins", "()I"⟩
abbrev cX5_metBridges : ByteArray := prog_7_method_9_code
def yX5_metBridges : MethodName := ⟨RX5, "metBridges", "()I"⟩
abbrev cX5_nextInch : ByteArray := prog_7_method_10_code
def yX5_nextInch : MethodName := ⟨RX5, "nextInch", "(II)I"⟩
abbrev cX5_hindrance : ByteArray := prog_7_method_11_code
def yX5_hindrance : MethodName := ⟨RX5, "hindrance", "(IIII)I"⟩
abbrev cX5_firstOf : ByteArray := prog_7_method_12_code
def yX5_firstOf : MethodName := ⟨RX5, "firstOf", "(ZZ)I"⟩
abbrev cX5_act : ByteArray := prog_7_method_13_code
def yX5_act : MethodName := ⟨RX5, "act", "(IIII)V"⟩
def RX6 : String := "LentRulers$Ring"
def TX6 : u_T := fun k => match k with
  | 0 => ("LentRulers$Ring", "has", "[I", true)
  | _ => ("LentRulers$Ring", "next", "[I", true)
def tyX6 : Nat → FieldType := fun k => match k with
  | 0 => .array .int
  | _ => .array .int
abbrev wsX60 : List Cond := u_ws RX6 TX6 2
theorem nmX6 : ∀ a, a < 2 → ∀ b, b < 2 → a ≠ b → (TX6 a).2.1 ≠ (TX6 b).2.1 := by decide +kernel
theorem tyX6_ok : ∀ k, k < 2 → parseFieldDescriptor (TX6 k).2.2.1 = some (tyX6 k) := by decide +kernel
abbrev cX6_init : ByteArray := prog_8_method_1_code
def yX6_init : MethodName := ⟨RX6, "<init>", "()V"⟩
abbrev cX6_stand : ByteArray := prog_8_method_2_code
def yX6_stand : MethodName := ⟨RX6, "stand", "(LLentRulers$Realm;)V"⟩
abbrev cX6_takeMeans : ByteArray := prog_8_method_3_code
def yX6_takeMeans : MethodName := ⟨RX6, "takeMeans", "()Z"⟩
abbrev cX6_timesTillStill : ByteArray := prog_8_method_4_code
def yX6_timesTillStill : MethodName := ⟨RX6, "timesTillStill", "()I"⟩
def RX7 : String := "LentRulers$Turns"
def TX7 : u_T := fun k => match k with
  | _ => ("LentRulers$Turns", "moves", "[I", true)
def tyX7 : Nat → FieldType := fun k => match k with
  | _ => .array .int
abbrev wsX70 : List Cond := u_ws RX7 TX7 1
theorem nmX7 : ∀ a, a < 1 → ∀ b, b < 1 → a ≠ b → (TX7 a).2.1 ≠ (TX7 b).2.1 := by decide +kernel
theorem tyX7_ok : ∀ k, k < 1 → parseFieldDescriptor (TX7 k).2.2.1 = some (tyX7 k) := by decide +kernel
abbrev cX7_init : ByteArray := prog_9_method_1_code
def yX7_init : MethodName := ⟨RX7, "<init>", "()V"⟩
abbrev cX7_firstMove : ByteArray := prog_9_method_2_code
def yX7_firstMove : MethodName := ⟨RX7, "firstMove", "(II)I"⟩
abbrev cX7_winningMove : ByteArray := prog_9_method_3_code
def yX7_winningMove : MethodName := ⟨RX7, "winningMove", "(II)I"⟩
def RX8 : String := "LentRulers$Weeks"
def TX8 : u_T := fun k => match k with
  | 0 => ("LentRulers$Weeks", "trial", "LLentRulers$Realm;", true)
  | 1 => ("LentRulers$Weeks", "acts", "I", false)
  | 2 => ("LentRulers$Weeks", "stuckAct", "I", false)
  | 3 => ("LentRulers$Weeks", "why", "I", false)
  | 4 => ("LentRulers$Weeks", "metAct", "I", false)
  | _ => ("LentRulers$Weeks", "metBridge", "I", false)
def tyX8 : Nat → FieldType := fun k => match k with
  | 0 => .object "LentRulers$Realm"
  | 1 => .int
  | 2 => .int
  | 3 => .int
  | 4 => .int
  | _ => .int
abbrev wsX80 : List Cond := u_ws RX8 TX8 6
theorem nmX8 : ∀ a, a < 6 → ∀ b, b < 6 → a ≠ b → (TX8 a).2.1 ≠ (TX8 b).2.1 := by decide +kernel
theorem tyX8_ok : ∀ k, k < 6 → parseFieldDescriptor (TX8 k).2.2.1 = some (tyX8 k) := by decide +kernel
abbrev cX8_init : ByteArray := prog_10_method_1_code
def yX8_init : MethodName := ⟨RX8, "<init>", "()V"⟩
abbrev cX8_tryOut : ByteArray := prog_10_method_2_code
def yX8_tryOut : MethodName := ⟨RX8, "tryOut", "(LLentRulers$Realm;LLentRulers$Pad;)Z"⟩
abbrev cX8_tryAct : ByteArray := prog_10_method_3_code
def yX8_tryAct : MethodName := ⟨RX8, "tryAct", "(LLentRulers$Pad;I)V"⟩
abbrev cX8_drawYear : ByteArray := prog_10_method_4_code
def yX8_drawYear : MethodName := ⟨RX8, "drawYear", "(LLentRulers$Realm;II)V"⟩
def RX9 : String := "LentRulers"
def TX9 : u_T := fun k => match k with
  | 0 => ("LentRulers", "realm", "LLentRulers$Realm;", true)
  | 1 => ("LentRulers", "firstImage", "LLentRulers$Image;", true)
  | 2 => ("LentRulers", "secondImage", "LLentRulers$Image;", true)
  | 3 => ("LentRulers", "pad", "LLentRulers$Pad;", true)
  | 4 => ("LentRulers", "weeks", "LLentRulers$Weeks;", true)
  | 5 => ("LentRulers", "ahead", "LLentRulers$Ahead;", true)
  | 6 => ("LentRulers", "laws", "LLentRulers$Laws;", true)
  | 7 => ("LentRulers", "ring", "LLentRulers$Ring;", true)
  | 8 => ("LentRulers", "turns", "LLentRulers$Turns;", true)
  | _ => ("LentRulers", "hand", "LLentRulers$Hand;", true)
def tyX9 : Nat → FieldType := fun k => match k with
  | 0 => .object "LentRulers$Realm"
  | 1 => .object "LentRulers$Image"
  | 2 => .object "LentRulers$Image"
  | 3 => .object "LentRulers$Pad"
  | 4 => .object "LentRulers$Weeks"
  | 5 => .object "LentRulers$Ahead"
  | 6 => .object "LentRulers$Laws"
  | 7 => .object "LentRulers$Ring"
  | 8 => .object "LentRulers$Turns"
  | _ => .object "LentRulers$Hand"
abbrev wsX90 : List Cond := u_ws RX9 TX9 10
theorem nmX9 : ∀ a, a < 10 → ∀ b, b < 10 → a ≠ b → (TX9 a).2.1 ≠ (TX9 b).2.1 := by decide +kernel
theorem tyX9_ok : ∀ k, k < 10 → parseFieldDescriptor (TX9 k).2.2.1 = some (tyX9 k) := by decide +kernel
abbrev cX9_init : ByteArray := prog_1_method_1_code
def yX9_init : MethodName := ⟨RX9, "<init>", "()V"⟩
abbrev cX9_inch : ByteArray := prog_1_method_2_code
def yX9_inch : MethodName := ⟨RX9, "inch", "(I)I"⟩
abbrev cX9_week : ByteArray := prog_1_method_3_code
def yX9_week : MethodName := ⟨RX9, "week", "(II)I"⟩
abbrev cX9_one : ByteArray := prog_1_method_4_code
def yX9_one : MethodName := ⟨RX9, "one", "(IIII)I"⟩
abbrev cX9_stick : ByteArray := prog_1_method_5_code
def yX9_stick : MethodName := ⟨RX9, "stick", "(II)I"⟩
abbrev cX9_bridge : ByteArray := prog_1_method_6_code
def yX9_bridge : MethodName := ⟨RX9, "bridge", "(II)I"⟩
abbrev cX9_say : ByteArray := prog_1_method_7_code
def yX9_say : MethodName := ⟨RX9, "say", "(I)I"⟩
abbrev cX9_wipe : ByteArray := prog_1_method_8_code
def yX9_wipe : MethodName := ⟨RX9, "wipe", "()I"⟩
abbrev cX9_fault : ByteArray := prog_1_method_9_code
def yX9_fault : MethodName := ⟨RX9, "fault", "()I"⟩
abbrev cX9_judge : ByteArray := prog_1_method_10_code
def yX9_judge : MethodName := ⟨RX9, "judge", "(I)I"⟩
abbrev cX9_done : ByteArray := prog_1_method_11_code
def yX9_done : MethodName := ⟨RX9, "done", "()I"⟩
abbrev cX9_behind : ByteArray := prog_1_method_12_code
def yX9_behind : MethodName := ⟨RX9, "behind", "(II)I"⟩
abbrev cX9_lies : ByteArray := prog_1_method_13_code
def yX9_lies : MethodName := ⟨RX9, "lies", "(I)I"⟩
abbrev cX9_built : ByteArray := prog_1_method_14_code
def yX9_built : MethodName := ⟨RX9, "built", "(II)I"⟩
abbrev cX9_then : ByteArray := prog_1_method_15_code
def yX9_then : MethodName := ⟨RX9, "then", "(I)I"⟩
abbrev cX9_inches : ByteArray := prog_1_method_16_code
def yX9_inches : MethodName := ⟨RX9, "inches", "(III)J"⟩
abbrev cX9_will : ByteArray := prog_1_method_17_code
def yX9_will : MethodName := ⟨RX9, "will", "(I)I"⟩
abbrev cX9_sure : ByteArray := prog_1_method_18_code
def yX9_sure : MethodName := ⟨RX9, "sure", "(II)J"⟩
abbrev cX9_when : ByteArray := prog_1_method_19_code
def yX9_when : MethodName := ⟨RX9, "when", "(I)I"⟩
abbrev cX9_meet : ByteArray := prog_1_method_20_code
def yX9_meet : MethodName := ⟨RX9, "meet", "(IIIII)I"⟩
abbrev cX9_waste : ByteArray := prog_1_method_21_code
def yX9_waste : MethodName := ⟨RX9, "waste", "(IIII)I"⟩
abbrev cX9_days : ByteArray := prog_1_method_22_code
def yX9_days : MethodName := ⟨RX9, "days", "(III)I"⟩
abbrev cX9_seen : ByteArray := prog_1_method_23_code
def yX9_seen : MethodName := ⟨RX9, "seen", "(II)I"⟩
abbrev cX9_forget : ByteArray := prog_1_method_24_code
def yX9_forget : MethodName := ⟨RX9, "forget", "()I"⟩
abbrev cX9_fits : ByteArray := prog_1_method_25_code
def yX9_fits : MethodName := ⟨RX9, "fits", "(I)I"⟩
abbrev cX9_ask : ByteArray := prog_1_method_26_code
def yX9_ask : MethodName := ⟨RX9, "ask", "(I)I"⟩
abbrev cX9_settle : ByteArray := prog_1_method_27_code
def yX9_settle : MethodName := ⟨RX9, "settle", "(II)I"⟩
abbrev cX9_settled : ByteArray := prog_1_method_28_code
def yX9_settled : MethodName := ⟨RX9, "settled", "()I"⟩
abbrev cX9_halves : ByteArray := prog_1_method_29_code
def yX9_halves : MethodName := ⟨RX9, "halves", "(III)I"⟩
abbrev cX9_shake : ByteArray := prog_1_method_30_code
def yX9_shake : MethodName := ⟨RX9, "shake", "(IIIII)J"⟩
abbrev cX9_year : ByteArray := prog_1_method_31_code
def yX9_year : MethodName := ⟨RX9, "year", "(III)I"⟩
abbrev cX9_image : ByteArray := prog_1_method_32_code
def yX9_image : MethodName := ⟨RX9, "image", "(I)I"⟩
abbrev cX9_restore : ByteArray := prog_1_method_33_code
def yX9_restore : MethodName := ⟨RX9, "restore", "(I)I"⟩
abbrev cX9_told : ByteArray := prog_1_method_34_code
def yX9_told : MethodName := ⟨RX9, "told", "(I)I"⟩
abbrev cX9_toldOfAll : ByteArray := prog_1_method_35_code
def yX9_toldOfAll : MethodName := ⟨RX9, "toldOfAll", "(I)I"⟩
abbrev cX9_allCanBe : ByteArray := prog_1_method_36_code
def yX9_allCanBe : MethodName := ⟨RX9, "allCanBe", "()Z"⟩
abbrev cX9_imageOf : ByteArray := prog_1_method_37_code
def yX9_imageOf : MethodName := ⟨RX9, "imageOf", "(I)LLentRulers$Image;"⟩
abbrev cX9_within : ByteArray := prog_1_method_38_code
def yX9_within : MethodName := ⟨RX9, "within", "(III)Z"⟩
abbrev cX9_isOne : ByteArray := prog_1_method_39_code
def yX9_isOne : MethodName := ⟨RX9, "isOne", "(I)Z"⟩
abbrev cX9_isStick : ByteArray := prog_1_method_40_code
def yX9_isStick : MethodName := ⟨RX9, "isStick", "(I)Z"⟩
abbrev cX9_isBridge : ByteArray := prog_1_method_41_code
def yX9_isBridge : MethodName := ⟨RX9, "isBridge", "(I)Z"⟩
abbrev cX9_limited : ByteArray := prog_1_method_42_code
def yX9_limited : MethodName := ⟨RX9, "limited", "(I)I"⟩
abbrev cX9_fewestForLeastRest : ByteArray := prog_1_method_43_code
def yX9_fewestForLeastRest : MethodName := ⟨RX9, "fewestForLeastRest", "(III)I"⟩
abbrev cX9_restBy : ByteArray := prog_1_method_44_code
def yX9_restBy : MethodName := ⟨RX9, "restBy", "(II)I"⟩
abbrev cX9_lowest : ByteArray := prog_1_method_45_code
def yX9_lowest : MethodName := ⟨RX9, "lowest", "(JJI)J"⟩
abbrev cX9_sharedDivisor : ByteArray := prog_1_method_46_code
def yX9_sharedDivisor : MethodName := ⟨RX9, "sharedDivisor", "(JJ)J"⟩
def RX10 : String := "LentRulersModel"
def TX10 : u_T := fun k => match k with
  | 0 => ("LentRulersModel", "book", "[I", true)
  | 1 => ("LentRulersModel", "now", "[I", true)
  | 2 => ("LentRulersModel", "week", "[I", true)
  | 3 => ("LentRulersModel", "sights", "I", false)
  | 4 => ("LentRulersModel", "sight", "[I", true)
  | 5 => ("LentRulersModel", "signs", "I", false)
  | 6 => ("LentRulersModel", "pad", "[I", true)
  | 7 => ("LentRulersModel", "metAt", "I", false)
  | 8 => ("LentRulersModel", "metWho", "I", false)
  | 9 => ("LentRulersModel", "reason", "I", false)
  | 10 => ("LentRulersModel", "acts", "I", false)
  | 11 => ("LentRulersModel", "at", "I", false)
  | 12 => ("LentRulersModel", "will", "[I", true)
  | 13 => ("LentRulersModel", "fitting", "[I", true)
  | 14 => ("LentRulersModel", "counts", "[I", true)
  | 15 => ("LentRulersModel", "ring", "[I", true)
  | 16 => ("LentRulersModel", "next", "[I", true)
  | 17 => ("LentRulersModel", "wins", "[Z", true)
  | 18 => ("LentRulersModel", "ways", "[J", true)
  | 19 => ("LentRulersModel", "nextWays", "[J", true)
  | 20 => ("LentRulersModel", "image", "[I", true)
  | _ => ("LentRulersModel", "isKept", "[Z", true)
def tyX10 : Nat → FieldType := fun k => match k with
  | 0 => .array .int
  | 1 => .array .int
  | 2 => .array .int
  | 3 => .int
  | 4 => .array .int
  | 5 => .int
  | 6 => .array .int
  | 7 => .int
  | 8 => .int
  | 9 => .int
  | 10 => .int
  | 11 => .int
  | 12 => .array .int
  | 13 => .array .int
  | 14 => .array .int
  | 15 => .array .int
  | 16 => .array .int
  | 17 => .array .boolean
  | 18 => .array .long
  | 19 => .array .long
  | 20 => .array .int
  | _ => .array .boolean
abbrev wsX100 : List Cond := u_ws RX10 TX10 22
theorem nmX10 : ∀ a, a < 22 → ∀ b, b < 22 → a ≠ b → (TX10 a).2.1 ≠ (TX10 b).2.1 := by decide +kernel
theorem tyX10_ok : ∀ k, k < 22 → parseFieldDescriptor (TX10 k).2.2.1 = some (tyX10 k) := by decide +kernel
abbrev cX10_init : ByteArray := prog_12_method_1_code
def yX10_init : MethodName := ⟨RX10, "<init>", "()V"⟩
abbrev cX10_in : ByteArray := prog_12_method_2_code
def yX10_in : MethodName := ⟨RX10, "in", "(III)Z"⟩
abbrev cX10_clamp : ByteArray := prog_12_method_3_code
def yX10_clamp : MethodName := ⟨RX10, "clamp", "(I)I"⟩
abbrev cX10_isOne : ByteArray := prog_12_method_4_code
def yX10_isOne : MethodName := ⟨RX10, "isOne", "(I)Z"⟩
abbrev cX10_isStick : ByteArray := prog_12_method_5_code
def yX10_isStick : MethodName := ⟨RX10, "isStick", "(I)Z"⟩
abbrev cX10_isBridge : ByteArray := prog_12_method_6_code
def yX10_isBridge : MethodName := ⟨RX10, "isBridge", "(I)Z"⟩
abbrev cX10_inch : ByteArray := prog_12_method_7_code
def yX10_inch : MethodName := ⟨RX10, "inch", "(I)I"⟩
abbrev cX10_week : ByteArray := prog_12_method_8_code
def yX10_week : MethodName := ⟨RX10, "week", "(II)I"⟩
abbrev cX10_one : ByteArray := prog_12_method_9_code
def yX10_one : MethodName := ⟨RX10, "one", "(IIII)I"⟩
abbrev cX10_stick : ByteArray := prog_12_method_10_code
def yX10_stick : MethodName := ⟨RX10, "stick", "(II)I"⟩
abbrev cX10_bridge : ByteArray := prog_12_method_11_code
def yX10_bridge : MethodName := ⟨RX10, "bridge", "(II)I"⟩
abbrev cX10_say : ByteArray := prog_12_method_12_code
def yX10_say : MethodName := ⟨RX10, "say", "(I)I"⟩
abbrev cX10_wipe : ByteArray := prog_12_method_13_code
def yX10_wipe : MethodName := ⟨RX10, "wipe", "()I"⟩
abbrev cX10_step : ByteArray := prog_12_method_14_code
def yX10_step : MethodName := ⟨RX10, "step", "(II)I"⟩
abbrev cX10_faultOf : ByteArray := prog_12_method_15_code
def yX10_faultOf : MethodName := ⟨RX10, "faultOf", "()I"⟩
abbrev cX10_fault : ByteArray := prog_12_method_16_code
def yX10_fault : MethodName := ⟨RX10, "fault", "()I"⟩
abbrev cX10_asNow : ByteArray := prog_12_method_17_code
def yX10_asNow : MethodName := ⟨RX10, "asNow", "()V"⟩
abbrev cX10_measureOf : ByteArray := prog_12_method_18_code
def yX10_measureOf : MethodName := ⟨RX10, "measureOf", "(I)I"⟩
abbrev cX10_hasMet : ByteArray := prog_12_method_19_code
def yX10_hasMet : MethodName := ⟨RX10, "hasMet", "(I)Z"⟩
abbrev cX10_buy : ByteArray := prog_12_method_20_code
def yX10_buy : MethodName := ⟨RX10, "buy", "(II)I"⟩
abbrev cX10_sell : ByteArray := prog_12_method_21_code
def yX10_sell : MethodName := ⟨RX10, "sell", "(II)I"⟩
abbrev cX10_build : ByteArray := prog_12_method_22_code
def yX10_build : MethodName := ⟨RX10, "build", "(IIII)I"⟩
abbrev cX10_change : ByteArray := prog_12_method_23_code
def yX10_change : MethodName := ⟨RX10, "change", "(I)I"⟩
abbrev cX10_copy : ByteArray := prog_12_method_24_code
def yX10_copy : MethodName := ⟨RX10, "copy", "(I)I"⟩
abbrev cX10_lay : ByteArray := prog_12_method_25_code
def yX10_lay : MethodName := ⟨RX10, "lay", "(I)I"⟩
abbrev cX10_endDay : ByteArray := prog_12_method_26_code
def yX10_endDay : MethodName := ⟨RX10, "endDay", "()I"⟩
abbrev cX10_numberAt : ByteArray := prog_12_method_27_code
def yX10_numberAt : MethodName := ⟨RX10, "numberAt", "(I)I"⟩
abbrev cX10_oneAct : ByteArray := prog_12_method_28_code
def yX10_oneAct : MethodName := ⟨RX10, "oneAct", "(I)I"⟩
abbrev cX10_met : ByteArray := prog_12_method_29_code
def yX10_met : MethodName := ⟨RX10, "met", "()I"⟩
abbrev cX10_goWeeks : ByteArray := prog_12_method_30_code
def yX10_goWeeks : MethodName := ⟨RX10, "goWeeks", "()I"⟩
abbrev cX10_judge : ByteArray := prog_12_method_31_code
def yX10_judge : MethodName := ⟨RX10, "judge", "(I)I"⟩
abbrev cX10_barOfWeeks : ByteArray := prog_12_method_32_code
def yX10_barOfWeeks : MethodName := ⟨RX10, "barOfWeeks", "()I"⟩
abbrev cX10_done : ByteArray := prog_12_method_33_code
def yX10_done : MethodName := ⟨RX10, "done", "()I"⟩
abbrev cX10_behind : ByteArray := prog_12_method_34_code
def yX10_behind : MethodName := ⟨RX10, "behind", "(II)I"⟩
abbrev cX10_lies : ByteArray := prog_12_method_35_code
def yX10_lies : MethodName := ⟨RX10, "lies", "(I)I"⟩
abbrev cX10_built : ByteArray := prog_12_method_36_code
def yX10_built : MethodName := ⟨RX10, "built", "(II)I"⟩
abbrev cX10_then : ByteArray := prog_12_method_37_code
def yX10_then : MethodName := ⟨RX10, "then", "(I)I"⟩
abbrev cX10_lowest : ByteArray := prog_12_method_38_code
def yX10_lowest : MethodName := ⟨RX10, "lowest", "(JJI)J"⟩
abbrev cX10_inches : ByteArray := prog_12_method_39_code
def yX10_inches : MethodName := ⟨RX10, "inches", "(III)J"⟩
abbrev cX10_layWill : ByteArray := prog_12_method_40_code
def yX10_layWill : MethodName := ⟨RX10, "layWill", "()V"⟩
abbrev cX10_will : ByteArray := prog_12_method_41_code
def yX10_will : MethodName := ⟨RX10, "will", "(I)I"⟩
abbrev cX10_best : ByteArray := prog_12_method_42_code
def yX10_best : MethodName := ⟨RX10, "best", "(I)I"⟩
abbrev cX10_sure : ByteArray := prog_12_method_43_code
def yX10_sure : MethodName := ⟨RX10, "sure", "(II)J"⟩
abbrev cX10_when : ByteArray := prog_12_method_44_code
def yX10_when : MethodName := ⟨RX10, "when", "(I)I"⟩
abbrev cX10_meet : ByteArray := prog_12_method_45_code
def yX10_meet : MethodName := ⟨RX10, "meet", "(IIIII)I"⟩
abbrev cX10_waste : ByteArray := prog_12_method_46_code
def yX10_waste : MethodName := ⟨RX10, "waste", "(IIII)I"⟩
abbrev cX10_countDays : ByteArray := prog_12_method_47_code
def yX10_countDays : MethodName := ⟨RX10, "countDays", "(IIII)I"⟩
abbrev cX10_days : ByteArray := prog_12_method_48_code
def yX10_days : MethodName := ⟨RX10, "days", "(III)I"⟩
abbrev cX10_seen : ByteArray := prog_12_method_49_code
def yX10_seen : MethodName := ⟨RX10, "seen", "(II)I"⟩
abbrev cX10_forget : ByteArray := prog_12_method_50_code
def yX10_forget : MethodName := ⟨RX10, "forget", "()I"⟩
abbrev cX10_byLaw : ByteArray := prog_12_method_51_code
def yX10_byLaw : MethodName := ⟨RX10, "byLaw", "(II)I"⟩
abbrev cX10_isLaw : ByteArray := prog_12_method_52_code
def yX10_isLaw : MethodName := ⟨RX10, "isLaw", "(I)Z"⟩
abbrev cX10_fits : ByteArray := prog_12_method_53_code
def yX10_fits : MethodName := ⟨RX10, "fits", "(I)I"⟩
abbrev cX10_ask : ByteArray := prog_12_method_54_code
def yX10_ask : MethodName := ⟨RX10, "ask", "(I)I"⟩
abbrev cX10_layRing : ByteArray := prog_12_method_55_code
def yX10_layRing : MethodName := ⟨RX10, "layRing", "()V"⟩
abbrev cX10_takeMeans : ByteArray := prog_12_method_56_code
def yX10_takeMeans : MethodName := ⟨RX10, "takeMeans", "()Z"⟩
abbrev cX10_settle : ByteArray := prog_12_method_57_code
def yX10_settle : MethodName := ⟨RX10, "settle", "(II)I"⟩
abbrev cX10_settled : ByteArray := prog_12_method_58_code
def yX10_settled : MethodName := ⟨RX10, "settled", "()I"⟩
abbrev cX10_halves : ByteArray := prog_12_method_59_code
def yX10_halves : MethodName := ⟨RX10, "halves", "(III)I"⟩
abbrev cX10_shake : ByteArray := prog_12_method_60_code
def yX10_shake : MethodName := ⟨RX10, "shake", "(IIIII)J"⟩
abbrev cX10_year : ByteArray := prog_12_method_61_code
def yX10_year : MethodName := ⟨RX10, "year", "(III)I"⟩
abbrev cX10_image : ByteArray := prog_12_method_62_code
def yX10_image : MethodName := ⟨RX10, "image", "(I)I"⟩
abbrev cX10_restore : ByteArray := prog_12_method_63_code
def yX10_restore : MethodName := ⟨RX10, "restore", "(I)I"⟩
abbrev cX10_told : ByteArray := prog_12_method_64_code
def yX10_told : MethodName := ⟨RX10, "told", "(I)I"⟩
def RJ9 : String := "java/lang/Math"
def TJ9 : u_T := fun k => match k with
  | _ => ("", "", "", false)
def tyJ9 : Nat → FieldType := fun k => match k with
  | _ => .int
abbrev wsJ90 : List Cond := u_ws RJ9 TJ9 0
theorem nmJ9 : ∀ a, a < 0 → ∀ b, b < 0 → a ≠ b → (TJ9 a).2.1 ≠ (TJ9 b).2.1 := by decide +kernel
theorem tyJ9_ok : ∀ k, k < 0 → parseFieldDescriptor (TJ9 k).2.2.1 = some (tyJ9 k) := by decide +kernel
abbrev cJ9_floorMod_7cf53 : ByteArray := prog_13_method_50_code
def yJ9_floorMod_7cf53 : MethodName := ⟨RJ9, "floorMod", "(II)I"⟩
abbrev cJ9_abs_0f7a4 : ByteArray := prog_13_method_59_code
def yJ9_abs_0f7a4 : MethodName := ⟨RJ9, "abs", "(I)I"⟩
abbrev cJ9_max_7cf53 : ByteArray := prog_13_method_65_code
def yJ9_max_7cf53 : MethodName := ⟨RJ9, "max", "(II)I"⟩
abbrev cJ9_max_f86c9 : ByteArray := prog_13_method_66_code
def yJ9_max_f86c9 : MethodName := ⟨RJ9, "max", "(JJ)J"⟩
abbrev cJ9_min_7cf53 : ByteArray := prog_13_method_69_code
def yJ9_min_7cf53 : MethodName := ⟨RJ9, "min", "(II)I"⟩
def RJ10 : String := "java/lang/System"
def TJ10 : u_T := fun k => match k with
  | _ => ("", "", "", false)
def tyJ10 : Nat → FieldType := fun k => match k with
  | _ => .int
abbrev wsJ100 : List Cond := u_ws RJ10 TJ10 0
theorem nmJ10 : ∀ a, a < 0 → ∀ b, b < 0 → a ≠ b → (TJ10 a).2.1 ≠ (TJ10 b).2.1 := by decide +kernel
theorem tyJ10_ok : ∀ k, k < 0 → parseFieldDescriptor (TJ10 k).2.2.1 = some (tyJ10 k) := by decide +kernel
def RJ7 : String := "java/util/Arrays"
def TJ7 : u_T := fun k => match k with
  | _ => ("", "", "", false)
def tyJ7 : Nat → FieldType := fun k => match k with
  | _ => .int
abbrev wsJ70 : List Cond := u_ws RJ7 TJ7 0
theorem nmJ7 : ∀ a, a < 0 → ∀ b, b < 0 → a ≠ b → (TJ7 a).2.1 ≠ (TJ7 b).2.1 := by decide +kernel
theorem tyJ7_ok : ∀ k, k < 0 → parseFieldDescriptor (TJ7 k).2.2.1 = some (tyJ7 k) := by decide +kernel
abbrev cJ7_fill_d0a16 : ByteArray := prog_15_method_101_code
def yJ7_fill_d0a16 : MethodName := ⟨RJ7, "fill", "([JJ)V"⟩
abbrev cJ7_fill_53178 : ByteArray := prog_15_method_103_code
def yJ7_fill_53178 : MethodName := ⟨RJ7, "fill", "([II)V"⟩
def RL : String := "LentRulersLaw"
abbrev cL_law : ByteArray := code
def yL_law : MethodName := ⟨RL, "law", "([I)Z"⟩
abbrev vwCl : List vw_C := [(RX0, TX0, 4), (RX1, TX1, 2), (RX2, TX2, 2), (RX3, TX3, 3), (RX4, TX4, 7), (RX5, TX5, 13), (RX6, TX6, 2), (RX7, TX7, 1), (RX8, TX8, 6), (RX9, TX9, 10), (RX10, TX10, 22)]
end
section
theorem dX0_init_0 : decode cX0_init 0 = .ok (.aload_n 0, 1) := by decide +kernel
theorem dX0_init_1 : decode cX0_init 1 = .ok (.invokespecial 3, 3) := by decide +kernel
theorem dX0_init_4 : decode cX0_init 4 = .ok (.aload_n 0, 1) := by decide +kernel
theorem dX0_init_5 : decode cX0_init 5 = .ok (.bipush 100, 2) := by decide +kernel
theorem dX0_init_7 : decode cX0_init 7 = .ok (.newarray .int, 2) := by decide +kernel
theorem dX0_init_9 : decode cX0_init 9 = .ok (.putfield 9, 3) := by decide +kernel
theorem dX0_init_12 : decode cX0_init 12 = .ok (.aload_n 0, 1) := by decide +kernel
theorem dX0_init_13 : decode cX0_init 13 = .ok (.bipush 61, 2) := by decide +kernel
theorem dX0_init_15 : decode cX0_init 15 = .ok (.newarray .int, 2) := by decide +kernel
theorem dX0_init_17 : decode cX0_init 17 = .ok (.putfield 15, 3) := by decide +kernel
theorem dX0_init_20 : decode cX0_init 20 = .ok (.return_, 1) := by decide +kernel
theorem dX0_look_0 : decode cX0_look 0 = .ok (.aload_n 0, 1) := by decide +kernel
theorem dX0_look_1 : decode cX0_look 1 = .ok (.getfield 9, 3) := by decide +kernel
theorem dX0_look_4 : decode cX0_look 4 = .ok (.iconst 0, 1) := by decide +kernel
theorem dX0_look_5 : decode cX0_look 5 = .ok (.aload_n 1, 1) := by decide +kernel
theorem dX0_look_6 : decode cX0_look 6 = .ok (.getfield 18, 3) := by decide +kernel
theorem dX0_look_9 : decode cX0_look 9 = .ok (.iastore, 1) := by decide +kernel
theorem dX0_look_10 : decode cX0_look 10 = .ok (.iconst 1, 1) := by decide +kernel
theorem dX0_look_11 : decode cX0_look 11 = .ok (.istore_n 3, 1) := by decide +kernel
theorem dX0_look_12 : decode cX0_look 12 = .ok (.iload_n 3, 1) := by decide +kernel
theorem dX0_look_13 : decode cX0_look 13 = .ok (.iload_n 2, 1) := by decide +kernel
theorem dX0_look_14 : decode cX0_look 14 = .ok (.if_icmp .gt 35, 3) := by decide +kernel
theorem dX0_look_17 : decode cX0_look 17 = .ok (.aload_n 0, 1) := by decide +kernel
theorem dX0_look_18 : decode cX0_look 18 = .ok (.getfield 9, 3) := by decide +kernel
theorem dX0_look_21 : decode cX0_look 21 = .ok (.iload_n 3, 1) := by decide +kernel
theorem dX0_look_22 : decode cX0_look 22 = .ok (.aload_n 1, 1) := by decide +kernel
theorem dX0_look_23 : decode cX0_look 23 = .ok (.aload_n 0, 1) := by decide +kernel
theorem dX0_look_24 : decode cX0_look 24 = .ok (.getfield 9, 3) := by decide +kernel
theorem dX0_look_27 : decode cX0_look 27 = .ok (.iload_n 3, 1) := by decide +kernel
theorem dX0_look_28 : decode cX0_look 28 = .ok (.iconst 1, 1) := by decide +kernel
theorem dX0_look_29 : decode cX0_look 29 = .ok (.isub, 1) := by decide +kernel
theorem dX0_look_30 : decode cX0_look 30 = .ok (.iaload, 1) := by decide +kernel
theorem dX0_look_31 : decode cX0_look 31 = .ok (.aload_n 1, 1) := by decide +kernel
theorem dX0_look_32 : decode cX0_look 32 = .ok (.getfield 24, 3) := by decide +kernel
theorem dX0_look_35 : decode cX0_look 35 = .ok (.iload_n 3, 1) := by decide +kernel
theorem dX0_look_36 : decode cX0_look 36 = .ok (.iadd, 1) := by decide +kernel
theorem dX0_look_37 : decode cX0_look 37 = .ok (.iconst 1, 1) := by decide +kernel
theorem dX0_look_38 : decode cX0_look 38 = .ok (.isub, 1) := by decide +kernel
theorem dX0_look_39 : decode cX0_look 39 = .ok (.invokevirtual 27, 3) := by decide +kernel
theorem dX0_look_42 : decode cX0_look 42 = .ok (.iastore, 1) := by decide +kernel
theorem dX0_look_43 : decode cX0_look 43 = .ok (.iinc 3 1, 3) := by decide +kernel
theorem dX0_look_46 : decode cX0_look 46 = .ok (.goto (-34), 3) := by decide +kernel
theorem dX0_look_49 : decode cX0_look 49 = .ok (.return_, 1) := by decide +kernel
theorem dX0_trade_0 : decode cX0_trade 0 = .ok (.aload_n 0, 1) := by decide +kernel
theorem dX0_trade_1 : decode cX0_trade 1 = .ok (.iconst 0, 1) := by decide +kernel
theorem dX0_trade_2 : decode cX0_trade 2 = .ok (.putfield 31, 3) := by decide +kernel
theorem dX0_trade_5 : decode cX0_trade 5 = .ok (.aload_n 0, 1) := by decide +kernel
theorem dX0_trade_6 : decode cX0_trade 6 = .ok (.iconst 1, 1) := by decide +kernel
theorem dX0_trade_7 : decode cX0_trade 7 = .ok (.putfield 34, 3) := by decide +kernel
theorem dX0_trade_10 : decode cX0_trade 10 = .ok (.iconst 0, 1) := by decide +kernel
theorem dX0_trade_11 : decode cX0_trade 11 = .ok (.istore_n 2, 1) := by decide +kernel
theorem dX0_trade_12 : decode cX0_trade 12 = .ok (.iload_n 2, 1) := by decide +kernel
theorem dX0_trade_13 : decode cX0_trade 13 = .ok (.iload_n 1, 1) := by decide +kernel
theorem dX0_trade_14 : decode cX0_trade 14 = .ok (.if_icmp .ge 69, 3) := by decide +kernel
theorem dX0_trade_17 : decode cX0_trade 17 = .ok (.iload_n 2, 1) := by decide +kernel
theorem dX0_trade_18 : decode cX0_trade 18 = .ok (.iconst 1, 1) := by decide +kernel
theorem dX0_trade_19 : decode cX0_trade 19 = .ok (.iadd, 1) := by decide +kernel
theorem dX0_trade_20 : decode cX0_trade 20 = .ok (.istore_n 3, 1) := by decide +kernel
theorem dX0_trade_21 : decode cX0_trade 21 = .ok (.iload_n 3, 1) := by decide +kernel
theorem dX0_trade_22 : decode cX0_trade 22 = .ok (.iload_n 1, 1) := by decide +kernel
theorem dX0_trade_23 : decode cX0_trade 23 = .ok (.if_icmp .gt 54, 3) := by decide +kernel
theorem dX0_trade_26 : decode cX0_trade 26 = .ok (.aload_n 0, 1) := by decide +kernel
theorem dX0_trade_27 : decode cX0_trade 27 = .ok (.getfield 9, 3) := by decide +kernel
theorem dX0_trade_30 : decode cX0_trade 30 = .ok (.iload_n 2, 1) := by decide +kernel
theorem dX0_trade_31 : decode cX0_trade 31 = .ok (.iaload, 1) := by decide +kernel
theorem dX0_trade_32 : decode cX0_trade 32 = .ok (.aload_n 0, 1) := by decide +kernel
theorem dX0_trade_33 : decode cX0_trade 33 = .ok (.getfield 9, 3) := by decide +kernel
theorem dX0_trade_36 : decode cX0_trade 36 = .ok (.aload_n 0, 1) := by decide +kernel
theorem dX0_trade_37 : decode cX0_trade 37 = .ok (.getfield 34, 3) := by decide +kernel
theorem dX0_trade_40 : decode cX0_trade 40 = .ok (.iaload, 1) := by decide +kernel
theorem dX0_trade_41 : decode cX0_trade 41 = .ok (.imul, 1) := by decide +kernel
theorem dX0_trade_42 : decode cX0_trade 42 = .ok (.aload_n 0, 1) := by decide +kernel
theorem dX0_trade_43 : decode cX0_trade 43 = .ok (.getfield 9, 3) := by decide +kernel
theorem dX0_trade_46 : decode cX0_trade 46 = .ok (.aload_n 0, 1) := by decide +kernel
theorem dX0_trade_47 : decode cX0_trade 47 = .ok (.getfield 31, 3) := by decide +kernel
theorem dX0_trade_50 : decode cX0_trade 50 = .ok (.iaload, 1) := by decide +kernel
theorem dX0_trade_51 : decode cX0_trade 51 = .ok (.aload_n 0, 1) := by decide +kernel
theorem dX0_trade_52 : decode cX0_trade 52 = .ok (.getfield 9, 3) := by decide +kernel
theorem dX0_trade_55 : decode cX0_trade 55 = .ok (.iload_n 3, 1) := by decide +kernel
theorem dX0_trade_56 : decode cX0_trade 56 = .ok (.iaload, 1) := by decide +kernel
theorem dX0_trade_57 : decode cX0_trade 57 = .ok (.imul, 1) := by decide +kernel
theorem dX0_trade_58 : decode cX0_trade 58 = .ok (.if_icmp .le 13, 3) := by decide +kernel
theorem dX0_trade_61 : decode cX0_trade 61 = .ok (.aload_n 0, 1) := by decide +kernel
theorem dX0_trade_62 : decode cX0_trade 62 = .ok (.iload_n 2, 1) := by decide +kernel
theorem dX0_trade_63 : decode cX0_trade 63 = .ok (.putfield 31, 3) := by decide +kernel
theorem dX0_trade_66 : decode cX0_trade 66 = .ok (.aload_n 0, 1) := by decide +kernel
theorem dX0_trade_67 : decode cX0_trade 67 = .ok (.iload_n 3, 1) := by decide +kernel
theorem dX0_trade_68 : decode cX0_trade 68 = .ok (.putfield 34, 3) := by decide +kernel
theorem dX0_trade_71 : decode cX0_trade 71 = .ok (.iinc 3 1, 3) := by decide +kernel
theorem dX0_trade_74 : decode cX0_trade 74 = .ok (.goto (-53), 3) := by decide +kernel
theorem dX0_trade_77 : decode cX0_trade 77 = .ok (.iinc 2 1, 3) := by decide +kernel
theorem dX0_trade_80 : decode cX0_trade 80 = .ok (.goto (-68), 3) := by decide +kernel
theorem dX0_trade_83 : decode cX0_trade 83 = .ok (.return_, 1) := by decide +kernel
theorem dX0_leastSpread_0 : decode cX0_leastSpread 0 = .ok (.aload_n 0, 1) := by decide +kernel
theorem dX0_leastSpread_1 : decode cX0_leastSpread 1 = .ok (.iload_n 1, 1) := by decide +kernel
theorem dX0_leastSpread_2 : decode cX0_leastSpread 2 = .ok (.invokevirtual 37, 3) := by decide +kernel
theorem dX0_leastSpread_5 : decode cX0_leastSpread 5 = .ok (.sipush 200, 3) := by decide +kernel
theorem dX0_leastSpread_8 : decode cX0_leastSpread 8 = .ok (.istore_n 3, 1) := by decide +kernel
theorem dX0_leastSpread_9 : decode cX0_leastSpread 9 = .ok (.iconst 0, 1) := by decide +kernel
theorem dX0_leastSpread_10 : decode cX0_leastSpread 10 = .ok (.istore 4, 2) := by decide +kernel
theorem dX0_leastSpread_12 : decode cX0_leastSpread 12 = .ok (.iload 4, 2) := by decide +kernel
theorem dX0_leastSpread_14 : decode cX0_leastSpread 14 = .ok (.iload_n 2, 1) := by decide +kernel
theorem dX0_leastSpread_15 : decode cX0_leastSpread 15 = .ok (.iadd, 1) := by decide +kernel
theorem dX0_leastSpread_16 : decode cX0_leastSpread 16 = .ok (.iconst 1, 1) := by decide +kernel
theorem dX0_leastSpread_17 : decode cX0_leastSpread 17 = .ok (.isub, 1) := by decide +kernel
theorem dX0_leastSpread_18 : decode cX0_leastSpread 18 = .ok (.iload_n 1, 1) := by decide +kernel
theorem dX0_leastSpread_19 : decode cX0_leastSpread 19 = .ok (.if_icmp .gt 33, 3) := by decide +kernel
theorem dX0_leastSpread_22 : decode cX0_leastSpread 22 = .ok (.iload_n 3, 1) := by decide +kernel
theorem dX0_leastSpread_23 : decode cX0_leastSpread 23 = .ok (.aload_n 0, 1) := by decide +kernel
theorem dX0_leastSpread_24 : decode cX0_leastSpread 24 = .ok (.getfield 15, 3) := by decide +kernel
theorem dX0_leastSpread_27 : decode cX0_leastSpread 27 = .ok (.iload 4, 2) := by decide +kernel
theorem dX0_leastSpread_29 : decode cX0_leastSpread 29 = .ok (.iload_n 2, 1) := by decide +kernel
theorem dX0_leastSpread_30 : decode cX0_leastSpread 30 = .ok (.iadd, 1) := by decide +kernel
theorem dX0_leastSpread_31 : decode cX0_leastSpread 31 = .ok (.iconst 1, 1) := by decide +kernel
theorem dX0_leastSpread_32 : decode cX0_leastSpread 32 = .ok (.isub, 1) := by decide +kernel
theorem dX0_leastSpread_33 : decode cX0_leastSpread 33 = .ok (.iaload, 1) := by decide +kernel
theorem dX0_leastSpread_34 : decode cX0_leastSpread 34 = .ok (.aload_n 0, 1) := by decide +kernel
theorem dX0_leastSpread_35 : decode cX0_leastSpread 35 = .ok (.getfield 15, 3) := by decide +kernel
theorem dX0_leastSpread_38 : decode cX0_leastSpread 38 = .ok (.iload 4, 2) := by decide +kernel
theorem dX0_leastSpread_40 : decode cX0_leastSpread 40 = .ok (.iaload, 1) := by decide +kernel
theorem dX0_leastSpread_41 : decode cX0_leastSpread 41 = .ok (.isub, 1) := by decide +kernel
theorem dX0_leastSpread_42 : decode cX0_leastSpread 42 = .ok (.invokestatic 41, 3) := by decide +kernel
theorem dX0_leastSpread_45 : decode cX0_leastSpread 45 = .ok (.istore_n 3, 1) := by decide +kernel
theorem dX0_leastSpread_46 : decode cX0_leastSpread 46 = .ok (.iinc 4 1, 3) := by decide +kernel
theorem dX0_leastSpread_49 : decode cX0_leastSpread 49 = .ok (.goto (-37), 3) := by decide +kernel
theorem dX0_leastSpread_52 : decode cX0_leastSpread 52 = .ok (.iload_n 3, 1) := by decide +kernel
theorem dX0_leastSpread_53 : decode cX0_leastSpread 53 = .ok (.ireturn, 1) := by decide +kernel
theorem dX0_sort_0 : decode cX0_sort 0 = .ok (.iconst 0, 1) := by decide +kernel
theorem dX0_sort_1 : decode cX0_sort 1 = .ok (.istore_n 2, 1) := by decide +kernel
theorem dX0_sort_2 : decode cX0_sort 2 = .ok (.iload_n 2, 1) := by decide +kernel
theorem dX0_sort_3 : decode cX0_sort 3 = .ok (.iload_n 1, 1) := by decide +kernel
theorem dX0_sort_4 : decode cX0_sort 4 = .ok (.if_icmp .gt 64, 3) := by decide +kernel
theorem dX0_sort_7 : decode cX0_sort 7 = .ok (.iload_n 2, 1) := by decide +kernel
theorem dX0_sort_8 : decode cX0_sort 8 = .ok (.istore_n 3, 1) := by decide +kernel
theorem dX0_sort_9 : decode cX0_sort 9 = .ok (.iload_n 3, 1) := by decide +kernel
theorem dX0_sort_10 : decode cX0_sort 10 = .ok (.ifCond .le 40, 3) := by decide +kernel
theorem dX0_sort_13 : decode cX0_sort 13 = .ok (.aload_n 0, 1) := by decide +kernel
theorem dX0_sort_14 : decode cX0_sort 14 = .ok (.getfield 15, 3) := by decide +kernel
theorem dX0_sort_17 : decode cX0_sort 17 = .ok (.iload_n 3, 1) := by decide +kernel
theorem dX0_sort_18 : decode cX0_sort 18 = .ok (.iconst 1, 1) := by decide +kernel
theorem dX0_sort_19 : decode cX0_sort 19 = .ok (.isub, 1) := by decide +kernel
theorem dX0_sort_20 : decode cX0_sort 20 = .ok (.iaload, 1) := by decide +kernel
theorem dX0_sort_21 : decode cX0_sort 21 = .ok (.aload_n 0, 1) := by decide +kernel
theorem dX0_sort_22 : decode cX0_sort 22 = .ok (.getfield 9, 3) := by decide +kernel
theorem dX0_sort_25 : decode cX0_sort 25 = .ok (.iload_n 2, 1) := by decide +kernel
theorem dX0_sort_26 : decode cX0_sort 26 = .ok (.iaload, 1) := by decide +kernel
theorem dX0_sort_27 : decode cX0_sort 27 = .ok (.if_icmp .le 23, 3) := by decide +kernel
theorem dX0_sort_30 : decode cX0_sort 30 = .ok (.aload_n 0, 1) := by decide +kernel
theorem dX0_sort_31 : decode cX0_sort 31 = .ok (.getfield 15, 3) := by decide +kernel
theorem dX0_sort_34 : decode cX0_sort 34 = .ok (.iload_n 3, 1) := by decide +kernel
theorem dX0_sort_35 : decode cX0_sort 35 = .ok (.aload_n 0, 1) := by decide +kernel
theorem dX0_sort_36 : decode cX0_sort 36 = .ok (.getfield 15, 3) := by decide +kernel
theorem dX0_sort_39 : decode cX0_sort 39 = .ok (.iload_n 3, 1) := by decide +kernel
theorem dX0_sort_40 : decode cX0_sort 40 = .ok (.iconst 1, 1) := by decide +kernel
theorem dX0_sort_41 : decode cX0_sort 41 = .ok (.isub, 1) := by decide +kernel
theorem dX0_sort_42 : decode cX0_sort 42 = .ok (.iaload, 1) := by decide +kernel
theorem dX0_sort_43 : decode cX0_sort 43 = .ok (.iastore, 1) := by decide +kernel
theorem dX0_sort_44 : decode cX0_sort 44 = .ok (.iinc 3 (-1), 3) := by decide +kernel
theorem dX0_sort_47 : decode cX0_sort 47 = .ok (.goto (-38), 3) := by decide +kernel
theorem dX0_sort_50 : decode cX0_sort 50 = .ok (.aload_n 0, 1) := by decide +kernel
theorem dX0_sort_51 : decode cX0_sort 51 = .ok (.getfield 15, 3) := by decide +kernel
theorem dX0_sort_54 : decode cX0_sort 54 = .ok (.iload_n 3, 1) := by decide +kernel
theorem dX0_sort_55 : decode cX0_sort 55 = .ok (.aload_n 0, 1) := by decide +kernel
theorem dX0_sort_56 : decode cX0_sort 56 = .ok (.getfield 9, 3) := by decide +kernel
theorem dX0_sort_59 : decode cX0_sort 59 = .ok (.iload_n 2, 1) := by decide +kernel
theorem dX0_sort_60 : decode cX0_sort 60 = .ok (.iaload, 1) := by decide +kernel
theorem dX0_sort_61 : decode cX0_sort 61 = .ok (.iastore, 1) := by decide +kernel
theorem dX0_sort_62 : decode cX0_sort 62 = .ok (.iinc 2 1, 3) := by decide +kernel
theorem dX0_sort_65 : decode cX0_sort 65 = .ok (.goto (-63), 3) := by decide +kernel
theorem dX0_sort_68 : decode cX0_sort 68 = .ok (.return_, 1) := by decide +kernel
theorem dX0_firstDay_0 : decode cX0_firstDay 0 = .ok (.iconst 0, 1) := by decide +kernel
theorem dX0_firstDay_1 : decode cX0_firstDay 1 = .ok (.istore 4, 2) := by decide +kernel
theorem dX0_firstDay_3 : decode cX0_firstDay 3 = .ok (.iload 4, 2) := by decide +kernel
theorem dX0_firstDay_5 : decode cX0_firstDay 5 = .ok (.iload_n 1, 1) := by decide +kernel
theorem dX0_firstDay_6 : decode cX0_firstDay 6 = .ok (.if_icmp .gt 24, 3) := by decide +kernel
theorem dX0_firstDay_9 : decode cX0_firstDay 9 = .ok (.aload_n 0, 1) := by decide +kernel
theorem dX0_firstDay_10 : decode cX0_firstDay 10 = .ok (.iload 4, 2) := by decide +kernel
theorem dX0_firstDay_12 : decode cX0_firstDay 12 = .ok (.iload_n 1, 1) := by decide +kernel
theorem dX0_firstDay_13 : decode cX0_firstDay 13 = .ok (.iload_n 2, 1) := by decide +kernel
theorem dX0_firstDay_14 : decode cX0_firstDay 14 = .ok (.iload_n 3, 1) := by decide +kernel
theorem dX0_firstDay_15 : decode cX0_firstDay 15 = .ok (.invokevirtual 46, 3) := by decide +kernel
theorem dX0_firstDay_18 : decode cX0_firstDay 18 = .ok (.ifCond .eq 6, 3) := by decide +kernel
theorem dX0_firstDay_21 : decode cX0_firstDay 21 = .ok (.iload 4, 2) := by decide +kernel
theorem dX0_firstDay_23 : decode cX0_firstDay 23 = .ok (.ireturn, 1) := by decide +kernel
theorem dX0_firstDay_24 : decode cX0_firstDay 24 = .ok (.iinc 4 1, 3) := by decide +kernel
theorem dX0_firstDay_27 : decode cX0_firstDay 27 = .ok (.goto (-24), 3) := by decide +kernel
theorem dX0_firstDay_30 : decode cX0_firstDay 30 = .ok (.bipush (-6), 2) := by decide +kernel
theorem dX0_firstDay_32 : decode cX0_firstDay 32 = .ok (.ireturn, 1) := by decide +kernel
theorem dX0_begins_0 : decode cX0_begins 0 = .ok (.iload_n 1, 1) := by decide +kernel
theorem dX0_begins_1 : decode cX0_begins 1 = .ok (.istore 5, 2) := by decide +kernel
theorem dX0_begins_3 : decode cX0_begins 3 = .ok (.iload 5, 2) := by decide +kernel
theorem dX0_begins_5 : decode cX0_begins 5 = .ok (.iload_n 2, 1) := by decide +kernel
theorem dX0_begins_6 : decode cX0_begins 6 = .ok (.if_icmp .gt 56, 3) := by decide +kernel
theorem dX0_begins_9 : decode cX0_begins 9 = .ok (.aload_n 0, 1) := by decide +kernel
theorem dX0_begins_10 : decode cX0_begins 10 = .ok (.getfield 9, 3) := by decide +kernel
theorem dX0_begins_13 : decode cX0_begins 13 = .ok (.iload 5, 2) := by decide +kernel
theorem dX0_begins_15 : decode cX0_begins 15 = .ok (.iaload, 1) := by decide +kernel
theorem dX0_begins_16 : decode cX0_begins 16 = .ok (.istore 6, 2) := by decide +kernel
theorem dX0_begins_18 : decode cX0_begins 18 = .ok (.aload_n 0, 1) := by decide +kernel
theorem dX0_begins_19 : decode cX0_begins 19 = .ok (.getfield 9, 3) := by decide +kernel
theorem dX0_begins_22 : decode cX0_begins 22 = .ok (.iload_n 1, 1) := by decide +kernel
theorem dX0_begins_23 : decode cX0_begins 23 = .ok (.iaload, 1) := by decide +kernel
theorem dX0_begins_24 : decode cX0_begins 24 = .ok (.iload 6, 2) := by decide +kernel
theorem dX0_begins_26 : decode cX0_begins 26 = .ok (.iload 6, 2) := by decide +kernel
theorem dX0_begins_28 : decode cX0_begins 28 = .ok (.iload 4, 2) := by decide +kernel
theorem dX0_begins_30 : decode cX0_begins 30 = .ok (.iadd, 1) := by decide +kernel
theorem dX0_begins_31 : decode cX0_begins 31 = .ok (.invokestatic 50, 3) := by decide +kernel
theorem dX0_begins_34 : decode cX0_begins 34 = .ok (.ifCond .eq 22, 3) := by decide +kernel
theorem dX0_begins_37 : decode cX0_begins 37 = .ok (.aload_n 0, 1) := by decide +kernel
theorem dX0_begins_38 : decode cX0_begins 38 = .ok (.iload_n 1, 1) := by decide +kernel
theorem dX0_begins_39 : decode cX0_begins 39 = .ok (.iload_n 2, 1) := by decide +kernel
theorem dX0_begins_40 : decode cX0_begins 40 = .ok (.iload 6, 2) := by decide +kernel
theorem dX0_begins_42 : decode cX0_begins 42 = .ok (.iload 6, 2) := by decide +kernel
theorem dX0_begins_44 : decode cX0_begins 44 = .ok (.iload 4, 2) := by decide +kernel
theorem dX0_begins_46 : decode cX0_begins 46 = .ok (.iadd, 1) := by decide +kernel
theorem dX0_begins_47 : decode cX0_begins 47 = .ok (.invokevirtual 54, 3) := by decide +kernel
theorem dX0_begins_50 : decode cX0_begins 50 = .ok (.iload_n 3, 1) := by decide +kernel
theorem dX0_begins_51 : decode cX0_begins 51 = .ok (.if_icmp .lt 5, 3) := by decide +kernel
theorem dX0_begins_54 : decode cX0_begins 54 = .ok (.iconst 1, 1) := by decide +kernel
theorem dX0_begins_55 : decode cX0_begins 55 = .ok (.ireturn, 1) := by decide +kernel
theorem dX0_begins_56 : decode cX0_begins 56 = .ok (.iinc 5 1, 3) := by decide +kernel
theorem dX0_begins_59 : decode cX0_begins 59 = .ok (.goto (-56), 3) := by decide +kernel
theorem dX0_begins_62 : decode cX0_begins 62 = .ok (.iconst 0, 1) := by decide +kernel
theorem dX0_begins_63 : decode cX0_begins 63 = .ok (.ireturn, 1) := by decide +kernel
theorem dX0_daysWithin_0 : decode cX0_daysWithin 0 = .ok (.iconst 0, 1) := by decide +kernel
theorem dX0_daysWithin_1 : decode cX0_daysWithin 1 = .ok (.istore 5, 2) := by decide +kernel
theorem dX0_daysWithin_3 : decode cX0_daysWithin 3 = .ok (.iload_n 1, 1) := by decide +kernel
theorem dX0_daysWithin_4 : decode cX0_daysWithin 4 = .ok (.istore 6, 2) := by decide +kernel
theorem dX0_daysWithin_6 : decode cX0_daysWithin 6 = .ok (.iload 6, 2) := by decide +kernel
theorem dX0_daysWithin_8 : decode cX0_daysWithin 8 = .ok (.iload_n 2, 1) := by decide +kernel
theorem dX0_daysWithin_9 : decode cX0_daysWithin 9 = .ok (.if_icmp .gt 28, 3) := by decide +kernel
theorem dX0_daysWithin_12 : decode cX0_daysWithin 12 = .ok (.aload_n 0, 1) := by decide +kernel
theorem dX0_daysWithin_13 : decode cX0_daysWithin 13 = .ok (.getfield 9, 3) := by decide +kernel
theorem dX0_daysWithin_16 : decode cX0_daysWithin 16 = .ok (.iload 6, 2) := by decide +kernel
theorem dX0_daysWithin_18 : decode cX0_daysWithin 18 = .ok (.iaload, 1) := by decide +kernel
theorem dX0_daysWithin_19 : decode cX0_daysWithin 19 = .ok (.iload_n 3, 1) := by decide +kernel
theorem dX0_daysWithin_20 : decode cX0_daysWithin 20 = .ok (.iload 4, 2) := by decide +kernel
theorem dX0_daysWithin_22 : decode cX0_daysWithin 22 = .ok (.invokestatic 50, 3) := by decide +kernel
theorem dX0_daysWithin_25 : decode cX0_daysWithin 25 = .ok (.ifCond .eq 6, 3) := by decide +kernel
theorem dX0_daysWithin_28 : decode cX0_daysWithin 28 = .ok (.iinc 5 1, 3) := by decide +kernel
theorem dX0_daysWithin_31 : decode cX0_daysWithin 31 = .ok (.iinc 6 1, 3) := by decide +kernel
theorem dX0_daysWithin_34 : decode cX0_daysWithin 34 = .ok (.goto (-28), 3) := by decide +kernel
theorem dX0_daysWithin_37 : decode cX0_daysWithin 37 = .ok (.iload 5, 2) := by decide +kernel
theorem dX0_daysWithin_39 : decode cX0_daysWithin 39 = .ok (.ireturn, 1) := by decide +kernel
theorem dX1_init_0 : decode cX1_init 0 = .ok (.aload_n 0, 1) := by decide +kernel
theorem dX1_init_1 : decode cX1_init 1 = .ok (.invokespecial 3, 3) := by decide +kernel
theorem dX1_init_4 : decode cX1_init 4 = .ok (.aload_n 0, 1) := by decide +kernel
theorem dX1_init_5 : decode cX1_init 5 = .ok (.bipush 25, 2) := by decide +kernel
theorem dX1_init_7 : decode cX1_init 7 = .ok (.newarray .long, 2) := by decide +kernel
theorem dX1_init_9 : decode cX1_init 9 = .ok (.putfield 11, 3) := by decide +kernel
theorem dX1_init_12 : decode cX1_init 12 = .ok (.aload_n 0, 1) := by decide +kernel
theorem dX1_init_13 : decode cX1_init 13 = .ok (.bipush 25, 2) := by decide +kernel
theorem dX1_init_15 : decode cX1_init 15 = .ok (.newarray .long, 2) := by decide +kernel
theorem dX1_init_17 : decode cX1_init 17 = .ok (.putfield 15, 3) := by decide +kernel
theorem dX1_init_20 : decode cX1_init 20 = .ok (.return_, 1) := by decide +kernel
theorem dX1_spread_0 : decode cX1_spread 0 = .ok (.aload_n 0, 1) := by decide +kernel
theorem dX1_spread_1 : decode cX1_spread 1 = .ok (.getfield 11, 3) := by decide +kernel
theorem dX1_spread_4 : decode cX1_spread 4 = .ok (.lconst 0, 1) := by decide +kernel
theorem dX1_spread_5 : decode cX1_spread 5 = .ok (.invokestatic 18, 3) := by decide +kernel
theorem dX1_spread_8 : decode cX1_spread 8 = .ok (.aload_n 0, 1) := by decide +kernel
theorem dX1_spread_9 : decode cX1_spread 9 = .ok (.getfield 11, 3) := by decide +kernel
theorem dX1_spread_12 : decode cX1_spread 12 = .ok (.bipush 12, 2) := by decide +kernel
theorem dX1_spread_14 : decode cX1_spread 14 = .ok (.lconst 1, 1) := by decide +kernel
theorem dX1_spread_15 : decode cX1_spread 15 = .ok (.lastore, 1) := by decide +kernel
theorem dX1_spread_16 : decode cX1_spread 16 = .ok (.iconst 0, 1) := by decide +kernel
theorem dX1_spread_17 : decode cX1_spread 17 = .ok (.istore 4, 2) := by decide +kernel
theorem dX1_spread_19 : decode cX1_spread 19 = .ok (.iload 4, 2) := by decide +kernel
theorem dX1_spread_21 : decode cX1_spread 21 = .ok (.iload_n 1, 1) := by decide +kernel
theorem dX1_spread_22 : decode cX1_spread 22 = .ok (.if_icmp .ge 86, 3) := by decide +kernel
theorem dX1_spread_25 : decode cX1_spread 25 = .ok (.iconst 0, 1) := by decide +kernel
theorem dX1_spread_26 : decode cX1_spread 26 = .ok (.istore 5, 2) := by decide +kernel
theorem dX1_spread_28 : decode cX1_spread 28 = .ok (.iload 5, 2) := by decide +kernel
theorem dX1_spread_30 : decode cX1_spread 30 = .ok (.bipush 25, 2) := by decide +kernel
theorem dX1_spread_32 : decode cX1_spread 32 = .ok (.if_icmp .ge 55, 3) := by decide +kernel
theorem dX1_spread_35 : decode cX1_spread 35 = .ok (.aload_n 0, 1) := by decide +kernel
theorem dX1_spread_36 : decode cX1_spread 36 = .ok (.getfield 15, 3) := by decide +kernel
theorem dX1_spread_39 : decode cX1_spread 39 = .ok (.iload 5, 2) := by decide +kernel
theorem dX1_spread_41 : decode cX1_spread 41 = .ok (.aload_n 0, 1) := by decide +kernel
theorem dX1_spread_42 : decode cX1_spread 42 = .ok (.getfield 11, 3) := by decide +kernel
theorem dX1_spread_45 : decode cX1_spread 45 = .ok (.iload 5, 2) := by decide +kernel
theorem dX1_spread_47 : decode cX1_spread 47 = .ok (.laload, 1) := by decide +kernel
theorem dX1_spread_48 : decode cX1_spread 48 = .ok (.bipush 10, 2) := by decide +kernel
theorem dX1_spread_50 : decode cX1_spread 50 = .ok (.iload_n 2, 1) := by decide +kernel
theorem dX1_spread_51 : decode cX1_spread 51 = .ok (.isub, 1) := by decide +kernel
theorem dX1_spread_52 : decode cX1_spread 52 = .ok (.iload_n 3, 1) := by decide +kernel
theorem dX1_spread_53 : decode cX1_spread 53 = .ok (.isub, 1) := by decide +kernel
theorem dX1_spread_54 : decode cX1_spread 54 = .ok (.i2l, 1) := by decide +kernel
theorem dX1_spread_55 : decode cX1_spread 55 = .ok (.lmul, 1) := by decide +kernel
theorem dX1_spread_56 : decode cX1_spread 56 = .ok (.aload_n 0, 1) := by decide +kernel
theorem dX1_spread_57 : decode cX1_spread 57 = .ok (.iload 5, 2) := by decide +kernel
theorem dX1_spread_59 : decode cX1_spread 59 = .ok (.iconst 1, 1) := by decide +kernel
theorem dX1_spread_60 : decode cX1_spread 60 = .ok (.iadd, 1) := by decide +kernel
theorem dX1_spread_61 : decode cX1_spread 61 = .ok (.invokevirtual 24, 3) := by decide +kernel
theorem dX1_spread_64 : decode cX1_spread 64 = .ok (.iload_n 2, 1) := by decide +kernel
theorem dX1_spread_65 : decode cX1_spread 65 = .ok (.i2l, 1) := by decide +kernel
theorem dX1_spread_66 : decode cX1_spread 66 = .ok (.lmul, 1) := by decide +kernel
theorem dX1_spread_67 : decode cX1_spread 67 = .ok (.ladd, 1) := by decide +kernel
theorem dX1_spread_68 : decode cX1_spread 68 = .ok (.aload_n 0, 1) := by decide +kernel
theorem dX1_spread_69 : decode cX1_spread 69 = .ok (.iload 5, 2) := by decide +kernel
theorem dX1_spread_71 : decode cX1_spread 71 = .ok (.iconst 1, 1) := by decide +kernel
theorem dX1_spread_72 : decode cX1_spread 72 = .ok (.isub, 1) := by decide +kernel
theorem dX1_spread_73 : decode cX1_spread 73 = .ok (.invokevirtual 24, 3) := by decide +kernel
theorem dX1_spread_76 : decode cX1_spread 76 = .ok (.iload_n 3, 1) := by decide +kernel
theorem dX1_spread_77 : decode cX1_spread 77 = .ok (.i2l, 1) := by decide +kernel
theorem dX1_spread_78 : decode cX1_spread 78 = .ok (.lmul, 1) := by decide +kernel
theorem dX1_spread_79 : decode cX1_spread 79 = .ok (.ladd, 1) := by decide +kernel
theorem dX1_spread_80 : decode cX1_spread 80 = .ok (.lastore, 1) := by decide +kernel
theorem dX1_spread_81 : decode cX1_spread 81 = .ok (.iinc 5 1, 3) := by decide +kernel
theorem dX1_spread_84 : decode cX1_spread 84 = .ok (.goto (-56), 3) := by decide +kernel
theorem dX1_spread_87 : decode cX1_spread 87 = .ok (.aload_n 0, 1) := by decide +kernel
theorem dX1_spread_88 : decode cX1_spread 88 = .ok (.getfield 15, 3) := by decide +kernel
theorem dX1_spread_91 : decode cX1_spread 91 = .ok (.iconst 0, 1) := by decide +kernel
theorem dX1_spread_92 : decode cX1_spread 92 = .ok (.aload_n 0, 1) := by decide +kernel
theorem dX1_spread_93 : decode cX1_spread 93 = .ok (.getfield 11, 3) := by decide +kernel
theorem dX1_spread_96 : decode cX1_spread 96 = .ok (.iconst 0, 1) := by decide +kernel
theorem dX1_spread_97 : decode cX1_spread 97 = .ok (.bipush 25, 2) := by decide +kernel
theorem dX1_spread_99 : decode cX1_spread 99 = .ok (.invokestatic 28, 3) := by decide +kernel
theorem dX1_spread_102 : decode cX1_spread 102 = .ok (.iinc 4 1, 3) := by decide +kernel
theorem dX1_spread_105 : decode cX1_spread 105 = .ok (.goto (-86), 3) := by decide +kernel
theorem dX1_spread_108 : decode cX1_spread 108 = .ok (.return_, 1) := by decide +kernel
theorem dX1_waysAt_0 : decode cX1_waysAt 0 = .ok (.iload_n 1, 1) := by decide +kernel
theorem dX1_waysAt_1 : decode cX1_waysAt 1 = .ok (.iconst 0, 1) := by decide +kernel
theorem dX1_waysAt_2 : decode cX1_waysAt 2 = .ok (.bipush 24, 2) := by decide +kernel
theorem dX1_waysAt_4 : decode cX1_waysAt 4 = .ok (.invokestatic 34, 3) := by decide +kernel
theorem dX1_waysAt_7 : decode cX1_waysAt 7 = .ok (.ifCond .eq 12, 3) := by decide +kernel
theorem dX1_waysAt_10 : decode cX1_waysAt 10 = .ok (.aload_n 0, 1) := by decide +kernel
theorem dX1_waysAt_11 : decode cX1_waysAt 11 = .ok (.getfield 11, 3) := by decide +kernel
theorem dX1_waysAt_14 : decode cX1_waysAt 14 = .ok (.iload_n 1, 1) := by decide +kernel
theorem dX1_waysAt_15 : decode cX1_waysAt 15 = .ok (.laload, 1) := by decide +kernel
theorem dX1_waysAt_16 : decode cX1_waysAt 16 = .ok (.goto 4, 3) := by decide +kernel
theorem dX1_waysAt_19 : decode cX1_waysAt 19 = .ok (.lconst 0, 1) := by decide +kernel
theorem dX1_waysAt_20 : decode cX1_waysAt 20 = .ok (.lreturn, 1) := by decide +kernel
theorem dX1_waysOff_0 : decode cX1_waysOff 0 = .ok (.lconst 0, 1) := by decide +kernel
theorem dX1_waysOff_1 : decode cX1_waysOff 1 = .ok (.lstore_n 2, 1) := by decide +kernel
theorem dX1_waysOff_2 : decode cX1_waysOff 2 = .ok (.iconst 0, 1) := by decide +kernel
theorem dX1_waysOff_3 : decode cX1_waysOff 3 = .ok (.istore 4, 2) := by decide +kernel
theorem dX1_waysOff_5 : decode cX1_waysOff 5 = .ok (.iload 4, 2) := by decide +kernel
theorem dX1_waysOff_7 : decode cX1_waysOff 7 = .ok (.bipush 25, 2) := by decide +kernel
theorem dX1_waysOff_9 : decode cX1_waysOff 9 = .ok (.if_icmp .ge 31, 3) := by decide +kernel
theorem dX1_waysOff_12 : decode cX1_waysOff 12 = .ok (.iload 4, 2) := by decide +kernel
theorem dX1_waysOff_14 : decode cX1_waysOff 14 = .ok (.bipush 12, 2) := by decide +kernel
theorem dX1_waysOff_16 : decode cX1_waysOff 16 = .ok (.isub, 1) := by decide +kernel
theorem dX1_waysOff_17 : decode cX1_waysOff 17 = .ok (.invokestatic 38, 3) := by decide +kernel
theorem dX1_waysOff_20 : decode cX1_waysOff 20 = .ok (.iload_n 1, 1) := by decide +kernel
theorem dX1_waysOff_21 : decode cX1_waysOff 21 = .ok (.if_icmp .lt 13, 3) := by decide +kernel
theorem dX1_waysOff_24 : decode cX1_waysOff 24 = .ok (.lload_n 2, 1) := by decide +kernel
theorem dX1_waysOff_25 : decode cX1_waysOff 25 = .ok (.aload_n 0, 1) := by decide +kernel
theorem dX1_waysOff_26 : decode cX1_waysOff 26 = .ok (.getfield 11, 3) := by decide +kernel
theorem dX1_waysOff_29 : decode cX1_waysOff 29 = .ok (.iload 4, 2) := by decide +kernel
theorem dX1_waysOff_31 : decode cX1_waysOff 31 = .ok (.laload, 1) := by decide +kernel
theorem dX1_waysOff_32 : decode cX1_waysOff 32 = .ok (.ladd, 1) := by decide +kernel
theorem dX1_waysOff_33 : decode cX1_waysOff 33 = .ok (.lstore_n 2, 1) := by decide +kernel
theorem dX1_waysOff_34 : decode cX1_waysOff 34 = .ok (.iinc 4 1, 3) := by decide +kernel
theorem dX1_waysOff_37 : decode cX1_waysOff 37 = .ok (.goto (-32), 3) := by decide +kernel
theorem dX1_waysOff_40 : decode cX1_waysOff 40 = .ok (.lload_n 2, 1) := by decide +kernel
theorem dX1_waysOff_41 : decode cX1_waysOff 41 = .ok (.lreturn, 1) := by decide +kernel
theorem dX1_allWays_0 : decode cX1_allWays 0 = .ok (.lconst 1, 1) := by decide +kernel
theorem dX1_allWays_1 : decode cX1_allWays 1 = .ok (.lstore_n 2, 1) := by decide +kernel
theorem dX1_allWays_2 : decode cX1_allWays 2 = .ok (.iconst 0, 1) := by decide +kernel
theorem dX1_allWays_3 : decode cX1_allWays 3 = .ok (.istore 4, 2) := by decide +kernel
theorem dX1_allWays_5 : decode cX1_allWays 5 = .ok (.iload 4, 2) := by decide +kernel
theorem dX1_allWays_7 : decode cX1_allWays 7 = .ok (.iload_n 1, 1) := by decide +kernel
theorem dX1_allWays_8 : decode cX1_allWays 8 = .ok (.if_icmp .ge 15, 3) := by decide +kernel
theorem dX1_allWays_11 : decode cX1_allWays 11 = .ok (.lload_n 2, 1) := by decide +kernel
theorem dX1_allWays_12 : decode cX1_allWays 12 = .ok (.ldc2_w 44, 3) := by decide +kernel
theorem dX1_allWays_15 : decode cX1_allWays 15 = .ok (.lmul, 1) := by decide +kernel
theorem dX1_allWays_16 : decode cX1_allWays 16 = .ok (.lstore_n 2, 1) := by decide +kernel
theorem dX1_allWays_17 : decode cX1_allWays 17 = .ok (.iinc 4 1, 3) := by decide +kernel
theorem dX1_allWays_20 : decode cX1_allWays 20 = .ok (.goto (-15), 3) := by decide +kernel
theorem dX1_allWays_23 : decode cX1_allWays 23 = .ok (.lload_n 2, 1) := by decide +kernel
theorem dX1_allWays_24 : decode cX1_allWays 24 = .ok (.lreturn, 1) := by decide +kernel
theorem dX2_init_0 : decode cX2_init 0 = .ok (.aload_n 0, 1) := by decide +kernel
theorem dX2_init_1 : decode cX2_init 1 = .ok (.invokespecial 1, 3) := by decide +kernel
theorem dX2_init_4 : decode cX2_init 4 = .ok (.aload_n 0, 1) := by decide +kernel
theorem dX2_init_5 : decode cX2_init 5 = .ok (.new 7, 3) := by decide +kernel
theorem dX2_init_8 : decode cX2_init 8 = .ok (.dup, 1) := by decide +kernel
theorem dX2_init_9 : decode cX2_init 9 = .ok (.invokespecial 9, 3) := by decide +kernel
theorem dX2_init_12 : decode cX2_init 12 = .ok (.putfield 10, 3) := by decide +kernel
theorem dX2_init_15 : decode cX2_init 15 = .ok (.return_, 1) := by decide +kernel
theorem dX3_init_0 : decode cX3_init 0 = .ok (.aload_n 0, 1) := by decide +kernel
theorem dX3_init_1 : decode cX3_init 1 = .ok (.invokespecial 3, 3) := by decide +kernel
theorem dX3_init_4 : decode cX3_init 4 = .ok (.aload_n 0, 1) := by decide +kernel
theorem dX3_init_5 : decode cX3_init 5 = .ok (.bipush 19, 2) := by decide +kernel
theorem dX3_init_7 : decode cX3_init 7 = .ok (.newarray .int, 2) := by decide +kernel
theorem dX3_init_9 : decode cX3_init 9 = .ok (.putfield 11, 3) := by decide +kernel
theorem dX3_init_12 : decode cX3_init 12 = .ok (.aload_n 0, 1) := by decide +kernel
theorem dX3_init_13 : decode cX3_init 13 = .ok (.bipush 19, 2) := by decide +kernel
theorem dX3_init_15 : decode cX3_init 15 = .ok (.newarray .int, 2) := by decide +kernel
theorem dX3_init_17 : decode cX3_init 17 = .ok (.putfield 15, 3) := by decide +kernel
theorem dX3_init_20 : decode cX3_init 20 = .ok (.aload_n 0, 1) := by decide +kernel
theorem dX3_init_21 : decode cX3_init 21 = .ok (.sipush 201, 3) := by decide +kernel
theorem dX3_init_24 : decode cX3_init 24 = .ok (.newarray .int, 2) := by decide +kernel
theorem dX3_init_26 : decode cX3_init 26 = .ok (.putfield 18, 3) := by decide +kernel
theorem dX3_init_29 : decode cX3_init 29 = .ok (.return_, 1) := by decide +kernel
theorem dX3_fit_0 : decode cX3_fit 0 = .ok (.iconst 0, 1) := by decide +kernel
theorem dX3_fit_1 : decode cX3_fit 1 = .ok (.istore_n 2, 1) := by decide +kernel
theorem dX3_fit_2 : decode cX3_fit 2 = .ok (.iload_n 2, 1) := by decide +kernel
theorem dX3_fit_3 : decode cX3_fit 3 = .ok (.bipush 19, 2) := by decide +kernel
theorem dX3_fit_5 : decode cX3_fit 5 = .ok (.if_icmp .ge 58, 3) := by decide +kernel
theorem dX3_fit_8 : decode cX3_fit 8 = .ok (.aload_n 0, 1) := by decide +kernel
theorem dX3_fit_9 : decode cX3_fit 9 = .ok (.getfield 11, 3) := by decide +kernel
theorem dX3_fit_12 : decode cX3_fit 12 = .ok (.iload_n 2, 1) := by decide +kernel
theorem dX3_fit_13 : decode cX3_fit 13 = .ok (.iconst 1, 1) := by decide +kernel
theorem dX3_fit_14 : decode cX3_fit 14 = .ok (.iastore, 1) := by decide +kernel
theorem dX3_fit_15 : decode cX3_fit 15 = .ok (.aload_n 0, 1) := by decide +kernel
theorem dX3_fit_16 : decode cX3_fit 16 = .ok (.getfield 15, 3) := by decide +kernel
theorem dX3_fit_19 : decode cX3_fit 19 = .ok (.iload_n 2, 1) := by decide +kernel
theorem dX3_fit_20 : decode cX3_fit 20 = .ok (.sipush 200, 3) := by decide +kernel
theorem dX3_fit_23 : decode cX3_fit 23 = .ok (.iastore, 1) := by decide +kernel
theorem dX3_fit_24 : decode cX3_fit 24 = .ok (.iconst 0, 1) := by decide +kernel
theorem dX3_fit_25 : decode cX3_fit 25 = .ok (.istore_n 3, 1) := by decide +kernel
theorem dX3_fit_26 : decode cX3_fit 26 = .ok (.iload_n 3, 1) := by decide +kernel
theorem dX3_fit_27 : decode cX3_fit 27 = .ok (.aload_n 1, 1) := by decide +kernel
theorem dX3_fit_28 : decode cX3_fit 28 = .ok (.getfield 21, 3) := by decide +kernel
theorem dX3_fit_31 : decode cX3_fit 31 = .ok (.if_icmp .ge 26, 3) := by decide +kernel
theorem dX3_fit_34 : decode cX3_fit 34 = .ok (.aload_n 0, 1) := by decide +kernel
theorem dX3_fit_35 : decode cX3_fit 35 = .ok (.iload_n 2, 1) := by decide +kernel
theorem dX3_fit_36 : decode cX3_fit 36 = .ok (.aload_n 1, 1) := by decide +kernel
theorem dX3_fit_37 : decode cX3_fit 37 = .ok (.getfield 27, 3) := by decide +kernel
theorem dX3_fit_40 : decode cX3_fit 40 = .ok (.iload_n 3, 1) := by decide +kernel
theorem dX3_fit_41 : decode cX3_fit 41 = .ok (.iaload, 1) := by decide +kernel
theorem dX3_fit_42 : decode cX3_fit 42 = .ok (.aload_n 1, 1) := by decide +kernel
theorem dX3_fit_43 : decode cX3_fit 43 = .ok (.getfield 30, 3) := by decide +kernel
theorem dX3_fit_46 : decode cX3_fit 46 = .ok (.iload_n 3, 1) := by decide +kernel
theorem dX3_fit_47 : decode cX3_fit 47 = .ok (.iaload, 1) := by decide +kernel
theorem dX3_fit_48 : decode cX3_fit 48 = .ok (.invokevirtual 33, 3) := by decide +kernel
theorem dX3_fit_51 : decode cX3_fit 51 = .ok (.iinc 3 1, 3) := by decide +kernel
theorem dX3_fit_54 : decode cX3_fit 54 = .ok (.goto (-28), 3) := by decide +kernel
theorem dX3_fit_57 : decode cX3_fit 57 = .ok (.iinc 2 1, 3) := by decide +kernel
theorem dX3_fit_60 : decode cX3_fit 60 = .ok (.goto (-58), 3) := by decide +kernel
theorem dX3_fit_63 : decode cX3_fit 63 = .ok (.return_, 1) := by decide +kernel
theorem dX3_narrow_0 : decode cX3_narrow 0 = .ok (.iload_n 3, 1) := by decide +kernel
theorem dX3_narrow_1 : decode cX3_narrow 1 = .ok (.iload_n 1, 1) := by decide +kernel
theorem dX3_narrow_2 : decode cX3_narrow 2 = .ok (.bipush 9, 2) := by decide +kernel
theorem dX3_narrow_4 : decode cX3_narrow 4 = .ok (.isub, 1) := by decide +kernel
theorem dX3_narrow_5 : decode cX3_narrow 5 = .ok (.iload_n 2, 1) := by decide +kernel
theorem dX3_narrow_6 : decode cX3_narrow 6 = .ok (.imul, 1) := by decide +kernel
theorem dX3_narrow_7 : decode cX3_narrow 7 = .ok (.isub, 1) := by decide +kernel
theorem dX3_narrow_8 : decode cX3_narrow 8 = .ok (.istore 4, 2) := by decide +kernel
theorem dX3_narrow_10 : decode cX3_narrow 10 = .ok (.iload_n 3, 1) := by decide +kernel
theorem dX3_narrow_11 : decode cX3_narrow 11 = .ok (.iconst 1, 1) := by decide +kernel
theorem dX3_narrow_12 : decode cX3_narrow 12 = .ok (.if_icmp .le 20, 3) := by decide +kernel
theorem dX3_narrow_15 : decode cX3_narrow 15 = .ok (.aload_n 0, 1) := by decide +kernel
theorem dX3_narrow_16 : decode cX3_narrow 16 = .ok (.getfield 11, 3) := by decide +kernel
theorem dX3_narrow_19 : decode cX3_narrow 19 = .ok (.iload_n 1, 1) := by decide +kernel
theorem dX3_narrow_20 : decode cX3_narrow 20 = .ok (.aload_n 0, 1) := by decide +kernel
theorem dX3_narrow_21 : decode cX3_narrow 21 = .ok (.getfield 11, 3) := by decide +kernel
theorem dX3_narrow_24 : decode cX3_narrow 24 = .ok (.iload_n 1, 1) := by decide +kernel
theorem dX3_narrow_25 : decode cX3_narrow 25 = .ok (.iaload, 1) := by decide +kernel
theorem dX3_narrow_26 : decode cX3_narrow 26 = .ok (.iload 4, 2) := by decide +kernel
theorem dX3_narrow_28 : decode cX3_narrow 28 = .ok (.invokestatic 37, 3) := by decide +kernel
theorem dX3_narrow_31 : decode cX3_narrow 31 = .ok (.iastore, 1) := by decide +kernel
theorem dX3_narrow_32 : decode cX3_narrow 32 = .ok (.iload_n 3, 1) := by decide +kernel
theorem dX3_narrow_33 : decode cX3_narrow 33 = .ok (.sipush 200, 3) := by decide +kernel
theorem dX3_narrow_36 : decode cX3_narrow 36 = .ok (.if_icmp .ge 20, 3) := by decide +kernel
theorem dX3_narrow_39 : decode cX3_narrow 39 = .ok (.aload_n 0, 1) := by decide +kernel
theorem dX3_narrow_40 : decode cX3_narrow 40 = .ok (.getfield 15, 3) := by decide +kernel
theorem dX3_narrow_43 : decode cX3_narrow 43 = .ok (.iload_n 1, 1) := by decide +kernel
theorem dX3_narrow_44 : decode cX3_narrow 44 = .ok (.aload_n 0, 1) := by decide +kernel
theorem dX3_narrow_45 : decode cX3_narrow 45 = .ok (.getfield 15, 3) := by decide +kernel
theorem dX3_narrow_48 : decode cX3_narrow 48 = .ok (.iload_n 1, 1) := by decide +kernel
theorem dX3_narrow_49 : decode cX3_narrow 49 = .ok (.iaload, 1) := by decide +kernel
theorem dX3_narrow_50 : decode cX3_narrow 50 = .ok (.iload 4, 2) := by decide +kernel
theorem dX3_narrow_52 : decode cX3_narrow 52 = .ok (.invokestatic 43, 3) := by decide +kernel
theorem dX3_narrow_55 : decode cX3_narrow 55 = .ok (.iastore, 1) := by decide +kernel
theorem dX3_narrow_56 : decode cX3_narrow 56 = .ok (.return_, 1) := by decide +kernel
theorem dX3_howMany_0 : decode cX3_howMany 0 = .ok (.iconst 0, 1) := by decide +kernel
theorem dX3_howMany_1 : decode cX3_howMany 1 = .ok (.istore_n 1, 1) := by decide +kernel
theorem dX3_howMany_2 : decode cX3_howMany 2 = .ok (.iconst 0, 1) := by decide +kernel
theorem dX3_howMany_3 : decode cX3_howMany 3 = .ok (.istore_n 2, 1) := by decide +kernel
theorem dX3_howMany_4 : decode cX3_howMany 4 = .ok (.iload_n 2, 1) := by decide +kernel
theorem dX3_howMany_5 : decode cX3_howMany 5 = .ok (.bipush 19, 2) := by decide +kernel
theorem dX3_howMany_7 : decode cX3_howMany 7 = .ok (.if_icmp .ge 31, 3) := by decide +kernel
theorem dX3_howMany_10 : decode cX3_howMany 10 = .ok (.iload_n 1, 1) := by decide +kernel
theorem dX3_howMany_11 : decode cX3_howMany 11 = .ok (.iconst 0, 1) := by decide +kernel
theorem dX3_howMany_12 : decode cX3_howMany 12 = .ok (.aload_n 0, 1) := by decide +kernel
theorem dX3_howMany_13 : decode cX3_howMany 13 = .ok (.getfield 15, 3) := by decide +kernel
theorem dX3_howMany_16 : decode cX3_howMany 16 = .ok (.iload_n 2, 1) := by decide +kernel
theorem dX3_howMany_17 : decode cX3_howMany 17 = .ok (.iaload, 1) := by decide +kernel
theorem dX3_howMany_18 : decode cX3_howMany 18 = .ok (.aload_n 0, 1) := by decide +kernel
theorem dX3_howMany_19 : decode cX3_howMany 19 = .ok (.getfield 11, 3) := by decide +kernel
theorem dX3_howMany_22 : decode cX3_howMany 22 = .ok (.iload_n 2, 1) := by decide +kernel
theorem dX3_howMany_23 : decode cX3_howMany 23 = .ok (.iaload, 1) := by decide +kernel
theorem dX3_howMany_24 : decode cX3_howMany 24 = .ok (.isub, 1) := by decide +kernel
theorem dX3_howMany_25 : decode cX3_howMany 25 = .ok (.iconst 1, 1) := by decide +kernel
theorem dX3_howMany_26 : decode cX3_howMany 26 = .ok (.iadd, 1) := by decide +kernel
theorem dX3_howMany_27 : decode cX3_howMany 27 = .ok (.invokestatic 37, 3) := by decide +kernel
theorem dX3_howMany_30 : decode cX3_howMany 30 = .ok (.iadd, 1) := by decide +kernel
theorem dX3_howMany_31 : decode cX3_howMany 31 = .ok (.istore_n 1, 1) := by decide +kernel
theorem dX3_howMany_32 : decode cX3_howMany 32 = .ok (.iinc 2 1, 3) := by decide +kernel
theorem dX3_howMany_35 : decode cX3_howMany 35 = .ok (.goto (-31), 3) := by decide +kernel
theorem dX3_howMany_38 : decode cX3_howMany 38 = .ok (.iload_n 1, 1) := by decide +kernel
theorem dX3_howMany_39 : decode cX3_howMany 39 = .ok (.ireturn, 1) := by decide +kernel
theorem dX3_lawAt_0 : decode cX3_lawAt 0 = .ok (.iload_n 1, 1) := by decide +kernel
theorem dX3_lawAt_1 : decode cX3_lawAt 1 = .ok (.istore_n 2, 1) := by decide +kernel
theorem dX3_lawAt_2 : decode cX3_lawAt 2 = .ok (.iconst 1, 1) := by decide +kernel
theorem dX3_lawAt_3 : decode cX3_lawAt 3 = .ok (.istore_n 3, 1) := by decide +kernel
theorem dX3_lawAt_4 : decode cX3_lawAt 4 = .ok (.iload_n 3, 1) := by decide +kernel
theorem dX3_lawAt_5 : decode cX3_lawAt 5 = .ok (.sipush 200, 3) := by decide +kernel
theorem dX3_lawAt_8 : decode cX3_lawAt 8 = .ok (.if_icmp .gt 65, 3) := by decide +kernel
theorem dX3_lawAt_11 : decode cX3_lawAt 11 = .ok (.iload_n 2, 1) := by decide +kernel
theorem dX3_lawAt_12 : decode cX3_lawAt 12 = .ok (.ifCond .lt 61, 3) := by decide +kernel
theorem dX3_lawAt_15 : decode cX3_lawAt 15 = .ok (.iconst 0, 1) := by decide +kernel
theorem dX3_lawAt_16 : decode cX3_lawAt 16 = .ok (.istore 4, 2) := by decide +kernel
theorem dX3_lawAt_18 : decode cX3_lawAt 18 = .ok (.iload 4, 2) := by decide +kernel
theorem dX3_lawAt_20 : decode cX3_lawAt 20 = .ok (.bipush 19, 2) := by decide +kernel
theorem dX3_lawAt_22 : decode cX3_lawAt 22 = .ok (.if_icmp .ge 45, 3) := by decide +kernel
theorem dX3_lawAt_25 : decode cX3_lawAt 25 = .ok (.iload_n 3, 1) := by decide +kernel
theorem dX3_lawAt_26 : decode cX3_lawAt 26 = .ok (.aload_n 0, 1) := by decide +kernel
theorem dX3_lawAt_27 : decode cX3_lawAt 27 = .ok (.getfield 11, 3) := by decide +kernel
theorem dX3_lawAt_30 : decode cX3_lawAt 30 = .ok (.iload 4, 2) := by decide +kernel
theorem dX3_lawAt_32 : decode cX3_lawAt 32 = .ok (.iaload, 1) := by decide +kernel
theorem dX3_lawAt_33 : decode cX3_lawAt 33 = .ok (.aload_n 0, 1) := by decide +kernel
theorem dX3_lawAt_34 : decode cX3_lawAt 34 = .ok (.getfield 15, 3) := by decide +kernel
theorem dX3_lawAt_37 : decode cX3_lawAt 37 = .ok (.iload 4, 2) := by decide +kernel
theorem dX3_lawAt_39 : decode cX3_lawAt 39 = .ok (.iaload, 1) := by decide +kernel
theorem dX3_lawAt_40 : decode cX3_lawAt 40 = .ok (.invokestatic 46, 3) := by decide +kernel
theorem dX3_lawAt_43 : decode cX3_lawAt 43 = .ok (.ifCond .eq 18, 3) := by decide +kernel
theorem dX3_lawAt_46 : decode cX3_lawAt 46 = .ok (.iload_n 2, 1) := by decide +kernel
theorem dX3_lawAt_47 : decode cX3_lawAt 47 = .ok (.ifCond .ne 11, 3) := by decide +kernel
theorem dX3_lawAt_50 : decode cX3_lawAt 50 = .ok (.bipush 100, 2) := by decide +kernel
theorem dX3_lawAt_52 : decode cX3_lawAt 52 = .ok (.iload_n 3, 1) := by decide +kernel
theorem dX3_lawAt_53 : decode cX3_lawAt 53 = .ok (.imul, 1) := by decide +kernel
theorem dX3_lawAt_54 : decode cX3_lawAt 54 = .ok (.iload 4, 2) := by decide +kernel
theorem dX3_lawAt_56 : decode cX3_lawAt 56 = .ok (.iadd, 1) := by decide +kernel
theorem dX3_lawAt_57 : decode cX3_lawAt 57 = .ok (.ireturn, 1) := by decide +kernel
theorem dX3_lawAt_58 : decode cX3_lawAt 58 = .ok (.iinc 2 (-1), 3) := by decide +kernel
theorem dX3_lawAt_61 : decode cX3_lawAt 61 = .ok (.iinc 4 1, 3) := by decide +kernel
theorem dX3_lawAt_64 : decode cX3_lawAt 64 = .ok (.goto (-46), 3) := by decide +kernel
theorem dX3_lawAt_67 : decode cX3_lawAt 67 = .ok (.iinc 3 1, 3) := by decide +kernel
theorem dX3_lawAt_70 : decode cX3_lawAt 70 = .ok (.goto (-66), 3) := by decide +kernel
theorem dX3_lawAt_73 : decode cX3_lawAt 73 = .ok (.bipush (-6), 2) := by decide +kernel
theorem dX3_lawAt_75 : decode cX3_lawAt 75 = .ok (.ireturn, 1) := by decide +kernel
theorem dX3_bestDay_0 : decode cX3_bestDay 0 = .ok (.iconst 0, 1) := by decide +kernel
theorem dX3_bestDay_1 : decode cX3_bestDay 1 = .ok (.istore_n 1, 1) := by decide +kernel
theorem dX3_bestDay_2 : decode cX3_bestDay 2 = .ok (.aload_n 0, 1) := by decide +kernel
theorem dX3_bestDay_3 : decode cX3_bestDay 3 = .ok (.iconst 0, 1) := by decide +kernel
theorem dX3_bestDay_4 : decode cX3_bestDay 4 = .ok (.invokevirtual 50, 3) := by decide +kernel
theorem dX3_bestDay_7 : decode cX3_bestDay 7 = .ok (.istore_n 2, 1) := by decide +kernel
theorem dX3_bestDay_8 : decode cX3_bestDay 8 = .ok (.iconst 1, 1) := by decide +kernel
theorem dX3_bestDay_9 : decode cX3_bestDay 9 = .ok (.istore_n 3, 1) := by decide +kernel
theorem dX3_bestDay_10 : decode cX3_bestDay 10 = .ok (.iload_n 3, 1) := by decide +kernel
theorem dX3_bestDay_11 : decode cX3_bestDay 11 = .ok (.bipush 60, 2) := by decide +kernel
theorem dX3_bestDay_13 : decode cX3_bestDay 13 = .ok (.if_icmp .gt 32, 3) := by decide +kernel
theorem dX3_bestDay_16 : decode cX3_bestDay 16 = .ok (.iload_n 2, 1) := by decide +kernel
theorem dX3_bestDay_17 : decode cX3_bestDay 17 = .ok (.iconst 1, 1) := by decide +kernel
theorem dX3_bestDay_18 : decode cX3_bestDay 18 = .ok (.if_icmp .le 27, 3) := by decide +kernel
theorem dX3_bestDay_21 : decode cX3_bestDay 21 = .ok (.aload_n 0, 1) := by decide +kernel
theorem dX3_bestDay_22 : decode cX3_bestDay 22 = .ok (.iload_n 3, 1) := by decide +kernel
theorem dX3_bestDay_23 : decode cX3_bestDay 23 = .ok (.invokevirtual 50, 3) := by decide +kernel
theorem dX3_bestDay_26 : decode cX3_bestDay 26 = .ok (.istore 4, 2) := by decide +kernel
theorem dX3_bestDay_28 : decode cX3_bestDay 28 = .ok (.iload 4, 2) := by decide +kernel
theorem dX3_bestDay_30 : decode cX3_bestDay 30 = .ok (.iload_n 2, 1) := by decide +kernel
theorem dX3_bestDay_31 : decode cX3_bestDay 31 = .ok (.if_icmp .ge 8, 3) := by decide +kernel
theorem dX3_bestDay_34 : decode cX3_bestDay 34 = .ok (.iload 4, 2) := by decide +kernel
theorem dX3_bestDay_36 : decode cX3_bestDay 36 = .ok (.istore_n 2, 1) := by decide +kernel
theorem dX3_bestDay_37 : decode cX3_bestDay 37 = .ok (.iload_n 3, 1) := by decide +kernel
theorem dX3_bestDay_38 : decode cX3_bestDay 38 = .ok (.istore_n 1, 1) := by decide +kernel
theorem dX3_bestDay_39 : decode cX3_bestDay 39 = .ok (.iinc 3 1, 3) := by decide +kernel
theorem dX3_bestDay_42 : decode cX3_bestDay 42 = .ok (.goto (-32), 3) := by decide +kernel
theorem dX3_bestDay_45 : decode cX3_bestDay 45 = .ok (.iload_n 1, 1) := by decide +kernel
theorem dX3_bestDay_46 : decode cX3_bestDay 46 = .ok (.ireturn, 1) := by decide +kernel
theorem dX3_mostLeft_0 : decode cX3_mostLeft 0 = .ok (.aload_n 0, 1) := by decide +kernel
theorem dX3_mostLeft_1 : decode cX3_mostLeft 1 = .ok (.getfield 18, 3) := by decide +kernel
theorem dX3_mostLeft_4 : decode cX3_mostLeft 4 = .ok (.iconst 0, 1) := by decide +kernel
theorem dX3_mostLeft_5 : decode cX3_mostLeft 5 = .ok (.invokestatic 54, 3) := by decide +kernel
theorem dX3_mostLeft_8 : decode cX3_mostLeft 8 = .ok (.iconst 0, 1) := by decide +kernel
theorem dX3_mostLeft_9 : decode cX3_mostLeft 9 = .ok (.istore_n 2, 1) := by decide +kernel
theorem dX3_mostLeft_10 : decode cX3_mostLeft 10 = .ok (.iconst 0, 1) := by decide +kernel
theorem dX3_mostLeft_11 : decode cX3_mostLeft 11 = .ok (.istore_n 3, 1) := by decide +kernel
theorem dX3_mostLeft_12 : decode cX3_mostLeft 12 = .ok (.iconst 0, 1) := by decide +kernel
theorem dX3_mostLeft_13 : decode cX3_mostLeft 13 = .ok (.istore 4, 2) := by decide +kernel
theorem dX3_mostLeft_15 : decode cX3_mostLeft 15 = .ok (.iload 4, 2) := by decide +kernel
theorem dX3_mostLeft_17 : decode cX3_mostLeft 17 = .ok (.bipush 19, 2) := by decide +kernel
theorem dX3_mostLeft_19 : decode cX3_mostLeft 19 = .ok (.if_icmp .ge 116, 3) := by decide +kernel
theorem dX3_mostLeft_22 : decode cX3_mostLeft 22 = .ok (.aload_n 0, 1) := by decide +kernel
theorem dX3_mostLeft_23 : decode cX3_mostLeft 23 = .ok (.getfield 11, 3) := by decide +kernel
theorem dX3_mostLeft_26 : decode cX3_mostLeft 26 = .ok (.iload 4, 2) := by decide +kernel
theorem dX3_mostLeft_28 : decode cX3_mostLeft 28 = .ok (.iaload, 1) := by decide +kernel
theorem dX3_mostLeft_29 : decode cX3_mostLeft 29 = .ok (.aload_n 0, 1) := by decide +kernel
theorem dX3_mostLeft_30 : decode cX3_mostLeft 30 = .ok (.getfield 15, 3) := by decide +kernel
theorem dX3_mostLeft_33 : decode cX3_mostLeft 33 = .ok (.iload 4, 2) := by decide +kernel
theorem dX3_mostLeft_35 : decode cX3_mostLeft 35 = .ok (.iaload, 1) := by decide +kernel
theorem dX3_mostLeft_36 : decode cX3_mostLeft 36 = .ok (.if_icmp .gt 93, 3) := by decide +kernel
theorem dX3_mostLeft_39 : decode cX3_mostLeft 39 = .ok (.aload_n 0, 1) := by decide +kernel
theorem dX3_mostLeft_40 : decode cX3_mostLeft 40 = .ok (.getfield 11, 3) := by decide +kernel
theorem dX3_mostLeft_43 : decode cX3_mostLeft 43 = .ok (.iload 4, 2) := by decide +kernel
theorem dX3_mostLeft_45 : decode cX3_mostLeft 45 = .ok (.iaload, 1) := by decide +kernel
theorem dX3_mostLeft_46 : decode cX3_mostLeft 46 = .ok (.iload 4, 2) := by decide +kernel
theorem dX3_mostLeft_48 : decode cX3_mostLeft 48 = .ok (.bipush 9, 2) := by decide +kernel
theorem dX3_mostLeft_50 : decode cX3_mostLeft 50 = .ok (.isub, 1) := by decide +kernel
theorem dX3_mostLeft_51 : decode cX3_mostLeft 51 = .ok (.iload_n 1, 1) := by decide +kernel
theorem dX3_mostLeft_52 : decode cX3_mostLeft 52 = .ok (.imul, 1) := by decide +kernel
theorem dX3_mostLeft_53 : decode cX3_mostLeft 53 = .ok (.iadd, 1) := by decide +kernel
theorem dX3_mostLeft_54 : decode cX3_mostLeft 54 = .ok (.istore 5, 2) := by decide +kernel
theorem dX3_mostLeft_56 : decode cX3_mostLeft 56 = .ok (.aload_n 0, 1) := by decide +kernel
theorem dX3_mostLeft_57 : decode cX3_mostLeft 57 = .ok (.getfield 15, 3) := by decide +kernel
theorem dX3_mostLeft_60 : decode cX3_mostLeft 60 = .ok (.iload 4, 2) := by decide +kernel
theorem dX3_mostLeft_62 : decode cX3_mostLeft 62 = .ok (.iaload, 1) := by decide +kernel
theorem dX3_mostLeft_63 : decode cX3_mostLeft 63 = .ok (.iload 4, 2) := by decide +kernel
theorem dX3_mostLeft_65 : decode cX3_mostLeft 65 = .ok (.bipush 9, 2) := by decide +kernel
theorem dX3_mostLeft_67 : decode cX3_mostLeft 67 = .ok (.isub, 1) := by decide +kernel
theorem dX3_mostLeft_68 : decode cX3_mostLeft 68 = .ok (.iload_n 1, 1) := by decide +kernel
theorem dX3_mostLeft_69 : decode cX3_mostLeft 69 = .ok (.imul, 1) := by decide +kernel
theorem dX3_mostLeft_70 : decode cX3_mostLeft 70 = .ok (.iadd, 1) := by decide +kernel
theorem dX3_mostLeft_71 : decode cX3_mostLeft 71 = .ok (.istore 6, 2) := by decide +kernel
theorem dX3_mostLeft_73 : decode cX3_mostLeft 73 = .ok (.iload_n 2, 1) := by decide +kernel
theorem dX3_mostLeft_74 : decode cX3_mostLeft 74 = .ok (.iconst 0, 1) := by decide +kernel
theorem dX3_mostLeft_75 : decode cX3_mostLeft 75 = .ok (.iload 6, 2) := by decide +kernel
theorem dX3_mostLeft_77 : decode cX3_mostLeft 77 = .ok (.iconst 1, 1) := by decide +kernel
theorem dX3_mostLeft_78 : decode cX3_mostLeft 78 = .ok (.invokestatic 43, 3) := by decide +kernel
theorem dX3_mostLeft_81 : decode cX3_mostLeft 81 = .ok (.iload 5, 2) := by decide +kernel
theorem dX3_mostLeft_83 : decode cX3_mostLeft 83 = .ok (.isub, 1) := by decide +kernel
theorem dX3_mostLeft_84 : decode cX3_mostLeft 84 = .ok (.iconst 1, 1) := by decide +kernel
theorem dX3_mostLeft_85 : decode cX3_mostLeft 85 = .ok (.iadd, 1) := by decide +kernel
theorem dX3_mostLeft_86 : decode cX3_mostLeft 86 = .ok (.invokestatic 37, 3) := by decide +kernel
theorem dX3_mostLeft_89 : decode cX3_mostLeft 89 = .ok (.iadd, 1) := by decide +kernel
theorem dX3_mostLeft_90 : decode cX3_mostLeft 90 = .ok (.istore_n 2, 1) := by decide +kernel
theorem dX3_mostLeft_91 : decode cX3_mostLeft 91 = .ok (.iload_n 3, 1) := by decide +kernel
theorem dX3_mostLeft_92 : decode cX3_mostLeft 92 = .ok (.iconst 0, 1) := by decide +kernel
theorem dX3_mostLeft_93 : decode cX3_mostLeft 93 = .ok (.iload 6, 2) := by decide +kernel
theorem dX3_mostLeft_95 : decode cX3_mostLeft 95 = .ok (.iload 5, 2) := by decide +kernel
theorem dX3_mostLeft_97 : decode cX3_mostLeft 97 = .ok (.sipush 200, 3) := by decide +kernel
theorem dX3_mostLeft_100 : decode cX3_mostLeft 100 = .ok (.invokestatic 37, 3) := by decide +kernel
theorem dX3_mostLeft_103 : decode cX3_mostLeft 103 = .ok (.isub, 1) := by decide +kernel
theorem dX3_mostLeft_104 : decode cX3_mostLeft 104 = .ok (.iconst 1, 1) := by decide +kernel
theorem dX3_mostLeft_105 : decode cX3_mostLeft 105 = .ok (.iadd, 1) := by decide +kernel
theorem dX3_mostLeft_106 : decode cX3_mostLeft 106 = .ok (.invokestatic 37, 3) := by decide +kernel
theorem dX3_mostLeft_109 : decode cX3_mostLeft 109 = .ok (.iadd, 1) := by decide +kernel
theorem dX3_mostLeft_110 : decode cX3_mostLeft 110 = .ok (.istore_n 3, 1) := by decide +kernel
theorem dX3_mostLeft_111 : decode cX3_mostLeft 111 = .ok (.aload_n 0, 1) := by decide +kernel
theorem dX3_mostLeft_112 : decode cX3_mostLeft 112 = .ok (.iload 5, 2) := by decide +kernel
theorem dX3_mostLeft_114 : decode cX3_mostLeft 114 = .ok (.iconst 2, 1) := by decide +kernel
theorem dX3_mostLeft_115 : decode cX3_mostLeft 115 = .ok (.invokestatic 37, 3) := by decide +kernel
theorem dX3_mostLeft_118 : decode cX3_mostLeft 118 = .ok (.iload 6, 2) := by decide +kernel
theorem dX3_mostLeft_120 : decode cX3_mostLeft 120 = .ok (.sipush 199, 3) := by decide +kernel
theorem dX3_mostLeft_123 : decode cX3_mostLeft 123 = .ok (.invokestatic 43, 3) := by decide +kernel
theorem dX3_mostLeft_126 : decode cX3_mostLeft 126 = .ok (.invokevirtual 60, 3) := by decide +kernel
theorem dX3_mostLeft_129 : decode cX3_mostLeft 129 = .ok (.iinc 4 1, 3) := by decide +kernel
theorem dX3_mostLeft_132 : decode cX3_mostLeft 132 = .ok (.goto (-117), 3) := by decide +kernel
theorem dX3_mostLeft_135 : decode cX3_mostLeft 135 = .ok (.aload_n 0, 1) := by decide +kernel
theorem dX3_mostLeft_136 : decode cX3_mostLeft 136 = .ok (.invokevirtual 64, 3) := by decide +kernel
theorem dX3_mostLeft_139 : decode cX3_mostLeft 139 = .ok (.iload_n 2, 1) := by decide +kernel
theorem dX3_mostLeft_140 : decode cX3_mostLeft 140 = .ok (.iload_n 3, 1) := by decide +kernel
theorem dX3_mostLeft_141 : decode cX3_mostLeft 141 = .ok (.invokestatic 37, 3) := by decide +kernel
theorem dX3_mostLeft_144 : decode cX3_mostLeft 144 = .ok (.invokestatic 37, 3) := by decide +kernel
theorem dX3_mostLeft_147 : decode cX3_mostLeft 147 = .ok (.ireturn, 1) := by decide +kernel
theorem dX3_raise_0 : decode cX3_raise 0 = .ok (.iload_n 1, 1) := by decide +kernel
theorem dX3_raise_1 : decode cX3_raise 1 = .ok (.iload_n 2, 1) := by decide +kernel
theorem dX3_raise_2 : decode cX3_raise 2 = .ok (.if_icmp .gt 25, 3) := by decide +kernel
theorem dX3_raise_5 : decode cX3_raise 5 = .ok (.aload_n 0, 1) := by decide +kernel
theorem dX3_raise_6 : decode cX3_raise 6 = .ok (.getfield 18, 3) := by decide +kernel
theorem dX3_raise_9 : decode cX3_raise 9 = .ok (.iload_n 1, 1) := by decide +kernel
theorem dX3_raise_10 : decode cX3_raise 10 = .ok (.dup2, 1) := by decide +kernel
theorem dX3_raise_11 : decode cX3_raise 11 = .ok (.iaload, 1) := by decide +kernel
theorem dX3_raise_12 : decode cX3_raise 12 = .ok (.iconst 1, 1) := by decide +kernel
theorem dX3_raise_13 : decode cX3_raise 13 = .ok (.iadd, 1) := by decide +kernel
theorem dX3_raise_14 : decode cX3_raise 14 = .ok (.iastore, 1) := by decide +kernel
theorem dX3_raise_15 : decode cX3_raise 15 = .ok (.aload_n 0, 1) := by decide +kernel
theorem dX3_raise_16 : decode cX3_raise 16 = .ok (.getfield 18, 3) := by decide +kernel
theorem dX3_raise_19 : decode cX3_raise 19 = .ok (.iload_n 2, 1) := by decide +kernel
theorem dX3_raise_20 : decode cX3_raise 20 = .ok (.iconst 1, 1) := by decide +kernel
theorem dX3_raise_21 : decode cX3_raise 21 = .ok (.iadd, 1) := by decide +kernel
theorem dX3_raise_22 : decode cX3_raise 22 = .ok (.dup2, 1) := by decide +kernel
theorem dX3_raise_23 : decode cX3_raise 23 = .ok (.iaload, 1) := by decide +kernel
theorem dX3_raise_24 : decode cX3_raise 24 = .ok (.iconst 1, 1) := by decide +kernel
theorem dX3_raise_25 : decode cX3_raise 25 = .ok (.isub, 1) := by decide +kernel
theorem dX3_raise_26 : decode cX3_raise 26 = .ok (.iastore, 1) := by decide +kernel
theorem dX3_raise_27 : decode cX3_raise 27 = .ok (.return_, 1) := by decide +kernel
theorem dX3_highestRise_0 : decode cX3_highestRise 0 = .ok (.iconst 0, 1) := by decide +kernel
theorem dX3_highestRise_1 : decode cX3_highestRise 1 = .ok (.istore_n 1, 1) := by decide +kernel
theorem dX3_highestRise_2 : decode cX3_highestRise 2 = .ok (.iconst 0, 1) := by decide +kernel
theorem dX3_highestRise_3 : decode cX3_highestRise 3 = .ok (.istore_n 2, 1) := by decide +kernel
theorem dX3_highestRise_4 : decode cX3_highestRise 4 = .ok (.iconst 2, 1) := by decide +kernel
theorem dX3_highestRise_5 : decode cX3_highestRise 5 = .ok (.istore_n 3, 1) := by decide +kernel
theorem dX3_highestRise_6 : decode cX3_highestRise 6 = .ok (.iload_n 3, 1) := by decide +kernel
theorem dX3_highestRise_7 : decode cX3_highestRise 7 = .ok (.sipush 200, 3) := by decide +kernel
theorem dX3_highestRise_10 : decode cX3_highestRise 10 = .ok (.if_icmp .ge 24, 3) := by decide +kernel
theorem dX3_highestRise_13 : decode cX3_highestRise 13 = .ok (.iload_n 2, 1) := by decide +kernel
theorem dX3_highestRise_14 : decode cX3_highestRise 14 = .ok (.aload_n 0, 1) := by decide +kernel
theorem dX3_highestRise_15 : decode cX3_highestRise 15 = .ok (.getfield 18, 3) := by decide +kernel
theorem dX3_highestRise_18 : decode cX3_highestRise 18 = .ok (.iload_n 3, 1) := by decide +kernel
theorem dX3_highestRise_19 : decode cX3_highestRise 19 = .ok (.iaload, 1) := by decide +kernel
theorem dX3_highestRise_20 : decode cX3_highestRise 20 = .ok (.iadd, 1) := by decide +kernel
theorem dX3_highestRise_21 : decode cX3_highestRise 21 = .ok (.istore_n 2, 1) := by decide +kernel
theorem dX3_highestRise_22 : decode cX3_highestRise 22 = .ok (.iload_n 1, 1) := by decide +kernel
theorem dX3_highestRise_23 : decode cX3_highestRise 23 = .ok (.iload_n 2, 1) := by decide +kernel
theorem dX3_highestRise_24 : decode cX3_highestRise 24 = .ok (.invokestatic 37, 3) := by decide +kernel
theorem dX3_highestRise_27 : decode cX3_highestRise 27 = .ok (.istore_n 1, 1) := by decide +kernel
theorem dX3_highestRise_28 : decode cX3_highestRise 28 = .ok (.iinc 3 1, 3) := by decide +kernel
theorem dX3_highestRise_31 : decode cX3_highestRise 31 = .ok (.goto (-25), 3) := by decide +kernel
theorem dX3_highestRise_34 : decode cX3_highestRise 34 = .ok (.iload_n 1, 1) := by decide +kernel
theorem dX3_highestRise_35 : decode cX3_highestRise 35 = .ok (.ireturn, 1) := by decide +kernel
theorem dX4_init_0 : decode cX4_init 0 = .ok (.aload_n 0, 1) := by decide +kernel
theorem dX4_init_1 : decode cX4_init 1 = .ok (.invokespecial 3, 3) := by decide +kernel
theorem dX4_init_4 : decode cX4_init 4 = .ok (.aload_n 0, 1) := by decide +kernel
theorem dX4_init_5 : decode cX4_init 5 = .ok (.bipush 60, 2) := by decide +kernel
theorem dX4_init_7 : decode cX4_init 7 = .ok (.newarray .int, 2) := by decide +kernel
theorem dX4_init_9 : decode cX4_init 9 = .ok (.putfield 9, 3) := by decide +kernel
theorem dX4_init_12 : decode cX4_init 12 = .ok (.aload_n 0, 1) := by decide +kernel
theorem dX4_init_13 : decode cX4_init 13 = .ok (.bipush 60, 2) := by decide +kernel
theorem dX4_init_15 : decode cX4_init 15 = .ok (.newarray .int, 2) := by decide +kernel
theorem dX4_init_17 : decode cX4_init 17 = .ok (.putfield 15, 3) := by decide +kernel
theorem dX4_init_20 : decode cX4_init 20 = .ok (.aload_n 0, 1) := by decide +kernel
theorem dX4_init_21 : decode cX4_init 21 = .ok (.bipush 60, 2) := by decide +kernel
theorem dX4_init_23 : decode cX4_init 23 = .ok (.newarray .int, 2) := by decide +kernel
theorem dX4_init_25 : decode cX4_init 25 = .ok (.putfield 18, 3) := by decide +kernel
theorem dX4_init_28 : decode cX4_init 28 = .ok (.aload_n 0, 1) := by decide +kernel
theorem dX4_init_29 : decode cX4_init 29 = .ok (.bipush 60, 2) := by decide +kernel
theorem dX4_init_31 : decode cX4_init 31 = .ok (.newarray .int, 2) := by decide +kernel
theorem dX4_init_33 : decode cX4_init 33 = .ok (.putfield 21, 3) := by decide +kernel
theorem dX4_init_36 : decode cX4_init 36 = .ok (.aload_n 0, 1) := by decide +kernel
theorem dX4_init_37 : decode cX4_init 37 = .ok (.bipush 60, 2) := by decide +kernel
theorem dX4_init_39 : decode cX4_init 39 = .ok (.newarray .int, 2) := by decide +kernel
theorem dX4_init_41 : decode cX4_init 41 = .ok (.putfield 24, 3) := by decide +kernel
theorem dX4_init_44 : decode cX4_init 44 = .ok (.return_, 1) := by decide +kernel
theorem dX4_write_0 : decode cX4_write 0 = .ok (.aload_n 0, 1) := by decide +kernel
theorem dX4_write_1 : decode cX4_write 1 = .ok (.getfield 27, 3) := by decide +kernel
theorem dX4_write_4 : decode cX4_write 4 = .ok (.bipush 60, 2) := by decide +kernel
theorem dX4_write_6 : decode cX4_write 6 = .ok (.if_icmp .lt 5, 3) := by decide +kernel
theorem dX4_write_9 : decode cX4_write 9 = .ok (.iconst 0, 1) := by decide +kernel
theorem dX4_write_10 : decode cX4_write 10 = .ok (.ireturn, 1) := by decide +kernel
theorem dX4_write_11 : decode cX4_write 11 = .ok (.aload_n 0, 1) := by decide +kernel
theorem dX4_write_12 : decode cX4_write 12 = .ok (.getfield 9, 3) := by decide +kernel
theorem dX4_write_15 : decode cX4_write 15 = .ok (.aload_n 0, 1) := by decide +kernel
theorem dX4_write_16 : decode cX4_write 16 = .ok (.getfield 27, 3) := by decide +kernel
theorem dX4_write_19 : decode cX4_write 19 = .ok (.iload_n 1, 1) := by decide +kernel
theorem dX4_write_20 : decode cX4_write 20 = .ok (.iastore, 1) := by decide +kernel
theorem dX4_write_21 : decode cX4_write 21 = .ok (.aload_n 0, 1) := by decide +kernel
theorem dX4_write_22 : decode cX4_write 22 = .ok (.dup, 1) := by decide +kernel
theorem dX4_write_23 : decode cX4_write 23 = .ok (.getfield 27, 3) := by decide +kernel
theorem dX4_write_26 : decode cX4_write 26 = .ok (.iconst 1, 1) := by decide +kernel
theorem dX4_write_27 : decode cX4_write 27 = .ok (.iadd, 1) := by decide +kernel
theorem dX4_write_28 : decode cX4_write 28 = .ok (.putfield 27, 3) := by decide +kernel
theorem dX4_write_31 : decode cX4_write 31 = .ok (.iconst 1, 1) := by decide +kernel
theorem dX4_write_32 : decode cX4_write 32 = .ok (.ireturn, 1) := by decide +kernel
theorem dX4_clear_0 : decode cX4_clear 0 = .ok (.aload_n 0, 1) := by decide +kernel
theorem dX4_clear_1 : decode cX4_clear 1 = .ok (.getfield 27, 3) := by decide +kernel
theorem dX4_clear_4 : decode cX4_clear 4 = .ok (.istore_n 1, 1) := by decide +kernel
theorem dX4_clear_5 : decode cX4_clear 5 = .ok (.aload_n 0, 1) := by decide +kernel
theorem dX4_clear_6 : decode cX4_clear 6 = .ok (.iconst 0, 1) := by decide +kernel
theorem dX4_clear_7 : decode cX4_clear 7 = .ok (.putfield 27, 3) := by decide +kernel
theorem dX4_clear_10 : decode cX4_clear 10 = .ok (.iload_n 1, 1) := by decide +kernel
theorem dX4_clear_11 : decode cX4_clear 11 = .ok (.ireturn, 1) := by decide +kernel
theorem dX4_read_0 : decode cX4_read 0 = .ok (.aload_n 0, 1) := by decide +kernel
theorem dX4_read_1 : decode cX4_read 1 = .ok (.iconst 0, 1) := by decide +kernel
theorem dX4_read_2 : decode cX4_read 2 = .ok (.putfield 31, 3) := by decide +kernel
theorem dX4_read_5 : decode cX4_read 5 = .ok (.iconst 0, 1) := by decide +kernel
theorem dX4_read_6 : decode cX4_read 6 = .ok (.istore_n 1, 1) := by decide +kernel
theorem dX4_read_7 : decode cX4_read 7 = .ok (.iconst 0, 1) := by decide +kernel
theorem dX4_read_8 : decode cX4_read 8 = .ok (.istore_n 2, 1) := by decide +kernel
theorem dX4_read_9 : decode cX4_read 9 = .ok (.iload_n 2, 1) := by decide +kernel
theorem dX4_read_10 : decode cX4_read 10 = .ok (.aload_n 0, 1) := by decide +kernel
theorem dX4_read_11 : decode cX4_read 11 = .ok (.getfield 27, 3) := by decide +kernel
theorem dX4_read_14 : decode cX4_read 14 = .ok (.if_icmp .ge 37, 3) := by decide +kernel
theorem dX4_read_17 : decode cX4_read 17 = .ok (.aload_n 0, 1) := by decide +kernel
theorem dX4_read_18 : decode cX4_read 18 = .ok (.getfield 31, 3) := by decide +kernel
theorem dX4_read_21 : decode cX4_read 21 = .ok (.bipush 60, 2) := by decide +kernel
theorem dX4_read_23 : decode cX4_read 23 = .ok (.if_icmp .ge 28, 3) := by decide +kernel
theorem dX4_read_26 : decode cX4_read 26 = .ok (.aload_n 0, 1) := by decide +kernel
theorem dX4_read_27 : decode cX4_read 27 = .ok (.iload_n 1, 1) := by decide +kernel
theorem dX4_read_28 : decode cX4_read 28 = .ok (.aload_n 0, 1) := by decide +kernel
theorem dX4_read_29 : decode cX4_read 29 = .ok (.getfield 9, 3) := by decide +kernel
theorem dX4_read_32 : decode cX4_read 32 = .ok (.iload_n 2, 1) := by decide +kernel
theorem dX4_read_33 : decode cX4_read 33 = .ok (.iaload, 1) := by decide +kernel
theorem dX4_read_34 : decode cX4_read 34 = .ok (.invokevirtual 34, 3) := by decide +kernel
theorem dX4_read_37 : decode cX4_read 37 = .ok (.istore_n 1, 1) := by decide +kernel
theorem dX4_read_38 : decode cX4_read 38 = .ok (.iload_n 1, 1) := by decide +kernel
theorem dX4_read_39 : decode cX4_read 39 = .ok (.iconst 4, 1) := by decide +kernel
theorem dX4_read_40 : decode cX4_read 40 = .ok (.if_icmp .ne 5, 3) := by decide +kernel
theorem dX4_read_43 : decode cX4_read 43 = .ok (.iload_n 2, 1) := by decide +kernel
theorem dX4_read_44 : decode cX4_read 44 = .ok (.ireturn, 1) := by decide +kernel
theorem dX4_read_45 : decode cX4_read 45 = .ok (.iinc 2 1, 3) := by decide +kernel
theorem dX4_read_48 : decode cX4_read 48 = .ok (.goto (-39), 3) := by decide +kernel
theorem dX4_read_51 : decode cX4_read 51 = .ok (.iload_n 1, 1) := by decide +kernel
theorem dX4_read_52 : decode cX4_read 52 = .ok (.ifCond .ne 8, 3) := by decide +kernel
theorem dX4_read_55 : decode cX4_read 55 = .ok (.bipush (-6), 2) := by decide +kernel
theorem dX4_read_57 : decode cX4_read 57 = .ok (.goto 7, 3) := by decide +kernel
theorem dX4_read_60 : decode cX4_read 60 = .ok (.aload_n 0, 1) := by decide +kernel
theorem dX4_read_61 : decode cX4_read 61 = .ok (.getfield 27, 3) := by decide +kernel
theorem dX4_read_64 : decode cX4_read 64 = .ok (.ireturn, 1) := by decide +kernel
theorem dX4_afterSign_0 : decode cX4_afterSign 0 = .ok (.iload_n 1, 1) := by decide +kernel
theorem dX4_afterSign_1 : decode cX4_afterSign 1 = .ok (.tableswitch 45 0 2 #[27, 33, 39], 27) := by decide +kernel
theorem dX4_afterSign_28 : decode cX4_afterSign 28 = .ok (.aload_n 0, 1) := by decide +kernel
theorem dX4_afterSign_29 : decode cX4_afterSign 29 = .ok (.iload_n 2, 1) := by decide +kernel
theorem dX4_afterSign_30 : decode cX4_afterSign 30 = .ok (.invokevirtual 38, 3) := by decide +kernel
theorem dX4_afterSign_33 : decode cX4_afterSign 33 = .ok (.ireturn, 1) := by decide +kernel
theorem dX4_afterSign_34 : decode cX4_afterSign 34 = .ok (.aload_n 0, 1) := by decide +kernel
theorem dX4_afterSign_35 : decode cX4_afterSign 35 = .ok (.iload_n 2, 1) := by decide +kernel
theorem dX4_afterSign_36 : decode cX4_afterSign 36 = .ok (.invokevirtual 42, 3) := by decide +kernel
theorem dX4_afterSign_39 : decode cX4_afterSign 39 = .ok (.ireturn, 1) := by decide +kernel
theorem dX4_afterSign_40 : decode cX4_afterSign 40 = .ok (.aload_n 0, 1) := by decide +kernel
theorem dX4_afterSign_41 : decode cX4_afterSign 41 = .ok (.iload_n 2, 1) := by decide +kernel
theorem dX4_afterSign_42 : decode cX4_afterSign 42 = .ok (.invokevirtual 45, 3) := by decide +kernel
theorem dX4_afterSign_45 : decode cX4_afterSign 45 = .ok (.ireturn, 1) := by decide +kernel
theorem dX4_afterSign_46 : decode cX4_afterSign 46 = .ok (.aload_n 0, 1) := by decide +kernel
theorem dX4_afterSign_47 : decode cX4_afterSign 47 = .ok (.iload_n 2, 1) := by decide +kernel
theorem dX4_afterSign_48 : decode cX4_afterSign 48 = .ok (.invokevirtual 48, 3) := by decide +kernel
theorem dX4_afterSign_51 : decode cX4_afterSign 51 = .ok (.ireturn, 1) := by decide +kernel
theorem dX4_begin_0 : decode cX4_begin 0 = .ok (.aload_n 0, 1) := by decide +kernel
theorem dX4_begin_1 : decode cX4_begin 1 = .ok (.getfield 18, 3) := by decide +kernel
theorem dX4_begin_4 : decode cX4_begin 4 = .ok (.aload_n 0, 1) := by decide +kernel
theorem dX4_begin_5 : decode cX4_begin 5 = .ok (.getfield 31, 3) := by decide +kernel
theorem dX4_begin_8 : decode cX4_begin 8 = .ok (.iconst 0, 1) := by decide +kernel
theorem dX4_begin_9 : decode cX4_begin 9 = .ok (.iastore, 1) := by decide +kernel
theorem dX4_begin_10 : decode cX4_begin 10 = .ok (.aload_n 0, 1) := by decide +kernel
theorem dX4_begin_11 : decode cX4_begin 11 = .ok (.getfield 21, 3) := by decide +kernel
theorem dX4_begin_14 : decode cX4_begin 14 = .ok (.aload_n 0, 1) := by decide +kernel
theorem dX4_begin_15 : decode cX4_begin 15 = .ok (.getfield 31, 3) := by decide +kernel
theorem dX4_begin_18 : decode cX4_begin 18 = .ok (.iconst 0, 1) := by decide +kernel
theorem dX4_begin_19 : decode cX4_begin 19 = .ok (.iastore, 1) := by decide +kernel
theorem dX4_begin_20 : decode cX4_begin 20 = .ok (.aload_n 0, 1) := by decide +kernel
theorem dX4_begin_21 : decode cX4_begin 21 = .ok (.getfield 24, 3) := by decide +kernel
theorem dX4_begin_24 : decode cX4_begin 24 = .ok (.aload_n 0, 1) := by decide +kernel
theorem dX4_begin_25 : decode cX4_begin 25 = .ok (.getfield 31, 3) := by decide +kernel
theorem dX4_begin_28 : decode cX4_begin 28 = .ok (.iconst 0, 1) := by decide +kernel
theorem dX4_begin_29 : decode cX4_begin 29 = .ok (.iastore, 1) := by decide +kernel
theorem dX4_begin_30 : decode cX4_begin 30 = .ok (.aload_n 0, 1) := by decide +kernel
theorem dX4_begin_31 : decode cX4_begin 31 = .ok (.getfield 15, 3) := by decide +kernel
theorem dX4_begin_34 : decode cX4_begin 34 = .ok (.aload_n 0, 1) := by decide +kernel
theorem dX4_begin_35 : decode cX4_begin 35 = .ok (.getfield 31, 3) := by decide +kernel
theorem dX4_begin_38 : decode cX4_begin 38 = .ok (.iload_n 1, 1) := by decide +kernel
theorem dX4_begin_39 : decode cX4_begin 39 = .ok (.iastore, 1) := by decide +kernel
theorem dX4_begin_40 : decode cX4_begin 40 = .ok (.iload_n 1, 1) := by decide +kernel
theorem dX4_begin_41 : decode cX4_begin 41 = .ok (.bipush 65, 2) := by decide +kernel
theorem dX4_begin_43 : decode cX4_begin 43 = .ok (.bipush 70, 2) := by decide +kernel
theorem dX4_begin_45 : decode cX4_begin 45 = .ok (.invokestatic 51, 3) := by decide +kernel
theorem dX4_begin_48 : decode cX4_begin 48 = .ok (.ifCond .eq 18, 3) := by decide +kernel
theorem dX4_begin_51 : decode cX4_begin 51 = .ok (.aload_n 0, 1) := by decide +kernel
theorem dX4_begin_52 : decode cX4_begin 52 = .ok (.getfield 18, 3) := by decide +kernel
theorem dX4_begin_55 : decode cX4_begin 55 = .ok (.aload_n 0, 1) := by decide +kernel
theorem dX4_begin_56 : decode cX4_begin 56 = .ok (.getfield 31, 3) := by decide +kernel
theorem dX4_begin_59 : decode cX4_begin 59 = .ok (.iload_n 1, 1) := by decide +kernel
theorem dX4_begin_60 : decode cX4_begin 60 = .ok (.bipush 65, 2) := by decide +kernel
theorem dX4_begin_62 : decode cX4_begin 62 = .ok (.isub, 1) := by decide +kernel
theorem dX4_begin_63 : decode cX4_begin 63 = .ok (.iastore, 1) := by decide +kernel
theorem dX4_begin_64 : decode cX4_begin 64 = .ok (.iconst 1, 1) := by decide +kernel
theorem dX4_begin_65 : decode cX4_begin 65 = .ok (.ireturn, 1) := by decide +kernel
theorem dX4_begin_66 : decode cX4_begin 66 = .ok (.iload_n 1, 1) := by decide +kernel
theorem dX4_begin_67 : decode cX4_begin 67 = .ok (.bipush 60, 2) := by decide +kernel
theorem dX4_begin_69 : decode cX4_begin 69 = .ok (.if_icmp .eq 9, 3) := by decide +kernel
theorem dX4_begin_72 : decode cX4_begin 72 = .ok (.iload_n 1, 1) := by decide +kernel
theorem dX4_begin_73 : decode cX4_begin 73 = .ok (.bipush 62, 2) := by decide +kernel
theorem dX4_begin_75 : decode cX4_begin 75 = .ok (.if_icmp .ne 5, 3) := by decide +kernel
theorem dX4_begin_78 : decode cX4_begin 78 = .ok (.iconst 3, 1) := by decide +kernel
theorem dX4_begin_79 : decode cX4_begin 79 = .ok (.ireturn, 1) := by decide +kernel
theorem dX4_begin_80 : decode cX4_begin 80 = .ok (.iload_n 1, 1) := by decide +kernel
theorem dX4_begin_81 : decode cX4_begin 81 = .ok (.bipush 46, 2) := by decide +kernel
theorem dX4_begin_83 : decode cX4_begin 83 = .ok (.if_icmp .ne 10, 3) := by decide +kernel
theorem dX4_begin_86 : decode cX4_begin 86 = .ok (.aload_n 0, 1) := by decide +kernel
theorem dX4_begin_87 : decode cX4_begin 87 = .ok (.invokevirtual 55, 3) := by decide +kernel
theorem dX4_begin_90 : decode cX4_begin 90 = .ok (.goto 4, 3) := by decide +kernel
theorem dX4_begin_93 : decode cX4_begin 93 = .ok (.iconst 4, 1) := by decide +kernel
theorem dX4_begin_94 : decode cX4_begin 94 = .ok (.ireturn, 1) := by decide +kernel
theorem dX4_readVerb_0 : decode cX4_readVerb 0 = .ok (.aload_n 0, 1) := by decide +kernel
theorem dX4_readVerb_1 : decode cX4_readVerb 1 = .ok (.getfield 15, 3) := by decide +kernel
theorem dX4_readVerb_4 : decode cX4_readVerb 4 = .ok (.aload_n 0, 1) := by decide +kernel
theorem dX4_readVerb_5 : decode cX4_readVerb 5 = .ok (.getfield 31, 3) := by decide +kernel
theorem dX4_readVerb_8 : decode cX4_readVerb 8 = .ok (.iload_n 1, 1) := by decide +kernel
theorem dX4_readVerb_9 : decode cX4_readVerb 9 = .ok (.iastore, 1) := by decide +kernel
theorem dX4_readVerb_10 : decode cX4_readVerb 10 = .ok (.iload_n 1, 1) := by decide +kernel
theorem dX4_readVerb_11 : decode cX4_readVerb 11 = .ok (.lookupswitch 74 #[(40, 67), (41, 67), (43, 65), (45, 65), (47, 67), (61, 69), (120, 69)], 65) := by decide +kernel
theorem dX4_readVerb_76 : decode cX4_readVerb 76 = .ok (.iconst 3, 1) := by decide +kernel
theorem dX4_readVerb_77 : decode cX4_readVerb 77 = .ok (.ireturn, 1) := by decide +kernel
theorem dX4_readVerb_78 : decode cX4_readVerb 78 = .ok (.iconst 2, 1) := by decide +kernel
theorem dX4_readVerb_79 : decode cX4_readVerb 79 = .ok (.ireturn, 1) := by decide +kernel
theorem dX4_readVerb_80 : decode cX4_readVerb 80 = .ok (.aload_n 0, 1) := by decide +kernel
theorem dX4_readVerb_81 : decode cX4_readVerb 81 = .ok (.invokevirtual 55, 3) := by decide +kernel
theorem dX4_readVerb_84 : decode cX4_readVerb 84 = .ok (.ireturn, 1) := by decide +kernel
theorem dX4_readVerb_85 : decode cX4_readVerb 85 = .ok (.iconst 4, 1) := by decide +kernel
theorem dX4_readVerb_86 : decode cX4_readVerb 86 = .ok (.ireturn, 1) := by decide +kernel
theorem dX4_readPlace_0 : decode cX4_readPlace 0 = .ok (.aload_n 0, 1) := by decide +kernel
theorem dX4_readPlace_1 : decode cX4_readPlace 1 = .ok (.getfield 15, 3) := by decide +kernel
theorem dX4_readPlace_4 : decode cX4_readPlace 4 = .ok (.aload_n 0, 1) := by decide +kernel
theorem dX4_readPlace_5 : decode cX4_readPlace 5 = .ok (.getfield 31, 3) := by decide +kernel
theorem dX4_readPlace_8 : decode cX4_readPlace 8 = .ok (.iaload, 1) := by decide +kernel
theorem dX4_readPlace_9 : decode cX4_readPlace 9 = .ok (.bipush 47, 2) := by decide +kernel
theorem dX4_readPlace_11 : decode cX4_readPlace 11 = .ok (.if_icmp .ne 8, 3) := by decide +kernel
theorem dX4_readPlace_14 : decode cX4_readPlace 14 = .ok (.bipush 8, 2) := by decide +kernel
theorem dX4_readPlace_16 : decode cX4_readPlace 16 = .ok (.goto 4, 3) := by decide +kernel
theorem dX4_readPlace_19 : decode cX4_readPlace 19 = .ok (.iconst 4, 1) := by decide +kernel
theorem dX4_readPlace_20 : decode cX4_readPlace 20 = .ok (.istore_n 2, 1) := by decide +kernel
theorem dX4_readPlace_21 : decode cX4_readPlace 21 = .ok (.iload_n 1, 1) := by decide +kernel
theorem dX4_readPlace_22 : decode cX4_readPlace 22 = .ok (.bipush 48, 2) := by decide +kernel
theorem dX4_readPlace_24 : decode cX4_readPlace 24 = .ok (.bipush 48, 2) := by decide +kernel
theorem dX4_readPlace_26 : decode cX4_readPlace 26 = .ok (.iload_n 2, 1) := by decide +kernel
theorem dX4_readPlace_27 : decode cX4_readPlace 27 = .ok (.iadd, 1) := by decide +kernel
theorem dX4_readPlace_28 : decode cX4_readPlace 28 = .ok (.iconst 1, 1) := by decide +kernel
theorem dX4_readPlace_29 : decode cX4_readPlace 29 = .ok (.isub, 1) := by decide +kernel
theorem dX4_readPlace_30 : decode cX4_readPlace 30 = .ok (.invokestatic 51, 3) := by decide +kernel
theorem dX4_readPlace_33 : decode cX4_readPlace 33 = .ok (.ifCond .ne 5, 3) := by decide +kernel
theorem dX4_readPlace_36 : decode cX4_readPlace 36 = .ok (.iconst 4, 1) := by decide +kernel
theorem dX4_readPlace_37 : decode cX4_readPlace 37 = .ok (.ireturn, 1) := by decide +kernel
theorem dX4_readPlace_38 : decode cX4_readPlace 38 = .ok (.aload_n 0, 1) := by decide +kernel
theorem dX4_readPlace_39 : decode cX4_readPlace 39 = .ok (.getfield 21, 3) := by decide +kernel
theorem dX4_readPlace_42 : decode cX4_readPlace 42 = .ok (.aload_n 0, 1) := by decide +kernel
theorem dX4_readPlace_43 : decode cX4_readPlace 43 = .ok (.getfield 31, 3) := by decide +kernel
theorem dX4_readPlace_46 : decode cX4_readPlace 46 = .ok (.iload_n 1, 1) := by decide +kernel
theorem dX4_readPlace_47 : decode cX4_readPlace 47 = .ok (.bipush 48, 2) := by decide +kernel
theorem dX4_readPlace_49 : decode cX4_readPlace 49 = .ok (.isub, 1) := by decide +kernel
theorem dX4_readPlace_50 : decode cX4_readPlace 50 = .ok (.iastore, 1) := by decide +kernel
theorem dX4_readPlace_51 : decode cX4_readPlace 51 = .ok (.iconst 3, 1) := by decide +kernel
theorem dX4_readPlace_52 : decode cX4_readPlace 52 = .ok (.ireturn, 1) := by decide +kernel
theorem dX4_readNumber_0 : decode cX4_readNumber 0 = .ok (.iload_n 1, 1) := by decide +kernel
theorem dX4_readNumber_1 : decode cX4_readNumber 1 = .ok (.bipush 49, 2) := by decide +kernel
theorem dX4_readNumber_3 : decode cX4_readNumber 3 = .ok (.bipush 57, 2) := by decide +kernel
theorem dX4_readNumber_5 : decode cX4_readNumber 5 = .ok (.invokestatic 51, 3) := by decide +kernel
theorem dX4_readNumber_8 : decode cX4_readNumber 8 = .ok (.ifCond .ne 5, 3) := by decide +kernel
theorem dX4_readNumber_11 : decode cX4_readNumber 11 = .ok (.iconst 4, 1) := by decide +kernel
theorem dX4_readNumber_12 : decode cX4_readNumber 12 = .ok (.ireturn, 1) := by decide +kernel
theorem dX4_readNumber_13 : decode cX4_readNumber 13 = .ok (.aload_n 0, 1) := by decide +kernel
theorem dX4_readNumber_14 : decode cX4_readNumber 14 = .ok (.getfield 24, 3) := by decide +kernel
theorem dX4_readNumber_17 : decode cX4_readNumber 17 = .ok (.aload_n 0, 1) := by decide +kernel
theorem dX4_readNumber_18 : decode cX4_readNumber 18 = .ok (.getfield 31, 3) := by decide +kernel
theorem dX4_readNumber_21 : decode cX4_readNumber 21 = .ok (.iload_n 1, 1) := by decide +kernel
theorem dX4_readNumber_22 : decode cX4_readNumber 22 = .ok (.bipush 48, 2) := by decide +kernel
theorem dX4_readNumber_24 : decode cX4_readNumber 24 = .ok (.isub, 1) := by decide +kernel
theorem dX4_readNumber_25 : decode cX4_readNumber 25 = .ok (.iastore, 1) := by decide +kernel
theorem dX4_readNumber_26 : decode cX4_readNumber 26 = .ok (.aload_n 0, 1) := by decide +kernel
theorem dX4_readNumber_27 : decode cX4_readNumber 27 = .ok (.invokevirtual 55, 3) := by decide +kernel
theorem dX4_readNumber_30 : decode cX4_readNumber 30 = .ok (.ireturn, 1) := by decide +kernel
theorem dX4_end_0 : decode cX4_end 0 = .ok (.aload_n 0, 1) := by decide +kernel
theorem dX4_end_1 : decode cX4_end 1 = .ok (.dup, 1) := by decide +kernel
theorem dX4_end_2 : decode cX4_end 2 = .ok (.getfield 31, 3) := by decide +kernel
theorem dX4_end_5 : decode cX4_end 5 = .ok (.iconst 1, 1) := by decide +kernel
theorem dX4_end_6 : decode cX4_end 6 = .ok (.iadd, 1) := by decide +kernel
theorem dX4_end_7 : decode cX4_end 7 = .ok (.putfield 31, 3) := by decide +kernel
theorem dX4_end_10 : decode cX4_end 10 = .ok (.iconst 0, 1) := by decide +kernel
theorem dX4_end_11 : decode cX4_end 11 = .ok (.ireturn, 1) := by decide +kernel
theorem dX5_init_0 : decode cX5_init 0 = .ok (.aload_n 0, 1) := by decide +kernel
theorem dX5_init_1 : decode cX5_init 1 = .ok (.invokespecial 3, 3) := by decide +kernel
theorem dX5_init_4 : decode cX5_init 4 = .ok (.aload_n 0, 1) := by decide +kernel
theorem dX5_init_5 : decode cX5_init 5 = .ok (.bipush 60, 2) := by decide +kernel
theorem dX5_init_7 : decode cX5_init 7 = .ok (.putfield 9, 3) := by decide +kernel
theorem dX5_init_10 : decode cX5_init 10 = .ok (.aload_n 0, 1) := by decide +kernel
theorem dX5_init_11 : decode cX5_init 11 = .ok (.bipush 7, 2) := by decide +kernel
theorem dX5_init_13 : decode cX5_init 13 = .ok (.newarray .int, 2) := by decide +kernel
theorem dX5_init_15 : decode cX5_init 15 = .ok (.putfield 15, 3) := by decide +kernel
theorem dX5_init_18 : decode cX5_init 18 = .ok (.aload_n 0, 1) := by decide +kernel
theorem dX5_init_19 : decode cX5_init 19 = .ok (.bipush 6, 2) := by decide +kernel
theorem dX5_init_21 : decode cX5_init 21 = .ok (.newarray .int, 2) := by decide +kernel
theorem dX5_init_23 : decode cX5_init 23 = .ok (.putfield 19, 3) := by decide +kernel
theorem dX5_init_26 : decode cX5_init 26 = .ok (.aload_n 0, 1) := by decide +kernel
theorem dX5_init_27 : decode cX5_init 27 = .ok (.bipush 6, 2) := by decide +kernel
theorem dX5_init_29 : decode cX5_init 29 = .ok (.newarray .int, 2) := by decide +kernel
theorem dX5_init_31 : decode cX5_init 31 = .ok (.putfield 22, 3) := by decide +kernel
theorem dX5_init_34 : decode cX5_init 34 = .ok (.aload_n 0, 1) := by decide +kernel
theorem dX5_init_35 : decode cX5_init 35 = .ok (.bipush 6, 2) := by decide +kernel
theorem dX5_init_37 : decode cX5_init 37 = .ok (.newarray .int, 2) := by decide +kernel
theorem dX5_init_39 : decode cX5_init 39 = .ok (.putfield 25, 3) := by decide +kernel
theorem dX5_init_42 : decode cX5_init 42 = .ok (.aload_n 0, 1) := by decide +kernel
theorem dX5_init_43 : decode cX5_init 43 = .ok (.bipush 8, 2) := by decide +kernel
theorem dX5_init_45 : decode cX5_init 45 = .ok (.newarray .int, 2) := by decide +kernel
theorem dX5_init_47 : decode cX5_init 47 = .ok (.putfield 28, 3) := by decide +kernel
theorem dX5_init_50 : decode cX5_init 50 = .ok (.aload_n 0, 1) := by decide +kernel
theorem dX5_init_51 : decode cX5_init 51 = .ok (.iconst 4, 1) := by decide +kernel
theorem dX5_init_52 : decode cX5_init 52 = .ok (.newarray .int, 2) := by decide +kernel
theorem dX5_init_54 : decode cX5_init 54 = .ok (.putfield 31, 3) := by decide +kernel
theorem dX5_init_57 : decode cX5_init 57 = .ok (.aload_n 0, 1) := by decide +kernel
theorem dX5_init_58 : decode cX5_init 58 = .ok (.iconst 4, 1) := by decide +kernel
theorem dX5_init_59 : decode cX5_init 59 = .ok (.newarray .int, 2) := by decide +kernel
theorem dX5_init_61 : decode cX5_init 61 = .ok (.putfield 34, 3) := by decide +kernel
theorem dX5_init_64 : decode cX5_init 64 = .ok (.aload_n 0, 1) := by decide +kernel
theorem dX5_init_65 : decode cX5_init 65 = .ok (.iconst 4, 1) := by decide +kernel
theorem dX5_init_66 : decode cX5_init 66 = .ok (.newarray .int, 2) := by decide +kernel
theorem dX5_init_68 : decode cX5_init 68 = .ok (.putfield 37, 3) := by decide +kernel
theorem dX5_init_71 : decode cX5_init 71 = .ok (.aload_n 0, 1) := by decide +kernel
theorem dX5_init_72 : decode cX5_init 72 = .ok (.bipush 8, 2) := by decide +kernel
theorem dX5_init_74 : decode cX5_init 74 = .ok (.newarray .int, 2) := by decide +kernel
theorem dX5_init_76 : decode cX5_init 76 = .ok (.putfield 40, 3) := by decide +kernel
theorem dX5_init_79 : decode cX5_init 79 = .ok (.aload_n 0, 1) := by decide +kernel
theorem dX5_init_80 : decode cX5_init 80 = .ok (.bipush 8, 2) := by decide +kernel
theorem dX5_init_82 : decode cX5_init 82 = .ok (.newarray .int, 2) := by decide +kernel
theorem dX5_init_84 : decode cX5_init 84 = .ok (.putfield 43, 3) := by decide +kernel
theorem dX5_init_87 : decode cX5_init 87 = .ok (.aload_n 0, 1) := by decide +kernel
theorem dX5_init_88 : decode cX5_init 88 = .ok (.getfield 19, 3) := by decide +kernel
theorem dX5_init_91 : decode cX5_init 91 = .ok (.bipush 100, 2) := by decide +kernel
theorem dX5_init_93 : decode cX5_init 93 = .ok (.invokestatic 46, 3) := by decide +kernel
theorem dX5_init_96 : decode cX5_init 96 = .ok (.aload_n 0, 1) := by decide +kernel
theorem dX5_init_97 : decode cX5_init 97 = .ok (.getfield 31, 3) := by decide +kernel
theorem dX5_init_100 : decode cX5_init 100 = .ok (.sipush 600, 3) := by decide +kernel
theorem dX5_init_103 : decode cX5_init 103 = .ok (.invokestatic 46, 3) := by decide +kernel
theorem dX5_init_106 : decode cX5_init 106 = .ok (.return_, 1) := by decide +kernel
theorem dX5_become_0 : decode cX5_become 0 = .ok (.aload_n 0, 1) := by decide +kernel
theorem dX5_become_1 : decode cX5_become 1 = .ok (.aload_n 1, 1) := by decide +kernel
theorem dX5_become_2 : decode cX5_become 2 = .ok (.getfield 9, 3) := by decide +kernel
theorem dX5_become_5 : decode cX5_become 5 = .ok (.putfield 9, 3) := by decide +kernel
theorem dX5_become_8 : decode cX5_become 8 = .ok (.aload_n 0, 1) := by decide +kernel
theorem dX5_become_9 : decode cX5_become 9 = .ok (.aload_n 1, 1) := by decide +kernel
theorem dX5_become_10 : decode cX5_become 10 = .ok (.getfield 52, 3) := by decide +kernel
theorem dX5_become_13 : decode cX5_become 13 = .ok (.putfield 52, 3) := by decide +kernel
theorem dX5_become_16 : decode cX5_become 16 = .ok (.aload_n 0, 1) := by decide +kernel
theorem dX5_become_17 : decode cX5_become 17 = .ok (.aload_n 1, 1) := by decide +kernel
theorem dX5_become_18 : decode cX5_become 18 = .ok (.getfield 55, 3) := by decide +kernel
theorem dX5_become_21 : decode cX5_become 21 = .ok (.putfield 55, 3) := by decide +kernel
theorem dX5_become_24 : decode cX5_become 24 = .ok (.aload_n 1, 1) := by decide +kernel
theorem dX5_become_25 : decode cX5_become 25 = .ok (.getfield 15, 3) := by decide +kernel
theorem dX5_become_28 : decode cX5_become 28 = .ok (.iconst 0, 1) := by decide +kernel
theorem dX5_become_29 : decode cX5_become 29 = .ok (.aload_n 0, 1) := by decide +kernel
theorem dX5_become_30 : decode cX5_become 30 = .ok (.getfield 15, 3) := by decide +kernel
theorem dX5_become_33 : decode cX5_become 33 = .ok (.iconst 0, 1) := by decide +kernel
theorem dX5_become_34 : decode cX5_become 34 = .ok (.bipush 7, 2) := by decide +kernel
theorem dX5_become_36 : decode cX5_become 36 = .ok (.invokestatic 58, 3) := by decide +kernel
theorem dX5_become_39 : decode cX5_become 39 = .ok (.aload_n 1, 1) := by decide +kernel
theorem dX5_become_40 : decode cX5_become 40 = .ok (.getfield 19, 3) := by decide +kernel
theorem dX5_become_43 : decode cX5_become 43 = .ok (.iconst 0, 1) := by decide +kernel
theorem dX5_become_44 : decode cX5_become 44 = .ok (.aload_n 0, 1) := by decide +kernel
theorem dX5_become_45 : decode cX5_become 45 = .ok (.getfield 19, 3) := by decide +kernel
theorem dX5_become_48 : decode cX5_become 48 = .ok (.iconst 0, 1) := by decide +kernel
theorem dX5_become_49 : decode cX5_become 49 = .ok (.bipush 6, 2) := by decide +kernel
theorem dX5_become_51 : decode cX5_become 51 = .ok (.invokestatic 58, 3) := by decide +kernel
theorem dX5_become_54 : decode cX5_become 54 = .ok (.aload_n 1, 1) := by decide +kernel
theorem dX5_become_55 : decode cX5_become 55 = .ok (.getfield 22, 3) := by decide +kernel
theorem dX5_become_58 : decode cX5_become 58 = .ok (.iconst 0, 1) := by decide +kernel
theorem dX5_become_59 : decode cX5_become 59 = .ok (.aload_n 0, 1) := by decide +kernel
theorem dX5_become_60 : decode cX5_become 60 = .ok (.getfield 22, 3) := by decide +kernel
theorem dX5_become_63 : decode cX5_become 63 = .ok (.iconst 0, 1) := by decide +kernel
theorem dX5_become_64 : decode cX5_become 64 = .ok (.bipush 6, 2) := by decide +kernel
theorem dX5_become_66 : decode cX5_become 66 = .ok (.invokestatic 58, 3) := by decide +kernel
theorem dX5_become_69 : decode cX5_become 69 = .ok (.aload_n 1, 1) := by decide +kernel
theorem dX5_become_70 : decode cX5_become 70 = .ok (.getfield 25, 3) := by decide +kernel
theorem dX5_become_73 : decode cX5_become 73 = .ok (.iconst 0, 1) := by decide +kernel
theorem dX5_become_74 : decode cX5_become 74 = .ok (.aload_n 0, 1) := by decide +kernel
theorem dX5_become_75 : decode cX5_become 75 = .ok (.getfield 25, 3) := by decide +kernel
theorem dX5_become_78 : decode cX5_become 78 = .ok (.iconst 0, 1) := by decide +kernel
theorem dX5_become_79 : decode cX5_become 79 = .ok (.bipush 6, 2) := by decide +kernel
theorem dX5_become_81 : decode cX5_become 81 = .ok (.invokestatic 58, 3) := by decide +kernel
theorem dX5_become_84 : decode cX5_become 84 = .ok (.aload_n 1, 1) := by decide +kernel
theorem dX5_become_85 : decode cX5_become 85 = .ok (.getfield 28, 3) := by decide +kernel
theorem dX5_become_88 : decode cX5_become 88 = .ok (.iconst 0, 1) := by decide +kernel
theorem dX5_become_89 : decode cX5_become 89 = .ok (.aload_n 0, 1) := by decide +kernel
theorem dX5_become_90 : decode cX5_become 90 = .ok (.getfield 28, 3) := by decide +kernel
theorem dX5_become_93 : decode cX5_become 93 = .ok (.iconst 0, 1) := by decide +kernel
theorem dX5_become_94 : decode cX5_become 94 = .ok (.bipush 8, 2) := by decide +kernel
theorem dX5_become_96 : decode cX5_become 96 = .ok (.invokestatic 58, 3) := by decide +kernel
theorem dX5_become_99 : decode cX5_become 99 = .ok (.aload_n 1, 1) := by decide +kernel
theorem dX5_become_100 : decode cX5_become 100 = .ok (.getfield 31, 3) := by decide +kernel
theorem dX5_become_103 : decode cX5_become 103 = .ok (.iconst 0, 1) := by decide +kernel
theorem dX5_become_104 : decode cX5_become 104 = .ok (.aload_n 0, 1) := by decide +kernel
theorem dX5_become_105 : decode cX5_become 105 = .ok (.getfield 31, 3) := by decide +kernel
theorem dX5_become_108 : decode cX5_become 108 = .ok (.iconst 0, 1) := by decide +kernel
theorem dX5_become_109 : decode cX5_become 109 = .ok (.iconst 4, 1) := by decide +kernel
theorem dX5_become_110 : decode cX5_become 110 = .ok (.invokestatic 58, 3) := by decide +kernel
theorem dX5_become_113 : decode cX5_become 113 = .ok (.aload_n 1, 1) := by decide +kernel
theorem dX5_become_114 : decode cX5_become 114 = .ok (.getfield 34, 3) := by decide +kernel
theorem dX5_become_117 : decode cX5_become 117 = .ok (.iconst 0, 1) := by decide +kernel
theorem dX5_become_118 : decode cX5_become 118 = .ok (.aload_n 0, 1) := by decide +kernel
theorem dX5_become_119 : decode cX5_become 119 = .ok (.getfield 34, 3) := by decide +kernel
theorem dX5_become_122 : decode cX5_become 122 = .ok (.iconst 0, 1) := by decide +kernel
theorem dX5_become_123 : decode cX5_become 123 = .ok (.iconst 4, 1) := by decide +kernel
theorem dX5_become_124 : decode cX5_become 124 = .ok (.invokestatic 58, 3) := by decide +kernel
theorem dX5_become_127 : decode cX5_become 127 = .ok (.aload_n 1, 1) := by decide +kernel
theorem dX5_become_128 : decode cX5_become 128 = .ok (.getfield 37, 3) := by decide +kernel
theorem dX5_become_131 : decode cX5_become 131 = .ok (.iconst 0, 1) := by decide +kernel
theorem dX5_become_132 : decode cX5_become 132 = .ok (.aload_n 0, 1) := by decide +kernel
theorem dX5_become_133 : decode cX5_become 133 = .ok (.getfield 37, 3) := by decide +kernel
theorem dX5_become_136 : decode cX5_become 136 = .ok (.iconst 0, 1) := by decide +kernel
theorem dX5_become_137 : decode cX5_become 137 = .ok (.iconst 4, 1) := by decide +kernel
theorem dX5_become_138 : decode cX5_become 138 = .ok (.invokestatic 58, 3) := by decide +kernel
theorem dX5_become_141 : decode cX5_become 141 = .ok (.aload_n 1, 1) := by decide +kernel
theorem dX5_become_142 : decode cX5_become 142 = .ok (.getfield 40, 3) := by decide +kernel
theorem dX5_become_145 : decode cX5_become 145 = .ok (.iconst 0, 1) := by decide +kernel
theorem dX5_become_146 : decode cX5_become 146 = .ok (.aload_n 0, 1) := by decide +kernel
theorem dX5_become_147 : decode cX5_become 147 = .ok (.getfield 40, 3) := by decide +kernel
theorem dX5_become_150 : decode cX5_become 150 = .ok (.iconst 0, 1) := by decide +kernel
theorem dX5_become_151 : decode cX5_become 151 = .ok (.bipush 8, 2) := by decide +kernel
theorem dX5_become_153 : decode cX5_become 153 = .ok (.invokestatic 58, 3) := by decide +kernel
theorem dX5_become_156 : decode cX5_become 156 = .ok (.aload_n 1, 1) := by decide +kernel
theorem dX5_become_157 : decode cX5_become 157 = .ok (.getfield 43, 3) := by decide +kernel
theorem dX5_become_160 : decode cX5_become 160 = .ok (.iconst 0, 1) := by decide +kernel
theorem dX5_become_161 : decode cX5_become 161 = .ok (.aload_n 0, 1) := by decide +kernel
theorem dX5_become_162 : decode cX5_become 162 = .ok (.getfield 43, 3) := by decide +kernel
theorem dX5_become_165 : decode cX5_become 165 = .ok (.iconst 0, 1) := by decide +kernel
theorem dX5_become_166 : decode cX5_become 166 = .ok (.bipush 8, 2) := by decide +kernel
theorem dX5_become_168 : decode cX5_become 168 = .ok (.invokestatic 58, 3) := by decide +kernel
theorem dX5_become_171 : decode cX5_become 171 = .ok (.return_, 1) := by decide +kernel
theorem dX5_measure_0 : decode cX5_measure 0 = .ok (.aload_n 0, 1) := by decide +kernel
theorem dX5_measure_1 : decode cX5_measure 1 = .ok (.getfield 25, 3) := by decide +kernel
theorem dX5_measure_4 : decode cX5_measure 4 = .ok (.iload_n 1, 1) := by decide +kernel
theorem dX5_measure_5 : decode cX5_measure 5 = .ok (.iaload, 1) := by decide +kernel
theorem dX5_measure_6 : decode cX5_measure 6 = .ok (.ifCond .ne 10, 3) := by decide +kernel
theorem dX5_measure_9 : decode cX5_measure 9 = .ok (.aload_n 0, 1) := by decide +kernel
theorem dX5_measure_10 : decode cX5_measure 10 = .ok (.getfield 9, 3) := by decide +kernel
theorem dX5_measure_13 : decode cX5_measure 13 = .ok (.goto 9, 3) := by decide +kernel
theorem dX5_measure_16 : decode cX5_measure 16 = .ok (.aload_n 0, 1) := by decide +kernel
theorem dX5_measure_17 : decode cX5_measure 17 = .ok (.getfield 25, 3) := by decide +kernel
theorem dX5_measure_20 : decode cX5_measure 20 = .ok (.iload_n 1, 1) := by decide +kernel
theorem dX5_measure_21 : decode cX5_measure 21 = .ok (.iaload, 1) := by decide +kernel
theorem dX5_measure_22 : decode cX5_measure 22 = .ok (.ireturn, 1) := by decide +kernel
theorem dX5_hasMet_0 : decode cX5_hasMet 0 = .ok (.aload_n 0, 1) := by decide +kernel
theorem dX5_hasMet_1 : decode cX5_hasMet 1 = .ok (.getfield 34, 3) := by decide +kernel
theorem dX5_hasMet_4 : decode cX5_hasMet 4 = .ok (.iload_n 1, 1) := by decide +kernel
theorem dX5_hasMet_5 : decode cX5_hasMet 5 = .ok (.iaload, 1) := by decide +kernel
theorem dX5_hasMet_6 : decode cX5_hasMet 6 = .ok (.aload_n 0, 1) := by decide +kernel
theorem dX5_hasMet_7 : decode cX5_hasMet 7 = .ok (.getfield 37, 3) := by decide +kernel
theorem dX5_hasMet_10 : decode cX5_hasMet 10 = .ok (.iload_n 1, 1) := by decide +kernel
theorem dX5_hasMet_11 : decode cX5_hasMet 11 = .ok (.iaload, 1) := by decide +kernel
theorem dX5_hasMet_12 : decode cX5_hasMet 12 = .ok (.iadd, 1) := by decide +kernel
theorem dX5_hasMet_13 : decode cX5_hasMet 13 = .ok (.aload_n 0, 1) := by decide +kernel
theorem dX5_hasMet_14 : decode cX5_hasMet 14 = .ok (.getfield 31, 3) := by decide +kernel
theorem dX5_hasMet_17 : decode cX5_hasMet 17 = .ok (.iload_n 1, 1) := by decide +kernel
theorem dX5_hasMet_18 : decode cX5_hasMet 18 = .ok (.iaload, 1) := by decide +kernel
theorem dX5_hasMet_19 : decode cX5_hasMet 19 = .ok (.if_icmp .lt 7, 3) := by decide +kernel
theorem dX5_hasMet_22 : decode cX5_hasMet 22 = .ok (.iconst 1, 1) := by decide +kernel
theorem dX5_hasMet_23 : decode cX5_hasMet 23 = .ok (.goto 4, 3) := by decide +kernel
theorem dX5_hasMet_26 : decode cX5_hasMet 26 = .ok (.iconst 0, 1) := by decide +kernel
theorem dX5_hasMet_27 : decode cX5_hasMet 27 = .ok (.ireturn, 1) := by decide +kernel
theorem dX5_overlap_0 : decode cX5_overlap 0 = .ok (.aload_n 0, 1) := by decide +kernel
theorem dX5_overlap_1 : decode cX5_overlap 1 = .ok (.iload_n 1, 1) := by decide +kernel
theorem dX5_overlap_2 : decode cX5_overlap 2 = .ok (.invokevirtual 64, 3) := by decide +kernel
theorem dX5_overlap_5 : decode cX5_overlap 5 = .ok (.ifCond .eq 26, 3) := by decide +kernel
theorem dX5_overlap_8 : decode cX5_overlap 8 = .ok (.aload_n 0, 1) := by decide +kernel
theorem dX5_overlap_9 : decode cX5_overlap 9 = .ok (.getfield 34, 3) := by decide +kernel
theorem dX5_overlap_12 : decode cX5_overlap 12 = .ok (.iload_n 1, 1) := by decide +kernel
theorem dX5_overlap_13 : decode cX5_overlap 13 = .ok (.iaload, 1) := by decide +kernel
theorem dX5_overlap_14 : decode cX5_overlap 14 = .ok (.aload_n 0, 1) := by decide +kernel
theorem dX5_overlap_15 : decode cX5_overlap 15 = .ok (.getfield 37, 3) := by decide +kernel
theorem dX5_overlap_18 : decode cX5_overlap 18 = .ok (.iload_n 1, 1) := by decide +kernel
theorem dX5_overlap_19 : decode cX5_overlap 19 = .ok (.iaload, 1) := by decide +kernel
theorem dX5_overlap_20 : decode cX5_overlap 20 = .ok (.iadd, 1) := by decide +kernel
theorem dX5_overlap_21 : decode cX5_overlap 21 = .ok (.aload_n 0, 1) := by decide +kernel
theorem dX5_overlap_22 : decode cX5_overlap 22 = .ok (.getfield 31, 3) := by decide +kernel
theorem dX5_overlap_25 : decode cX5_overlap 25 = .ok (.iload_n 1, 1) := by decide +kernel
theorem dX5_overlap_26 : decode cX5_overlap 26 = .ok (.iaload, 1) := by decide +kernel
theorem dX5_overlap_27 : decode cX5_overlap 27 = .ok (.isub, 1) := by decide +kernel
theorem dX5_overlap_28 : decode cX5_overlap 28 = .ok (.goto 5, 3) := by decide +kernel
theorem dX5_overlap_31 : decode cX5_overlap 31 = .ok (.bipush (-6), 2) := by decide +kernel
theorem dX5_overlap_33 : decode cX5_overlap 33 = .ok (.ireturn, 1) := by decide +kernel
theorem dX5_ofOne_0 : decode cX5_ofOne 0 = .ok (.iload_n 2, 1) := by decide +kernel
theorem dX5_ofOne_1 : decode cX5_ofOne 1 = .ok (.tableswitch 58 0 3 #[31, 38, 45, 52], 31) := by decide +kernel
theorem dX5_ofOne_32 : decode cX5_ofOne 32 = .ok (.aload_n 0, 1) := by decide +kernel
theorem dX5_ofOne_33 : decode cX5_ofOne 33 = .ok (.getfield 19, 3) := by decide +kernel
theorem dX5_ofOne_36 : decode cX5_ofOne 36 = .ok (.iload_n 1, 1) := by decide +kernel
theorem dX5_ofOne_37 : decode cX5_ofOne 37 = .ok (.iaload, 1) := by decide +kernel
theorem dX5_ofOne_38 : decode cX5_ofOne 38 = .ok (.ireturn, 1) := by decide +kernel
theorem dX5_ofOne_39 : decode cX5_ofOne 39 = .ok (.aload_n 0, 1) := by decide +kernel
theorem dX5_ofOne_40 : decode cX5_ofOne 40 = .ok (.getfield 22, 3) := by decide +kernel
theorem dX5_ofOne_43 : decode cX5_ofOne 43 = .ok (.iload_n 1, 1) := by decide +kernel
theorem dX5_ofOne_44 : decode cX5_ofOne 44 = .ok (.iaload, 1) := by decide +kernel
theorem dX5_ofOne_45 : decode cX5_ofOne 45 = .ok (.ireturn, 1) := by decide +kernel
theorem dX5_ofOne_46 : decode cX5_ofOne 46 = .ok (.aload_n 0, 1) := by decide +kernel
theorem dX5_ofOne_47 : decode cX5_ofOne 47 = .ok (.getfield 25, 3) := by decide +kernel
theorem dX5_ofOne_50 : decode cX5_ofOne 50 = .ok (.iload_n 1, 1) := by decide +kernel
theorem dX5_ofOne_51 : decode cX5_ofOne 51 = .ok (.iaload, 1) := by decide +kernel
theorem dX5_ofOne_52 : decode cX5_ofOne 52 = .ok (.ireturn, 1) := by decide +kernel
theorem dX5_ofOne_53 : decode cX5_ofOne 53 = .ok (.aload_n 0, 1) := by decide +kernel
theorem dX5_ofOne_54 : decode cX5_ofOne 54 = .ok (.iload_n 1, 1) := by decide +kernel
theorem dX5_ofOne_55 : decode cX5_ofOne 55 = .ok (.invokevirtual 68, 3) := by decide +kernel
theorem dX5_ofOne_58 : decode cX5_ofOne 58 = .ok (.ireturn, 1) := by decide +kernel
theorem dX5_ofOne_59 : decode cX5_ofOne 59 = .ok (.bipush (-2), 2) := by decide +kernel
theorem dX5_ofOne_61 : decode cX5_ofOne 61 = .ok (.ireturn, 1) := by decide +kernel
theorem dX5_ofBridge_0 : decode cX5_ofBridge 0 = .ok (.iload_n 2, 1) := by decide +kernel
theorem dX5_ofBridge_1 : decode cX5_ofBridge 1 = .ok (.tableswitch 48 0 2 #[27, 34, 41], 27) := by decide +kernel
theorem dX5_ofBridge_28 : decode cX5_ofBridge 28 = .ok (.aload_n 0, 1) := by decide +kernel
theorem dX5_ofBridge_29 : decode cX5_ofBridge 29 = .ok (.getfield 31, 3) := by decide +kernel
theorem dX5_ofBridge_32 : decode cX5_ofBridge 32 = .ok (.iload_n 1, 1) := by decide +kernel
theorem dX5_ofBridge_33 : decode cX5_ofBridge 33 = .ok (.iaload, 1) := by decide +kernel
theorem dX5_ofBridge_34 : decode cX5_ofBridge 34 = .ok (.ireturn, 1) := by decide +kernel
theorem dX5_ofBridge_35 : decode cX5_ofBridge 35 = .ok (.aload_n 0, 1) := by decide +kernel
theorem dX5_ofBridge_36 : decode cX5_ofBridge 36 = .ok (.getfield 34, 3) := by decide +kernel
theorem dX5_ofBridge_39 : decode cX5_ofBridge 39 = .ok (.iload_n 1, 1) := by decide +kernel
theorem dX5_ofBridge_40 : decode cX5_ofBridge 40 = .ok (.iaload, 1) := by decide +kernel
theorem dX5_ofBridge_41 : decode cX5_ofBridge 41 = .ok (.ireturn, 1) := by decide +kernel
theorem dX5_ofBridge_42 : decode cX5_ofBridge 42 = .ok (.aload_n 0, 1) := by decide +kernel
theorem dX5_ofBridge_43 : decode cX5_ofBridge 43 = .ok (.getfield 37, 3) := by decide +kernel
theorem dX5_ofBridge_46 : decode cX5_ofBridge 46 = .ok (.iload_n 1, 1) := by decide +kernel
theorem dX5_ofBridge_47 : decode cX5_ofBridge 47 = .ok (.iaload, 1) := by decide +kernel
theorem dX5_ofBridge_48 : decode cX5_ofBridge 48 = .ok (.ireturn, 1) := by decide +kernel
theorem dX5_ofBridge_49 : decode cX5_ofBridge 49 = .ok (.bipush (-2), 2) := by decide +kernel
theorem dX5_ofBridge_51 : decode cX5_ofBridge 51 = .ok (.ireturn, 1) := by decide +kernel
theorem dX5_coins_0 : decode cX5_coins 0 = .ok (.iconst 0, 1) := by decide +kernel
theorem dX5_coins_1 : decode cX5_coins 1 = .ok (.istore_n 1, 1) := by decide +kernel
theorem dX5_coins_2 : decode cX5_coins 2 = .ok (.iconst 0, 1) := by decide +kernel
theorem dX5_coins_3 : decode cX5_coins 3 = .ok (.istore_n 2, 1) := by decide +kernel
theorem dX5_coins_4 : decode cX5_coins 4 = .ok (.iload_n 2, 1) := by decide +kernel
theorem dX5_coins_5 : decode cX5_coins 5 = .ok (.bipush 6, 2) := by decide +kernel
theorem dX5_coins_7 : decode cX5_coins 7 = .ok (.if_icmp .ge 18, 3) := by decide +kernel
theorem dX5_coins_10 : decode cX5_coins 10 = .ok (.iload_n 1, 1) := by decide +kernel
theorem dX5_coins_11 : decode cX5_coins 11 = .ok (.aload_n 0, 1) := by decide +kernel
theorem dX5_coins_12 : decode cX5_coins 12 = .ok (.getfield 19, 3) := by decide +kernel
theorem dX5_coins_15 : decode cX5_coins 15 = .ok (.iload_n 2, 1) := by decide +kernel
theorem dX5_coins_16 : decode cX5_coins 16 = .ok (.iaload, 1) := by decide +kernel
theorem dX5_coins_17 : decode cX5_coins 17 = .ok (.iadd, 1) := by decide +kernel
theorem dX5_coins_18 : decode cX5_coins 18 = .ok (.istore_n 1, 1) := by decide +kernel
theorem dX5_coins_19 : decode cX5_coins 19 = .ok (.iinc 2 1, 3) := by decide +kernel
theorem dX5_coins_22 : decode cX5_coins 22 = .ok (.goto (-18), 3) := by decide +kernel
theorem dX5_coins_25 : decode cX5_coins 25 = .ok (.iload_n 1, 1) := by decide +kernel
theorem dX5_coins_26 : decode cX5_coins 26 = .ok (.ireturn, 1) := by decide +kernel
theorem dX5_metBridges_0 : decode cX5_metBridges 0 = .ok (.iconst 0, 1) := by decide +kernel
theorem dX5_metBridges_1 : decode cX5_metBridges 1 = .ok (.istore_n 1, 1) := by decide +kernel
theorem dX5_metBridges_2 : decode cX5_metBridges 2 = .ok (.iconst 0, 1) := by decide +kernel
theorem dX5_metBridges_3 : decode cX5_metBridges 3 = .ok (.istore_n 2, 1) := by decide +kernel
theorem dX5_metBridges_4 : decode cX5_metBridges 4 = .ok (.iload_n 2, 1) := by decide +kernel
theorem dX5_metBridges_5 : decode cX5_metBridges 5 = .ok (.iconst 4, 1) := by decide +kernel
theorem dX5_metBridges_6 : decode cX5_metBridges 6 = .ok (.if_icmp .ge 20, 3) := by decide +kernel
theorem dX5_metBridges_9 : decode cX5_metBridges 9 = .ok (.aload_n 0, 1) := by decide +kernel
theorem dX5_metBridges_10 : decode cX5_metBridges 10 = .ok (.iload_n 2, 1) := by decide +kernel
theorem dX5_metBridges_11 : decode cX5_metBridges 11 = .ok (.invokevirtual 64, 3) := by decide +kernel
theorem dX5_metBridges_14 : decode cX5_metBridges 14 = .ok (.ifCond .eq 6, 3) := by decide +kernel
theorem dX5_metBridges_17 : decode cX5_metBridges 17 = .ok (.iinc 1 1, 3) := by decide +kernel
theorem dX5_metBridges_20 : decode cX5_metBridges 20 = .ok (.iinc 2 1, 3) := by decide +kernel
theorem dX5_metBridges_23 : decode cX5_metBridges 23 = .ok (.goto (-19), 3) := by decide +kernel
theorem dX5_metBridges_26 : decode cX5_metBridges 26 = .ok (.iload_n 1, 1) := by decide +kernel
theorem dX5_metBridges_27 : decode cX5_metBridges 27 = .ok (.ireturn, 1) := by decide +kernel
theorem dX5_nextInch_0 : decode cX5_nextInch 0 = .ok (.iload_n 1, 1) := by decide +kernel
theorem dX5_nextInch_1 : decode cX5_nextInch 1 = .ok (.aload_n 0, 1) := by decide +kernel
theorem dX5_nextInch_2 : decode cX5_nextInch 2 = .ok (.getfield 15, 3) := by decide +kernel
theorem dX5_nextInch_5 : decode cX5_nextInch 5 = .ok (.iload_n 2, 1) := by decide +kernel
theorem dX5_nextInch_6 : decode cX5_nextInch 6 = .ok (.bipush 7, 2) := by decide +kernel
theorem dX5_nextInch_8 : decode cX5_nextInch 8 = .ok (.invokestatic 72, 3) := by decide +kernel
theorem dX5_nextInch_11 : decode cX5_nextInch 11 = .ok (.iaload, 1) := by decide +kernel
theorem dX5_nextInch_12 : decode cX5_nextInch 12 = .ok (.iadd, 1) := by decide +kernel
theorem dX5_nextInch_13 : decode cX5_nextInch 13 = .ok (.invokestatic 78, 3) := by decide +kernel
theorem dX5_nextInch_16 : decode cX5_nextInch 16 = .ok (.ireturn, 1) := by decide +kernel
theorem dX5_hindrance_0 : decode cX5_hindrance 0 = .ok (.iload_n 1, 1) := by decide +kernel
theorem dX5_hindrance_1 : decode cX5_hindrance 1 = .ok (.lookupswitch 268 #[(40, 173), (41, 173), (43, 83), (45, 127), (46, 251), (60, 187), (61, 217), (62, 201), (120, 236)], 83) := by decide +kernel
theorem dX5_hindrance_84 : decode cX5_hindrance 84 = .ok (.aload_n 0, 1) := by decide +kernel
theorem dX5_hindrance_85 : decode cX5_hindrance 85 = .ok (.getfield 19, 3) := by decide +kernel
theorem dX5_hindrance_88 : decode cX5_hindrance 88 = .ok (.iload_n 2, 1) := by decide +kernel
theorem dX5_hindrance_89 : decode cX5_hindrance 89 = .ok (.iaload, 1) := by decide +kernel
theorem dX5_hindrance_90 : decode cX5_hindrance 90 = .ok (.iload 4, 2) := by decide +kernel
theorem dX5_hindrance_92 : decode cX5_hindrance 92 = .ok (.if_icmp .ge 7, 3) := by decide +kernel
theorem dX5_hindrance_95 : decode cX5_hindrance 95 = .ok (.iconst 1, 1) := by decide +kernel
theorem dX5_hindrance_96 : decode cX5_hindrance 96 = .ok (.goto 4, 3) := by decide +kernel
theorem dX5_hindrance_99 : decode cX5_hindrance 99 = .ok (.iconst 0, 1) := by decide +kernel
theorem dX5_hindrance_100 : decode cX5_hindrance 100 = .ok (.aload_n 0, 1) := by decide +kernel
theorem dX5_hindrance_101 : decode cX5_hindrance 101 = .ok (.getfield 22, 3) := by decide +kernel
theorem dX5_hindrance_104 : decode cX5_hindrance 104 = .ok (.iload_n 2, 1) := by decide +kernel
theorem dX5_hindrance_105 : decode cX5_hindrance 105 = .ok (.iaload, 1) := by decide +kernel
theorem dX5_hindrance_106 : decode cX5_hindrance 106 = .ok (.iload 4, 2) := by decide +kernel
theorem dX5_hindrance_108 : decode cX5_hindrance 108 = .ok (.aload_n 0, 1) := by decide +kernel
theorem dX5_hindrance_109 : decode cX5_hindrance 109 = .ok (.getfield 9, 3) := by decide +kernel
theorem dX5_hindrance_112 : decode cX5_hindrance 112 = .ok (.imul, 1) := by decide +kernel
theorem dX5_hindrance_113 : decode cX5_hindrance 113 = .ok (.iadd, 1) := by decide +kernel
theorem dX5_hindrance_114 : decode cX5_hindrance 114 = .ok (.ldc 81, 2) := by decide +kernel
theorem dX5_hindrance_116 : decode cX5_hindrance 116 = .ok (.if_icmp .le 7, 3) := by decide +kernel
theorem dX5_hindrance_119 : decode cX5_hindrance 119 = .ok (.iconst 1, 1) := by decide +kernel
theorem dX5_hindrance_120 : decode cX5_hindrance 120 = .ok (.goto 4, 3) := by decide +kernel
theorem dX5_hindrance_123 : decode cX5_hindrance 123 = .ok (.iconst 0, 1) := by decide +kernel
theorem dX5_hindrance_124 : decode cX5_hindrance 124 = .ok (.invokestatic 82, 3) := by decide +kernel
theorem dX5_hindrance_127 : decode cX5_hindrance 127 = .ok (.ireturn, 1) := by decide +kernel
theorem dX5_hindrance_128 : decode cX5_hindrance 128 = .ok (.aload_n 0, 1) := by decide +kernel
theorem dX5_hindrance_129 : decode cX5_hindrance 129 = .ok (.getfield 22, 3) := by decide +kernel
theorem dX5_hindrance_132 : decode cX5_hindrance 132 = .ok (.iload_n 2, 1) := by decide +kernel
theorem dX5_hindrance_133 : decode cX5_hindrance 133 = .ok (.iaload, 1) := by decide +kernel
theorem dX5_hindrance_134 : decode cX5_hindrance 134 = .ok (.iload 4, 2) := by decide +kernel
theorem dX5_hindrance_136 : decode cX5_hindrance 136 = .ok (.aload_n 0, 1) := by decide +kernel
theorem dX5_hindrance_137 : decode cX5_hindrance 137 = .ok (.iload_n 2, 1) := by decide +kernel
theorem dX5_hindrance_138 : decode cX5_hindrance 138 = .ok (.invokevirtual 68, 3) := by decide +kernel
theorem dX5_hindrance_141 : decode cX5_hindrance 141 = .ok (.imul, 1) := by decide +kernel
theorem dX5_hindrance_142 : decode cX5_hindrance 142 = .ok (.if_icmp .ge 7, 3) := by decide +kernel
theorem dX5_hindrance_145 : decode cX5_hindrance 145 = .ok (.iconst 1, 1) := by decide +kernel
theorem dX5_hindrance_146 : decode cX5_hindrance 146 = .ok (.goto 4, 3) := by decide +kernel
theorem dX5_hindrance_149 : decode cX5_hindrance 149 = .ok (.iconst 0, 1) := by decide +kernel
theorem dX5_hindrance_150 : decode cX5_hindrance 150 = .ok (.aload_n 0, 1) := by decide +kernel
theorem dX5_hindrance_151 : decode cX5_hindrance 151 = .ok (.getfield 19, 3) := by decide +kernel
theorem dX5_hindrance_154 : decode cX5_hindrance 154 = .ok (.iload_n 2, 1) := by decide +kernel
theorem dX5_hindrance_155 : decode cX5_hindrance 155 = .ok (.iaload, 1) := by decide +kernel
theorem dX5_hindrance_156 : decode cX5_hindrance 156 = .ok (.iload 4, 2) := by decide +kernel
theorem dX5_hindrance_158 : decode cX5_hindrance 158 = .ok (.iadd, 1) := by decide +kernel
theorem dX5_hindrance_159 : decode cX5_hindrance 159 = .ok (.sipush 9999, 3) := by decide +kernel
theorem dX5_hindrance_162 : decode cX5_hindrance 162 = .ok (.if_icmp .le 7, 3) := by decide +kernel
theorem dX5_hindrance_165 : decode cX5_hindrance 165 = .ok (.iconst 1, 1) := by decide +kernel
theorem dX5_hindrance_166 : decode cX5_hindrance 166 = .ok (.goto 4, 3) := by decide +kernel
theorem dX5_hindrance_169 : decode cX5_hindrance 169 = .ok (.iconst 0, 1) := by decide +kernel
theorem dX5_hindrance_170 : decode cX5_hindrance 170 = .ok (.invokestatic 82, 3) := by decide +kernel
theorem dX5_hindrance_173 : decode cX5_hindrance 173 = .ok (.ireturn, 1) := by decide +kernel
theorem dX5_hindrance_174 : decode cX5_hindrance 174 = .ok (.aload_n 0, 1) := by decide +kernel
theorem dX5_hindrance_175 : decode cX5_hindrance 175 = .ok (.iload_n 3, 1) := by decide +kernel
theorem dX5_hindrance_176 : decode cX5_hindrance 176 = .ok (.invokevirtual 64, 3) := by decide +kernel
theorem dX5_hindrance_179 : decode cX5_hindrance 179 = .ok (.ifCond .eq 7, 3) := by decide +kernel
theorem dX5_hindrance_182 : decode cX5_hindrance 182 = .ok (.iconst 3, 1) := by decide +kernel
theorem dX5_hindrance_183 : decode cX5_hindrance 183 = .ok (.goto 4, 3) := by decide +kernel
theorem dX5_hindrance_186 : decode cX5_hindrance 186 = .ok (.iconst 0, 1) := by decide +kernel
theorem dX5_hindrance_187 : decode cX5_hindrance 187 = .ok (.ireturn, 1) := by decide +kernel
theorem dX5_hindrance_188 : decode cX5_hindrance 188 = .ok (.aload_n 0, 1) := by decide +kernel
theorem dX5_hindrance_189 : decode cX5_hindrance 189 = .ok (.getfield 9, 3) := by decide +kernel
theorem dX5_hindrance_192 : decode cX5_hindrance 192 = .ok (.iconst 1, 1) := by decide +kernel
theorem dX5_hindrance_193 : decode cX5_hindrance 193 = .ok (.if_icmp .ne 7, 3) := by decide +kernel
theorem dX5_hindrance_196 : decode cX5_hindrance 196 = .ok (.iconst 4, 1) := by decide +kernel
theorem dX5_hindrance_197 : decode cX5_hindrance 197 = .ok (.goto 4, 3) := by decide +kernel
theorem dX5_hindrance_200 : decode cX5_hindrance 200 = .ok (.iconst 0, 1) := by decide +kernel
theorem dX5_hindrance_201 : decode cX5_hindrance 201 = .ok (.ireturn, 1) := by decide +kernel
theorem dX5_hindrance_202 : decode cX5_hindrance 202 = .ok (.aload_n 0, 1) := by decide +kernel
theorem dX5_hindrance_203 : decode cX5_hindrance 203 = .ok (.getfield 9, 3) := by decide +kernel
theorem dX5_hindrance_206 : decode cX5_hindrance 206 = .ok (.sipush 200, 3) := by decide +kernel
theorem dX5_hindrance_209 : decode cX5_hindrance 209 = .ok (.if_icmp .ne 7, 3) := by decide +kernel
theorem dX5_hindrance_212 : decode cX5_hindrance 212 = .ok (.iconst 4, 1) := by decide +kernel
theorem dX5_hindrance_213 : decode cX5_hindrance 213 = .ok (.goto 4, 3) := by decide +kernel
theorem dX5_hindrance_216 : decode cX5_hindrance 216 = .ok (.iconst 0, 1) := by decide +kernel
theorem dX5_hindrance_217 : decode cX5_hindrance 217 = .ok (.ireturn, 1) := by decide +kernel
theorem dX5_hindrance_218 : decode cX5_hindrance 218 = .ok (.aload_n 0, 1) := by decide +kernel
theorem dX5_hindrance_219 : decode cX5_hindrance 219 = .ok (.getfield 25, 3) := by decide +kernel
theorem dX5_hindrance_222 : decode cX5_hindrance 222 = .ok (.iload_n 2, 1) := by decide +kernel
theorem dX5_hindrance_223 : decode cX5_hindrance 223 = .ok (.iaload, 1) := by decide +kernel
theorem dX5_hindrance_224 : decode cX5_hindrance 224 = .ok (.aload_n 0, 1) := by decide +kernel
theorem dX5_hindrance_225 : decode cX5_hindrance 225 = .ok (.getfield 9, 3) := by decide +kernel
theorem dX5_hindrance_228 : decode cX5_hindrance 228 = .ok (.if_icmp .ne 7, 3) := by decide +kernel
theorem dX5_hindrance_231 : decode cX5_hindrance 231 = .ok (.iconst 5, 1) := by decide +kernel
theorem dX5_hindrance_232 : decode cX5_hindrance 232 = .ok (.goto 4, 3) := by decide +kernel
theorem dX5_hindrance_235 : decode cX5_hindrance 235 = .ok (.iconst 0, 1) := by decide +kernel
theorem dX5_hindrance_236 : decode cX5_hindrance 236 = .ok (.ireturn, 1) := by decide +kernel
theorem dX5_hindrance_237 : decode cX5_hindrance 237 = .ok (.aload_n 0, 1) := by decide +kernel
theorem dX5_hindrance_238 : decode cX5_hindrance 238 = .ok (.getfield 25, 3) := by decide +kernel
theorem dX5_hindrance_241 : decode cX5_hindrance 241 = .ok (.iload_n 2, 1) := by decide +kernel
theorem dX5_hindrance_242 : decode cX5_hindrance 242 = .ok (.iaload, 1) := by decide +kernel
theorem dX5_hindrance_243 : decode cX5_hindrance 243 = .ok (.ifCond .ne 7, 3) := by decide +kernel
theorem dX5_hindrance_246 : decode cX5_hindrance 246 = .ok (.iconst 5, 1) := by decide +kernel
theorem dX5_hindrance_247 : decode cX5_hindrance 247 = .ok (.goto 4, 3) := by decide +kernel
theorem dX5_hindrance_250 : decode cX5_hindrance 250 = .ok (.iconst 0, 1) := by decide +kernel
theorem dX5_hindrance_251 : decode cX5_hindrance 251 = .ok (.ireturn, 1) := by decide +kernel
theorem dX5_hindrance_252 : decode cX5_hindrance 252 = .ok (.aload_n 0, 1) := by decide +kernel
theorem dX5_hindrance_253 : decode cX5_hindrance 253 = .ok (.getfield 52, 3) := by decide +kernel
theorem dX5_hindrance_256 : decode cX5_hindrance 256 = .ok (.sipush 999, 3) := by decide +kernel
theorem dX5_hindrance_259 : decode cX5_hindrance 259 = .ok (.if_icmp .lt 8, 3) := by decide +kernel
theorem dX5_hindrance_262 : decode cX5_hindrance 262 = .ok (.bipush 6, 2) := by decide +kernel
theorem dX5_hindrance_264 : decode cX5_hindrance 264 = .ok (.goto 4, 3) := by decide +kernel
theorem dX5_hindrance_267 : decode cX5_hindrance 267 = .ok (.iconst 0, 1) := by decide +kernel
theorem dX5_hindrance_268 : decode cX5_hindrance 268 = .ok (.ireturn, 1) := by decide +kernel
theorem dX5_hindrance_269 : decode cX5_hindrance 269 = .ok (.iconst 0, 1) := by decide +kernel
theorem dX5_hindrance_270 : decode cX5_hindrance 270 = .ok (.ireturn, 1) := by decide +kernel
theorem dX5_firstOf_0 : decode cX5_firstOf 0 = .ok (.iload_n 0, 1) := by decide +kernel
theorem dX5_firstOf_1 : decode cX5_firstOf 1 = .ok (.ifCond .eq 5, 3) := by decide +kernel
theorem dX5_firstOf_4 : decode cX5_firstOf 4 = .ok (.iconst 1, 1) := by decide +kernel
theorem dX5_firstOf_5 : decode cX5_firstOf 5 = .ok (.ireturn, 1) := by decide +kernel
theorem dX5_firstOf_6 : decode cX5_firstOf 6 = .ok (.iload_n 1, 1) := by decide +kernel
theorem dX5_firstOf_7 : decode cX5_firstOf 7 = .ok (.ifCond .eq 7, 3) := by decide +kernel
theorem dX5_firstOf_10 : decode cX5_firstOf 10 = .ok (.iconst 2, 1) := by decide +kernel
theorem dX5_firstOf_11 : decode cX5_firstOf 11 = .ok (.goto 4, 3) := by decide +kernel
theorem dX5_firstOf_14 : decode cX5_firstOf 14 = .ok (.iconst 0, 1) := by decide +kernel
theorem dX5_firstOf_15 : decode cX5_firstOf 15 = .ok (.ireturn, 1) := by decide +kernel
theorem dX5_act_0 : decode cX5_act 0 = .ok (.iload_n 1, 1) := by decide +kernel
theorem dX5_act_1 : decode cX5_act 1 = .ok (.lookupswitch 295 #[(40, 169), (41, 189), (43, 91), (45, 121), (46, 266), (47, 152), (60, 232), (61, 209), (62, 249), (120, 222)], 91) := by decide +kernel
theorem dX5_act_92 : decode cX5_act 92 = .ok (.aload_n 0, 1) := by decide +kernel
theorem dX5_act_93 : decode cX5_act 93 = .ok (.getfield 19, 3) := by decide +kernel
theorem dX5_act_96 : decode cX5_act 96 = .ok (.iload_n 2, 1) := by decide +kernel
theorem dX5_act_97 : decode cX5_act 97 = .ok (.dup2, 1) := by decide +kernel
theorem dX5_act_98 : decode cX5_act 98 = .ok (.iaload, 1) := by decide +kernel
theorem dX5_act_99 : decode cX5_act 99 = .ok (.iload 4, 2) := by decide +kernel
theorem dX5_act_101 : decode cX5_act 101 = .ok (.isub, 1) := by decide +kernel
theorem dX5_act_102 : decode cX5_act 102 = .ok (.iastore, 1) := by decide +kernel
theorem dX5_act_103 : decode cX5_act 103 = .ok (.aload_n 0, 1) := by decide +kernel
theorem dX5_act_104 : decode cX5_act 104 = .ok (.getfield 22, 3) := by decide +kernel
theorem dX5_act_107 : decode cX5_act 107 = .ok (.iload_n 2, 1) := by decide +kernel
theorem dX5_act_108 : decode cX5_act 108 = .ok (.dup2, 1) := by decide +kernel
theorem dX5_act_109 : decode cX5_act 109 = .ok (.iaload, 1) := by decide +kernel
theorem dX5_act_110 : decode cX5_act 110 = .ok (.iload 4, 2) := by decide +kernel
theorem dX5_act_112 : decode cX5_act 112 = .ok (.aload_n 0, 1) := by decide +kernel
theorem dX5_act_113 : decode cX5_act 113 = .ok (.getfield 9, 3) := by decide +kernel
theorem dX5_act_116 : decode cX5_act 116 = .ok (.imul, 1) := by decide +kernel
theorem dX5_act_117 : decode cX5_act 117 = .ok (.iadd, 1) := by decide +kernel
theorem dX5_act_118 : decode cX5_act 118 = .ok (.iastore, 1) := by decide +kernel
theorem dX5_act_119 : decode cX5_act 119 = .ok (.goto 177, 3) := by decide +kernel
theorem dX5_act_122 : decode cX5_act 122 = .ok (.aload_n 0, 1) := by decide +kernel
theorem dX5_act_123 : decode cX5_act 123 = .ok (.getfield 19, 3) := by decide +kernel
theorem dX5_act_126 : decode cX5_act 126 = .ok (.iload_n 2, 1) := by decide +kernel
theorem dX5_act_127 : decode cX5_act 127 = .ok (.dup2, 1) := by decide +kernel
theorem dX5_act_128 : decode cX5_act 128 = .ok (.iaload, 1) := by decide +kernel
theorem dX5_act_129 : decode cX5_act 129 = .ok (.iload 4, 2) := by decide +kernel
theorem dX5_act_131 : decode cX5_act 131 = .ok (.iadd, 1) := by decide +kernel
theorem dX5_act_132 : decode cX5_act 132 = .ok (.iastore, 1) := by decide +kernel
theorem dX5_act_133 : decode cX5_act 133 = .ok (.aload_n 0, 1) := by decide +kernel
theorem dX5_act_134 : decode cX5_act 134 = .ok (.getfield 22, 3) := by decide +kernel
theorem dX5_act_137 : decode cX5_act 137 = .ok (.iload_n 2, 1) := by decide +kernel
theorem dX5_act_138 : decode cX5_act 138 = .ok (.dup2, 1) := by decide +kernel
theorem dX5_act_139 : decode cX5_act 139 = .ok (.iaload, 1) := by decide +kernel
theorem dX5_act_140 : decode cX5_act 140 = .ok (.iload 4, 2) := by decide +kernel
theorem dX5_act_142 : decode cX5_act 142 = .ok (.aload_n 0, 1) := by decide +kernel
theorem dX5_act_143 : decode cX5_act 143 = .ok (.iload_n 2, 1) := by decide +kernel
theorem dX5_act_144 : decode cX5_act 144 = .ok (.invokevirtual 68, 3) := by decide +kernel
theorem dX5_act_147 : decode cX5_act 147 = .ok (.imul, 1) := by decide +kernel
theorem dX5_act_148 : decode cX5_act 148 = .ok (.isub, 1) := by decide +kernel
theorem dX5_act_149 : decode cX5_act 149 = .ok (.iastore, 1) := by decide +kernel
theorem dX5_act_150 : decode cX5_act 150 = .ok (.goto 146, 3) := by decide +kernel
theorem dX5_act_153 : decode cX5_act 153 = .ok (.aload_n 0, 1) := by decide +kernel
theorem dX5_act_154 : decode cX5_act 154 = .ok (.getfield 28, 3) := by decide +kernel
theorem dX5_act_157 : decode cX5_act 157 = .ok (.iload_n 3, 1) := by decide +kernel
theorem dX5_act_158 : decode cX5_act 158 = .ok (.iload 4, 2) := by decide +kernel
theorem dX5_act_160 : decode cX5_act 160 = .ok (.aload_n 0, 1) := by decide +kernel
theorem dX5_act_161 : decode cX5_act 161 = .ok (.iload_n 2, 1) := by decide +kernel
theorem dX5_act_162 : decode cX5_act 162 = .ok (.invokevirtual 68, 3) := by decide +kernel
theorem dX5_act_165 : decode cX5_act 165 = .ok (.imul, 1) := by decide +kernel
theorem dX5_act_166 : decode cX5_act 166 = .ok (.iastore, 1) := by decide +kernel
theorem dX5_act_167 : decode cX5_act 167 = .ok (.goto 129, 3) := by decide +kernel
theorem dX5_act_170 : decode cX5_act 170 = .ok (.aload_n 0, 1) := by decide +kernel
theorem dX5_act_171 : decode cX5_act 171 = .ok (.getfield 34, 3) := by decide +kernel
theorem dX5_act_174 : decode cX5_act 174 = .ok (.iload_n 3, 1) := by decide +kernel
theorem dX5_act_175 : decode cX5_act 175 = .ok (.dup2, 1) := by decide +kernel
theorem dX5_act_176 : decode cX5_act 176 = .ok (.iaload, 1) := by decide +kernel
theorem dX5_act_177 : decode cX5_act 177 = .ok (.iload 4, 2) := by decide +kernel
theorem dX5_act_179 : decode cX5_act 179 = .ok (.aload_n 0, 1) := by decide +kernel
theorem dX5_act_180 : decode cX5_act 180 = .ok (.iload_n 2, 1) := by decide +kernel
theorem dX5_act_181 : decode cX5_act 181 = .ok (.invokevirtual 68, 3) := by decide +kernel
theorem dX5_act_184 : decode cX5_act 184 = .ok (.imul, 1) := by decide +kernel
theorem dX5_act_185 : decode cX5_act 185 = .ok (.iadd, 1) := by decide +kernel
theorem dX5_act_186 : decode cX5_act 186 = .ok (.iastore, 1) := by decide +kernel
theorem dX5_act_187 : decode cX5_act 187 = .ok (.goto 109, 3) := by decide +kernel
theorem dX5_act_190 : decode cX5_act 190 = .ok (.aload_n 0, 1) := by decide +kernel
theorem dX5_act_191 : decode cX5_act 191 = .ok (.getfield 37, 3) := by decide +kernel
theorem dX5_act_194 : decode cX5_act 194 = .ok (.iload_n 3, 1) := by decide +kernel
theorem dX5_act_195 : decode cX5_act 195 = .ok (.dup2, 1) := by decide +kernel
theorem dX5_act_196 : decode cX5_act 196 = .ok (.iaload, 1) := by decide +kernel
theorem dX5_act_197 : decode cX5_act 197 = .ok (.iload 4, 2) := by decide +kernel
theorem dX5_act_199 : decode cX5_act 199 = .ok (.aload_n 0, 1) := by decide +kernel
theorem dX5_act_200 : decode cX5_act 200 = .ok (.iload_n 2, 1) := by decide +kernel
theorem dX5_act_201 : decode cX5_act 201 = .ok (.invokevirtual 68, 3) := by decide +kernel
theorem dX5_act_204 : decode cX5_act 204 = .ok (.imul, 1) := by decide +kernel
theorem dX5_act_205 : decode cX5_act 205 = .ok (.iadd, 1) := by decide +kernel
theorem dX5_act_206 : decode cX5_act 206 = .ok (.iastore, 1) := by decide +kernel
theorem dX5_act_207 : decode cX5_act 207 = .ok (.goto 89, 3) := by decide +kernel
theorem dX5_act_210 : decode cX5_act 210 = .ok (.aload_n 0, 1) := by decide +kernel
theorem dX5_act_211 : decode cX5_act 211 = .ok (.getfield 25, 3) := by decide +kernel
theorem dX5_act_214 : decode cX5_act 214 = .ok (.iload_n 2, 1) := by decide +kernel
theorem dX5_act_215 : decode cX5_act 215 = .ok (.aload_n 0, 1) := by decide +kernel
theorem dX5_act_216 : decode cX5_act 216 = .ok (.getfield 9, 3) := by decide +kernel
theorem dX5_act_219 : decode cX5_act 219 = .ok (.iastore, 1) := by decide +kernel
theorem dX5_act_220 : decode cX5_act 220 = .ok (.goto 76, 3) := by decide +kernel
theorem dX5_act_223 : decode cX5_act 223 = .ok (.aload_n 0, 1) := by decide +kernel
theorem dX5_act_224 : decode cX5_act 224 = .ok (.getfield 25, 3) := by decide +kernel
theorem dX5_act_227 : decode cX5_act 227 = .ok (.iload_n 2, 1) := by decide +kernel
theorem dX5_act_228 : decode cX5_act 228 = .ok (.iconst 0, 1) := by decide +kernel
theorem dX5_act_229 : decode cX5_act 229 = .ok (.iastore, 1) := by decide +kernel
theorem dX5_act_230 : decode cX5_act 230 = .ok (.goto 66, 3) := by decide +kernel
theorem dX5_act_233 : decode cX5_act 233 = .ok (.aload_n 0, 1) := by decide +kernel
theorem dX5_act_234 : decode cX5_act 234 = .ok (.aload_n 0, 1) := by decide +kernel
theorem dX5_act_235 : decode cX5_act 235 = .ok (.getfield 9, 3) := by decide +kernel
theorem dX5_act_238 : decode cX5_act 238 = .ok (.iload 4, 2) := by decide +kernel
theorem dX5_act_240 : decode cX5_act 240 = .ok (.isub, 1) := by decide +kernel
theorem dX5_act_241 : decode cX5_act 241 = .ok (.invokestatic 78, 3) := by decide +kernel
theorem dX5_act_244 : decode cX5_act 244 = .ok (.putfield 9, 3) := by decide +kernel
theorem dX5_act_247 : decode cX5_act 247 = .ok (.goto 49, 3) := by decide +kernel
theorem dX5_act_250 : decode cX5_act 250 = .ok (.aload_n 0, 1) := by decide +kernel
theorem dX5_act_251 : decode cX5_act 251 = .ok (.aload_n 0, 1) := by decide +kernel
theorem dX5_act_252 : decode cX5_act 252 = .ok (.getfield 9, 3) := by decide +kernel
theorem dX5_act_255 : decode cX5_act 255 = .ok (.iload 4, 2) := by decide +kernel
theorem dX5_act_257 : decode cX5_act 257 = .ok (.iadd, 1) := by decide +kernel
theorem dX5_act_258 : decode cX5_act 258 = .ok (.invokestatic 78, 3) := by decide +kernel
theorem dX5_act_261 : decode cX5_act 261 = .ok (.putfield 9, 3) := by decide +kernel
theorem dX5_act_264 : decode cX5_act 264 = .ok (.goto 32, 3) := by decide +kernel
theorem dX5_act_267 : decode cX5_act 267 = .ok (.aload_n 0, 1) := by decide +kernel
theorem dX5_act_268 : decode cX5_act 268 = .ok (.aload_n 0, 1) := by decide +kernel
theorem dX5_act_269 : decode cX5_act 269 = .ok (.aload_n 0, 1) := by decide +kernel
theorem dX5_act_270 : decode cX5_act 270 = .ok (.getfield 9, 3) := by decide +kernel
theorem dX5_act_273 : decode cX5_act 273 = .ok (.aload_n 0, 1) := by decide +kernel
theorem dX5_act_274 : decode cX5_act 274 = .ok (.getfield 52, 3) := by decide +kernel
theorem dX5_act_277 : decode cX5_act 277 = .ok (.invokevirtual 86, 3) := by decide +kernel
theorem dX5_act_280 : decode cX5_act 280 = .ok (.putfield 9, 3) := by decide +kernel
theorem dX5_act_283 : decode cX5_act 283 = .ok (.aload_n 0, 1) := by decide +kernel
theorem dX5_act_284 : decode cX5_act 284 = .ok (.dup, 1) := by decide +kernel
theorem dX5_act_285 : decode cX5_act 285 = .ok (.getfield 52, 3) := by decide +kernel
theorem dX5_act_288 : decode cX5_act 288 = .ok (.iconst 1, 1) := by decide +kernel
theorem dX5_act_289 : decode cX5_act 289 = .ok (.iadd, 1) := by decide +kernel
theorem dX5_act_290 : decode cX5_act 290 = .ok (.putfield 52, 3) := by decide +kernel
theorem dX5_act_293 : decode cX5_act 293 = .ok (.goto 3, 3) := by decide +kernel
theorem dX5_act_296 : decode cX5_act 296 = .ok (.return_, 1) := by decide +kernel
theorem dX6_init_0 : decode cX6_init 0 = .ok (.aload_n 0, 1) := by decide +kernel
theorem dX6_init_1 : decode cX6_init 1 = .ok (.invokespecial 3, 3) := by decide +kernel
theorem dX6_init_4 : decode cX6_init 4 = .ok (.aload_n 0, 1) := by decide +kernel
theorem dX6_init_5 : decode cX6_init 5 = .ok (.bipush 6, 2) := by decide +kernel
theorem dX6_init_7 : decode cX6_init 7 = .ok (.newarray .int, 2) := by decide +kernel
theorem dX6_init_9 : decode cX6_init 9 = .ok (.putfield 9, 3) := by decide +kernel
theorem dX6_init_12 : decode cX6_init 12 = .ok (.aload_n 0, 1) := by decide +kernel
theorem dX6_init_13 : decode cX6_init 13 = .ok (.bipush 6, 2) := by decide +kernel
theorem dX6_init_15 : decode cX6_init 15 = .ok (.newarray .int, 2) := by decide +kernel
theorem dX6_init_17 : decode cX6_init 17 = .ok (.putfield 15, 3) := by decide +kernel
theorem dX6_init_20 : decode cX6_init 20 = .ok (.return_, 1) := by decide +kernel
theorem dX6_stand_0 : decode cX6_stand 0 = .ok (.iconst 0, 1) := by decide +kernel
theorem dX6_stand_1 : decode cX6_stand 1 = .ok (.istore_n 2, 1) := by decide +kernel
theorem dX6_stand_2 : decode cX6_stand 2 = .ok (.iload_n 2, 1) := by decide +kernel
theorem dX6_stand_3 : decode cX6_stand 3 = .ok (.bipush 6, 2) := by decide +kernel
theorem dX6_stand_5 : decode cX6_stand 5 = .ok (.if_icmp .ge 20, 3) := by decide +kernel
theorem dX6_stand_8 : decode cX6_stand 8 = .ok (.aload_n 0, 1) := by decide +kernel
theorem dX6_stand_9 : decode cX6_stand 9 = .ok (.getfield 9, 3) := by decide +kernel
theorem dX6_stand_12 : decode cX6_stand 12 = .ok (.iload_n 2, 1) := by decide +kernel
theorem dX6_stand_13 : decode cX6_stand 13 = .ok (.aload_n 1, 1) := by decide +kernel
theorem dX6_stand_14 : decode cX6_stand 14 = .ok (.iload_n 2, 1) := by decide +kernel
theorem dX6_stand_15 : decode cX6_stand 15 = .ok (.invokevirtual 18, 3) := by decide +kernel
theorem dX6_stand_18 : decode cX6_stand 18 = .ok (.iastore, 1) := by decide +kernel
theorem dX6_stand_19 : decode cX6_stand 19 = .ok (.iinc 2 1, 3) := by decide +kernel
theorem dX6_stand_22 : decode cX6_stand 22 = .ok (.goto (-20), 3) := by decide +kernel
theorem dX6_stand_25 : decode cX6_stand 25 = .ok (.return_, 1) := by decide +kernel
theorem dX6_takeMeans_0 : decode cX6_takeMeans 0 = .ok (.iconst 0, 1) := by decide +kernel
theorem dX6_takeMeans_1 : decode cX6_takeMeans 1 = .ok (.istore_n 1, 1) := by decide +kernel
theorem dX6_takeMeans_2 : decode cX6_takeMeans 2 = .ok (.iconst 0, 1) := by decide +kernel
theorem dX6_takeMeans_3 : decode cX6_takeMeans 3 = .ok (.istore_n 2, 1) := by decide +kernel
theorem dX6_takeMeans_4 : decode cX6_takeMeans 4 = .ok (.iload_n 2, 1) := by decide +kernel
theorem dX6_takeMeans_5 : decode cX6_takeMeans 5 = .ok (.bipush 6, 2) := by decide +kernel
theorem dX6_takeMeans_7 : decode cX6_takeMeans 7 = .ok (.if_icmp .ge 75, 3) := by decide +kernel
theorem dX6_takeMeans_10 : decode cX6_takeMeans 10 = .ok (.aload_n 0, 1) := by decide +kernel
theorem dX6_takeMeans_11 : decode cX6_takeMeans 11 = .ok (.getfield 15, 3) := by decide +kernel
theorem dX6_takeMeans_14 : decode cX6_takeMeans 14 = .ok (.iload_n 2, 1) := by decide +kernel
theorem dX6_takeMeans_15 : decode cX6_takeMeans 15 = .ok (.aload_n 0, 1) := by decide +kernel
theorem dX6_takeMeans_16 : decode cX6_takeMeans 16 = .ok (.getfield 9, 3) := by decide +kernel
theorem dX6_takeMeans_19 : decode cX6_takeMeans 19 = .ok (.iload_n 2, 1) := by decide +kernel
theorem dX6_takeMeans_20 : decode cX6_takeMeans 20 = .ok (.bipush 6, 2) := by decide +kernel
theorem dX6_takeMeans_22 : decode cX6_takeMeans 22 = .ok (.iadd, 1) := by decide +kernel
theorem dX6_takeMeans_23 : decode cX6_takeMeans 23 = .ok (.iconst 1, 1) := by decide +kernel
theorem dX6_takeMeans_24 : decode cX6_takeMeans 24 = .ok (.isub, 1) := by decide +kernel
theorem dX6_takeMeans_25 : decode cX6_takeMeans 25 = .ok (.bipush 6, 2) := by decide +kernel
theorem dX6_takeMeans_27 : decode cX6_takeMeans 27 = .ok (.irem, 1) := by decide +kernel
theorem dX6_takeMeans_28 : decode cX6_takeMeans 28 = .ok (.iaload, 1) := by decide +kernel
theorem dX6_takeMeans_29 : decode cX6_takeMeans 29 = .ok (.aload_n 0, 1) := by decide +kernel
theorem dX6_takeMeans_30 : decode cX6_takeMeans 30 = .ok (.getfield 9, 3) := by decide +kernel
theorem dX6_takeMeans_33 : decode cX6_takeMeans 33 = .ok (.iload_n 2, 1) := by decide +kernel
theorem dX6_takeMeans_34 : decode cX6_takeMeans 34 = .ok (.iaload, 1) := by decide +kernel
theorem dX6_takeMeans_35 : decode cX6_takeMeans 35 = .ok (.iadd, 1) := by decide +kernel
theorem dX6_takeMeans_36 : decode cX6_takeMeans 36 = .ok (.aload_n 0, 1) := by decide +kernel
theorem dX6_takeMeans_37 : decode cX6_takeMeans 37 = .ok (.getfield 9, 3) := by decide +kernel
theorem dX6_takeMeans_40 : decode cX6_takeMeans 40 = .ok (.iload_n 2, 1) := by decide +kernel
theorem dX6_takeMeans_41 : decode cX6_takeMeans 41 = .ok (.iconst 1, 1) := by decide +kernel
theorem dX6_takeMeans_42 : decode cX6_takeMeans 42 = .ok (.iadd, 1) := by decide +kernel
theorem dX6_takeMeans_43 : decode cX6_takeMeans 43 = .ok (.bipush 6, 2) := by decide +kernel
theorem dX6_takeMeans_45 : decode cX6_takeMeans 45 = .ok (.irem, 1) := by decide +kernel
theorem dX6_takeMeans_46 : decode cX6_takeMeans 46 = .ok (.iaload, 1) := by decide +kernel
theorem dX6_takeMeans_47 : decode cX6_takeMeans 47 = .ok (.iadd, 1) := by decide +kernel
theorem dX6_takeMeans_48 : decode cX6_takeMeans 48 = .ok (.iconst 3, 1) := by decide +kernel
theorem dX6_takeMeans_49 : decode cX6_takeMeans 49 = .ok (.idiv, 1) := by decide +kernel
theorem dX6_takeMeans_50 : decode cX6_takeMeans 50 = .ok (.iastore, 1) := by decide +kernel
theorem dX6_takeMeans_51 : decode cX6_takeMeans 51 = .ok (.iload_n 1, 1) := by decide +kernel
theorem dX6_takeMeans_52 : decode cX6_takeMeans 52 = .ok (.ifCond .ne 18, 3) := by decide +kernel
theorem dX6_takeMeans_55 : decode cX6_takeMeans 55 = .ok (.aload_n 0, 1) := by decide +kernel
theorem dX6_takeMeans_56 : decode cX6_takeMeans 56 = .ok (.getfield 15, 3) := by decide +kernel
theorem dX6_takeMeans_59 : decode cX6_takeMeans 59 = .ok (.iload_n 2, 1) := by decide +kernel
theorem dX6_takeMeans_60 : decode cX6_takeMeans 60 = .ok (.iaload, 1) := by decide +kernel
theorem dX6_takeMeans_61 : decode cX6_takeMeans 61 = .ok (.aload_n 0, 1) := by decide +kernel
theorem dX6_takeMeans_62 : decode cX6_takeMeans 62 = .ok (.getfield 9, 3) := by decide +kernel
theorem dX6_takeMeans_65 : decode cX6_takeMeans 65 = .ok (.iload_n 2, 1) := by decide +kernel
theorem dX6_takeMeans_66 : decode cX6_takeMeans 66 = .ok (.iaload, 1) := by decide +kernel
theorem dX6_takeMeans_67 : decode cX6_takeMeans 67 = .ok (.if_icmp .eq 7, 3) := by decide +kernel
theorem dX6_takeMeans_70 : decode cX6_takeMeans 70 = .ok (.iconst 1, 1) := by decide +kernel
theorem dX6_takeMeans_71 : decode cX6_takeMeans 71 = .ok (.goto 4, 3) := by decide +kernel
theorem dX6_takeMeans_74 : decode cX6_takeMeans 74 = .ok (.iconst 0, 1) := by decide +kernel
theorem dX6_takeMeans_75 : decode cX6_takeMeans 75 = .ok (.istore_n 1, 1) := by decide +kernel
theorem dX6_takeMeans_76 : decode cX6_takeMeans 76 = .ok (.iinc 2 1, 3) := by decide +kernel
theorem dX6_takeMeans_79 : decode cX6_takeMeans 79 = .ok (.goto (-75), 3) := by decide +kernel
theorem dX6_takeMeans_82 : decode cX6_takeMeans 82 = .ok (.aload_n 0, 1) := by decide +kernel
theorem dX6_takeMeans_83 : decode cX6_takeMeans 83 = .ok (.getfield 15, 3) := by decide +kernel
theorem dX6_takeMeans_86 : decode cX6_takeMeans 86 = .ok (.iconst 0, 1) := by decide +kernel
theorem dX6_takeMeans_87 : decode cX6_takeMeans 87 = .ok (.aload_n 0, 1) := by decide +kernel
theorem dX6_takeMeans_88 : decode cX6_takeMeans 88 = .ok (.getfield 9, 3) := by decide +kernel
theorem dX6_takeMeans_91 : decode cX6_takeMeans 91 = .ok (.iconst 0, 1) := by decide +kernel
theorem dX6_takeMeans_92 : decode cX6_takeMeans 92 = .ok (.bipush 6, 2) := by decide +kernel
theorem dX6_takeMeans_94 : decode cX6_takeMeans 94 = .ok (.invokestatic 24, 3) := by decide +kernel
theorem dX6_takeMeans_97 : decode cX6_takeMeans 97 = .ok (.iload_n 1, 1) := by decide +kernel
theorem dX6_takeMeans_98 : decode cX6_takeMeans 98 = .ok (.ireturn, 1) := by decide +kernel
theorem dX6_timesTillStill_0 : decode cX6_timesTillStill 0 = .ok (.iconst 0, 1) := by decide +kernel
theorem dX6_timesTillStill_1 : decode cX6_timesTillStill 1 = .ok (.istore_n 1, 1) := by decide +kernel
theorem dX6_timesTillStill_2 : decode cX6_timesTillStill 2 = .ok (.iload_n 1, 1) := by decide +kernel
theorem dX6_timesTillStill_3 : decode cX6_timesTillStill 3 = .ok (.ldc 30, 2) := by decide +kernel
theorem dX6_timesTillStill_5 : decode cX6_timesTillStill 5 = .ok (.if_icmp .ge 16, 3) := by decide +kernel
theorem dX6_timesTillStill_8 : decode cX6_timesTillStill 8 = .ok (.aload_n 0, 1) := by decide +kernel
theorem dX6_timesTillStill_9 : decode cX6_timesTillStill 9 = .ok (.invokevirtual 31, 3) := by decide +kernel
theorem dX6_timesTillStill_12 : decode cX6_timesTillStill 12 = .ok (.ifCond .eq 9, 3) := by decide +kernel
theorem dX6_timesTillStill_15 : decode cX6_timesTillStill 15 = .ok (.iinc 1 1, 3) := by decide +kernel
theorem dX6_timesTillStill_18 : decode cX6_timesTillStill 18 = .ok (.goto (-16), 3) := by decide +kernel
theorem dX6_timesTillStill_21 : decode cX6_timesTillStill 21 = .ok (.iload_n 1, 1) := by decide +kernel
theorem dX6_timesTillStill_22 : decode cX6_timesTillStill 22 = .ok (.ireturn, 1) := by decide +kernel
theorem dX7_init_0 : decode cX7_init 0 = .ok (.aload_n 0, 1) := by decide +kernel
theorem dX7_init_1 : decode cX7_init 1 = .ok (.invokespecial 3, 3) := by decide +kernel
theorem dX7_init_4 : decode cX7_init 4 = .ok (.aload_n 0, 1) := by decide +kernel
theorem dX7_init_5 : decode cX7_init 5 = .ok (.sipush 201, 3) := by decide +kernel
theorem dX7_init_8 : decode cX7_init 8 = .ok (.newarray .int, 2) := by decide +kernel
theorem dX7_init_10 : decode cX7_init 10 = .ok (.putfield 9, 3) := by decide +kernel
theorem dX7_init_13 : decode cX7_init 13 = .ok (.return_, 1) := by decide +kernel
theorem dX7_firstMove_0 : decode cX7_firstMove 0 = .ok (.iconst 0, 1) := by decide +kernel
theorem dX7_firstMove_1 : decode cX7_firstMove 1 = .ok (.istore_n 3, 1) := by decide +kernel
theorem dX7_firstMove_2 : decode cX7_firstMove 2 = .ok (.iload_n 3, 1) := by decide +kernel
theorem dX7_firstMove_3 : decode cX7_firstMove 3 = .ok (.iload_n 1, 1) := by decide +kernel
theorem dX7_firstMove_4 : decode cX7_firstMove 4 = .ok (.if_icmp .gt 21, 3) := by decide +kernel
theorem dX7_firstMove_7 : decode cX7_firstMove 7 = .ok (.aload_n 0, 1) := by decide +kernel
theorem dX7_firstMove_8 : decode cX7_firstMove 8 = .ok (.getfield 9, 3) := by decide +kernel
theorem dX7_firstMove_11 : decode cX7_firstMove 11 = .ok (.iload_n 3, 1) := by decide +kernel
theorem dX7_firstMove_12 : decode cX7_firstMove 12 = .ok (.aload_n 0, 1) := by decide +kernel
theorem dX7_firstMove_13 : decode cX7_firstMove 13 = .ok (.iload_n 3, 1) := by decide +kernel
theorem dX7_firstMove_14 : decode cX7_firstMove 14 = .ok (.iload_n 2, 1) := by decide +kernel
theorem dX7_firstMove_15 : decode cX7_firstMove 15 = .ok (.invokevirtual 15, 3) := by decide +kernel
theorem dX7_firstMove_18 : decode cX7_firstMove 18 = .ok (.iastore, 1) := by decide +kernel
theorem dX7_firstMove_19 : decode cX7_firstMove 19 = .ok (.iinc 3 1, 3) := by decide +kernel
theorem dX7_firstMove_22 : decode cX7_firstMove 22 = .ok (.goto (-20), 3) := by decide +kernel
theorem dX7_firstMove_25 : decode cX7_firstMove 25 = .ok (.aload_n 0, 1) := by decide +kernel
theorem dX7_firstMove_26 : decode cX7_firstMove 26 = .ok (.getfield 9, 3) := by decide +kernel
theorem dX7_firstMove_29 : decode cX7_firstMove 29 = .ok (.iload_n 1, 1) := by decide +kernel
theorem dX7_firstMove_30 : decode cX7_firstMove 30 = .ok (.iaload, 1) := by decide +kernel
theorem dX7_firstMove_31 : decode cX7_firstMove 31 = .ok (.ireturn, 1) := by decide +kernel
theorem dX7_winningMove_0 : decode cX7_winningMove 0 = .ok (.iload_n 1, 1) := by decide +kernel
theorem dX7_winningMove_1 : decode cX7_winningMove 1 = .ok (.ifCond .ne 6, 3) := by decide +kernel
theorem dX7_winningMove_4 : decode cX7_winningMove 4 = .ok (.bipush (-6), 2) := by decide +kernel
theorem dX7_winningMove_6 : decode cX7_winningMove 6 = .ok (.ireturn, 1) := by decide +kernel
theorem dX7_winningMove_7 : decode cX7_winningMove 7 = .ok (.aload_n 0, 1) := by decide +kernel
theorem dX7_winningMove_8 : decode cX7_winningMove 8 = .ok (.getfield 9, 3) := by decide +kernel
theorem dX7_winningMove_11 : decode cX7_winningMove 11 = .ok (.iload_n 1, 1) := by decide +kernel
theorem dX7_winningMove_12 : decode cX7_winningMove 12 = .ok (.iconst 2, 1) := by decide +kernel
theorem dX7_winningMove_13 : decode cX7_winningMove 13 = .ok (.idiv, 1) := by decide +kernel
theorem dX7_winningMove_14 : decode cX7_winningMove 14 = .ok (.iaload, 1) := by decide +kernel
theorem dX7_winningMove_15 : decode cX7_winningMove 15 = .ok (.bipush (-6), 2) := by decide +kernel
theorem dX7_winningMove_17 : decode cX7_winningMove 17 = .ok (.if_icmp .ne 5, 3) := by decide +kernel
theorem dX7_winningMove_20 : decode cX7_winningMove 20 = .ok (.iconst 0, 1) := by decide +kernel
theorem dX7_winningMove_21 : decode cX7_winningMove 21 = .ok (.ireturn, 1) := by decide +kernel
theorem dX7_winningMove_22 : decode cX7_winningMove 22 = .ok (.iconst 1, 1) := by decide +kernel
theorem dX7_winningMove_23 : decode cX7_winningMove 23 = .ok (.istore_n 3, 1) := by decide +kernel
theorem dX7_winningMove_24 : decode cX7_winningMove 24 = .ok (.iload_n 3, 1) := by decide +kernel
theorem dX7_winningMove_25 : decode cX7_winningMove 25 = .ok (.iload_n 2, 1) := by decide +kernel
theorem dX7_winningMove_26 : decode cX7_winningMove 26 = .ok (.if_icmp .gt 29, 3) := by decide +kernel
theorem dX7_winningMove_29 : decode cX7_winningMove 29 = .ok (.iload_n 3, 1) := by decide +kernel
theorem dX7_winningMove_30 : decode cX7_winningMove 30 = .ok (.iload_n 1, 1) := by decide +kernel
theorem dX7_winningMove_31 : decode cX7_winningMove 31 = .ok (.if_icmp .gt 24, 3) := by decide +kernel
theorem dX7_winningMove_34 : decode cX7_winningMove 34 = .ok (.aload_n 0, 1) := by decide +kernel
theorem dX7_winningMove_35 : decode cX7_winningMove 35 = .ok (.getfield 9, 3) := by decide +kernel
theorem dX7_winningMove_38 : decode cX7_winningMove 38 = .ok (.iload_n 1, 1) := by decide +kernel
theorem dX7_winningMove_39 : decode cX7_winningMove 39 = .ok (.iload_n 3, 1) := by decide +kernel
theorem dX7_winningMove_40 : decode cX7_winningMove 40 = .ok (.isub, 1) := by decide +kernel
theorem dX7_winningMove_41 : decode cX7_winningMove 41 = .ok (.iaload, 1) := by decide +kernel
theorem dX7_winningMove_42 : decode cX7_winningMove 42 = .ok (.bipush (-6), 2) := by decide +kernel
theorem dX7_winningMove_44 : decode cX7_winningMove 44 = .ok (.if_icmp .ne 5, 3) := by decide +kernel
theorem dX7_winningMove_47 : decode cX7_winningMove 47 = .ok (.iload_n 3, 1) := by decide +kernel
theorem dX7_winningMove_48 : decode cX7_winningMove 48 = .ok (.ireturn, 1) := by decide +kernel
theorem dX7_winningMove_49 : decode cX7_winningMove 49 = .ok (.iinc 3 1, 3) := by decide +kernel
theorem dX7_winningMove_52 : decode cX7_winningMove 52 = .ok (.goto (-28), 3) := by decide +kernel
theorem dX7_winningMove_55 : decode cX7_winningMove 55 = .ok (.bipush (-6), 2) := by decide +kernel
theorem dX7_winningMove_57 : decode cX7_winningMove 57 = .ok (.ireturn, 1) := by decide +kernel
theorem dX8_init_0 : decode cX8_init 0 = .ok (.aload_n 0, 1) := by decide +kernel
theorem dX8_init_1 : decode cX8_init 1 = .ok (.invokespecial 3, 3) := by decide +kernel
theorem dX8_init_4 : decode cX8_init 4 = .ok (.aload_n 0, 1) := by decide +kernel
theorem dX8_init_5 : decode cX8_init 5 = .ok (.new 9, 3) := by decide +kernel
theorem dX8_init_8 : decode cX8_init 8 = .ok (.dup, 1) := by decide +kernel
theorem dX8_init_9 : decode cX8_init 9 = .ok (.invokespecial 11, 3) := by decide +kernel
theorem dX8_init_12 : decode cX8_init 12 = .ok (.putfield 12, 3) := by decide +kernel
theorem dX8_init_15 : decode cX8_init 15 = .ok (.return_, 1) := by decide +kernel
theorem dX8_tryOut_0 : decode cX8_tryOut 0 = .ok (.aload_n 0, 1) := by decide +kernel
theorem dX8_tryOut_1 : decode cX8_tryOut 1 = .ok (.bipush (-6), 2) := by decide +kernel
theorem dX8_tryOut_3 : decode cX8_tryOut 3 = .ok (.putfield 18, 3) := by decide +kernel
theorem dX8_tryOut_6 : decode cX8_tryOut 6 = .ok (.aload_n 0, 1) := by decide +kernel
theorem dX8_tryOut_7 : decode cX8_tryOut 7 = .ok (.bipush (-6), 2) := by decide +kernel
theorem dX8_tryOut_9 : decode cX8_tryOut 9 = .ok (.putfield 22, 3) := by decide +kernel
theorem dX8_tryOut_12 : decode cX8_tryOut 12 = .ok (.aload_n 0, 1) := by decide +kernel
theorem dX8_tryOut_13 : decode cX8_tryOut 13 = .ok (.bipush (-6), 2) := by decide +kernel
theorem dX8_tryOut_15 : decode cX8_tryOut 15 = .ok (.putfield 25, 3) := by decide +kernel
theorem dX8_tryOut_18 : decode cX8_tryOut 18 = .ok (.aload_n 0, 1) := by decide +kernel
theorem dX8_tryOut_19 : decode cX8_tryOut 19 = .ok (.bipush (-6), 2) := by decide +kernel
theorem dX8_tryOut_21 : decode cX8_tryOut 21 = .ok (.putfield 28, 3) := by decide +kernel
theorem dX8_tryOut_24 : decode cX8_tryOut 24 = .ok (.aload_n 2, 1) := by decide +kernel
theorem dX8_tryOut_25 : decode cX8_tryOut 25 = .ok (.invokevirtual 31, 3) := by decide +kernel
theorem dX8_tryOut_28 : decode cX8_tryOut 28 = .ok (.bipush (-6), 2) := by decide +kernel
theorem dX8_tryOut_30 : decode cX8_tryOut 30 = .ok (.if_icmp .eq 5, 3) := by decide +kernel
theorem dX8_tryOut_33 : decode cX8_tryOut 33 = .ok (.iconst 0, 1) := by decide +kernel
theorem dX8_tryOut_34 : decode cX8_tryOut 34 = .ok (.ireturn, 1) := by decide +kernel
theorem dX8_tryOut_35 : decode cX8_tryOut 35 = .ok (.aload_n 0, 1) := by decide +kernel
theorem dX8_tryOut_36 : decode cX8_tryOut 36 = .ok (.getfield 12, 3) := by decide +kernel
theorem dX8_tryOut_39 : decode cX8_tryOut 39 = .ok (.aload_n 1, 1) := by decide +kernel
theorem dX8_tryOut_40 : decode cX8_tryOut 40 = .ok (.invokevirtual 37, 3) := by decide +kernel
theorem dX8_tryOut_43 : decode cX8_tryOut 43 = .ok (.aload_n 0, 1) := by decide +kernel
theorem dX8_tryOut_44 : decode cX8_tryOut 44 = .ok (.aload_n 2, 1) := by decide +kernel
theorem dX8_tryOut_45 : decode cX8_tryOut 45 = .ok (.getfield 41, 3) := by decide +kernel
theorem dX8_tryOut_48 : decode cX8_tryOut 48 = .ok (.putfield 44, 3) := by decide +kernel
theorem dX8_tryOut_51 : decode cX8_tryOut 51 = .ok (.iconst 0, 1) := by decide +kernel
theorem dX8_tryOut_52 : decode cX8_tryOut 52 = .ok (.istore_n 3, 1) := by decide +kernel
theorem dX8_tryOut_53 : decode cX8_tryOut 53 = .ok (.iload_n 3, 1) := by decide +kernel
theorem dX8_tryOut_54 : decode cX8_tryOut 54 = .ok (.aload_n 0, 1) := by decide +kernel
theorem dX8_tryOut_55 : decode cX8_tryOut 55 = .ok (.getfield 44, 3) := by decide +kernel
theorem dX8_tryOut_58 : decode cX8_tryOut 58 = .ok (.if_icmp .ge 24, 3) := by decide +kernel
theorem dX8_tryOut_61 : decode cX8_tryOut 61 = .ok (.aload_n 0, 1) := by decide +kernel
theorem dX8_tryOut_62 : decode cX8_tryOut 62 = .ok (.getfield 18, 3) := by decide +kernel
theorem dX8_tryOut_65 : decode cX8_tryOut 65 = .ok (.bipush (-6), 2) := by decide +kernel
theorem dX8_tryOut_67 : decode cX8_tryOut 67 = .ok (.if_icmp .ne 15, 3) := by decide +kernel
theorem dX8_tryOut_70 : decode cX8_tryOut 70 = .ok (.aload_n 0, 1) := by decide +kernel
theorem dX8_tryOut_71 : decode cX8_tryOut 71 = .ok (.aload_n 2, 1) := by decide +kernel
theorem dX8_tryOut_72 : decode cX8_tryOut 72 = .ok (.iload_n 3, 1) := by decide +kernel
theorem dX8_tryOut_73 : decode cX8_tryOut 73 = .ok (.invokevirtual 45, 3) := by decide +kernel
theorem dX8_tryOut_76 : decode cX8_tryOut 76 = .ok (.iinc 3 1, 3) := by decide +kernel
theorem dX8_tryOut_79 : decode cX8_tryOut 79 = .ok (.goto (-26), 3) := by decide +kernel
theorem dX8_tryOut_82 : decode cX8_tryOut 82 = .ok (.iconst 1, 1) := by decide +kernel
theorem dX8_tryOut_83 : decode cX8_tryOut 83 = .ok (.ireturn, 1) := by decide +kernel
theorem dX8_tryAct_0 : decode cX8_tryAct 0 = .ok (.aload_n 1, 1) := by decide +kernel
theorem dX8_tryAct_1 : decode cX8_tryAct 1 = .ok (.getfield 49, 3) := by decide +kernel
theorem dX8_tryAct_4 : decode cX8_tryAct 4 = .ok (.iload_n 2, 1) := by decide +kernel
theorem dX8_tryAct_5 : decode cX8_tryAct 5 = .ok (.iaload, 1) := by decide +kernel
theorem dX8_tryAct_6 : decode cX8_tryAct 6 = .ok (.istore_n 3, 1) := by decide +kernel
theorem dX8_tryAct_7 : decode cX8_tryAct 7 = .ok (.aload_n 1, 1) := by decide +kernel
theorem dX8_tryAct_8 : decode cX8_tryAct 8 = .ok (.getfield 53, 3) := by decide +kernel
theorem dX8_tryAct_11 : decode cX8_tryAct 11 = .ok (.iload_n 2, 1) := by decide +kernel
theorem dX8_tryAct_12 : decode cX8_tryAct 12 = .ok (.iaload, 1) := by decide +kernel
theorem dX8_tryAct_13 : decode cX8_tryAct 13 = .ok (.istore 4, 2) := by decide +kernel
theorem dX8_tryAct_15 : decode cX8_tryAct 15 = .ok (.aload_n 0, 1) := by decide +kernel
theorem dX8_tryAct_16 : decode cX8_tryAct 16 = .ok (.getfield 12, 3) := by decide +kernel
theorem dX8_tryAct_19 : decode cX8_tryAct 19 = .ok (.iload_n 3, 1) := by decide +kernel
theorem dX8_tryAct_20 : decode cX8_tryAct 20 = .ok (.aload_n 1, 1) := by decide +kernel
theorem dX8_tryAct_21 : decode cX8_tryAct 21 = .ok (.getfield 56, 3) := by decide +kernel
theorem dX8_tryAct_24 : decode cX8_tryAct 24 = .ok (.iload_n 2, 1) := by decide +kernel
theorem dX8_tryAct_25 : decode cX8_tryAct 25 = .ok (.iaload, 1) := by decide +kernel
theorem dX8_tryAct_26 : decode cX8_tryAct 26 = .ok (.iload 4, 2) := by decide +kernel
theorem dX8_tryAct_28 : decode cX8_tryAct 28 = .ok (.aload_n 1, 1) := by decide +kernel
theorem dX8_tryAct_29 : decode cX8_tryAct 29 = .ok (.getfield 59, 3) := by decide +kernel
theorem dX8_tryAct_32 : decode cX8_tryAct 32 = .ok (.iload_n 2, 1) := by decide +kernel
theorem dX8_tryAct_33 : decode cX8_tryAct 33 = .ok (.iaload, 1) := by decide +kernel
theorem dX8_tryAct_34 : decode cX8_tryAct 34 = .ok (.invokevirtual 62, 3) := by decide +kernel
theorem dX8_tryAct_37 : decode cX8_tryAct 37 = .ok (.istore 5, 2) := by decide +kernel
theorem dX8_tryAct_39 : decode cX8_tryAct 39 = .ok (.iload 5, 2) := by decide +kernel
theorem dX8_tryAct_41 : decode cX8_tryAct 41 = .ok (.ifCond .eq 15, 3) := by decide +kernel
theorem dX8_tryAct_44 : decode cX8_tryAct 44 = .ok (.aload_n 0, 1) := by decide +kernel
theorem dX8_tryAct_45 : decode cX8_tryAct 45 = .ok (.iload_n 2, 1) := by decide +kernel
theorem dX8_tryAct_46 : decode cX8_tryAct 46 = .ok (.putfield 18, 3) := by decide +kernel
theorem dX8_tryAct_49 : decode cX8_tryAct 49 = .ok (.aload_n 0, 1) := by decide +kernel
theorem dX8_tryAct_50 : decode cX8_tryAct 50 = .ok (.iload 5, 2) := by decide +kernel
theorem dX8_tryAct_52 : decode cX8_tryAct 52 = .ok (.putfield 22, 3) := by decide +kernel
theorem dX8_tryAct_55 : decode cX8_tryAct 55 = .ok (.return_, 1) := by decide +kernel
theorem dX8_tryAct_56 : decode cX8_tryAct 56 = .ok (.aload_n 0, 1) := by decide +kernel
theorem dX8_tryAct_57 : decode cX8_tryAct 57 = .ok (.getfield 12, 3) := by decide +kernel
theorem dX8_tryAct_60 : decode cX8_tryAct 60 = .ok (.iload_n 3, 1) := by decide +kernel
theorem dX8_tryAct_61 : decode cX8_tryAct 61 = .ok (.aload_n 1, 1) := by decide +kernel
theorem dX8_tryAct_62 : decode cX8_tryAct 62 = .ok (.getfield 56, 3) := by decide +kernel
theorem dX8_tryAct_65 : decode cX8_tryAct 65 = .ok (.iload_n 2, 1) := by decide +kernel
theorem dX8_tryAct_66 : decode cX8_tryAct 66 = .ok (.iaload, 1) := by decide +kernel
theorem dX8_tryAct_67 : decode cX8_tryAct 67 = .ok (.iload 4, 2) := by decide +kernel
theorem dX8_tryAct_69 : decode cX8_tryAct 69 = .ok (.aload_n 1, 1) := by decide +kernel
theorem dX8_tryAct_70 : decode cX8_tryAct 70 = .ok (.getfield 59, 3) := by decide +kernel
theorem dX8_tryAct_73 : decode cX8_tryAct 73 = .ok (.iload_n 2, 1) := by decide +kernel
theorem dX8_tryAct_74 : decode cX8_tryAct 74 = .ok (.iaload, 1) := by decide +kernel
theorem dX8_tryAct_75 : decode cX8_tryAct 75 = .ok (.invokevirtual 66, 3) := by decide +kernel
theorem dX8_tryAct_78 : decode cX8_tryAct 78 = .ok (.iload_n 3, 1) := by decide +kernel
theorem dX8_tryAct_79 : decode cX8_tryAct 79 = .ok (.bipush 40, 2) := by decide +kernel
theorem dX8_tryAct_81 : decode cX8_tryAct 81 = .ok (.if_icmp .eq 9, 3) := by decide +kernel
theorem dX8_tryAct_84 : decode cX8_tryAct 84 = .ok (.iload_n 3, 1) := by decide +kernel
theorem dX8_tryAct_85 : decode cX8_tryAct 85 = .ok (.bipush 41, 2) := by decide +kernel
theorem dX8_tryAct_87 : decode cX8_tryAct 87 = .ok (.if_icmp .ne 7, 3) := by decide +kernel
theorem dX8_tryAct_90 : decode cX8_tryAct 90 = .ok (.iconst 1, 1) := by decide +kernel
theorem dX8_tryAct_91 : decode cX8_tryAct 91 = .ok (.goto 4, 3) := by decide +kernel
theorem dX8_tryAct_94 : decode cX8_tryAct 94 = .ok (.iconst 0, 1) := by decide +kernel
theorem dX8_tryAct_95 : decode cX8_tryAct 95 = .ok (.istore 6, 2) := by decide +kernel
theorem dX8_tryAct_97 : decode cX8_tryAct 97 = .ok (.iload 6, 2) := by decide +kernel
theorem dX8_tryAct_99 : decode cX8_tryAct 99 = .ok (.ifCond .eq 35, 3) := by decide +kernel
theorem dX8_tryAct_102 : decode cX8_tryAct 102 = .ok (.aload_n 0, 1) := by decide +kernel
theorem dX8_tryAct_103 : decode cX8_tryAct 103 = .ok (.getfield 25, 3) := by decide +kernel
theorem dX8_tryAct_106 : decode cX8_tryAct 106 = .ok (.bipush (-6), 2) := by decide +kernel
theorem dX8_tryAct_108 : decode cX8_tryAct 108 = .ok (.if_icmp .ne 26, 3) := by decide +kernel
theorem dX8_tryAct_111 : decode cX8_tryAct 111 = .ok (.aload_n 0, 1) := by decide +kernel
theorem dX8_tryAct_112 : decode cX8_tryAct 112 = .ok (.getfield 12, 3) := by decide +kernel
theorem dX8_tryAct_115 : decode cX8_tryAct 115 = .ok (.iload 4, 2) := by decide +kernel
theorem dX8_tryAct_117 : decode cX8_tryAct 117 = .ok (.invokevirtual 70, 3) := by decide +kernel
theorem dX8_tryAct_120 : decode cX8_tryAct 120 = .ok (.ifCond .eq 14, 3) := by decide +kernel
theorem dX8_tryAct_123 : decode cX8_tryAct 123 = .ok (.aload_n 0, 1) := by decide +kernel
theorem dX8_tryAct_124 : decode cX8_tryAct 124 = .ok (.iload_n 2, 1) := by decide +kernel
theorem dX8_tryAct_125 : decode cX8_tryAct 125 = .ok (.putfield 25, 3) := by decide +kernel
theorem dX8_tryAct_128 : decode cX8_tryAct 128 = .ok (.aload_n 0, 1) := by decide +kernel
theorem dX8_tryAct_129 : decode cX8_tryAct 129 = .ok (.iload 4, 2) := by decide +kernel
theorem dX8_tryAct_131 : decode cX8_tryAct 131 = .ok (.putfield 28, 3) := by decide +kernel
theorem dX8_tryAct_134 : decode cX8_tryAct 134 = .ok (.return_, 1) := by decide +kernel
theorem dX8_drawYear_0 : decode cX8_drawYear 0 = .ok (.aload_n 0, 1) := by decide +kernel
theorem dX8_drawYear_1 : decode cX8_drawYear 1 = .ok (.getfield 12, 3) := by decide +kernel
theorem dX8_drawYear_4 : decode cX8_drawYear 4 = .ok (.aload_n 1, 1) := by decide +kernel
theorem dX8_drawYear_5 : decode cX8_drawYear 5 = .ok (.invokevirtual 37, 3) := by decide +kernel
theorem dX8_drawYear_8 : decode cX8_drawYear 8 = .ok (.iload_n 2, 1) := by decide +kernel
theorem dX8_drawYear_9 : decode cX8_drawYear 9 = .ok (.istore 4, 2) := by decide +kernel
theorem dX8_drawYear_11 : decode cX8_drawYear 11 = .ok (.iconst 0, 1) := by decide +kernel
theorem dX8_drawYear_12 : decode cX8_drawYear 12 = .ok (.istore 5, 2) := by decide +kernel
theorem dX8_drawYear_14 : decode cX8_drawYear 14 = .ok (.iload 5, 2) := by decide +kernel
theorem dX8_drawYear_16 : decode cX8_drawYear 16 = .ok (.iload_n 3, 1) := by decide +kernel
theorem dX8_drawYear_17 : decode cX8_drawYear 17 = .ok (.if_icmp .ge 97, 3) := by decide +kernel
theorem dX8_drawYear_20 : decode cX8_drawYear 20 = .ok (.bipush 75, 2) := by decide +kernel
theorem dX8_drawYear_22 : decode cX8_drawYear 22 = .ok (.iload 4, 2) := by decide +kernel
theorem dX8_drawYear_24 : decode cX8_drawYear 24 = .ok (.imul, 1) := by decide +kernel
theorem dX8_drawYear_25 : decode cX8_drawYear 25 = .ok (.bipush 74, 2) := by decide +kernel
theorem dX8_drawYear_27 : decode cX8_drawYear 27 = .ok (.iadd, 1) := by decide +kernel
theorem dX8_drawYear_28 : decode cX8_drawYear 28 = .ok (.ldc 74, 2) := by decide +kernel
theorem dX8_drawYear_30 : decode cX8_drawYear 30 = .ok (.irem, 1) := by decide +kernel
theorem dX8_drawYear_31 : decode cX8_drawYear 31 = .ok (.istore 4, 2) := by decide +kernel
theorem dX8_drawYear_33 : decode cX8_drawYear 33 = .ok (.getstatic 75, 3) := by decide +kernel
theorem dX8_drawYear_36 : decode cX8_drawYear 36 = .ok (.iload 4, 2) := by decide +kernel
theorem dX8_drawYear_38 : decode cX8_drawYear 38 = .ok (.bipush 6, 2) := by decide +kernel
theorem dX8_drawYear_40 : decode cX8_drawYear 40 = .ok (.idiv, 1) := by decide +kernel
theorem dX8_drawYear_41 : decode cX8_drawYear 41 = .ok (.bipush 8, 2) := by decide +kernel
theorem dX8_drawYear_43 : decode cX8_drawYear 43 = .ok (.irem, 1) := by decide +kernel
theorem dX8_drawYear_44 : decode cX8_drawYear 44 = .ok (.iaload, 1) := by decide +kernel
theorem dX8_drawYear_45 : decode cX8_drawYear 45 = .ok (.istore 6, 2) := by decide +kernel
theorem dX8_drawYear_47 : decode cX8_drawYear 47 = .ok (.iconst 1, 1) := by decide +kernel
theorem dX8_drawYear_48 : decode cX8_drawYear 48 = .ok (.iload 4, 2) := by decide +kernel
theorem dX8_drawYear_50 : decode cX8_drawYear 50 = .ok (.bipush 48, 2) := by decide +kernel
theorem dX8_drawYear_52 : decode cX8_drawYear 52 = .ok (.idiv, 1) := by decide +kernel
theorem dX8_drawYear_53 : decode cX8_drawYear 53 = .ok (.bipush 9, 2) := by decide +kernel
theorem dX8_drawYear_55 : decode cX8_drawYear 55 = .ok (.irem, 1) := by decide +kernel
theorem dX8_drawYear_56 : decode cX8_drawYear 56 = .ok (.iadd, 1) := by decide +kernel
theorem dX8_drawYear_57 : decode cX8_drawYear 57 = .ok (.istore 7, 2) := by decide +kernel
theorem dX8_drawYear_59 : decode cX8_drawYear 59 = .ok (.iload 4, 2) := by decide +kernel
theorem dX8_drawYear_61 : decode cX8_drawYear 61 = .ok (.sipush 432, 3) := by decide +kernel
theorem dX8_drawYear_64 : decode cX8_drawYear 64 = .ok (.idiv, 1) := by decide +kernel
theorem dX8_drawYear_65 : decode cX8_drawYear 65 = .ok (.iconst 4, 1) := by decide +kernel
theorem dX8_drawYear_66 : decode cX8_drawYear 66 = .ok (.irem, 1) := by decide +kernel
theorem dX8_drawYear_67 : decode cX8_drawYear 67 = .ok (.istore 8, 2) := by decide +kernel
theorem dX8_drawYear_69 : decode cX8_drawYear 69 = .ok (.aload_n 0, 1) := by decide +kernel
theorem dX8_drawYear_70 : decode cX8_drawYear 70 = .ok (.getfield 12, 3) := by decide +kernel
theorem dX8_drawYear_73 : decode cX8_drawYear 73 = .ok (.iload 6, 2) := by decide +kernel
theorem dX8_drawYear_75 : decode cX8_drawYear 75 = .ok (.iload 4, 2) := by decide +kernel
theorem dX8_drawYear_77 : decode cX8_drawYear 77 = .ok (.bipush 6, 2) := by decide +kernel
theorem dX8_drawYear_79 : decode cX8_drawYear 79 = .ok (.irem, 1) := by decide +kernel
theorem dX8_drawYear_80 : decode cX8_drawYear 80 = .ok (.iload 8, 2) := by decide +kernel
theorem dX8_drawYear_82 : decode cX8_drawYear 82 = .ok (.iload 7, 2) := by decide +kernel
theorem dX8_drawYear_84 : decode cX8_drawYear 84 = .ok (.invokevirtual 62, 3) := by decide +kernel
theorem dX8_drawYear_87 : decode cX8_drawYear 87 = .ok (.ifCond .ne 21, 3) := by decide +kernel
theorem dX8_drawYear_90 : decode cX8_drawYear 90 = .ok (.aload_n 0, 1) := by decide +kernel
theorem dX8_drawYear_91 : decode cX8_drawYear 91 = .ok (.getfield 12, 3) := by decide +kernel
theorem dX8_drawYear_94 : decode cX8_drawYear 94 = .ok (.iload 6, 2) := by decide +kernel
theorem dX8_drawYear_96 : decode cX8_drawYear 96 = .ok (.iload 4, 2) := by decide +kernel
theorem dX8_drawYear_98 : decode cX8_drawYear 98 = .ok (.bipush 6, 2) := by decide +kernel
theorem dX8_drawYear_100 : decode cX8_drawYear 100 = .ok (.irem, 1) := by decide +kernel
theorem dX8_drawYear_101 : decode cX8_drawYear 101 = .ok (.iload 8, 2) := by decide +kernel
theorem dX8_drawYear_103 : decode cX8_drawYear 103 = .ok (.iload 7, 2) := by decide +kernel
theorem dX8_drawYear_105 : decode cX8_drawYear 105 = .ok (.invokevirtual 66, 3) := by decide +kernel
theorem dX8_drawYear_108 : decode cX8_drawYear 108 = .ok (.iinc 5 1, 3) := by decide +kernel
theorem dX8_drawYear_111 : decode cX8_drawYear 111 = .ok (.goto (-97), 3) := by decide +kernel
theorem dX8_drawYear_114 : decode cX8_drawYear 114 = .ok (.return_, 1) := by decide +kernel
theorem dJ9_floorMod_7cf53_0 : decode cJ9_floorMod_7cf53 0 = .ok (.iload_n 0, 1) := by decide +kernel
theorem dJ9_floorMod_7cf53_1 : decode cJ9_floorMod_7cf53 1 = .ok (.iload_n 1, 1) := by decide +kernel
theorem dJ9_floorMod_7cf53_2 : decode cJ9_floorMod_7cf53 2 = .ok (.irem, 1) := by decide +kernel
theorem dJ9_floorMod_7cf53_3 : decode cJ9_floorMod_7cf53 3 = .ok (.istore_n 2, 1) := by decide +kernel
theorem dJ9_floorMod_7cf53_4 : decode cJ9_floorMod_7cf53 4 = .ok (.iload_n 0, 1) := by decide +kernel
theorem dJ9_floorMod_7cf53_5 : decode cJ9_floorMod_7cf53 5 = .ok (.iload_n 1, 1) := by decide +kernel
theorem dJ9_floorMod_7cf53_6 : decode cJ9_floorMod_7cf53 6 = .ok (.ixor, 1) := by decide +kernel
theorem dJ9_floorMod_7cf53_7 : decode cJ9_floorMod_7cf53 7 = .ok (.ifCond .ge 11, 3) := by decide +kernel
theorem dJ9_floorMod_7cf53_10 : decode cJ9_floorMod_7cf53 10 = .ok (.iload_n 2, 1) := by decide +kernel
theorem dJ9_floorMod_7cf53_11 : decode cJ9_floorMod_7cf53 11 = .ok (.ifCond .eq 7, 3) := by decide +kernel
theorem dJ9_floorMod_7cf53_14 : decode cJ9_floorMod_7cf53 14 = .ok (.iload_n 2, 1) := by decide +kernel
theorem dJ9_floorMod_7cf53_15 : decode cJ9_floorMod_7cf53 15 = .ok (.iload_n 1, 1) := by decide +kernel
theorem dJ9_floorMod_7cf53_16 : decode cJ9_floorMod_7cf53 16 = .ok (.iadd, 1) := by decide +kernel
theorem dJ9_floorMod_7cf53_17 : decode cJ9_floorMod_7cf53 17 = .ok (.ireturn, 1) := by decide +kernel
theorem dJ9_floorMod_7cf53_18 : decode cJ9_floorMod_7cf53 18 = .ok (.iload_n 2, 1) := by decide +kernel
theorem dJ9_floorMod_7cf53_19 : decode cJ9_floorMod_7cf53 19 = .ok (.ireturn, 1) := by decide +kernel
theorem dJ9_abs_0f7a4_0 : decode cJ9_abs_0f7a4 0 = .ok (.iload_n 0, 1) := by decide +kernel
theorem dJ9_abs_0f7a4_1 : decode cJ9_abs_0f7a4 1 = .ok (.ifCond .ge 8, 3) := by decide +kernel
theorem dJ9_abs_0f7a4_4 : decode cJ9_abs_0f7a4 4 = .ok (.iload_n 0, 1) := by decide +kernel
theorem dJ9_abs_0f7a4_5 : decode cJ9_abs_0f7a4 5 = .ok (.ineg, 1) := by decide +kernel
theorem dJ9_abs_0f7a4_6 : decode cJ9_abs_0f7a4 6 = .ok (.goto 4, 3) := by decide +kernel
theorem dJ9_abs_0f7a4_9 : decode cJ9_abs_0f7a4 9 = .ok (.iload_n 0, 1) := by decide +kernel
theorem dJ9_abs_0f7a4_10 : decode cJ9_abs_0f7a4 10 = .ok (.ireturn, 1) := by decide +kernel
theorem dJ9_max_7cf53_0 : decode cJ9_max_7cf53 0 = .ok (.iload_n 0, 1) := by decide +kernel
theorem dJ9_max_7cf53_1 : decode cJ9_max_7cf53 1 = .ok (.iload_n 1, 1) := by decide +kernel
theorem dJ9_max_7cf53_2 : decode cJ9_max_7cf53 2 = .ok (.if_icmp .lt 7, 3) := by decide +kernel
theorem dJ9_max_7cf53_5 : decode cJ9_max_7cf53 5 = .ok (.iload_n 0, 1) := by decide +kernel
theorem dJ9_max_7cf53_6 : decode cJ9_max_7cf53 6 = .ok (.goto 4, 3) := by decide +kernel
theorem dJ9_max_7cf53_9 : decode cJ9_max_7cf53 9 = .ok (.iload_n 1, 1) := by decide +kernel
theorem dJ9_max_7cf53_10 : decode cJ9_max_7cf53 10 = .ok (.ireturn, 1) := by decide +kernel
theorem dJ9_max_f86c9_0 : decode cJ9_max_f86c9 0 = .ok (.lload_n 0, 1) := by decide +kernel
theorem dJ9_max_f86c9_1 : decode cJ9_max_f86c9 1 = .ok (.lload_n 2, 1) := by decide +kernel
theorem dJ9_max_f86c9_2 : decode cJ9_max_f86c9 2 = .ok (.lcmp, 1) := by decide +kernel
theorem dJ9_max_f86c9_3 : decode cJ9_max_f86c9 3 = .ok (.ifCond .lt 7, 3) := by decide +kernel
theorem dJ9_max_f86c9_6 : decode cJ9_max_f86c9 6 = .ok (.lload_n 0, 1) := by decide +kernel
theorem dJ9_max_f86c9_7 : decode cJ9_max_f86c9 7 = .ok (.goto 4, 3) := by decide +kernel
theorem dJ9_max_f86c9_10 : decode cJ9_max_f86c9 10 = .ok (.lload_n 2, 1) := by decide +kernel
theorem dJ9_max_f86c9_11 : decode cJ9_max_f86c9 11 = .ok (.lreturn, 1) := by decide +kernel
theorem dJ9_min_7cf53_0 : decode cJ9_min_7cf53 0 = .ok (.iload_n 0, 1) := by decide +kernel
theorem dJ9_min_7cf53_1 : decode cJ9_min_7cf53 1 = .ok (.iload_n 1, 1) := by decide +kernel
theorem dJ9_min_7cf53_2 : decode cJ9_min_7cf53 2 = .ok (.if_icmp .gt 7, 3) := by decide +kernel
theorem dJ9_min_7cf53_5 : decode cJ9_min_7cf53 5 = .ok (.iload_n 0, 1) := by decide +kernel
theorem dJ9_min_7cf53_6 : decode cJ9_min_7cf53 6 = .ok (.goto 4, 3) := by decide +kernel
theorem dJ9_min_7cf53_9 : decode cJ9_min_7cf53 9 = .ok (.iload_n 1, 1) := by decide +kernel
theorem dJ9_min_7cf53_10 : decode cJ9_min_7cf53 10 = .ok (.ireturn, 1) := by decide +kernel
theorem dJ7_fill_d0a16_0 : decode cJ7_fill_d0a16 0 = .ok (.iconst 0, 1) := by decide +kernel
theorem dJ7_fill_d0a16_1 : decode cJ7_fill_d0a16 1 = .ok (.istore_n 3, 1) := by decide +kernel
theorem dJ7_fill_d0a16_2 : decode cJ7_fill_d0a16 2 = .ok (.aload_n 0, 1) := by decide +kernel
theorem dJ7_fill_d0a16_3 : decode cJ7_fill_d0a16 3 = .ok (.arraylength, 1) := by decide +kernel
theorem dJ7_fill_d0a16_4 : decode cJ7_fill_d0a16 4 = .ok (.istore 4, 2) := by decide +kernel
theorem dJ7_fill_d0a16_6 : decode cJ7_fill_d0a16 6 = .ok (.iload_n 3, 1) := by decide +kernel
theorem dJ7_fill_d0a16_7 : decode cJ7_fill_d0a16 7 = .ok (.iload 4, 2) := by decide +kernel
theorem dJ7_fill_d0a16_9 : decode cJ7_fill_d0a16 9 = .ok (.if_icmp .ge 13, 3) := by decide +kernel
theorem dJ7_fill_d0a16_12 : decode cJ7_fill_d0a16 12 = .ok (.aload_n 0, 1) := by decide +kernel
theorem dJ7_fill_d0a16_13 : decode cJ7_fill_d0a16 13 = .ok (.iload_n 3, 1) := by decide +kernel
theorem dJ7_fill_d0a16_14 : decode cJ7_fill_d0a16 14 = .ok (.lload_n 1, 1) := by decide +kernel
theorem dJ7_fill_d0a16_15 : decode cJ7_fill_d0a16 15 = .ok (.lastore, 1) := by decide +kernel
theorem dJ7_fill_d0a16_16 : decode cJ7_fill_d0a16 16 = .ok (.iinc 3 1, 3) := by decide +kernel
theorem dJ7_fill_d0a16_19 : decode cJ7_fill_d0a16 19 = .ok (.goto (-13), 3) := by decide +kernel
theorem dJ7_fill_d0a16_22 : decode cJ7_fill_d0a16 22 = .ok (.return_, 1) := by decide +kernel
theorem dJ7_fill_53178_0 : decode cJ7_fill_53178 0 = .ok (.iconst 0, 1) := by decide +kernel
theorem dJ7_fill_53178_1 : decode cJ7_fill_53178 1 = .ok (.istore_n 2, 1) := by decide +kernel
theorem dJ7_fill_53178_2 : decode cJ7_fill_53178 2 = .ok (.aload_n 0, 1) := by decide +kernel
theorem dJ7_fill_53178_3 : decode cJ7_fill_53178 3 = .ok (.arraylength, 1) := by decide +kernel
theorem dJ7_fill_53178_4 : decode cJ7_fill_53178 4 = .ok (.istore_n 3, 1) := by decide +kernel
theorem dJ7_fill_53178_5 : decode cJ7_fill_53178 5 = .ok (.iload_n 2, 1) := by decide +kernel
theorem dJ7_fill_53178_6 : decode cJ7_fill_53178 6 = .ok (.iload_n 3, 1) := by decide +kernel
theorem dJ7_fill_53178_7 : decode cJ7_fill_53178 7 = .ok (.if_icmp .ge 13, 3) := by decide +kernel
theorem dJ7_fill_53178_10 : decode cJ7_fill_53178 10 = .ok (.aload_n 0, 1) := by decide +kernel
theorem dJ7_fill_53178_11 : decode cJ7_fill_53178 11 = .ok (.iload_n 2, 1) := by decide +kernel
theorem dJ7_fill_53178_12 : decode cJ7_fill_53178 12 = .ok (.iload_n 1, 1) := by decide +kernel
theorem dJ7_fill_53178_13 : decode cJ7_fill_53178 13 = .ok (.iastore, 1) := by decide +kernel
theorem dJ7_fill_53178_14 : decode cJ7_fill_53178 14 = .ok (.iinc 2 1, 3) := by decide +kernel
theorem dJ7_fill_53178_17 : decode cJ7_fill_53178 17 = .ok (.goto (-12), 3) := by decide +kernel
theorem dJ7_fill_53178_20 : decode cJ7_fill_53178 20 = .ok (.return_, 1) := by decide +kernel
end
section
theorem dX9_init_0 : decode cX9_init 0 = .ok (.aload_n 0, 1) := by decide +kernel
theorem dX9_init_1 : decode cX9_init 1 = .ok (.invokespecial 1, 3) := by decide +kernel
theorem dX9_init_4 : decode cX9_init 4 = .ok (.aload_n 0, 1) := by decide +kernel
theorem dX9_init_5 : decode cX9_init 5 = .ok (.new 7, 3) := by decide +kernel
theorem dX9_init_8 : decode cX9_init 8 = .ok (.dup, 1) := by decide +kernel
theorem dX9_init_9 : decode cX9_init 9 = .ok (.invokespecial 9, 3) := by decide +kernel
theorem dX9_init_12 : decode cX9_init 12 = .ok (.putfield 10, 3) := by decide +kernel
theorem dX9_init_15 : decode cX9_init 15 = .ok (.aload_n 0, 1) := by decide +kernel
theorem dX9_init_16 : decode cX9_init 16 = .ok (.new 16, 3) := by decide +kernel
theorem dX9_init_19 : decode cX9_init 19 = .ok (.dup, 1) := by decide +kernel
theorem dX9_init_20 : decode cX9_init 20 = .ok (.invokespecial 18, 3) := by decide +kernel
theorem dX9_init_23 : decode cX9_init 23 = .ok (.putfield 19, 3) := by decide +kernel
theorem dX9_init_26 : decode cX9_init 26 = .ok (.aload_n 0, 1) := by decide +kernel
theorem dX9_init_27 : decode cX9_init 27 = .ok (.new 16, 3) := by decide +kernel
theorem dX9_init_30 : decode cX9_init 30 = .ok (.dup, 1) := by decide +kernel
theorem dX9_init_31 : decode cX9_init 31 = .ok (.invokespecial 18, 3) := by decide +kernel
theorem dX9_init_34 : decode cX9_init 34 = .ok (.putfield 23, 3) := by decide +kernel
theorem dX9_init_37 : decode cX9_init 37 = .ok (.aload_n 0, 1) := by decide +kernel
theorem dX9_init_38 : decode cX9_init 38 = .ok (.new 26, 3) := by decide +kernel
theorem dX9_init_41 : decode cX9_init 41 = .ok (.dup, 1) := by decide +kernel
theorem dX9_init_42 : decode cX9_init 42 = .ok (.invokespecial 28, 3) := by decide +kernel
theorem dX9_init_45 : decode cX9_init 45 = .ok (.putfield 29, 3) := by decide +kernel
theorem dX9_init_48 : decode cX9_init 48 = .ok (.aload_n 0, 1) := by decide +kernel
theorem dX9_init_49 : decode cX9_init 49 = .ok (.new 33, 3) := by decide +kernel
theorem dX9_init_52 : decode cX9_init 52 = .ok (.dup, 1) := by decide +kernel
theorem dX9_init_53 : decode cX9_init 53 = .ok (.invokespecial 35, 3) := by decide +kernel
theorem dX9_init_56 : decode cX9_init 56 = .ok (.putfield 36, 3) := by decide +kernel
theorem dX9_init_59 : decode cX9_init 59 = .ok (.aload_n 0, 1) := by decide +kernel
theorem dX9_init_60 : decode cX9_init 60 = .ok (.new 40, 3) := by decide +kernel
theorem dX9_init_63 : decode cX9_init 63 = .ok (.dup, 1) := by decide +kernel
theorem dX9_init_64 : decode cX9_init 64 = .ok (.invokespecial 42, 3) := by decide +kernel
theorem dX9_init_67 : decode cX9_init 67 = .ok (.putfield 43, 3) := by decide +kernel
theorem dX9_init_70 : decode cX9_init 70 = .ok (.aload_n 0, 1) := by decide +kernel
theorem dX9_init_71 : decode cX9_init 71 = .ok (.new 47, 3) := by decide +kernel
theorem dX9_init_74 : decode cX9_init 74 = .ok (.dup, 1) := by decide +kernel
theorem dX9_init_75 : decode cX9_init 75 = .ok (.invokespecial 49, 3) := by decide +kernel
theorem dX9_init_78 : decode cX9_init 78 = .ok (.putfield 50, 3) := by decide +kernel
theorem dX9_init_81 : decode cX9_init 81 = .ok (.aload_n 0, 1) := by decide +kernel
theorem dX9_init_82 : decode cX9_init 82 = .ok (.new 54, 3) := by decide +kernel
theorem dX9_init_85 : decode cX9_init 85 = .ok (.dup, 1) := by decide +kernel
theorem dX9_init_86 : decode cX9_init 86 = .ok (.invokespecial 56, 3) := by decide +kernel
theorem dX9_init_89 : decode cX9_init 89 = .ok (.putfield 57, 3) := by decide +kernel
theorem dX9_init_92 : decode cX9_init 92 = .ok (.aload_n 0, 1) := by decide +kernel
theorem dX9_init_93 : decode cX9_init 93 = .ok (.new 61, 3) := by decide +kernel
theorem dX9_init_96 : decode cX9_init 96 = .ok (.dup, 1) := by decide +kernel
theorem dX9_init_97 : decode cX9_init 97 = .ok (.invokespecial 63, 3) := by decide +kernel
theorem dX9_init_100 : decode cX9_init 100 = .ok (.putfield 64, 3) := by decide +kernel
theorem dX9_init_103 : decode cX9_init 103 = .ok (.aload_n 0, 1) := by decide +kernel
theorem dX9_init_104 : decode cX9_init 104 = .ok (.new 68, 3) := by decide +kernel
theorem dX9_init_107 : decode cX9_init 107 = .ok (.dup, 1) := by decide +kernel
theorem dX9_init_108 : decode cX9_init 108 = .ok (.invokespecial 70, 3) := by decide +kernel
theorem dX9_init_111 : decode cX9_init 111 = .ok (.putfield 71, 3) := by decide +kernel
theorem dX9_init_114 : decode cX9_init 114 = .ok (.return_, 1) := by decide +kernel
theorem dX9_inch_0 : decode cX9_inch 0 = .ok (.iload_n 1, 1) := by decide +kernel
theorem dX9_inch_1 : decode cX9_inch 1 = .ok (.iconst 1, 1) := by decide +kernel
theorem dX9_inch_2 : decode cX9_inch 2 = .ok (.sipush 200, 3) := by decide +kernel
theorem dX9_inch_5 : decode cX9_inch 5 = .ok (.invokestatic 75, 3) := by decide +kernel
theorem dX9_inch_8 : decode cX9_inch 8 = .ok (.ifCond .ne 6, 3) := by decide +kernel
theorem dX9_inch_11 : decode cX9_inch 11 = .ok (.bipush (-2), 2) := by decide +kernel
theorem dX9_inch_13 : decode cX9_inch 13 = .ok (.ireturn, 1) := by decide +kernel
theorem dX9_inch_14 : decode cX9_inch 14 = .ok (.aload_n 0, 1) := by decide +kernel
theorem dX9_inch_15 : decode cX9_inch 15 = .ok (.getfield 10, 3) := by decide +kernel
theorem dX9_inch_18 : decode cX9_inch 18 = .ok (.getfield 79, 3) := by decide +kernel
theorem dX9_inch_21 : decode cX9_inch 21 = .ok (.istore_n 2, 1) := by decide +kernel
theorem dX9_inch_22 : decode cX9_inch 22 = .ok (.aload_n 0, 1) := by decide +kernel
theorem dX9_inch_23 : decode cX9_inch 23 = .ok (.getfield 10, 3) := by decide +kernel
theorem dX9_inch_26 : decode cX9_inch 26 = .ok (.iload_n 1, 1) := by decide +kernel
theorem dX9_inch_27 : decode cX9_inch 27 = .ok (.putfield 79, 3) := by decide +kernel
theorem dX9_inch_30 : decode cX9_inch 30 = .ok (.iload_n 2, 1) := by decide +kernel
theorem dX9_inch_31 : decode cX9_inch 31 = .ok (.ireturn, 1) := by decide +kernel
theorem dX9_week_0 : decode cX9_week 0 = .ok (.iload_n 1, 1) := by decide +kernel
theorem dX9_week_1 : decode cX9_week 1 = .ok (.iconst 0, 1) := by decide +kernel
theorem dX9_week_2 : decode cX9_week 2 = .ok (.bipush 6, 2) := by decide +kernel
theorem dX9_week_4 : decode cX9_week 4 = .ok (.invokestatic 75, 3) := by decide +kernel
theorem dX9_week_7 : decode cX9_week 7 = .ok (.ifCond .eq 14, 3) := by decide +kernel
theorem dX9_week_10 : decode cX9_week 10 = .ok (.iload_n 2, 1) := by decide +kernel
theorem dX9_week_11 : decode cX9_week 11 = .ok (.bipush (-9), 2) := by decide +kernel
theorem dX9_week_13 : decode cX9_week 13 = .ok (.bipush 9, 2) := by decide +kernel
theorem dX9_week_15 : decode cX9_week 15 = .ok (.invokestatic 75, 3) := by decide +kernel
theorem dX9_week_18 : decode cX9_week 18 = .ok (.ifCond .ne 6, 3) := by decide +kernel
theorem dX9_week_21 : decode cX9_week 21 = .ok (.bipush (-2), 2) := by decide +kernel
theorem dX9_week_23 : decode cX9_week 23 = .ok (.ireturn, 1) := by decide +kernel
theorem dX9_week_24 : decode cX9_week 24 = .ok (.aload_n 0, 1) := by decide +kernel
theorem dX9_week_25 : decode cX9_week 25 = .ok (.getfield 10, 3) := by decide +kernel
theorem dX9_week_28 : decode cX9_week 28 = .ok (.getfield 83, 3) := by decide +kernel
theorem dX9_week_31 : decode cX9_week 31 = .ok (.iload_n 1, 1) := by decide +kernel
theorem dX9_week_32 : decode cX9_week 32 = .ok (.iaload, 1) := by decide +kernel
theorem dX9_week_33 : decode cX9_week 33 = .ok (.istore_n 3, 1) := by decide +kernel
theorem dX9_week_34 : decode cX9_week 34 = .ok (.aload_n 0, 1) := by decide +kernel
theorem dX9_week_35 : decode cX9_week 35 = .ok (.getfield 10, 3) := by decide +kernel
theorem dX9_week_38 : decode cX9_week 38 = .ok (.getfield 83, 3) := by decide +kernel
theorem dX9_week_41 : decode cX9_week 41 = .ok (.iload_n 1, 1) := by decide +kernel
theorem dX9_week_42 : decode cX9_week 42 = .ok (.iload_n 2, 1) := by decide +kernel
theorem dX9_week_43 : decode cX9_week 43 = .ok (.iastore, 1) := by decide +kernel
theorem dX9_week_44 : decode cX9_week 44 = .ok (.iload_n 3, 1) := by decide +kernel
theorem dX9_week_45 : decode cX9_week 45 = .ok (.bipush 9, 2) := by decide +kernel
theorem dX9_week_47 : decode cX9_week 47 = .ok (.iadd, 1) := by decide +kernel
theorem dX9_week_48 : decode cX9_week 48 = .ok (.ireturn, 1) := by decide +kernel
theorem dX9_one_0 : decode cX9_one 0 = .ok (.iload_n 1, 1) := by decide +kernel
theorem dX9_one_1 : decode cX9_one 1 = .ok (.invokestatic 87, 3) := by decide +kernel
theorem dX9_one_4 : decode cX9_one 4 = .ok (.ifCond .ne 5, 3) := by decide +kernel
theorem dX9_one_7 : decode cX9_one 7 = .ok (.iconst (-1), 1) := by decide +kernel
theorem dX9_one_8 : decode cX9_one 8 = .ok (.ireturn, 1) := by decide +kernel
theorem dX9_one_9 : decode cX9_one 9 = .ok (.iload_n 2, 1) := by decide +kernel
theorem dX9_one_10 : decode cX9_one 10 = .ok (.iconst 0, 1) := by decide +kernel
theorem dX9_one_11 : decode cX9_one 11 = .ok (.sipush 9999, 3) := by decide +kernel
theorem dX9_one_14 : decode cX9_one 14 = .ok (.invokestatic 75, 3) := by decide +kernel
theorem dX9_one_17 : decode cX9_one 17 = .ok (.ifCond .eq 25, 3) := by decide +kernel
theorem dX9_one_20 : decode cX9_one 20 = .ok (.iload_n 3, 1) := by decide +kernel
theorem dX9_one_21 : decode cX9_one 21 = .ok (.iconst 0, 1) := by decide +kernel
theorem dX9_one_22 : decode cX9_one 22 = .ok (.ldc 91, 2) := by decide +kernel
theorem dX9_one_24 : decode cX9_one 24 = .ok (.invokestatic 75, 3) := by decide +kernel
theorem dX9_one_27 : decode cX9_one 27 = .ok (.ifCond .eq 15, 3) := by decide +kernel
theorem dX9_one_30 : decode cX9_one 30 = .ok (.iload 4, 2) := by decide +kernel
theorem dX9_one_32 : decode cX9_one 32 = .ok (.iconst 0, 1) := by decide +kernel
theorem dX9_one_33 : decode cX9_one 33 = .ok (.sipush 200, 3) := by decide +kernel
theorem dX9_one_36 : decode cX9_one 36 = .ok (.invokestatic 75, 3) := by decide +kernel
theorem dX9_one_39 : decode cX9_one 39 = .ok (.ifCond .ne 6, 3) := by decide +kernel
theorem dX9_one_42 : decode cX9_one 42 = .ok (.bipush (-2), 2) := by decide +kernel
theorem dX9_one_44 : decode cX9_one 44 = .ok (.ireturn, 1) := by decide +kernel
theorem dX9_one_45 : decode cX9_one 45 = .ok (.aload_n 0, 1) := by decide +kernel
theorem dX9_one_46 : decode cX9_one 46 = .ok (.getfield 10, 3) := by decide +kernel
theorem dX9_one_49 : decode cX9_one 49 = .ok (.getfield 92, 3) := by decide +kernel
theorem dX9_one_52 : decode cX9_one 52 = .ok (.iload_n 1, 1) := by decide +kernel
theorem dX9_one_53 : decode cX9_one 53 = .ok (.iaload, 1) := by decide +kernel
theorem dX9_one_54 : decode cX9_one 54 = .ok (.istore 5, 2) := by decide +kernel
theorem dX9_one_56 : decode cX9_one 56 = .ok (.aload_n 0, 1) := by decide +kernel
theorem dX9_one_57 : decode cX9_one 57 = .ok (.getfield 10, 3) := by decide +kernel
theorem dX9_one_60 : decode cX9_one 60 = .ok (.getfield 92, 3) := by decide +kernel
theorem dX9_one_63 : decode cX9_one 63 = .ok (.iload_n 1, 1) := by decide +kernel
theorem dX9_one_64 : decode cX9_one 64 = .ok (.iload_n 2, 1) := by decide +kernel
theorem dX9_one_65 : decode cX9_one 65 = .ok (.iastore, 1) := by decide +kernel
theorem dX9_one_66 : decode cX9_one 66 = .ok (.aload_n 0, 1) := by decide +kernel
theorem dX9_one_67 : decode cX9_one 67 = .ok (.getfield 10, 3) := by decide +kernel
theorem dX9_one_70 : decode cX9_one 70 = .ok (.getfield 95, 3) := by decide +kernel
theorem dX9_one_73 : decode cX9_one 73 = .ok (.iload_n 1, 1) := by decide +kernel
theorem dX9_one_74 : decode cX9_one 74 = .ok (.iload_n 3, 1) := by decide +kernel
theorem dX9_one_75 : decode cX9_one 75 = .ok (.iastore, 1) := by decide +kernel
theorem dX9_one_76 : decode cX9_one 76 = .ok (.aload_n 0, 1) := by decide +kernel
theorem dX9_one_77 : decode cX9_one 77 = .ok (.getfield 10, 3) := by decide +kernel
theorem dX9_one_80 : decode cX9_one 80 = .ok (.getfield 98, 3) := by decide +kernel
theorem dX9_one_83 : decode cX9_one 83 = .ok (.iload_n 1, 1) := by decide +kernel
theorem dX9_one_84 : decode cX9_one 84 = .ok (.iload 4, 2) := by decide +kernel
theorem dX9_one_86 : decode cX9_one 86 = .ok (.iastore, 1) := by decide +kernel
theorem dX9_one_87 : decode cX9_one 87 = .ok (.iload 5, 2) := by decide +kernel
theorem dX9_one_89 : decode cX9_one 89 = .ok (.ireturn, 1) := by decide +kernel
theorem dX9_stick_0 : decode cX9_stick 0 = .ok (.iload_n 1, 1) := by decide +kernel
theorem dX9_stick_1 : decode cX9_stick 1 = .ok (.invokestatic 101, 3) := by decide +kernel
theorem dX9_stick_4 : decode cX9_stick 4 = .ok (.ifCond .ne 5, 3) := by decide +kernel
theorem dX9_stick_7 : decode cX9_stick 7 = .ok (.iconst (-1), 1) := by decide +kernel
theorem dX9_stick_8 : decode cX9_stick 8 = .ok (.ireturn, 1) := by decide +kernel
theorem dX9_stick_9 : decode cX9_stick 9 = .ok (.iload_n 2, 1) := by decide +kernel
theorem dX9_stick_10 : decode cX9_stick 10 = .ok (.iconst 0, 1) := by decide +kernel
theorem dX9_stick_11 : decode cX9_stick 11 = .ok (.sipush 1800, 3) := by decide +kernel
theorem dX9_stick_14 : decode cX9_stick 14 = .ok (.invokestatic 75, 3) := by decide +kernel
theorem dX9_stick_17 : decode cX9_stick 17 = .ok (.ifCond .ne 6, 3) := by decide +kernel
theorem dX9_stick_20 : decode cX9_stick 20 = .ok (.bipush (-2), 2) := by decide +kernel
theorem dX9_stick_22 : decode cX9_stick 22 = .ok (.ireturn, 1) := by decide +kernel
theorem dX9_stick_23 : decode cX9_stick 23 = .ok (.aload_n 0, 1) := by decide +kernel
theorem dX9_stick_24 : decode cX9_stick 24 = .ok (.getfield 10, 3) := by decide +kernel
theorem dX9_stick_27 : decode cX9_stick 27 = .ok (.getfield 104, 3) := by decide +kernel
theorem dX9_stick_30 : decode cX9_stick 30 = .ok (.iload_n 1, 1) := by decide +kernel
theorem dX9_stick_31 : decode cX9_stick 31 = .ok (.iaload, 1) := by decide +kernel
theorem dX9_stick_32 : decode cX9_stick 32 = .ok (.istore_n 3, 1) := by decide +kernel
theorem dX9_stick_33 : decode cX9_stick 33 = .ok (.aload_n 0, 1) := by decide +kernel
theorem dX9_stick_34 : decode cX9_stick 34 = .ok (.getfield 10, 3) := by decide +kernel
theorem dX9_stick_37 : decode cX9_stick 37 = .ok (.getfield 104, 3) := by decide +kernel
theorem dX9_stick_40 : decode cX9_stick 40 = .ok (.iload_n 1, 1) := by decide +kernel
theorem dX9_stick_41 : decode cX9_stick 41 = .ok (.iload_n 2, 1) := by decide +kernel
theorem dX9_stick_42 : decode cX9_stick 42 = .ok (.iastore, 1) := by decide +kernel
theorem dX9_stick_43 : decode cX9_stick 43 = .ok (.iload_n 3, 1) := by decide +kernel
theorem dX9_stick_44 : decode cX9_stick 44 = .ok (.ireturn, 1) := by decide +kernel
theorem dX9_bridge_0 : decode cX9_bridge 0 = .ok (.iload_n 1, 1) := by decide +kernel
theorem dX9_bridge_1 : decode cX9_bridge 1 = .ok (.invokestatic 107, 3) := by decide +kernel
theorem dX9_bridge_4 : decode cX9_bridge 4 = .ok (.ifCond .ne 5, 3) := by decide +kernel
theorem dX9_bridge_7 : decode cX9_bridge 7 = .ok (.iconst (-1), 1) := by decide +kernel
theorem dX9_bridge_8 : decode cX9_bridge 8 = .ok (.ireturn, 1) := by decide +kernel
theorem dX9_bridge_9 : decode cX9_bridge 9 = .ok (.iload_n 2, 1) := by decide +kernel
theorem dX9_bridge_10 : decode cX9_bridge 10 = .ok (.iconst 1, 1) := by decide +kernel
theorem dX9_bridge_11 : decode cX9_bridge 11 = .ok (.ldc 91, 2) := by decide +kernel
theorem dX9_bridge_13 : decode cX9_bridge 13 = .ok (.invokestatic 75, 3) := by decide +kernel
theorem dX9_bridge_16 : decode cX9_bridge 16 = .ok (.ifCond .ne 6, 3) := by decide +kernel
theorem dX9_bridge_19 : decode cX9_bridge 19 = .ok (.bipush (-2), 2) := by decide +kernel
theorem dX9_bridge_21 : decode cX9_bridge 21 = .ok (.ireturn, 1) := by decide +kernel
theorem dX9_bridge_22 : decode cX9_bridge 22 = .ok (.aload_n 0, 1) := by decide +kernel
theorem dX9_bridge_23 : decode cX9_bridge 23 = .ok (.getfield 10, 3) := by decide +kernel
theorem dX9_bridge_26 : decode cX9_bridge 26 = .ok (.getfield 110, 3) := by decide +kernel
theorem dX9_bridge_29 : decode cX9_bridge 29 = .ok (.iload_n 1, 1) := by decide +kernel
theorem dX9_bridge_30 : decode cX9_bridge 30 = .ok (.iaload, 1) := by decide +kernel
theorem dX9_bridge_31 : decode cX9_bridge 31 = .ok (.istore_n 3, 1) := by decide +kernel
theorem dX9_bridge_32 : decode cX9_bridge 32 = .ok (.aload_n 0, 1) := by decide +kernel
theorem dX9_bridge_33 : decode cX9_bridge 33 = .ok (.getfield 10, 3) := by decide +kernel
theorem dX9_bridge_36 : decode cX9_bridge 36 = .ok (.getfield 110, 3) := by decide +kernel
theorem dX9_bridge_39 : decode cX9_bridge 39 = .ok (.iload_n 1, 1) := by decide +kernel
theorem dX9_bridge_40 : decode cX9_bridge 40 = .ok (.iload_n 2, 1) := by decide +kernel
theorem dX9_bridge_41 : decode cX9_bridge 41 = .ok (.iastore, 1) := by decide +kernel
theorem dX9_bridge_42 : decode cX9_bridge 42 = .ok (.aload_n 0, 1) := by decide +kernel
theorem dX9_bridge_43 : decode cX9_bridge 43 = .ok (.getfield 10, 3) := by decide +kernel
theorem dX9_bridge_46 : decode cX9_bridge 46 = .ok (.getfield 113, 3) := by decide +kernel
theorem dX9_bridge_49 : decode cX9_bridge 49 = .ok (.iload_n 1, 1) := by decide +kernel
theorem dX9_bridge_50 : decode cX9_bridge 50 = .ok (.iconst 0, 1) := by decide +kernel
theorem dX9_bridge_51 : decode cX9_bridge 51 = .ok (.iastore, 1) := by decide +kernel
theorem dX9_bridge_52 : decode cX9_bridge 52 = .ok (.aload_n 0, 1) := by decide +kernel
theorem dX9_bridge_53 : decode cX9_bridge 53 = .ok (.getfield 10, 3) := by decide +kernel
theorem dX9_bridge_56 : decode cX9_bridge 56 = .ok (.getfield 116, 3) := by decide +kernel
theorem dX9_bridge_59 : decode cX9_bridge 59 = .ok (.iload_n 1, 1) := by decide +kernel
theorem dX9_bridge_60 : decode cX9_bridge 60 = .ok (.iconst 0, 1) := by decide +kernel
theorem dX9_bridge_61 : decode cX9_bridge 61 = .ok (.iastore, 1) := by decide +kernel
theorem dX9_bridge_62 : decode cX9_bridge 62 = .ok (.iload_n 3, 1) := by decide +kernel
theorem dX9_bridge_63 : decode cX9_bridge 63 = .ok (.ireturn, 1) := by decide +kernel
theorem dX9_say_0 : decode cX9_say 0 = .ok (.iload_n 1, 1) := by decide +kernel
theorem dX9_say_1 : decode cX9_say 1 = .ok (.bipush 33, 2) := by decide +kernel
theorem dX9_say_3 : decode cX9_say 3 = .ok (.bipush 126, 2) := by decide +kernel
theorem dX9_say_5 : decode cX9_say 5 = .ok (.invokestatic 75, 3) := by decide +kernel
theorem dX9_say_8 : decode cX9_say 8 = .ok (.ifCond .ne 6, 3) := by decide +kernel
theorem dX9_say_11 : decode cX9_say 11 = .ok (.bipush (-2), 2) := by decide +kernel
theorem dX9_say_13 : decode cX9_say 13 = .ok (.ireturn, 1) := by decide +kernel
theorem dX9_say_14 : decode cX9_say 14 = .ok (.aload_n 0, 1) := by decide +kernel
theorem dX9_say_15 : decode cX9_say 15 = .ok (.getfield 29, 3) := by decide +kernel
theorem dX9_say_18 : decode cX9_say 18 = .ok (.iload_n 1, 1) := by decide +kernel
theorem dX9_say_19 : decode cX9_say 19 = .ok (.invokevirtual 119, 3) := by decide +kernel
theorem dX9_say_22 : decode cX9_say 22 = .ok (.ifCond .eq 13, 3) := by decide +kernel
theorem dX9_say_25 : decode cX9_say 25 = .ok (.aload_n 0, 1) := by decide +kernel
theorem dX9_say_26 : decode cX9_say 26 = .ok (.getfield 29, 3) := by decide +kernel
theorem dX9_say_29 : decode cX9_say 29 = .ok (.getfield 122, 3) := by decide +kernel
theorem dX9_say_32 : decode cX9_say 32 = .ok (.goto 5, 3) := by decide +kernel
theorem dX9_say_35 : decode cX9_say 35 = .ok (.bipush (-4), 2) := by decide +kernel
theorem dX9_say_37 : decode cX9_say 37 = .ok (.ireturn, 1) := by decide +kernel
theorem dX9_wipe_0 : decode cX9_wipe 0 = .ok (.aload_n 0, 1) := by decide +kernel
theorem dX9_wipe_1 : decode cX9_wipe 1 = .ok (.getfield 29, 3) := by decide +kernel
theorem dX9_wipe_4 : decode cX9_wipe 4 = .ok (.invokevirtual 125, 3) := by decide +kernel
theorem dX9_wipe_7 : decode cX9_wipe 7 = .ok (.ireturn, 1) := by decide +kernel
theorem dX9_fault_0 : decode cX9_fault 0 = .ok (.aload_n 0, 1) := by decide +kernel
theorem dX9_fault_1 : decode cX9_fault 1 = .ok (.getfield 29, 3) := by decide +kernel
theorem dX9_fault_4 : decode cX9_fault 4 = .ok (.invokevirtual 129, 3) := by decide +kernel
theorem dX9_fault_7 : decode cX9_fault 7 = .ok (.ireturn, 1) := by decide +kernel
theorem dX9_judge_0 : decode cX9_judge 0 = .ok (.iload_n 1, 1) := by decide +kernel
theorem dX9_judge_1 : decode cX9_judge 1 = .ok (.iconst 0, 1) := by decide +kernel
theorem dX9_judge_2 : decode cX9_judge 2 = .ok (.iconst 1, 1) := by decide +kernel
theorem dX9_judge_3 : decode cX9_judge 3 = .ok (.invokestatic 75, 3) := by decide +kernel
theorem dX9_judge_6 : decode cX9_judge 6 = .ok (.ifCond .ne 6, 3) := by decide +kernel
theorem dX9_judge_9 : decode cX9_judge 9 = .ok (.bipush (-2), 2) := by decide +kernel
theorem dX9_judge_11 : decode cX9_judge 11 = .ok (.ireturn, 1) := by decide +kernel
theorem dX9_judge_12 : decode cX9_judge 12 = .ok (.aload_n 0, 1) := by decide +kernel
theorem dX9_judge_13 : decode cX9_judge 13 = .ok (.getfield 36, 3) := by decide +kernel
theorem dX9_judge_16 : decode cX9_judge 16 = .ok (.aload_n 0, 1) := by decide +kernel
theorem dX9_judge_17 : decode cX9_judge 17 = .ok (.getfield 10, 3) := by decide +kernel
theorem dX9_judge_20 : decode cX9_judge 20 = .ok (.aload_n 0, 1) := by decide +kernel
theorem dX9_judge_21 : decode cX9_judge 21 = .ok (.getfield 29, 3) := by decide +kernel
theorem dX9_judge_24 : decode cX9_judge 24 = .ok (.invokevirtual 132, 3) := by decide +kernel
theorem dX9_judge_27 : decode cX9_judge 27 = .ok (.ifCond .ne 6, 3) := by decide +kernel
theorem dX9_judge_30 : decode cX9_judge 30 = .ok (.bipush (-5), 2) := by decide +kernel
theorem dX9_judge_32 : decode cX9_judge 32 = .ok (.ireturn, 1) := by decide +kernel
theorem dX9_judge_33 : decode cX9_judge 33 = .ok (.iload_n 1, 1) := by decide +kernel
theorem dX9_judge_34 : decode cX9_judge 34 = .ok (.ifCond .ne 13, 3) := by decide +kernel
theorem dX9_judge_37 : decode cX9_judge 37 = .ok (.aload_n 0, 1) := by decide +kernel
theorem dX9_judge_38 : decode cX9_judge 38 = .ok (.getfield 36, 3) := by decide +kernel
theorem dX9_judge_41 : decode cX9_judge 41 = .ok (.getfield 136, 3) := by decide +kernel
theorem dX9_judge_44 : decode cX9_judge 44 = .ok (.goto 10, 3) := by decide +kernel
theorem dX9_judge_47 : decode cX9_judge 47 = .ok (.aload_n 0, 1) := by decide +kernel
theorem dX9_judge_48 : decode cX9_judge 48 = .ok (.getfield 36, 3) := by decide +kernel
theorem dX9_judge_51 : decode cX9_judge 51 = .ok (.getfield 139, 3) := by decide +kernel
theorem dX9_judge_54 : decode cX9_judge 54 = .ok (.ireturn, 1) := by decide +kernel
theorem dX9_done_0 : decode cX9_done 0 = .ok (.aload_n 0, 1) := by decide +kernel
theorem dX9_done_1 : decode cX9_done 1 = .ok (.invokevirtual 142, 3) := by decide +kernel
theorem dX9_done_4 : decode cX9_done 4 = .ok (.ifCond .ne 6, 3) := by decide +kernel
theorem dX9_done_7 : decode cX9_done 7 = .ok (.bipush (-5), 2) := by decide +kernel
theorem dX9_done_9 : decode cX9_done 9 = .ok (.ireturn, 1) := by decide +kernel
theorem dX9_done_10 : decode cX9_done 10 = .ok (.aload_n 0, 1) := by decide +kernel
theorem dX9_done_11 : decode cX9_done 11 = .ok (.getfield 10, 3) := by decide +kernel
theorem dX9_done_14 : decode cX9_done 14 = .ok (.aload_n 0, 1) := by decide +kernel
theorem dX9_done_15 : decode cX9_done 15 = .ok (.getfield 36, 3) := by decide +kernel
theorem dX9_done_18 : decode cX9_done 18 = .ok (.getfield 146, 3) := by decide +kernel
theorem dX9_done_21 : decode cX9_done 21 = .ok (.invokevirtual 149, 3) := by decide +kernel
theorem dX9_done_24 : decode cX9_done 24 = .ok (.aload_n 0, 1) := by decide +kernel
theorem dX9_done_25 : decode cX9_done 25 = .ok (.getfield 29, 3) := by decide +kernel
theorem dX9_done_28 : decode cX9_done 28 = .ok (.invokevirtual 125, 3) := by decide +kernel
theorem dX9_done_31 : decode cX9_done 31 = .ok (.pop, 1) := by decide +kernel
theorem dX9_done_32 : decode cX9_done 32 = .ok (.aload_n 0, 1) := by decide +kernel
theorem dX9_done_33 : decode cX9_done 33 = .ok (.getfield 36, 3) := by decide +kernel
theorem dX9_done_36 : decode cX9_done 36 = .ok (.getfield 153, 3) := by decide +kernel
theorem dX9_done_39 : decode cX9_done 39 = .ok (.ireturn, 1) := by decide +kernel
theorem dX9_behind_0 : decode cX9_behind 0 = .ok (.iload_n 1, 1) := by decide +kernel
theorem dX9_behind_1 : decode cX9_behind 1 = .ok (.invokestatic 87, 3) := by decide +kernel
theorem dX9_behind_4 : decode cX9_behind 4 = .ok (.ifCond .ne 5, 3) := by decide +kernel
theorem dX9_behind_7 : decode cX9_behind 7 = .ok (.iconst (-1), 1) := by decide +kernel
theorem dX9_behind_8 : decode cX9_behind 8 = .ok (.ireturn, 1) := by decide +kernel
theorem dX9_behind_9 : decode cX9_behind 9 = .ok (.iload_n 2, 1) := by decide +kernel
theorem dX9_behind_10 : decode cX9_behind 10 = .ok (.iconst 0, 1) := by decide +kernel
theorem dX9_behind_11 : decode cX9_behind 11 = .ok (.iconst 2, 1) := by decide +kernel
theorem dX9_behind_12 : decode cX9_behind 12 = .ok (.invokestatic 75, 3) := by decide +kernel
theorem dX9_behind_15 : decode cX9_behind 15 = .ok (.ifCond .ne 6, 3) := by decide +kernel
theorem dX9_behind_18 : decode cX9_behind 18 = .ok (.bipush (-2), 2) := by decide +kernel
theorem dX9_behind_20 : decode cX9_behind 20 = .ok (.ireturn, 1) := by decide +kernel
theorem dX9_behind_21 : decode cX9_behind 21 = .ok (.aload_n 0, 1) := by decide +kernel
theorem dX9_behind_22 : decode cX9_behind 22 = .ok (.invokevirtual 142, 3) := by decide +kernel
theorem dX9_behind_25 : decode cX9_behind 25 = .ok (.ifCond .eq 18, 3) := by decide +kernel
theorem dX9_behind_28 : decode cX9_behind 28 = .ok (.aload_n 0, 1) := by decide +kernel
theorem dX9_behind_29 : decode cX9_behind 29 = .ok (.getfield 36, 3) := by decide +kernel
theorem dX9_behind_32 : decode cX9_behind 32 = .ok (.getfield 146, 3) := by decide +kernel
theorem dX9_behind_35 : decode cX9_behind 35 = .ok (.iload_n 1, 1) := by decide +kernel
theorem dX9_behind_36 : decode cX9_behind 36 = .ok (.iload_n 2, 1) := by decide +kernel
theorem dX9_behind_37 : decode cX9_behind 37 = .ok (.invokevirtual 156, 3) := by decide +kernel
theorem dX9_behind_40 : decode cX9_behind 40 = .ok (.goto 5, 3) := by decide +kernel
theorem dX9_behind_43 : decode cX9_behind 43 = .ok (.bipush (-5), 2) := by decide +kernel
theorem dX9_behind_45 : decode cX9_behind 45 = .ok (.ireturn, 1) := by decide +kernel
theorem dX9_lies_0 : decode cX9_lies 0 = .ok (.iload_n 1, 1) := by decide +kernel
theorem dX9_lies_1 : decode cX9_lies 1 = .ok (.invokestatic 101, 3) := by decide +kernel
theorem dX9_lies_4 : decode cX9_lies 4 = .ok (.ifCond .ne 5, 3) := by decide +kernel
theorem dX9_lies_7 : decode cX9_lies 7 = .ok (.iconst (-1), 1) := by decide +kernel
theorem dX9_lies_8 : decode cX9_lies 8 = .ok (.ireturn, 1) := by decide +kernel
theorem dX9_lies_9 : decode cX9_lies 9 = .ok (.aload_n 0, 1) := by decide +kernel
theorem dX9_lies_10 : decode cX9_lies 10 = .ok (.invokevirtual 142, 3) := by decide +kernel
theorem dX9_lies_13 : decode cX9_lies 13 = .ok (.ifCond .eq 18, 3) := by decide +kernel
theorem dX9_lies_16 : decode cX9_lies 16 = .ok (.aload_n 0, 1) := by decide +kernel
theorem dX9_lies_17 : decode cX9_lies 17 = .ok (.getfield 36, 3) := by decide +kernel
theorem dX9_lies_20 : decode cX9_lies 20 = .ok (.getfield 146, 3) := by decide +kernel
theorem dX9_lies_23 : decode cX9_lies 23 = .ok (.getfield 104, 3) := by decide +kernel
theorem dX9_lies_26 : decode cX9_lies 26 = .ok (.iload_n 1, 1) := by decide +kernel
theorem dX9_lies_27 : decode cX9_lies 27 = .ok (.iaload, 1) := by decide +kernel
theorem dX9_lies_28 : decode cX9_lies 28 = .ok (.goto 5, 3) := by decide +kernel
theorem dX9_lies_31 : decode cX9_lies 31 = .ok (.bipush (-5), 2) := by decide +kernel
theorem dX9_lies_33 : decode cX9_lies 33 = .ok (.ireturn, 1) := by decide +kernel
theorem dX9_built_0 : decode cX9_built 0 = .ok (.iload_n 1, 1) := by decide +kernel
theorem dX9_built_1 : decode cX9_built 1 = .ok (.invokestatic 107, 3) := by decide +kernel
theorem dX9_built_4 : decode cX9_built 4 = .ok (.ifCond .ne 5, 3) := by decide +kernel
theorem dX9_built_7 : decode cX9_built 7 = .ok (.iconst (-1), 1) := by decide +kernel
theorem dX9_built_8 : decode cX9_built 8 = .ok (.ireturn, 1) := by decide +kernel
theorem dX9_built_9 : decode cX9_built 9 = .ok (.iload_n 2, 1) := by decide +kernel
theorem dX9_built_10 : decode cX9_built 10 = .ok (.iconst 0, 1) := by decide +kernel
theorem dX9_built_11 : decode cX9_built 11 = .ok (.iconst 2, 1) := by decide +kernel
theorem dX9_built_12 : decode cX9_built 12 = .ok (.invokestatic 75, 3) := by decide +kernel
theorem dX9_built_15 : decode cX9_built 15 = .ok (.ifCond .ne 6, 3) := by decide +kernel
theorem dX9_built_18 : decode cX9_built 18 = .ok (.bipush (-2), 2) := by decide +kernel
theorem dX9_built_20 : decode cX9_built 20 = .ok (.ireturn, 1) := by decide +kernel
theorem dX9_built_21 : decode cX9_built 21 = .ok (.aload_n 0, 1) := by decide +kernel
theorem dX9_built_22 : decode cX9_built 22 = .ok (.invokevirtual 142, 3) := by decide +kernel
theorem dX9_built_25 : decode cX9_built 25 = .ok (.ifCond .ne 6, 3) := by decide +kernel
theorem dX9_built_28 : decode cX9_built 28 = .ok (.bipush (-5), 2) := by decide +kernel
theorem dX9_built_30 : decode cX9_built 30 = .ok (.ireturn, 1) := by decide +kernel
theorem dX9_built_31 : decode cX9_built 31 = .ok (.iload_n 2, 1) := by decide +kernel
theorem dX9_built_32 : decode cX9_built 32 = .ok (.iconst 2, 1) := by decide +kernel
theorem dX9_built_33 : decode cX9_built 33 = .ok (.if_icmp .ne 15, 3) := by decide +kernel
theorem dX9_built_36 : decode cX9_built 36 = .ok (.aload_n 0, 1) := by decide +kernel
theorem dX9_built_37 : decode cX9_built 37 = .ok (.getfield 36, 3) := by decide +kernel
theorem dX9_built_40 : decode cX9_built 40 = .ok (.getfield 146, 3) := by decide +kernel
theorem dX9_built_43 : decode cX9_built 43 = .ok (.iload_n 1, 1) := by decide +kernel
theorem dX9_built_44 : decode cX9_built 44 = .ok (.invokevirtual 160, 3) := by decide +kernel
theorem dX9_built_47 : decode cX9_built 47 = .ok (.ireturn, 1) := by decide +kernel
theorem dX9_built_48 : decode cX9_built 48 = .ok (.iload_n 2, 1) := by decide +kernel
theorem dX9_built_49 : decode cX9_built 49 = .ok (.ifCond .ne 18, 3) := by decide +kernel
theorem dX9_built_52 : decode cX9_built 52 = .ok (.aload_n 0, 1) := by decide +kernel
theorem dX9_built_53 : decode cX9_built 53 = .ok (.getfield 36, 3) := by decide +kernel
theorem dX9_built_56 : decode cX9_built 56 = .ok (.getfield 146, 3) := by decide +kernel
theorem dX9_built_59 : decode cX9_built 59 = .ok (.getfield 113, 3) := by decide +kernel
theorem dX9_built_62 : decode cX9_built 62 = .ok (.iload_n 1, 1) := by decide +kernel
theorem dX9_built_63 : decode cX9_built 63 = .ok (.iaload, 1) := by decide +kernel
theorem dX9_built_64 : decode cX9_built 64 = .ok (.goto 15, 3) := by decide +kernel
theorem dX9_built_67 : decode cX9_built 67 = .ok (.aload_n 0, 1) := by decide +kernel
theorem dX9_built_68 : decode cX9_built 68 = .ok (.getfield 36, 3) := by decide +kernel
theorem dX9_built_71 : decode cX9_built 71 = .ok (.getfield 146, 3) := by decide +kernel
theorem dX9_built_74 : decode cX9_built 74 = .ok (.getfield 116, 3) := by decide +kernel
theorem dX9_built_77 : decode cX9_built 77 = .ok (.iload_n 1, 1) := by decide +kernel
theorem dX9_built_78 : decode cX9_built 78 = .ok (.iaload, 1) := by decide +kernel
theorem dX9_built_79 : decode cX9_built 79 = .ok (.ireturn, 1) := by decide +kernel
theorem dX9_then_0 : decode cX9_then 0 = .ok (.iload_n 1, 1) := by decide +kernel
theorem dX9_then_1 : decode cX9_then 1 = .ok (.iconst 0, 1) := by decide +kernel
theorem dX9_then_2 : decode cX9_then 2 = .ok (.iconst 3, 1) := by decide +kernel
theorem dX9_then_3 : decode cX9_then 3 = .ok (.invokestatic 75, 3) := by decide +kernel
theorem dX9_then_6 : decode cX9_then 6 = .ok (.ifCond .ne 6, 3) := by decide +kernel
theorem dX9_then_9 : decode cX9_then 9 = .ok (.bipush (-2), 2) := by decide +kernel
theorem dX9_then_11 : decode cX9_then 11 = .ok (.ireturn, 1) := by decide +kernel
theorem dX9_then_12 : decode cX9_then 12 = .ok (.aload_n 0, 1) := by decide +kernel
theorem dX9_then_13 : decode cX9_then 13 = .ok (.invokevirtual 142, 3) := by decide +kernel
theorem dX9_then_16 : decode cX9_then 16 = .ok (.ifCond .ne 6, 3) := by decide +kernel
theorem dX9_then_19 : decode cX9_then 19 = .ok (.bipush (-5), 2) := by decide +kernel
theorem dX9_then_21 : decode cX9_then 21 = .ok (.ireturn, 1) := by decide +kernel
theorem dX9_then_22 : decode cX9_then 22 = .ok (.iload_n 1, 1) := by decide +kernel
theorem dX9_then_23 : decode cX9_then 23 = .ok (.tableswitch 55 0 2 #[25, 36, 47], 25) := by decide +kernel
theorem dX9_then_48 : decode cX9_then 48 = .ok (.aload_n 0, 1) := by decide +kernel
theorem dX9_then_49 : decode cX9_then 49 = .ok (.getfield 36, 3) := by decide +kernel
theorem dX9_then_52 : decode cX9_then 52 = .ok (.getfield 146, 3) := by decide +kernel
theorem dX9_then_55 : decode cX9_then 55 = .ok (.getfield 79, 3) := by decide +kernel
theorem dX9_then_58 : decode cX9_then 58 = .ok (.ireturn, 1) := by decide +kernel
theorem dX9_then_59 : decode cX9_then 59 = .ok (.aload_n 0, 1) := by decide +kernel
theorem dX9_then_60 : decode cX9_then 60 = .ok (.getfield 36, 3) := by decide +kernel
theorem dX9_then_63 : decode cX9_then 63 = .ok (.getfield 146, 3) := by decide +kernel
theorem dX9_then_66 : decode cX9_then 66 = .ok (.getfield 164, 3) := by decide +kernel
theorem dX9_then_69 : decode cX9_then 69 = .ok (.ireturn, 1) := by decide +kernel
theorem dX9_then_70 : decode cX9_then 70 = .ok (.aload_n 0, 1) := by decide +kernel
theorem dX9_then_71 : decode cX9_then 71 = .ok (.getfield 36, 3) := by decide +kernel
theorem dX9_then_74 : decode cX9_then 74 = .ok (.getfield 167, 3) := by decide +kernel
theorem dX9_then_77 : decode cX9_then 77 = .ok (.ireturn, 1) := by decide +kernel
theorem dX9_then_78 : decode cX9_then 78 = .ok (.aload_n 0, 1) := by decide +kernel
theorem dX9_then_79 : decode cX9_then 79 = .ok (.getfield 36, 3) := by decide +kernel
theorem dX9_then_82 : decode cX9_then 82 = .ok (.getfield 170, 3) := by decide +kernel
theorem dX9_then_85 : decode cX9_then 85 = .ok (.ireturn, 1) := by decide +kernel
theorem dX9_inches_0 : decode cX9_inches 0 = .ok (.iload_n 1, 1) := by decide +kernel
theorem dX9_inches_1 : decode cX9_inches 1 = .ok (.invokestatic 101, 3) := by decide +kernel
theorem dX9_inches_4 : decode cX9_inches 4 = .ok (.ifCond .eq 10, 3) := by decide +kernel
theorem dX9_inches_7 : decode cX9_inches 7 = .ok (.iload_n 2, 1) := by decide +kernel
theorem dX9_inches_8 : decode cX9_inches 8 = .ok (.invokestatic 87, 3) := by decide +kernel
theorem dX9_inches_11 : decode cX9_inches 11 = .ok (.ifCond .ne 7, 3) := by decide +kernel
theorem dX9_inches_14 : decode cX9_inches 14 = .ok (.ldc2_w 173, 3) := by decide +kernel
theorem dX9_inches_17 : decode cX9_inches 17 = .ok (.lreturn, 1) := by decide +kernel
theorem dX9_inches_18 : decode cX9_inches 18 = .ok (.iload_n 3, 1) := by decide +kernel
theorem dX9_inches_19 : decode cX9_inches 19 = .ok (.iconst 0, 1) := by decide +kernel
theorem dX9_inches_20 : decode cX9_inches 20 = .ok (.iconst 1, 1) := by decide +kernel
theorem dX9_inches_21 : decode cX9_inches 21 = .ok (.invokestatic 75, 3) := by decide +kernel
theorem dX9_inches_24 : decode cX9_inches 24 = .ok (.ifCond .ne 7, 3) := by decide +kernel
theorem dX9_inches_27 : decode cX9_inches 27 = .ok (.ldc2_w 175, 3) := by decide +kernel
theorem dX9_inches_30 : decode cX9_inches 30 = .ok (.lreturn, 1) := by decide +kernel
theorem dX9_inches_31 : decode cX9_inches 31 = .ok (.aload_n 0, 1) := by decide +kernel
theorem dX9_inches_32 : decode cX9_inches 32 = .ok (.getfield 10, 3) := by decide +kernel
theorem dX9_inches_35 : decode cX9_inches 35 = .ok (.getfield 104, 3) := by decide +kernel
theorem dX9_inches_38 : decode cX9_inches 38 = .ok (.iload_n 1, 1) := by decide +kernel
theorem dX9_inches_39 : decode cX9_inches 39 = .ok (.iaload, 1) := by decide +kernel
theorem dX9_inches_40 : decode cX9_inches 40 = .ok (.i2l, 1) := by decide +kernel
theorem dX9_inches_41 : decode cX9_inches 41 = .ok (.aload_n 0, 1) := by decide +kernel
theorem dX9_inches_42 : decode cX9_inches 42 = .ok (.getfield 10, 3) := by decide +kernel
theorem dX9_inches_45 : decode cX9_inches 45 = .ok (.iload_n 2, 1) := by decide +kernel
theorem dX9_inches_46 : decode cX9_inches 46 = .ok (.invokevirtual 177, 3) := by decide +kernel
theorem dX9_inches_49 : decode cX9_inches 49 = .ok (.i2l, 1) := by decide +kernel
theorem dX9_inches_50 : decode cX9_inches 50 = .ok (.iload_n 3, 1) := by decide +kernel
theorem dX9_inches_51 : decode cX9_inches 51 = .ok (.invokestatic 180, 3) := by decide +kernel
theorem dX9_inches_54 : decode cX9_inches 54 = .ok (.lreturn, 1) := by decide +kernel
theorem dX9_will_0 : decode cX9_will 0 = .ok (.iload_n 1, 1) := by decide +kernel
theorem dX9_will_1 : decode cX9_will 1 = .ok (.iconst 0, 1) := by decide +kernel
theorem dX9_will_2 : decode cX9_will 2 = .ok (.bipush 99, 2) := by decide +kernel
theorem dX9_will_4 : decode cX9_will 4 = .ok (.invokestatic 75, 3) := by decide +kernel
theorem dX9_will_7 : decode cX9_will 7 = .ok (.ifCond .ne 6, 3) := by decide +kernel
theorem dX9_will_10 : decode cX9_will 10 = .ok (.bipush (-2), 2) := by decide +kernel
theorem dX9_will_12 : decode cX9_will 12 = .ok (.ireturn, 1) := by decide +kernel
theorem dX9_will_13 : decode cX9_will 13 = .ok (.aload_n 0, 1) := by decide +kernel
theorem dX9_will_14 : decode cX9_will 14 = .ok (.getfield 43, 3) := by decide +kernel
theorem dX9_will_17 : decode cX9_will 17 = .ok (.aload_n 0, 1) := by decide +kernel
theorem dX9_will_18 : decode cX9_will 18 = .ok (.getfield 10, 3) := by decide +kernel
theorem dX9_will_21 : decode cX9_will 21 = .ok (.iload_n 1, 1) := by decide +kernel
theorem dX9_will_22 : decode cX9_will 22 = .ok (.invokevirtual 184, 3) := by decide +kernel
theorem dX9_will_25 : decode cX9_will 25 = .ok (.aload_n 0, 1) := by decide +kernel
theorem dX9_will_26 : decode cX9_will 26 = .ok (.getfield 43, 3) := by decide +kernel
theorem dX9_will_29 : decode cX9_will 29 = .ok (.getfield 188, 3) := by decide +kernel
theorem dX9_will_32 : decode cX9_will 32 = .ok (.iload_n 1, 1) := by decide +kernel
theorem dX9_will_33 : decode cX9_will 33 = .ok (.iaload, 1) := by decide +kernel
theorem dX9_will_34 : decode cX9_will 34 = .ok (.ireturn, 1) := by decide +kernel
theorem dX9_sure_0 : decode cX9_sure 0 = .ok (.iload_n 1, 1) := by decide +kernel
theorem dX9_sure_1 : decode cX9_sure 1 = .ok (.iconst 1, 1) := by decide +kernel
theorem dX9_sure_2 : decode cX9_sure 2 = .ok (.bipush 60, 2) := by decide +kernel
theorem dX9_sure_4 : decode cX9_sure 4 = .ok (.invokestatic 75, 3) := by decide +kernel
theorem dX9_sure_7 : decode cX9_sure 7 = .ok (.ifCond .eq 12, 3) := by decide +kernel
theorem dX9_sure_10 : decode cX9_sure 10 = .ok (.iload_n 2, 1) := by decide +kernel
theorem dX9_sure_11 : decode cX9_sure 11 = .ok (.iconst 0, 1) := by decide +kernel
theorem dX9_sure_12 : decode cX9_sure 12 = .ok (.iconst 1, 1) := by decide +kernel
theorem dX9_sure_13 : decode cX9_sure 13 = .ok (.invokestatic 75, 3) := by decide +kernel
theorem dX9_sure_16 : decode cX9_sure 16 = .ok (.ifCond .ne 7, 3) := by decide +kernel
theorem dX9_sure_19 : decode cX9_sure 19 = .ok (.ldc2_w 175, 3) := by decide +kernel
theorem dX9_sure_22 : decode cX9_sure 22 = .ok (.lreturn, 1) := by decide +kernel
theorem dX9_sure_23 : decode cX9_sure 23 = .ok (.aload_n 0, 1) := by decide +kernel
theorem dX9_sure_24 : decode cX9_sure 24 = .ok (.getfield 43, 3) := by decide +kernel
theorem dX9_sure_27 : decode cX9_sure 27 = .ok (.aload_n 0, 1) := by decide +kernel
theorem dX9_sure_28 : decode cX9_sure 28 = .ok (.getfield 10, 3) := by decide +kernel
theorem dX9_sure_31 : decode cX9_sure 31 = .ok (.iload_n 1, 1) := by decide +kernel
theorem dX9_sure_32 : decode cX9_sure 32 = .ok (.invokevirtual 184, 3) := by decide +kernel
theorem dX9_sure_35 : decode cX9_sure 35 = .ok (.aload_n 0, 1) := by decide +kernel
theorem dX9_sure_36 : decode cX9_sure 36 = .ok (.getfield 43, 3) := by decide +kernel
theorem dX9_sure_39 : decode cX9_sure 39 = .ok (.iload_n 1, 1) := by decide +kernel
theorem dX9_sure_40 : decode cX9_sure 40 = .ok (.invokevirtual 191, 3) := by decide +kernel
theorem dX9_sure_43 : decode cX9_sure 43 = .ok (.aload_n 0, 1) := by decide +kernel
theorem dX9_sure_44 : decode cX9_sure 44 = .ok (.getfield 43, 3) := by decide +kernel
theorem dX9_sure_47 : decode cX9_sure 47 = .ok (.getfield 188, 3) := by decide +kernel
theorem dX9_sure_50 : decode cX9_sure 50 = .ok (.aload_n 0, 1) := by decide +kernel
theorem dX9_sure_51 : decode cX9_sure 51 = .ok (.getfield 43, 3) := by decide +kernel
theorem dX9_sure_54 : decode cX9_sure 54 = .ok (.getfield 195, 3) := by decide +kernel
theorem dX9_sure_57 : decode cX9_sure 57 = .ok (.iaload, 1) := by decide +kernel
theorem dX9_sure_58 : decode cX9_sure 58 = .ok (.i2l, 1) := by decide +kernel
theorem dX9_sure_59 : decode cX9_sure 59 = .ok (.aload_n 0, 1) := by decide +kernel
theorem dX9_sure_60 : decode cX9_sure 60 = .ok (.getfield 43, 3) := by decide +kernel
theorem dX9_sure_63 : decode cX9_sure 63 = .ok (.getfield 188, 3) := by decide +kernel
theorem dX9_sure_66 : decode cX9_sure 66 = .ok (.aload_n 0, 1) := by decide +kernel
theorem dX9_sure_67 : decode cX9_sure 67 = .ok (.getfield 43, 3) := by decide +kernel
theorem dX9_sure_70 : decode cX9_sure 70 = .ok (.getfield 198, 3) := by decide +kernel
theorem dX9_sure_73 : decode cX9_sure 73 = .ok (.iaload, 1) := by decide +kernel
theorem dX9_sure_74 : decode cX9_sure 74 = .ok (.i2l, 1) := by decide +kernel
theorem dX9_sure_75 : decode cX9_sure 75 = .ok (.iload_n 2, 1) := by decide +kernel
theorem dX9_sure_76 : decode cX9_sure 76 = .ok (.invokestatic 180, 3) := by decide +kernel
theorem dX9_sure_79 : decode cX9_sure 79 = .ok (.lreturn, 1) := by decide +kernel
theorem dX9_when_0 : decode cX9_when 0 = .ok (.iload_n 1, 1) := by decide +kernel
theorem dX9_when_1 : decode cX9_when 1 = .ok (.iconst 1, 1) := by decide +kernel
theorem dX9_when_2 : decode cX9_when 2 = .ok (.bipush 60, 2) := by decide +kernel
theorem dX9_when_4 : decode cX9_when 4 = .ok (.invokestatic 75, 3) := by decide +kernel
theorem dX9_when_7 : decode cX9_when 7 = .ok (.ifCond .ne 6, 3) := by decide +kernel
theorem dX9_when_10 : decode cX9_when 10 = .ok (.bipush (-2), 2) := by decide +kernel
theorem dX9_when_12 : decode cX9_when 12 = .ok (.ireturn, 1) := by decide +kernel
theorem dX9_when_13 : decode cX9_when 13 = .ok (.aload_n 0, 1) := by decide +kernel
theorem dX9_when_14 : decode cX9_when 14 = .ok (.getfield 43, 3) := by decide +kernel
theorem dX9_when_17 : decode cX9_when 17 = .ok (.aload_n 0, 1) := by decide +kernel
theorem dX9_when_18 : decode cX9_when 18 = .ok (.getfield 10, 3) := by decide +kernel
theorem dX9_when_21 : decode cX9_when 21 = .ok (.iload_n 1, 1) := by decide +kernel
theorem dX9_when_22 : decode cX9_when 22 = .ok (.invokevirtual 184, 3) := by decide +kernel
theorem dX9_when_25 : decode cX9_when 25 = .ok (.aload_n 0, 1) := by decide +kernel
theorem dX9_when_26 : decode cX9_when 26 = .ok (.getfield 43, 3) := by decide +kernel
theorem dX9_when_29 : decode cX9_when 29 = .ok (.iload_n 1, 1) := by decide +kernel
theorem dX9_when_30 : decode cX9_when 30 = .ok (.invokevirtual 191, 3) := by decide +kernel
theorem dX9_when_33 : decode cX9_when 33 = .ok (.bipush 100, 2) := by decide +kernel
theorem dX9_when_35 : decode cX9_when 35 = .ok (.aload_n 0, 1) := by decide +kernel
theorem dX9_when_36 : decode cX9_when 36 = .ok (.getfield 43, 3) := by decide +kernel
theorem dX9_when_39 : decode cX9_when 39 = .ok (.getfield 195, 3) := by decide +kernel
theorem dX9_when_42 : decode cX9_when 42 = .ok (.imul, 1) := by decide +kernel
theorem dX9_when_43 : decode cX9_when 43 = .ok (.aload_n 0, 1) := by decide +kernel
theorem dX9_when_44 : decode cX9_when 44 = .ok (.getfield 43, 3) := by decide +kernel
theorem dX9_when_47 : decode cX9_when 47 = .ok (.getfield 198, 3) := by decide +kernel
theorem dX9_when_50 : decode cX9_when 50 = .ok (.iadd, 1) := by decide +kernel
theorem dX9_when_51 : decode cX9_when 51 = .ok (.ireturn, 1) := by decide +kernel
theorem dX9_meet_0 : decode cX9_meet 0 = .ok (.iload_n 1, 1) := by decide +kernel
theorem dX9_meet_1 : decode cX9_meet 1 = .ok (.iconst 1, 1) := by decide +kernel
theorem dX9_meet_2 : decode cX9_meet 2 = .ok (.ldc 91, 2) := by decide +kernel
theorem dX9_meet_4 : decode cX9_meet 4 = .ok (.invokestatic 75, 3) := by decide +kernel
theorem dX9_meet_7 : decode cX9_meet 7 = .ok (.ifCond .eq 45, 3) := by decide +kernel
theorem dX9_meet_10 : decode cX9_meet 10 = .ok (.iload_n 2, 1) := by decide +kernel
theorem dX9_meet_11 : decode cX9_meet 11 = .ok (.iconst 0, 1) := by decide +kernel
theorem dX9_meet_12 : decode cX9_meet 12 = .ok (.bipush 20, 2) := by decide +kernel
theorem dX9_meet_14 : decode cX9_meet 14 = .ok (.invokestatic 75, 3) := by decide +kernel
theorem dX9_meet_17 : decode cX9_meet 17 = .ok (.ifCond .eq 35, 3) := by decide +kernel
theorem dX9_meet_20 : decode cX9_meet 20 = .ok (.iload_n 3, 1) := by decide +kernel
theorem dX9_meet_21 : decode cX9_meet 21 = .ok (.iconst 0, 1) := by decide +kernel
theorem dX9_meet_22 : decode cX9_meet 22 = .ok (.bipush 20, 2) := by decide +kernel
theorem dX9_meet_24 : decode cX9_meet 24 = .ok (.invokestatic 75, 3) := by decide +kernel
theorem dX9_meet_27 : decode cX9_meet 27 = .ok (.ifCond .eq 25, 3) := by decide +kernel
theorem dX9_meet_30 : decode cX9_meet 30 = .ok (.iload 4, 2) := by decide +kernel
theorem dX9_meet_32 : decode cX9_meet 32 = .ok (.iconst 1, 1) := by decide +kernel
theorem dX9_meet_33 : decode cX9_meet 33 = .ok (.sipush 200, 3) := by decide +kernel
theorem dX9_meet_36 : decode cX9_meet 36 = .ok (.invokestatic 75, 3) := by decide +kernel
theorem dX9_meet_39 : decode cX9_meet 39 = .ok (.ifCond .eq 13, 3) := by decide +kernel
theorem dX9_meet_42 : decode cX9_meet 42 = .ok (.iload 5, 2) := by decide +kernel
theorem dX9_meet_44 : decode cX9_meet 44 = .ok (.iconst 0, 1) := by decide +kernel
theorem dX9_meet_45 : decode cX9_meet 45 = .ok (.iconst 1, 1) := by decide +kernel
theorem dX9_meet_46 : decode cX9_meet 46 = .ok (.invokestatic 75, 3) := by decide +kernel
theorem dX9_meet_49 : decode cX9_meet 49 = .ok (.ifCond .ne 6, 3) := by decide +kernel
theorem dX9_meet_52 : decode cX9_meet 52 = .ok (.bipush (-2), 2) := by decide +kernel
theorem dX9_meet_54 : decode cX9_meet 54 = .ok (.ireturn, 1) := by decide +kernel
theorem dX9_meet_55 : decode cX9_meet 55 = .ok (.aload_n 0, 1) := by decide +kernel
theorem dX9_meet_56 : decode cX9_meet 56 = .ok (.getfield 43, 3) := by decide +kernel
theorem dX9_meet_59 : decode cX9_meet 59 = .ok (.aload_n 0, 1) := by decide +kernel
theorem dX9_meet_60 : decode cX9_meet 60 = .ok (.getfield 10, 3) := by decide +kernel
theorem dX9_meet_63 : decode cX9_meet 63 = .ok (.bipush 99, 2) := by decide +kernel
theorem dX9_meet_65 : decode cX9_meet 65 = .ok (.invokevirtual 184, 3) := by decide +kernel
theorem dX9_meet_68 : decode cX9_meet 68 = .ok (.iconst 0, 1) := by decide +kernel
theorem dX9_meet_69 : decode cX9_meet 69 = .ok (.istore 6, 2) := by decide +kernel
theorem dX9_meet_71 : decode cX9_meet 71 = .ok (.iconst 0, 1) := by decide +kernel
theorem dX9_meet_72 : decode cX9_meet 72 = .ok (.istore 7, 2) := by decide +kernel
theorem dX9_meet_74 : decode cX9_meet 74 = .ok (.iload 7, 2) := by decide +kernel
theorem dX9_meet_76 : decode cX9_meet 76 = .ok (.bipush 99, 2) := by decide +kernel
theorem dX9_meet_78 : decode cX9_meet 78 = .ok (.if_icmp .ge 54, 3) := by decide +kernel
theorem dX9_meet_81 : decode cX9_meet 81 = .ok (.iload 6, 2) := by decide +kernel
theorem dX9_meet_83 : decode cX9_meet 83 = .ok (.iload_n 2, 1) := by decide +kernel
theorem dX9_meet_84 : decode cX9_meet 84 = .ok (.aload_n 0, 1) := by decide +kernel
theorem dX9_meet_85 : decode cX9_meet 85 = .ok (.getfield 43, 3) := by decide +kernel
theorem dX9_meet_88 : decode cX9_meet 88 = .ok (.getfield 188, 3) := by decide +kernel
theorem dX9_meet_91 : decode cX9_meet 91 = .ok (.iload 7, 2) := by decide +kernel
theorem dX9_meet_93 : decode cX9_meet 93 = .ok (.iaload, 1) := by decide +kernel
theorem dX9_meet_94 : decode cX9_meet 94 = .ok (.imul, 1) := by decide +kernel
theorem dX9_meet_95 : decode cX9_meet 95 = .ok (.iload_n 3, 1) := by decide +kernel
theorem dX9_meet_96 : decode cX9_meet 96 = .ok (.iload 4, 2) := by decide +kernel
theorem dX9_meet_98 : decode cX9_meet 98 = .ok (.imul, 1) := by decide +kernel
theorem dX9_meet_99 : decode cX9_meet 99 = .ok (.iadd, 1) := by decide +kernel
theorem dX9_meet_100 : decode cX9_meet 100 = .ok (.iadd, 1) := by decide +kernel
theorem dX9_meet_101 : decode cX9_meet 101 = .ok (.istore 6, 2) := by decide +kernel
theorem dX9_meet_103 : decode cX9_meet 103 = .ok (.iload 6, 2) := by decide +kernel
theorem dX9_meet_105 : decode cX9_meet 105 = .ok (.iload_n 1, 1) := by decide +kernel
theorem dX9_meet_106 : decode cX9_meet 106 = .ok (.if_icmp .lt 20, 3) := by decide +kernel
theorem dX9_meet_109 : decode cX9_meet 109 = .ok (.iload 5, 2) := by decide +kernel
theorem dX9_meet_111 : decode cX9_meet 111 = .ok (.ifCond .ne 10, 3) := by decide +kernel
theorem dX9_meet_114 : decode cX9_meet 114 = .ok (.iload 7, 2) := by decide +kernel
theorem dX9_meet_116 : decode cX9_meet 116 = .ok (.iconst 1, 1) := by decide +kernel
theorem dX9_meet_117 : decode cX9_meet 117 = .ok (.iadd, 1) := by decide +kernel
theorem dX9_meet_118 : decode cX9_meet 118 = .ok (.goto 7, 3) := by decide +kernel
theorem dX9_meet_121 : decode cX9_meet 121 = .ok (.iload 6, 2) := by decide +kernel
theorem dX9_meet_123 : decode cX9_meet 123 = .ok (.iload_n 1, 1) := by decide +kernel
theorem dX9_meet_124 : decode cX9_meet 124 = .ok (.isub, 1) := by decide +kernel
theorem dX9_meet_125 : decode cX9_meet 125 = .ok (.ireturn, 1) := by decide +kernel
theorem dX9_meet_126 : decode cX9_meet 126 = .ok (.iinc 7 1, 3) := by decide +kernel
theorem dX9_meet_129 : decode cX9_meet 129 = .ok (.goto (-55), 3) := by decide +kernel
theorem dX9_meet_132 : decode cX9_meet 132 = .ok (.bipush (-6), 2) := by decide +kernel
theorem dX9_meet_134 : decode cX9_meet 134 = .ok (.ireturn, 1) := by decide +kernel
theorem dX9_waste_0 : decode cX9_waste 0 = .ok (.iload_n 1, 1) := by decide +kernel
theorem dX9_waste_1 : decode cX9_waste 1 = .ok (.invokestatic 101, 3) := by decide +kernel
theorem dX9_waste_4 : decode cX9_waste 4 = .ok (.ifCond .ne 5, 3) := by decide +kernel
theorem dX9_waste_7 : decode cX9_waste 7 = .ok (.iconst (-1), 1) := by decide +kernel
theorem dX9_waste_8 : decode cX9_waste 8 = .ok (.ireturn, 1) := by decide +kernel
theorem dX9_waste_9 : decode cX9_waste 9 = .ok (.iload_n 2, 1) := by decide +kernel
theorem dX9_waste_10 : decode cX9_waste 10 = .ok (.iconst 1, 1) := by decide +kernel
theorem dX9_waste_11 : decode cX9_waste 11 = .ok (.bipush 20, 2) := by decide +kernel
theorem dX9_waste_13 : decode cX9_waste 13 = .ok (.invokestatic 75, 3) := by decide +kernel
theorem dX9_waste_16 : decode cX9_waste 16 = .ok (.ifCond .eq 23, 3) := by decide +kernel
theorem dX9_waste_19 : decode cX9_waste 19 = .ok (.iload_n 3, 1) := by decide +kernel
theorem dX9_waste_20 : decode cX9_waste 20 = .ok (.iconst 1, 1) := by decide +kernel
theorem dX9_waste_21 : decode cX9_waste 21 = .ok (.bipush 20, 2) := by decide +kernel
theorem dX9_waste_23 : decode cX9_waste 23 = .ok (.invokestatic 75, 3) := by decide +kernel
theorem dX9_waste_26 : decode cX9_waste 26 = .ok (.ifCond .eq 13, 3) := by decide +kernel
theorem dX9_waste_29 : decode cX9_waste 29 = .ok (.iload 4, 2) := by decide +kernel
theorem dX9_waste_31 : decode cX9_waste 31 = .ok (.iconst 0, 1) := by decide +kernel
theorem dX9_waste_32 : decode cX9_waste 32 = .ok (.iconst 1, 1) := by decide +kernel
theorem dX9_waste_33 : decode cX9_waste 33 = .ok (.invokestatic 75, 3) := by decide +kernel
theorem dX9_waste_36 : decode cX9_waste 36 = .ok (.ifCond .ne 6, 3) := by decide +kernel
theorem dX9_waste_39 : decode cX9_waste 39 = .ok (.bipush (-2), 2) := by decide +kernel
theorem dX9_waste_41 : decode cX9_waste 41 = .ok (.ireturn, 1) := by decide +kernel
theorem dX9_waste_42 : decode cX9_waste 42 = .ok (.aload_n 0, 1) := by decide +kernel
theorem dX9_waste_43 : decode cX9_waste 43 = .ok (.getfield 10, 3) := by decide +kernel
theorem dX9_waste_46 : decode cX9_waste 46 = .ok (.getfield 104, 3) := by decide +kernel
theorem dX9_waste_49 : decode cX9_waste 49 = .ok (.iload_n 1, 1) := by decide +kernel
theorem dX9_waste_50 : decode cX9_waste 50 = .ok (.iaload, 1) := by decide +kernel
theorem dX9_waste_51 : decode cX9_waste 51 = .ok (.istore 5, 2) := by decide +kernel
theorem dX9_waste_53 : decode cX9_waste 53 = .ok (.iload_n 2, 1) := by decide +kernel
theorem dX9_waste_54 : decode cX9_waste 54 = .ok (.aload_n 0, 1) := by decide +kernel
theorem dX9_waste_55 : decode cX9_waste 55 = .ok (.getfield 10, 3) := by decide +kernel
theorem dX9_waste_58 : decode cX9_waste 58 = .ok (.getfield 79, 3) := by decide +kernel
theorem dX9_waste_61 : decode cX9_waste 61 = .ok (.imul, 1) := by decide +kernel
theorem dX9_waste_62 : decode cX9_waste 62 = .ok (.istore 6, 2) := by decide +kernel
theorem dX9_waste_64 : decode cX9_waste 64 = .ok (.iload_n 3, 1) := by decide +kernel
theorem dX9_waste_65 : decode cX9_waste 65 = .ok (.aload_n 0, 1) := by decide +kernel
theorem dX9_waste_66 : decode cX9_waste 66 = .ok (.getfield 10, 3) := by decide +kernel
theorem dX9_waste_69 : decode cX9_waste 69 = .ok (.getfield 79, 3) := by decide +kernel
theorem dX9_waste_72 : decode cX9_waste 72 = .ok (.imul, 1) := by decide +kernel
theorem dX9_waste_73 : decode cX9_waste 73 = .ok (.istore 7, 2) := by decide +kernel
theorem dX9_waste_75 : decode cX9_waste 75 = .ok (.iload 5, 2) := by decide +kernel
theorem dX9_waste_77 : decode cX9_waste 77 = .ok (.iload 6, 2) := by decide +kernel
theorem dX9_waste_79 : decode cX9_waste 79 = .ok (.iload 7, 2) := by decide +kernel
theorem dX9_waste_81 : decode cX9_waste 81 = .ok (.invokestatic 201, 3) := by decide +kernel
theorem dX9_waste_84 : decode cX9_waste 84 = .ok (.istore 8, 2) := by decide +kernel
theorem dX9_waste_86 : decode cX9_waste 86 = .ok (.iload 4, 2) := by decide +kernel
theorem dX9_waste_88 : decode cX9_waste 88 = .ok (.iconst 1, 1) := by decide +kernel
theorem dX9_waste_89 : decode cX9_waste 89 = .ok (.if_icmp .ne 8, 3) := by decide +kernel
theorem dX9_waste_92 : decode cX9_waste 92 = .ok (.iload 8, 2) := by decide +kernel
theorem dX9_waste_94 : decode cX9_waste 94 = .ok (.goto 16, 3) := by decide +kernel
theorem dX9_waste_97 : decode cX9_waste 97 = .ok (.iload 5, 2) := by decide +kernel
theorem dX9_waste_99 : decode cX9_waste 99 = .ok (.iload 8, 2) := by decide +kernel
theorem dX9_waste_101 : decode cX9_waste 101 = .ok (.iload 6, 2) := by decide +kernel
theorem dX9_waste_103 : decode cX9_waste 103 = .ok (.imul, 1) := by decide +kernel
theorem dX9_waste_104 : decode cX9_waste 104 = .ok (.isub, 1) := by decide +kernel
theorem dX9_waste_105 : decode cX9_waste 105 = .ok (.iload 7, 2) := by decide +kernel
theorem dX9_waste_107 : decode cX9_waste 107 = .ok (.invokestatic 205, 3) := by decide +kernel
theorem dX9_waste_110 : decode cX9_waste 110 = .ok (.ireturn, 1) := by decide +kernel
theorem dX9_days_0 : decode cX9_days 0 = .ok (.iload_n 1, 1) := by decide +kernel
theorem dX9_days_1 : decode cX9_days 1 = .ok (.iconst 0, 1) := by decide +kernel
theorem dX9_days_2 : decode cX9_days 2 = .ok (.bipush 60, 2) := by decide +kernel
theorem dX9_days_4 : decode cX9_days 4 = .ok (.invokestatic 75, 3) := by decide +kernel
theorem dX9_days_7 : decode cX9_days 7 = .ok (.ifCond .eq 28, 3) := by decide +kernel
theorem dX9_days_10 : decode cX9_days 10 = .ok (.iload_n 2, 1) := by decide +kernel
theorem dX9_days_11 : decode cX9_days 11 = .ok (.iconst 1, 1) := by decide +kernel
theorem dX9_days_12 : decode cX9_days 12 = .ok (.bipush 10, 2) := by decide +kernel
theorem dX9_days_14 : decode cX9_days 14 = .ok (.iload_n 1, 1) := by decide +kernel
theorem dX9_days_15 : decode cX9_days 15 = .ok (.iconst 1, 1) := by decide +kernel
theorem dX9_days_16 : decode cX9_days 16 = .ok (.iadd, 1) := by decide +kernel
theorem dX9_days_17 : decode cX9_days 17 = .ok (.invokestatic 208, 3) := by decide +kernel
theorem dX9_days_20 : decode cX9_days 20 = .ok (.invokestatic 75, 3) := by decide +kernel
theorem dX9_days_23 : decode cX9_days 23 = .ok (.ifCond .eq 12, 3) := by decide +kernel
theorem dX9_days_26 : decode cX9_days 26 = .ok (.iload_n 3, 1) := by decide +kernel
theorem dX9_days_27 : decode cX9_days 27 = .ok (.iconst 0, 1) := by decide +kernel
theorem dX9_days_28 : decode cX9_days 28 = .ok (.iconst 1, 1) := by decide +kernel
theorem dX9_days_29 : decode cX9_days 29 = .ok (.invokestatic 75, 3) := by decide +kernel
theorem dX9_days_32 : decode cX9_days 32 = .ok (.ifCond .ne 6, 3) := by decide +kernel
theorem dX9_days_35 : decode cX9_days 35 = .ok (.bipush (-2), 2) := by decide +kernel
theorem dX9_days_37 : decode cX9_days 37 = .ok (.ireturn, 1) := by decide +kernel
theorem dX9_days_38 : decode cX9_days 38 = .ok (.aload_n 0, 1) := by decide +kernel
theorem dX9_days_39 : decode cX9_days 39 = .ok (.getfield 43, 3) := by decide +kernel
theorem dX9_days_42 : decode cX9_days 42 = .ok (.aload_n 0, 1) := by decide +kernel
theorem dX9_days_43 : decode cX9_days 43 = .ok (.getfield 10, 3) := by decide +kernel
theorem dX9_days_46 : decode cX9_days 46 = .ok (.iload_n 1, 1) := by decide +kernel
theorem dX9_days_47 : decode cX9_days 47 = .ok (.invokevirtual 184, 3) := by decide +kernel
theorem dX9_days_50 : decode cX9_days 50 = .ok (.aload_n 0, 1) := by decide +kernel
theorem dX9_days_51 : decode cX9_days 51 = .ok (.getfield 43, 3) := by decide +kernel
theorem dX9_days_54 : decode cX9_days 54 = .ok (.iload_n 1, 1) := by decide +kernel
theorem dX9_days_55 : decode cX9_days 55 = .ok (.iload_n 2, 1) := by decide +kernel
theorem dX9_days_56 : decode cX9_days 56 = .ok (.invokevirtual 213, 3) := by decide +kernel
theorem dX9_days_59 : decode cX9_days 59 = .ok (.istore 4, 2) := by decide +kernel
theorem dX9_days_61 : decode cX9_days 61 = .ok (.iload_n 3, 1) := by decide +kernel
theorem dX9_days_62 : decode cX9_days 62 = .ok (.ifCond .ne 8, 3) := by decide +kernel
theorem dX9_days_65 : decode cX9_days 65 = .ok (.iload 4, 2) := by decide +kernel
theorem dX9_days_67 : decode cX9_days 67 = .ok (.goto 14, 3) := by decide +kernel
theorem dX9_days_70 : decode cX9_days 70 = .ok (.aload_n 0, 1) := by decide +kernel
theorem dX9_days_71 : decode cX9_days 71 = .ok (.getfield 43, 3) := by decide +kernel
theorem dX9_days_74 : decode cX9_days 74 = .ok (.iload_n 1, 1) := by decide +kernel
theorem dX9_days_75 : decode cX9_days 75 = .ok (.iload_n 2, 1) := by decide +kernel
theorem dX9_days_76 : decode cX9_days 76 = .ok (.iload 4, 2) := by decide +kernel
theorem dX9_days_78 : decode cX9_days 78 = .ok (.invokevirtual 216, 3) := by decide +kernel
theorem dX9_days_81 : decode cX9_days 81 = .ok (.ireturn, 1) := by decide +kernel
theorem dX9_seen_0 : decode cX9_seen 0 = .ok (.iload_n 1, 1) := by decide +kernel
theorem dX9_seen_1 : decode cX9_seen 1 = .ok (.iconst 0, 1) := by decide +kernel
theorem dX9_seen_2 : decode cX9_seen 2 = .ok (.bipush 60, 2) := by decide +kernel
theorem dX9_seen_4 : decode cX9_seen 4 = .ok (.invokestatic 75, 3) := by decide +kernel
theorem dX9_seen_7 : decode cX9_seen 7 = .ok (.ifCond .eq 14, 3) := by decide +kernel
theorem dX9_seen_10 : decode cX9_seen 10 = .ok (.iload_n 2, 1) := by decide +kernel
theorem dX9_seen_11 : decode cX9_seen 11 = .ok (.iconst 1, 1) := by decide +kernel
theorem dX9_seen_12 : decode cX9_seen 12 = .ok (.sipush 200, 3) := by decide +kernel
theorem dX9_seen_15 : decode cX9_seen 15 = .ok (.invokestatic 75, 3) := by decide +kernel
theorem dX9_seen_18 : decode cX9_seen 18 = .ok (.ifCond .ne 6, 3) := by decide +kernel
theorem dX9_seen_21 : decode cX9_seen 21 = .ok (.bipush (-2), 2) := by decide +kernel
theorem dX9_seen_23 : decode cX9_seen 23 = .ok (.ireturn, 1) := by decide +kernel
theorem dX9_seen_24 : decode cX9_seen 24 = .ok (.aload_n 0, 1) := by decide +kernel
theorem dX9_seen_25 : decode cX9_seen 25 = .ok (.getfield 10, 3) := by decide +kernel
theorem dX9_seen_28 : decode cX9_seen 28 = .ok (.getfield 219, 3) := by decide +kernel
theorem dX9_seen_31 : decode cX9_seen 31 = .ok (.bipush 8, 2) := by decide +kernel
theorem dX9_seen_33 : decode cX9_seen 33 = .ok (.if_icmp .lt 6, 3) := by decide +kernel
theorem dX9_seen_36 : decode cX9_seen 36 = .ok (.bipush (-4), 2) := by decide +kernel
theorem dX9_seen_38 : decode cX9_seen 38 = .ok (.ireturn, 1) := by decide +kernel
theorem dX9_seen_39 : decode cX9_seen 39 = .ok (.aload_n 0, 1) := by decide +kernel
theorem dX9_seen_40 : decode cX9_seen 40 = .ok (.getfield 10, 3) := by decide +kernel
theorem dX9_seen_43 : decode cX9_seen 43 = .ok (.getfield 222, 3) := by decide +kernel
theorem dX9_seen_46 : decode cX9_seen 46 = .ok (.aload_n 0, 1) := by decide +kernel
theorem dX9_seen_47 : decode cX9_seen 47 = .ok (.getfield 10, 3) := by decide +kernel
theorem dX9_seen_50 : decode cX9_seen 50 = .ok (.getfield 219, 3) := by decide +kernel
theorem dX9_seen_53 : decode cX9_seen 53 = .ok (.iload_n 1, 1) := by decide +kernel
theorem dX9_seen_54 : decode cX9_seen 54 = .ok (.iastore, 1) := by decide +kernel
theorem dX9_seen_55 : decode cX9_seen 55 = .ok (.aload_n 0, 1) := by decide +kernel
theorem dX9_seen_56 : decode cX9_seen 56 = .ok (.getfield 10, 3) := by decide +kernel
theorem dX9_seen_59 : decode cX9_seen 59 = .ok (.getfield 225, 3) := by decide +kernel
theorem dX9_seen_62 : decode cX9_seen 62 = .ok (.aload_n 0, 1) := by decide +kernel
theorem dX9_seen_63 : decode cX9_seen 63 = .ok (.getfield 10, 3) := by decide +kernel
theorem dX9_seen_66 : decode cX9_seen 66 = .ok (.getfield 219, 3) := by decide +kernel
theorem dX9_seen_69 : decode cX9_seen 69 = .ok (.iload_n 2, 1) := by decide +kernel
theorem dX9_seen_70 : decode cX9_seen 70 = .ok (.iastore, 1) := by decide +kernel
theorem dX9_seen_71 : decode cX9_seen 71 = .ok (.aload_n 0, 1) := by decide +kernel
theorem dX9_seen_72 : decode cX9_seen 72 = .ok (.getfield 10, 3) := by decide +kernel
theorem dX9_seen_75 : decode cX9_seen 75 = .ok (.dup, 1) := by decide +kernel
theorem dX9_seen_76 : decode cX9_seen 76 = .ok (.getfield 219, 3) := by decide +kernel
theorem dX9_seen_79 : decode cX9_seen 79 = .ok (.iconst 1, 1) := by decide +kernel
theorem dX9_seen_80 : decode cX9_seen 80 = .ok (.iadd, 1) := by decide +kernel
theorem dX9_seen_81 : decode cX9_seen 81 = .ok (.putfield 219, 3) := by decide +kernel
theorem dX9_seen_84 : decode cX9_seen 84 = .ok (.aload_n 0, 1) := by decide +kernel
theorem dX9_seen_85 : decode cX9_seen 85 = .ok (.getfield 10, 3) := by decide +kernel
theorem dX9_seen_88 : decode cX9_seen 88 = .ok (.getfield 219, 3) := by decide +kernel
theorem dX9_seen_91 : decode cX9_seen 91 = .ok (.ireturn, 1) := by decide +kernel
theorem dX9_forget_0 : decode cX9_forget 0 = .ok (.aload_n 0, 1) := by decide +kernel
theorem dX9_forget_1 : decode cX9_forget 1 = .ok (.getfield 10, 3) := by decide +kernel
theorem dX9_forget_4 : decode cX9_forget 4 = .ok (.getfield 219, 3) := by decide +kernel
theorem dX9_forget_7 : decode cX9_forget 7 = .ok (.istore_n 1, 1) := by decide +kernel
theorem dX9_forget_8 : decode cX9_forget 8 = .ok (.aload_n 0, 1) := by decide +kernel
theorem dX9_forget_9 : decode cX9_forget 9 = .ok (.getfield 10, 3) := by decide +kernel
theorem dX9_forget_12 : decode cX9_forget 12 = .ok (.iconst 0, 1) := by decide +kernel
theorem dX9_forget_13 : decode cX9_forget 13 = .ok (.putfield 219, 3) := by decide +kernel
theorem dX9_forget_16 : decode cX9_forget 16 = .ok (.iload_n 1, 1) := by decide +kernel
theorem dX9_forget_17 : decode cX9_forget 17 = .ok (.ireturn, 1) := by decide +kernel
theorem dX9_fits_0 : decode cX9_fits 0 = .ok (.aload_n 0, 1) := by decide +kernel
theorem dX9_fits_1 : decode cX9_fits 1 = .ok (.getfield 50, 3) := by decide +kernel
theorem dX9_fits_4 : decode cX9_fits 4 = .ok (.aload_n 0, 1) := by decide +kernel
theorem dX9_fits_5 : decode cX9_fits 5 = .ok (.getfield 10, 3) := by decide +kernel
theorem dX9_fits_8 : decode cX9_fits 8 = .ok (.invokevirtual 228, 3) := by decide +kernel
theorem dX9_fits_11 : decode cX9_fits 11 = .ok (.iload_n 1, 1) := by decide +kernel
theorem dX9_fits_12 : decode cX9_fits 12 = .ok (.iconst (-1), 1) := by decide +kernel
theorem dX9_fits_13 : decode cX9_fits 13 = .ok (.if_icmp .ne 13, 3) := by decide +kernel
theorem dX9_fits_16 : decode cX9_fits 16 = .ok (.aload_n 0, 1) := by decide +kernel
theorem dX9_fits_17 : decode cX9_fits 17 = .ok (.getfield 50, 3) := by decide +kernel
theorem dX9_fits_20 : decode cX9_fits 20 = .ok (.invokevirtual 231, 3) := by decide +kernel
theorem dX9_fits_23 : decode cX9_fits 23 = .ok (.goto 11, 3) := by decide +kernel
theorem dX9_fits_26 : decode cX9_fits 26 = .ok (.aload_n 0, 1) := by decide +kernel
theorem dX9_fits_27 : decode cX9_fits 27 = .ok (.getfield 50, 3) := by decide +kernel
theorem dX9_fits_30 : decode cX9_fits 30 = .ok (.iload_n 1, 1) := by decide +kernel
theorem dX9_fits_31 : decode cX9_fits 31 = .ok (.invokevirtual 234, 3) := by decide +kernel
theorem dX9_fits_34 : decode cX9_fits 34 = .ok (.ireturn, 1) := by decide +kernel
theorem dX9_ask_0 : decode cX9_ask 0 = .ok (.iload_n 1, 1) := by decide +kernel
theorem dX9_ask_1 : decode cX9_ask 1 = .ok (.iconst 0, 1) := by decide +kernel
theorem dX9_ask_2 : decode cX9_ask 2 = .ok (.iconst 1, 1) := by decide +kernel
theorem dX9_ask_3 : decode cX9_ask 3 = .ok (.invokestatic 75, 3) := by decide +kernel
theorem dX9_ask_6 : decode cX9_ask 6 = .ok (.ifCond .ne 6, 3) := by decide +kernel
theorem dX9_ask_9 : decode cX9_ask 9 = .ok (.bipush (-2), 2) := by decide +kernel
theorem dX9_ask_11 : decode cX9_ask 11 = .ok (.ireturn, 1) := by decide +kernel
theorem dX9_ask_12 : decode cX9_ask 12 = .ok (.aload_n 0, 1) := by decide +kernel
theorem dX9_ask_13 : decode cX9_ask 13 = .ok (.getfield 50, 3) := by decide +kernel
theorem dX9_ask_16 : decode cX9_ask 16 = .ok (.aload_n 0, 1) := by decide +kernel
theorem dX9_ask_17 : decode cX9_ask 17 = .ok (.getfield 10, 3) := by decide +kernel
theorem dX9_ask_20 : decode cX9_ask 20 = .ok (.invokevirtual 228, 3) := by decide +kernel
theorem dX9_ask_23 : decode cX9_ask 23 = .ok (.aload_n 0, 1) := by decide +kernel
theorem dX9_ask_24 : decode cX9_ask 24 = .ok (.getfield 50, 3) := by decide +kernel
theorem dX9_ask_27 : decode cX9_ask 27 = .ok (.invokevirtual 231, 3) := by decide +kernel
theorem dX9_ask_30 : decode cX9_ask 30 = .ok (.ifCond .ne 6, 3) := by decide +kernel
theorem dX9_ask_33 : decode cX9_ask 33 = .ok (.bipush (-6), 2) := by decide +kernel
theorem dX9_ask_35 : decode cX9_ask 35 = .ok (.ireturn, 1) := by decide +kernel
theorem dX9_ask_36 : decode cX9_ask 36 = .ok (.aload_n 0, 1) := by decide +kernel
theorem dX9_ask_37 : decode cX9_ask 37 = .ok (.getfield 50, 3) := by decide +kernel
theorem dX9_ask_40 : decode cX9_ask 40 = .ok (.invokevirtual 237, 3) := by decide +kernel
theorem dX9_ask_43 : decode cX9_ask 43 = .ok (.istore_n 2, 1) := by decide +kernel
theorem dX9_ask_44 : decode cX9_ask 44 = .ok (.iload_n 1, 1) := by decide +kernel
theorem dX9_ask_45 : decode cX9_ask 45 = .ok (.ifCond .ne 7, 3) := by decide +kernel
theorem dX9_ask_48 : decode cX9_ask 48 = .ok (.iload_n 2, 1) := by decide +kernel
theorem dX9_ask_49 : decode cX9_ask 49 = .ok (.goto 11, 3) := by decide +kernel
theorem dX9_ask_52 : decode cX9_ask 52 = .ok (.aload_n 0, 1) := by decide +kernel
theorem dX9_ask_53 : decode cX9_ask 53 = .ok (.getfield 50, 3) := by decide +kernel
theorem dX9_ask_56 : decode cX9_ask 56 = .ok (.iload_n 2, 1) := by decide +kernel
theorem dX9_ask_57 : decode cX9_ask 57 = .ok (.invokevirtual 240, 3) := by decide +kernel
theorem dX9_ask_60 : decode cX9_ask 60 = .ok (.ireturn, 1) := by decide +kernel
theorem dX9_settle_0 : decode cX9_settle 0 = .ok (.iload_n 1, 1) := by decide +kernel
theorem dX9_settle_1 : decode cX9_settle 1 = .ok (.invokestatic 87, 3) := by decide +kernel
theorem dX9_settle_4 : decode cX9_settle 4 = .ok (.ifCond .ne 5, 3) := by decide +kernel
theorem dX9_settle_7 : decode cX9_settle 7 = .ok (.iconst (-1), 1) := by decide +kernel
theorem dX9_settle_8 : decode cX9_settle 8 = .ok (.ireturn, 1) := by decide +kernel
theorem dX9_settle_9 : decode cX9_settle 9 = .ok (.iload_n 2, 1) := by decide +kernel
theorem dX9_settle_10 : decode cX9_settle 10 = .ok (.iconst 0, 1) := by decide +kernel
theorem dX9_settle_11 : decode cX9_settle 11 = .ok (.bipush 99, 2) := by decide +kernel
theorem dX9_settle_13 : decode cX9_settle 13 = .ok (.invokestatic 75, 3) := by decide +kernel
theorem dX9_settle_16 : decode cX9_settle 16 = .ok (.ifCond .ne 6, 3) := by decide +kernel
theorem dX9_settle_19 : decode cX9_settle 19 = .ok (.bipush (-2), 2) := by decide +kernel
theorem dX9_settle_21 : decode cX9_settle 21 = .ok (.ireturn, 1) := by decide +kernel
theorem dX9_settle_22 : decode cX9_settle 22 = .ok (.aload_n 0, 1) := by decide +kernel
theorem dX9_settle_23 : decode cX9_settle 23 = .ok (.getfield 57, 3) := by decide +kernel
theorem dX9_settle_26 : decode cX9_settle 26 = .ok (.aload_n 0, 1) := by decide +kernel
theorem dX9_settle_27 : decode cX9_settle 27 = .ok (.getfield 10, 3) := by decide +kernel
theorem dX9_settle_30 : decode cX9_settle 30 = .ok (.invokevirtual 243, 3) := by decide +kernel
theorem dX9_settle_33 : decode cX9_settle 33 = .ok (.iconst 0, 1) := by decide +kernel
theorem dX9_settle_34 : decode cX9_settle 34 = .ok (.istore_n 3, 1) := by decide +kernel
theorem dX9_settle_35 : decode cX9_settle 35 = .ok (.iload_n 3, 1) := by decide +kernel
theorem dX9_settle_36 : decode cX9_settle 36 = .ok (.iload_n 2, 1) := by decide +kernel
theorem dX9_settle_37 : decode cX9_settle 37 = .ok (.if_icmp .ge 17, 3) := by decide +kernel
theorem dX9_settle_40 : decode cX9_settle 40 = .ok (.aload_n 0, 1) := by decide +kernel
theorem dX9_settle_41 : decode cX9_settle 41 = .ok (.getfield 57, 3) := by decide +kernel
theorem dX9_settle_44 : decode cX9_settle 44 = .ok (.invokevirtual 246, 3) := by decide +kernel
theorem dX9_settle_47 : decode cX9_settle 47 = .ok (.pop, 1) := by decide +kernel
theorem dX9_settle_48 : decode cX9_settle 48 = .ok (.iinc 3 1, 3) := by decide +kernel
theorem dX9_settle_51 : decode cX9_settle 51 = .ok (.goto (-16), 3) := by decide +kernel
theorem dX9_settle_54 : decode cX9_settle 54 = .ok (.aload_n 0, 1) := by decide +kernel
theorem dX9_settle_55 : decode cX9_settle 55 = .ok (.getfield 57, 3) := by decide +kernel
theorem dX9_settle_58 : decode cX9_settle 58 = .ok (.getfield 249, 3) := by decide +kernel
theorem dX9_settle_61 : decode cX9_settle 61 = .ok (.iload_n 1, 1) := by decide +kernel
theorem dX9_settle_62 : decode cX9_settle 62 = .ok (.iaload, 1) := by decide +kernel
theorem dX9_settle_63 : decode cX9_settle 63 = .ok (.ireturn, 1) := by decide +kernel
theorem dX9_settled_0 : decode cX9_settled 0 = .ok (.aload_n 0, 1) := by decide +kernel
theorem dX9_settled_1 : decode cX9_settled 1 = .ok (.getfield 57, 3) := by decide +kernel
theorem dX9_settled_4 : decode cX9_settled 4 = .ok (.aload_n 0, 1) := by decide +kernel
theorem dX9_settled_5 : decode cX9_settled 5 = .ok (.getfield 10, 3) := by decide +kernel
theorem dX9_settled_8 : decode cX9_settled 8 = .ok (.invokevirtual 243, 3) := by decide +kernel
theorem dX9_settled_11 : decode cX9_settled 11 = .ok (.aload_n 0, 1) := by decide +kernel
theorem dX9_settled_12 : decode cX9_settled 12 = .ok (.getfield 57, 3) := by decide +kernel
theorem dX9_settled_15 : decode cX9_settled 15 = .ok (.invokevirtual 252, 3) := by decide +kernel
theorem dX9_settled_18 : decode cX9_settled 18 = .ok (.ireturn, 1) := by decide +kernel
theorem dX9_halves_0 : decode cX9_halves 0 = .ok (.iload_n 1, 1) := by decide +kernel
theorem dX9_halves_1 : decode cX9_halves 1 = .ok (.iconst 0, 1) := by decide +kernel
theorem dX9_halves_2 : decode cX9_halves 2 = .ok (.sipush 200, 3) := by decide +kernel
theorem dX9_halves_5 : decode cX9_halves 5 = .ok (.invokestatic 75, 3) := by decide +kernel
theorem dX9_halves_8 : decode cX9_halves 8 = .ok (.ifCond .eq 22, 3) := by decide +kernel
theorem dX9_halves_11 : decode cX9_halves 11 = .ok (.iload_n 2, 1) := by decide +kernel
theorem dX9_halves_12 : decode cX9_halves 12 = .ok (.iconst 1, 1) := by decide +kernel
theorem dX9_halves_13 : decode cX9_halves 13 = .ok (.bipush 9, 2) := by decide +kernel
theorem dX9_halves_15 : decode cX9_halves 15 = .ok (.invokestatic 75, 3) := by decide +kernel
theorem dX9_halves_18 : decode cX9_halves 18 = .ok (.ifCond .eq 12, 3) := by decide +kernel
theorem dX9_halves_21 : decode cX9_halves 21 = .ok (.iload_n 3, 1) := by decide +kernel
theorem dX9_halves_22 : decode cX9_halves 22 = .ok (.iconst 0, 1) := by decide +kernel
theorem dX9_halves_23 : decode cX9_halves 23 = .ok (.iconst 1, 1) := by decide +kernel
theorem dX9_halves_24 : decode cX9_halves 24 = .ok (.invokestatic 75, 3) := by decide +kernel
theorem dX9_halves_27 : decode cX9_halves 27 = .ok (.ifCond .ne 6, 3) := by decide +kernel
theorem dX9_halves_30 : decode cX9_halves 30 = .ok (.bipush (-2), 2) := by decide +kernel
theorem dX9_halves_32 : decode cX9_halves 32 = .ok (.ireturn, 1) := by decide +kernel
theorem dX9_halves_33 : decode cX9_halves 33 = .ok (.aload_n 0, 1) := by decide +kernel
theorem dX9_halves_34 : decode cX9_halves 34 = .ok (.getfield 64, 3) := by decide +kernel
theorem dX9_halves_37 : decode cX9_halves 37 = .ok (.iload_n 1, 1) := by decide +kernel
theorem dX9_halves_38 : decode cX9_halves 38 = .ok (.iload_n 2, 1) := by decide +kernel
theorem dX9_halves_39 : decode cX9_halves 39 = .ok (.invokevirtual 255, 3) := by decide +kernel
theorem dX9_halves_42 : decode cX9_halves 42 = .ok (.istore 4, 2) := by decide +kernel
theorem dX9_halves_44 : decode cX9_halves 44 = .ok (.iload_n 3, 1) := by decide +kernel
theorem dX9_halves_45 : decode cX9_halves 45 = .ok (.iconst 1, 1) := by decide +kernel
theorem dX9_halves_46 : decode cX9_halves 46 = .ok (.if_icmp .ne 6, 3) := by decide +kernel
theorem dX9_halves_49 : decode cX9_halves 49 = .ok (.iload 4, 2) := by decide +kernel
theorem dX9_halves_51 : decode cX9_halves 51 = .ok (.ireturn, 1) := by decide +kernel
theorem dX9_halves_52 : decode cX9_halves 52 = .ok (.iload 4, 2) := by decide +kernel
theorem dX9_halves_54 : decode cX9_halves 54 = .ok (.bipush (-6), 2) := by decide +kernel
theorem dX9_halves_56 : decode cX9_halves 56 = .ok (.if_icmp .ne 7, 3) := by decide +kernel
theorem dX9_halves_59 : decode cX9_halves 59 = .ok (.iconst 0, 1) := by decide +kernel
theorem dX9_halves_60 : decode cX9_halves 60 = .ok (.goto 4, 3) := by decide +kernel
theorem dX9_halves_63 : decode cX9_halves 63 = .ok (.iconst 1, 1) := by decide +kernel
theorem dX9_halves_64 : decode cX9_halves 64 = .ok (.ireturn, 1) := by decide +kernel
theorem dX9_shake_0 : decode cX9_shake 0 = .ok (.iload_n 1, 1) := by decide +kernel
theorem dX9_shake_1 : decode cX9_shake 1 = .ok (.iconst 0, 1) := by decide +kernel
theorem dX9_shake_2 : decode cX9_shake 2 = .ok (.bipush 12, 2) := by decide +kernel
theorem dX9_shake_4 : decode cX9_shake 4 = .ok (.invokestatic 75, 3) := by decide +kernel
theorem dX9_shake_7 : decode cX9_shake 7 = .ok (.ifCond .eq 46, 3) := by decide +kernel
theorem dX9_shake_10 : decode cX9_shake 10 = .ok (.iload_n 2, 1) := by decide +kernel
theorem dX9_shake_11 : decode cX9_shake 11 = .ok (.iconst 0, 1) := by decide +kernel
theorem dX9_shake_12 : decode cX9_shake 12 = .ok (.bipush 10, 2) := by decide +kernel
theorem dX9_shake_14 : decode cX9_shake 14 = .ok (.invokestatic 75, 3) := by decide +kernel
theorem dX9_shake_17 : decode cX9_shake 17 = .ok (.ifCond .eq 36, 3) := by decide +kernel
theorem dX9_shake_20 : decode cX9_shake 20 = .ok (.iload_n 3, 1) := by decide +kernel
theorem dX9_shake_21 : decode cX9_shake 21 = .ok (.iconst 0, 1) := by decide +kernel
theorem dX9_shake_22 : decode cX9_shake 22 = .ok (.bipush 10, 2) := by decide +kernel
theorem dX9_shake_24 : decode cX9_shake 24 = .ok (.iload_n 2, 1) := by decide +kernel
theorem dX9_shake_25 : decode cX9_shake 25 = .ok (.isub, 1) := by decide +kernel
theorem dX9_shake_26 : decode cX9_shake 26 = .ok (.invokestatic 75, 3) := by decide +kernel
theorem dX9_shake_29 : decode cX9_shake 29 = .ok (.ifCond .eq 24, 3) := by decide +kernel
theorem dX9_shake_32 : decode cX9_shake 32 = .ok (.iload 4, 2) := by decide +kernel
theorem dX9_shake_34 : decode cX9_shake 34 = .ok (.iconst 0, 1) := by decide +kernel
theorem dX9_shake_35 : decode cX9_shake 35 = .ok (.bipush 12, 2) := by decide +kernel
theorem dX9_shake_37 : decode cX9_shake 37 = .ok (.invokestatic 75, 3) := by decide +kernel
theorem dX9_shake_40 : decode cX9_shake 40 = .ok (.ifCond .eq 13, 3) := by decide +kernel
theorem dX9_shake_43 : decode cX9_shake 43 = .ok (.iload 5, 2) := by decide +kernel
theorem dX9_shake_45 : decode cX9_shake 45 = .ok (.iconst 0, 1) := by decide +kernel
theorem dX9_shake_46 : decode cX9_shake 46 = .ok (.iconst 1, 1) := by decide +kernel
theorem dX9_shake_47 : decode cX9_shake 47 = .ok (.invokestatic 75, 3) := by decide +kernel
theorem dX9_shake_50 : decode cX9_shake 50 = .ok (.ifCond .ne 7, 3) := by decide +kernel
theorem dX9_shake_53 : decode cX9_shake 53 = .ok (.ldc2_w 175, 3) := by decide +kernel
theorem dX9_shake_56 : decode cX9_shake 56 = .ok (.lreturn, 1) := by decide +kernel
theorem dX9_shake_57 : decode cX9_shake 57 = .ok (.aload_n 0, 1) := by decide +kernel
theorem dX9_shake_58 : decode cX9_shake 58 = .ok (.getfield 71, 3) := by decide +kernel
theorem dX9_shake_61 : decode cX9_shake 61 = .ok (.iload_n 1, 1) := by decide +kernel
theorem dX9_shake_62 : decode cX9_shake 62 = .ok (.iload_n 2, 1) := by decide +kernel
theorem dX9_shake_63 : decode cX9_shake 63 = .ok (.iload_n 3, 1) := by decide +kernel
theorem dX9_shake_64 : decode cX9_shake 64 = .ok (.invokevirtual 258, 3) := by decide +kernel
theorem dX9_shake_67 : decode cX9_shake 67 = .ok (.aload_n 0, 1) := by decide +kernel
theorem dX9_shake_68 : decode cX9_shake 68 = .ok (.getfield 71, 3) := by decide +kernel
theorem dX9_shake_71 : decode cX9_shake 71 = .ok (.iload 4, 2) := by decide +kernel
theorem dX9_shake_73 : decode cX9_shake 73 = .ok (.invokevirtual 262, 3) := by decide +kernel
theorem dX9_shake_76 : decode cX9_shake 76 = .ok (.aload_n 0, 1) := by decide +kernel
theorem dX9_shake_77 : decode cX9_shake 77 = .ok (.getfield 71, 3) := by decide +kernel
theorem dX9_shake_80 : decode cX9_shake 80 = .ok (.iload_n 1, 1) := by decide +kernel
theorem dX9_shake_81 : decode cX9_shake 81 = .ok (.invokevirtual 266, 3) := by decide +kernel
theorem dX9_shake_84 : decode cX9_shake 84 = .ok (.iload 5, 2) := by decide +kernel
theorem dX9_shake_86 : decode cX9_shake 86 = .ok (.invokestatic 180, 3) := by decide +kernel
theorem dX9_shake_89 : decode cX9_shake 89 = .ok (.lreturn, 1) := by decide +kernel
theorem dX9_year_0 : decode cX9_year 0 = .ok (.iload_n 1, 1) := by decide +kernel
theorem dX9_year_1 : decode cX9_year 1 = .ok (.iconst 0, 1) := by decide +kernel
theorem dX9_year_2 : decode cX9_year 2 = .ok (.sipush 9999, 3) := by decide +kernel
theorem dX9_year_5 : decode cX9_year 5 = .ok (.invokestatic 75, 3) := by decide +kernel
theorem dX9_year_8 : decode cX9_year 8 = .ok (.ifCond .eq 22, 3) := by decide +kernel
theorem dX9_year_11 : decode cX9_year 11 = .ok (.iload_n 2, 1) := by decide +kernel
theorem dX9_year_12 : decode cX9_year 12 = .ok (.iconst 1, 1) := by decide +kernel
theorem dX9_year_13 : decode cX9_year 13 = .ok (.bipush 99, 2) := by decide +kernel
theorem dX9_year_15 : decode cX9_year 15 = .ok (.invokestatic 75, 3) := by decide +kernel
theorem dX9_year_18 : decode cX9_year 18 = .ok (.ifCond .eq 12, 3) := by decide +kernel
theorem dX9_year_21 : decode cX9_year 21 = .ok (.iload_n 3, 1) := by decide +kernel
theorem dX9_year_22 : decode cX9_year 22 = .ok (.iconst 0, 1) := by decide +kernel
theorem dX9_year_23 : decode cX9_year 23 = .ok (.iconst 2, 1) := by decide +kernel
theorem dX9_year_24 : decode cX9_year 24 = .ok (.invokestatic 75, 3) := by decide +kernel
theorem dX9_year_27 : decode cX9_year 27 = .ok (.ifCond .ne 6, 3) := by decide +kernel
theorem dX9_year_30 : decode cX9_year 30 = .ok (.bipush (-2), 2) := by decide +kernel
theorem dX9_year_32 : decode cX9_year 32 = .ok (.ireturn, 1) := by decide +kernel
theorem dX9_year_33 : decode cX9_year 33 = .ok (.aload_n 0, 1) := by decide +kernel
theorem dX9_year_34 : decode cX9_year 34 = .ok (.getfield 36, 3) := by decide +kernel
theorem dX9_year_37 : decode cX9_year 37 = .ok (.aload_n 0, 1) := by decide +kernel
theorem dX9_year_38 : decode cX9_year 38 = .ok (.getfield 10, 3) := by decide +kernel
theorem dX9_year_41 : decode cX9_year 41 = .ok (.iload_n 1, 1) := by decide +kernel
theorem dX9_year_42 : decode cX9_year 42 = .ok (.iload_n 2, 1) := by decide +kernel
theorem dX9_year_43 : decode cX9_year 43 = .ok (.invokevirtual 269, 3) := by decide +kernel
theorem dX9_year_46 : decode cX9_year 46 = .ok (.iload_n 3, 1) := by decide +kernel
theorem dX9_year_47 : decode cX9_year 47 = .ok (.ifCond .ne 14, 3) := by decide +kernel
theorem dX9_year_50 : decode cX9_year 50 = .ok (.aload_n 0, 1) := by decide +kernel
theorem dX9_year_51 : decode cX9_year 51 = .ok (.getfield 36, 3) := by decide +kernel
theorem dX9_year_54 : decode cX9_year 54 = .ok (.getfield 146, 3) := by decide +kernel
theorem dX9_year_57 : decode cX9_year 57 = .ok (.getfield 79, 3) := by decide +kernel
theorem dX9_year_60 : decode cX9_year 60 = .ok (.ireturn, 1) := by decide +kernel
theorem dX9_year_61 : decode cX9_year 61 = .ok (.iload_n 3, 1) := by decide +kernel
theorem dX9_year_62 : decode cX9_year 62 = .ok (.iconst 1, 1) := by decide +kernel
theorem dX9_year_63 : decode cX9_year 63 = .ok (.if_icmp .ne 16, 3) := by decide +kernel
theorem dX9_year_66 : decode cX9_year 66 = .ok (.aload_n 0, 1) := by decide +kernel
theorem dX9_year_67 : decode cX9_year 67 = .ok (.getfield 36, 3) := by decide +kernel
theorem dX9_year_70 : decode cX9_year 70 = .ok (.getfield 146, 3) := by decide +kernel
theorem dX9_year_73 : decode cX9_year 73 = .ok (.invokevirtual 273, 3) := by decide +kernel
theorem dX9_year_76 : decode cX9_year 76 = .ok (.goto 13, 3) := by decide +kernel
theorem dX9_year_79 : decode cX9_year 79 = .ok (.aload_n 0, 1) := by decide +kernel
theorem dX9_year_80 : decode cX9_year 80 = .ok (.getfield 36, 3) := by decide +kernel
theorem dX9_year_83 : decode cX9_year 83 = .ok (.getfield 146, 3) := by decide +kernel
theorem dX9_year_86 : decode cX9_year 86 = .ok (.invokevirtual 276, 3) := by decide +kernel
theorem dX9_year_89 : decode cX9_year 89 = .ok (.ireturn, 1) := by decide +kernel
theorem dX9_image_0 : decode cX9_image 0 = .ok (.iload_n 1, 1) := by decide +kernel
theorem dX9_image_1 : decode cX9_image 1 = .ok (.iconst 0, 1) := by decide +kernel
theorem dX9_image_2 : decode cX9_image 2 = .ok (.iconst 1, 1) := by decide +kernel
theorem dX9_image_3 : decode cX9_image 3 = .ok (.invokestatic 75, 3) := by decide +kernel
theorem dX9_image_6 : decode cX9_image 6 = .ok (.ifCond .ne 6, 3) := by decide +kernel
theorem dX9_image_9 : decode cX9_image 9 = .ok (.bipush (-2), 2) := by decide +kernel
theorem dX9_image_11 : decode cX9_image 11 = .ok (.ireturn, 1) := by decide +kernel
theorem dX9_image_12 : decode cX9_image 12 = .ok (.aload_n 0, 1) := by decide +kernel
theorem dX9_image_13 : decode cX9_image 13 = .ok (.iload_n 1, 1) := by decide +kernel
theorem dX9_image_14 : decode cX9_image 14 = .ok (.invokevirtual 279, 3) := by decide +kernel
theorem dX9_image_17 : decode cX9_image 17 = .ok (.astore_n 2, 1) := by decide +kernel
theorem dX9_image_18 : decode cX9_image 18 = .ok (.aload_n 2, 1) := by decide +kernel
theorem dX9_image_19 : decode cX9_image 19 = .ok (.getfield 283, 3) := by decide +kernel
theorem dX9_image_22 : decode cX9_image 22 = .ok (.aload_n 0, 1) := by decide +kernel
theorem dX9_image_23 : decode cX9_image 23 = .ok (.getfield 10, 3) := by decide +kernel
theorem dX9_image_26 : decode cX9_image 26 = .ok (.invokevirtual 149, 3) := by decide +kernel
theorem dX9_image_29 : decode cX9_image 29 = .ok (.aload_n 2, 1) := by decide +kernel
theorem dX9_image_30 : decode cX9_image 30 = .ok (.iconst 1, 1) := by decide +kernel
theorem dX9_image_31 : decode cX9_image 31 = .ok (.putfield 284, 3) := by decide +kernel
theorem dX9_image_34 : decode cX9_image 34 = .ok (.iconst 1, 1) := by decide +kernel
theorem dX9_image_35 : decode cX9_image 35 = .ok (.ireturn, 1) := by decide +kernel
theorem dX9_restore_0 : decode cX9_restore 0 = .ok (.iload_n 1, 1) := by decide +kernel
theorem dX9_restore_1 : decode cX9_restore 1 = .ok (.iconst 0, 1) := by decide +kernel
theorem dX9_restore_2 : decode cX9_restore 2 = .ok (.iconst 1, 1) := by decide +kernel
theorem dX9_restore_3 : decode cX9_restore 3 = .ok (.invokestatic 75, 3) := by decide +kernel
theorem dX9_restore_6 : decode cX9_restore 6 = .ok (.ifCond .ne 6, 3) := by decide +kernel
theorem dX9_restore_9 : decode cX9_restore 9 = .ok (.bipush (-2), 2) := by decide +kernel
theorem dX9_restore_11 : decode cX9_restore 11 = .ok (.ireturn, 1) := by decide +kernel
theorem dX9_restore_12 : decode cX9_restore 12 = .ok (.aload_n 0, 1) := by decide +kernel
theorem dX9_restore_13 : decode cX9_restore 13 = .ok (.iload_n 1, 1) := by decide +kernel
theorem dX9_restore_14 : decode cX9_restore 14 = .ok (.invokevirtual 279, 3) := by decide +kernel
theorem dX9_restore_17 : decode cX9_restore 17 = .ok (.astore_n 2, 1) := by decide +kernel
theorem dX9_restore_18 : decode cX9_restore 18 = .ok (.aload_n 2, 1) := by decide +kernel
theorem dX9_restore_19 : decode cX9_restore 19 = .ok (.getfield 284, 3) := by decide +kernel
theorem dX9_restore_22 : decode cX9_restore 22 = .ok (.ifCond .ne 6, 3) := by decide +kernel
theorem dX9_restore_25 : decode cX9_restore 25 = .ok (.bipush (-3), 2) := by decide +kernel
theorem dX9_restore_27 : decode cX9_restore 27 = .ok (.ireturn, 1) := by decide +kernel
theorem dX9_restore_28 : decode cX9_restore 28 = .ok (.aload_n 0, 1) := by decide +kernel
theorem dX9_restore_29 : decode cX9_restore 29 = .ok (.getfield 10, 3) := by decide +kernel
theorem dX9_restore_32 : decode cX9_restore 32 = .ok (.aload_n 2, 1) := by decide +kernel
theorem dX9_restore_33 : decode cX9_restore 33 = .ok (.getfield 283, 3) := by decide +kernel
theorem dX9_restore_36 : decode cX9_restore 36 = .ok (.invokevirtual 149, 3) := by decide +kernel
theorem dX9_restore_39 : decode cX9_restore 39 = .ok (.iconst 1, 1) := by decide +kernel
theorem dX9_restore_40 : decode cX9_restore 40 = .ok (.ireturn, 1) := by decide +kernel
theorem dX9_told_0 : decode cX9_told 0 = .ok (.iload_n 1, 1) := by decide +kernel
theorem dX9_told_1 : decode cX9_told 1 = .ok (.iconst 0, 1) := by decide +kernel
theorem dX9_told_2 : decode cX9_told 2 = .ok (.iconst 3, 1) := by decide +kernel
theorem dX9_told_3 : decode cX9_told 3 = .ok (.invokestatic 75, 3) := by decide +kernel
theorem dX9_told_6 : decode cX9_told 6 = .ok (.ifCond .eq 9, 3) := by decide +kernel
theorem dX9_told_9 : decode cX9_told 9 = .ok (.aload_n 0, 1) := by decide +kernel
theorem dX9_told_10 : decode cX9_told 10 = .ok (.iload_n 1, 1) := by decide +kernel
theorem dX9_told_11 : decode cX9_told 11 = .ok (.invokevirtual 288, 3) := by decide +kernel
theorem dX9_told_14 : decode cX9_told 14 = .ok (.ireturn, 1) := by decide +kernel
theorem dX9_told_15 : decode cX9_told 15 = .ok (.iload_n 1, 1) := by decide +kernel
theorem dX9_told_16 : decode cX9_told 16 = .ok (.bipush 10, 2) := by decide +kernel
theorem dX9_told_18 : decode cX9_told 18 = .ok (.bipush 16, 2) := by decide +kernel
theorem dX9_told_20 : decode cX9_told 20 = .ok (.invokestatic 75, 3) := by decide +kernel
theorem dX9_told_23 : decode cX9_told 23 = .ok (.ifCond .eq 19, 3) := by decide +kernel
theorem dX9_told_26 : decode cX9_told 26 = .ok (.aload_n 0, 1) := by decide +kernel
theorem dX9_told_27 : decode cX9_told 27 = .ok (.getfield 10, 3) := by decide +kernel
theorem dX9_told_30 : decode cX9_told 30 = .ok (.getfield 83, 3) := by decide +kernel
theorem dX9_told_33 : decode cX9_told 33 = .ok (.iload_n 1, 1) := by decide +kernel
theorem dX9_told_34 : decode cX9_told 34 = .ok (.bipush 10, 2) := by decide +kernel
theorem dX9_told_36 : decode cX9_told 36 = .ok (.isub, 1) := by decide +kernel
theorem dX9_told_37 : decode cX9_told 37 = .ok (.iaload, 1) := by decide +kernel
theorem dX9_told_38 : decode cX9_told 38 = .ok (.bipush 9, 2) := by decide +kernel
theorem dX9_told_40 : decode cX9_told 40 = .ok (.iadd, 1) := by decide +kernel
theorem dX9_told_41 : decode cX9_told 41 = .ok (.ireturn, 1) := by decide +kernel
theorem dX9_told_42 : decode cX9_told 42 = .ok (.iload_n 1, 1) := by decide +kernel
theorem dX9_told_43 : decode cX9_told 43 = .ok (.bipush 20, 2) := by decide +kernel
theorem dX9_told_45 : decode cX9_told 45 = .ok (.bipush 27, 2) := by decide +kernel
theorem dX9_told_47 : decode cX9_told 47 = .ok (.invokestatic 75, 3) := by decide +kernel
theorem dX9_told_50 : decode cX9_told 50 = .ok (.ifCond .eq 16, 3) := by decide +kernel
theorem dX9_told_53 : decode cX9_told 53 = .ok (.aload_n 0, 1) := by decide +kernel
theorem dX9_told_54 : decode cX9_told 54 = .ok (.getfield 10, 3) := by decide +kernel
theorem dX9_told_57 : decode cX9_told 57 = .ok (.getfield 104, 3) := by decide +kernel
theorem dX9_told_60 : decode cX9_told 60 = .ok (.iload_n 1, 1) := by decide +kernel
theorem dX9_told_61 : decode cX9_told 61 = .ok (.bipush 20, 2) := by decide +kernel
theorem dX9_told_63 : decode cX9_told 63 = .ok (.isub, 1) := by decide +kernel
theorem dX9_told_64 : decode cX9_told 64 = .ok (.iaload, 1) := by decide +kernel
theorem dX9_told_65 : decode cX9_told 65 = .ok (.ireturn, 1) := by decide +kernel
theorem dX9_told_66 : decode cX9_told 66 = .ok (.iload_n 1, 1) := by decide +kernel
theorem dX9_told_67 : decode cX9_told 67 = .ok (.bipush 40, 2) := by decide +kernel
theorem dX9_told_69 : decode cX9_told 69 = .ok (.bipush 99, 2) := by decide +kernel
theorem dX9_told_71 : decode cX9_told 71 = .ok (.invokestatic 75, 3) := by decide +kernel
theorem dX9_told_74 : decode cX9_told 74 = .ok (.ifCond .eq 22, 3) := by decide +kernel
theorem dX9_told_77 : decode cX9_told 77 = .ok (.aload_n 0, 1) := by decide +kernel
theorem dX9_told_78 : decode cX9_told 78 = .ok (.getfield 10, 3) := by decide +kernel
theorem dX9_told_81 : decode cX9_told 81 = .ok (.iload_n 1, 1) := by decide +kernel
theorem dX9_told_82 : decode cX9_told 82 = .ok (.bipush 40, 2) := by decide +kernel
theorem dX9_told_84 : decode cX9_told 84 = .ok (.isub, 1) := by decide +kernel
theorem dX9_told_85 : decode cX9_told 85 = .ok (.bipush 10, 2) := by decide +kernel
theorem dX9_told_87 : decode cX9_told 87 = .ok (.idiv, 1) := by decide +kernel
theorem dX9_told_88 : decode cX9_told 88 = .ok (.iload_n 1, 1) := by decide +kernel
theorem dX9_told_89 : decode cX9_told 89 = .ok (.bipush 10, 2) := by decide +kernel
theorem dX9_told_91 : decode cX9_told 91 = .ok (.irem, 1) := by decide +kernel
theorem dX9_told_92 : decode cX9_told 92 = .ok (.invokevirtual 156, 3) := by decide +kernel
theorem dX9_told_95 : decode cX9_told 95 = .ok (.ireturn, 1) := by decide +kernel
theorem dX9_told_96 : decode cX9_told 96 = .ok (.iload_n 1, 1) := by decide +kernel
theorem dX9_told_97 : decode cX9_told 97 = .ok (.bipush 100, 2) := by decide +kernel
theorem dX9_told_99 : decode cX9_told 99 = .ok (.sipush 139, 3) := by decide +kernel
theorem dX9_told_102 : decode cX9_told 102 = .ok (.invokestatic 75, 3) := by decide +kernel
theorem dX9_told_105 : decode cX9_told 105 = .ok (.ifCond .eq 22, 3) := by decide +kernel
theorem dX9_told_108 : decode cX9_told 108 = .ok (.aload_n 0, 1) := by decide +kernel
theorem dX9_told_109 : decode cX9_told 109 = .ok (.getfield 10, 3) := by decide +kernel
theorem dX9_told_112 : decode cX9_told 112 = .ok (.iload_n 1, 1) := by decide +kernel
theorem dX9_told_113 : decode cX9_told 113 = .ok (.bipush 100, 2) := by decide +kernel
theorem dX9_told_115 : decode cX9_told 115 = .ok (.isub, 1) := by decide +kernel
theorem dX9_told_116 : decode cX9_told 116 = .ok (.bipush 10, 2) := by decide +kernel
theorem dX9_told_118 : decode cX9_told 118 = .ok (.idiv, 1) := by decide +kernel
theorem dX9_told_119 : decode cX9_told 119 = .ok (.iload_n 1, 1) := by decide +kernel
theorem dX9_told_120 : decode cX9_told 120 = .ok (.bipush 10, 2) := by decide +kernel
theorem dX9_told_122 : decode cX9_told 122 = .ok (.irem, 1) := by decide +kernel
theorem dX9_told_123 : decode cX9_told 123 = .ok (.invokevirtual 291, 3) := by decide +kernel
theorem dX9_told_126 : decode cX9_told 126 = .ok (.ireturn, 1) := by decide +kernel
theorem dX9_told_127 : decode cX9_told 127 = .ok (.bipush (-2), 2) := by decide +kernel
theorem dX9_told_129 : decode cX9_told 129 = .ok (.ireturn, 1) := by decide +kernel
theorem dX9_toldOfAll_0 : decode cX9_toldOfAll 0 = .ok (.iload_n 1, 1) := by decide +kernel
theorem dX9_toldOfAll_1 : decode cX9_toldOfAll 1 = .ok (.tableswitch 51 0 2 #[27, 35, 43], 27) := by decide +kernel
theorem dX9_toldOfAll_28 : decode cX9_toldOfAll 28 = .ok (.aload_n 0, 1) := by decide +kernel
theorem dX9_toldOfAll_29 : decode cX9_toldOfAll 29 = .ok (.getfield 29, 3) := by decide +kernel
theorem dX9_toldOfAll_32 : decode cX9_toldOfAll 32 = .ok (.getfield 122, 3) := by decide +kernel
theorem dX9_toldOfAll_35 : decode cX9_toldOfAll 35 = .ok (.ireturn, 1) := by decide +kernel
theorem dX9_toldOfAll_36 : decode cX9_toldOfAll 36 = .ok (.aload_n 0, 1) := by decide +kernel
theorem dX9_toldOfAll_37 : decode cX9_toldOfAll 37 = .ok (.getfield 10, 3) := by decide +kernel
theorem dX9_toldOfAll_40 : decode cX9_toldOfAll 40 = .ok (.getfield 79, 3) := by decide +kernel
theorem dX9_toldOfAll_43 : decode cX9_toldOfAll 43 = .ok (.ireturn, 1) := by decide +kernel
theorem dX9_toldOfAll_44 : decode cX9_toldOfAll 44 = .ok (.aload_n 0, 1) := by decide +kernel
theorem dX9_toldOfAll_45 : decode cX9_toldOfAll 45 = .ok (.getfield 10, 3) := by decide +kernel
theorem dX9_toldOfAll_48 : decode cX9_toldOfAll 48 = .ok (.getfield 164, 3) := by decide +kernel
theorem dX9_toldOfAll_51 : decode cX9_toldOfAll 51 = .ok (.ireturn, 1) := by decide +kernel
theorem dX9_toldOfAll_52 : decode cX9_toldOfAll 52 = .ok (.aload_n 0, 1) := by decide +kernel
theorem dX9_toldOfAll_53 : decode cX9_toldOfAll 53 = .ok (.getfield 10, 3) := by decide +kernel
theorem dX9_toldOfAll_56 : decode cX9_toldOfAll 56 = .ok (.getfield 219, 3) := by decide +kernel
theorem dX9_toldOfAll_59 : decode cX9_toldOfAll 59 = .ok (.ireturn, 1) := by decide +kernel
theorem dX9_allCanBe_0 : decode cX9_allCanBe 0 = .ok (.aload_n 0, 1) := by decide +kernel
theorem dX9_allCanBe_1 : decode cX9_allCanBe 1 = .ok (.getfield 36, 3) := by decide +kernel
theorem dX9_allCanBe_4 : decode cX9_allCanBe 4 = .ok (.aload_n 0, 1) := by decide +kernel
theorem dX9_allCanBe_5 : decode cX9_allCanBe 5 = .ok (.getfield 10, 3) := by decide +kernel
theorem dX9_allCanBe_8 : decode cX9_allCanBe 8 = .ok (.aload_n 0, 1) := by decide +kernel
theorem dX9_allCanBe_9 : decode cX9_allCanBe 9 = .ok (.getfield 29, 3) := by decide +kernel
theorem dX9_allCanBe_12 : decode cX9_allCanBe 12 = .ok (.invokevirtual 132, 3) := by decide +kernel
theorem dX9_allCanBe_15 : decode cX9_allCanBe 15 = .ok (.ifCond .eq 19, 3) := by decide +kernel
theorem dX9_allCanBe_18 : decode cX9_allCanBe 18 = .ok (.aload_n 0, 1) := by decide +kernel
theorem dX9_allCanBe_19 : decode cX9_allCanBe 19 = .ok (.getfield 36, 3) := by decide +kernel
theorem dX9_allCanBe_22 : decode cX9_allCanBe 22 = .ok (.getfield 136, 3) := by decide +kernel
theorem dX9_allCanBe_25 : decode cX9_allCanBe 25 = .ok (.bipush (-6), 2) := by decide +kernel
theorem dX9_allCanBe_27 : decode cX9_allCanBe 27 = .ok (.if_icmp .ne 7, 3) := by decide +kernel
theorem dX9_allCanBe_30 : decode cX9_allCanBe 30 = .ok (.iconst 1, 1) := by decide +kernel
theorem dX9_allCanBe_31 : decode cX9_allCanBe 31 = .ok (.goto 4, 3) := by decide +kernel
theorem dX9_allCanBe_34 : decode cX9_allCanBe 34 = .ok (.iconst 0, 1) := by decide +kernel
theorem dX9_allCanBe_35 : decode cX9_allCanBe 35 = .ok (.ireturn, 1) := by decide +kernel
theorem dX9_imageOf_0 : decode cX9_imageOf 0 = .ok (.iload_n 1, 1) := by decide +kernel
theorem dX9_imageOf_1 : decode cX9_imageOf 1 = .ok (.ifCond .ne 10, 3) := by decide +kernel
theorem dX9_imageOf_4 : decode cX9_imageOf 4 = .ok (.aload_n 0, 1) := by decide +kernel
theorem dX9_imageOf_5 : decode cX9_imageOf 5 = .ok (.getfield 19, 3) := by decide +kernel
theorem dX9_imageOf_8 : decode cX9_imageOf 8 = .ok (.goto 7, 3) := by decide +kernel
theorem dX9_imageOf_11 : decode cX9_imageOf 11 = .ok (.aload_n 0, 1) := by decide +kernel
theorem dX9_imageOf_12 : decode cX9_imageOf 12 = .ok (.getfield 23, 3) := by decide +kernel
theorem dX9_imageOf_15 : decode cX9_imageOf 15 = .ok (.areturn, 1) := by decide +kernel
theorem dX9_within_0 : decode cX9_within 0 = .ok (.iload_n 0, 1) := by decide +kernel
theorem dX9_within_1 : decode cX9_within 1 = .ok (.iload_n 1, 1) := by decide +kernel
theorem dX9_within_2 : decode cX9_within 2 = .ok (.if_icmp .lt 12, 3) := by decide +kernel
theorem dX9_within_5 : decode cX9_within 5 = .ok (.iload_n 0, 1) := by decide +kernel
theorem dX9_within_6 : decode cX9_within 6 = .ok (.iload_n 2, 1) := by decide +kernel
theorem dX9_within_7 : decode cX9_within 7 = .ok (.if_icmp .gt 7, 3) := by decide +kernel
theorem dX9_within_10 : decode cX9_within 10 = .ok (.iconst 1, 1) := by decide +kernel
theorem dX9_within_11 : decode cX9_within 11 = .ok (.goto 4, 3) := by decide +kernel
theorem dX9_within_14 : decode cX9_within 14 = .ok (.iconst 0, 1) := by decide +kernel
theorem dX9_within_15 : decode cX9_within 15 = .ok (.ireturn, 1) := by decide +kernel
theorem dX9_isOne_0 : decode cX9_isOne 0 = .ok (.iload_n 0, 1) := by decide +kernel
theorem dX9_isOne_1 : decode cX9_isOne 1 = .ok (.iconst 0, 1) := by decide +kernel
theorem dX9_isOne_2 : decode cX9_isOne 2 = .ok (.iconst 5, 1) := by decide +kernel
theorem dX9_isOne_3 : decode cX9_isOne 3 = .ok (.invokestatic 75, 3) := by decide +kernel
theorem dX9_isOne_6 : decode cX9_isOne 6 = .ok (.ireturn, 1) := by decide +kernel
theorem dX9_isStick_0 : decode cX9_isStick 0 = .ok (.iload_n 0, 1) := by decide +kernel
theorem dX9_isStick_1 : decode cX9_isStick 1 = .ok (.iconst 0, 1) := by decide +kernel
theorem dX9_isStick_2 : decode cX9_isStick 2 = .ok (.bipush 7, 2) := by decide +kernel
theorem dX9_isStick_4 : decode cX9_isStick 4 = .ok (.invokestatic 75, 3) := by decide +kernel
theorem dX9_isStick_7 : decode cX9_isStick 7 = .ok (.ireturn, 1) := by decide +kernel
theorem dX9_isBridge_0 : decode cX9_isBridge 0 = .ok (.iload_n 0, 1) := by decide +kernel
theorem dX9_isBridge_1 : decode cX9_isBridge 1 = .ok (.iconst 0, 1) := by decide +kernel
theorem dX9_isBridge_2 : decode cX9_isBridge 2 = .ok (.iconst 3, 1) := by decide +kernel
theorem dX9_isBridge_3 : decode cX9_isBridge 3 = .ok (.invokestatic 75, 3) := by decide +kernel
theorem dX9_isBridge_6 : decode cX9_isBridge 6 = .ok (.ireturn, 1) := by decide +kernel
theorem dX9_limited_0 : decode cX9_limited 0 = .ok (.iconst 1, 1) := by decide +kernel
theorem dX9_limited_1 : decode cX9_limited 1 = .ok (.sipush 200, 3) := by decide +kernel
theorem dX9_limited_4 : decode cX9_limited 4 = .ok (.iload_n 0, 1) := by decide +kernel
theorem dX9_limited_5 : decode cX9_limited 5 = .ok (.invokestatic 208, 3) := by decide +kernel
theorem dX9_limited_8 : decode cX9_limited 8 = .ok (.invokestatic 294, 3) := by decide +kernel
theorem dX9_limited_11 : decode cX9_limited 11 = .ok (.ireturn, 1) := by decide +kernel
theorem dX9_fewestForLeastRest_0 : decode cX9_fewestForLeastRest 0 = .ok (.iconst 0, 1) := by decide +kernel
theorem dX9_fewestForLeastRest_1 : decode cX9_fewestForLeastRest 1 = .ok (.istore_n 3, 1) := by decide +kernel
theorem dX9_fewestForLeastRest_2 : decode cX9_fewestForLeastRest 2 = .ok (.iload_n 0, 1) := by decide +kernel
theorem dX9_fewestForLeastRest_3 : decode cX9_fewestForLeastRest 3 = .ok (.iload_n 2, 1) := by decide +kernel
theorem dX9_fewestForLeastRest_4 : decode cX9_fewestForLeastRest 4 = .ok (.invokestatic 205, 3) := by decide +kernel
theorem dX9_fewestForLeastRest_7 : decode cX9_fewestForLeastRest 7 = .ok (.istore 4, 2) := by decide +kernel
theorem dX9_fewestForLeastRest_9 : decode cX9_fewestForLeastRest 9 = .ok (.iconst 1, 1) := by decide +kernel
theorem dX9_fewestForLeastRest_10 : decode cX9_fewestForLeastRest 10 = .ok (.istore 5, 2) := by decide +kernel
theorem dX9_fewestForLeastRest_12 : decode cX9_fewestForLeastRest 12 = .ok (.iload 5, 2) := by decide +kernel
theorem dX9_fewestForLeastRest_14 : decode cX9_fewestForLeastRest 14 = .ok (.sipush 1800, 3) := by decide +kernel
theorem dX9_fewestForLeastRest_17 : decode cX9_fewestForLeastRest 17 = .ok (.if_icmp .gt 43, 3) := by decide +kernel
theorem dX9_fewestForLeastRest_20 : decode cX9_fewestForLeastRest 20 = .ok (.iload 5, 2) := by decide +kernel
theorem dX9_fewestForLeastRest_22 : decode cX9_fewestForLeastRest 22 = .ok (.iload_n 1, 1) := by decide +kernel
theorem dX9_fewestForLeastRest_23 : decode cX9_fewestForLeastRest 23 = .ok (.imul, 1) := by decide +kernel
theorem dX9_fewestForLeastRest_24 : decode cX9_fewestForLeastRest 24 = .ok (.iload_n 0, 1) := by decide +kernel
theorem dX9_fewestForLeastRest_25 : decode cX9_fewestForLeastRest 25 = .ok (.if_icmp .gt 35, 3) := by decide +kernel
theorem dX9_fewestForLeastRest_28 : decode cX9_fewestForLeastRest 28 = .ok (.iload_n 0, 1) := by decide +kernel
theorem dX9_fewestForLeastRest_29 : decode cX9_fewestForLeastRest 29 = .ok (.iload 5, 2) := by decide +kernel
theorem dX9_fewestForLeastRest_31 : decode cX9_fewestForLeastRest 31 = .ok (.iload_n 1, 1) := by decide +kernel
theorem dX9_fewestForLeastRest_32 : decode cX9_fewestForLeastRest 32 = .ok (.imul, 1) := by decide +kernel
theorem dX9_fewestForLeastRest_33 : decode cX9_fewestForLeastRest 33 = .ok (.isub, 1) := by decide +kernel
theorem dX9_fewestForLeastRest_34 : decode cX9_fewestForLeastRest 34 = .ok (.iload_n 2, 1) := by decide +kernel
theorem dX9_fewestForLeastRest_35 : decode cX9_fewestForLeastRest 35 = .ok (.invokestatic 205, 3) := by decide +kernel
theorem dX9_fewestForLeastRest_38 : decode cX9_fewestForLeastRest 38 = .ok (.istore 6, 2) := by decide +kernel
theorem dX9_fewestForLeastRest_40 : decode cX9_fewestForLeastRest 40 = .ok (.iload 6, 2) := by decide +kernel
theorem dX9_fewestForLeastRest_42 : decode cX9_fewestForLeastRest 42 = .ok (.iload 4, 2) := by decide +kernel
theorem dX9_fewestForLeastRest_44 : decode cX9_fewestForLeastRest 44 = .ok (.if_icmp .ge 10, 3) := by decide +kernel
theorem dX9_fewestForLeastRest_47 : decode cX9_fewestForLeastRest 47 = .ok (.iload 6, 2) := by decide +kernel
theorem dX9_fewestForLeastRest_49 : decode cX9_fewestForLeastRest 49 = .ok (.istore 4, 2) := by decide +kernel
theorem dX9_fewestForLeastRest_51 : decode cX9_fewestForLeastRest 51 = .ok (.iload 5, 2) := by decide +kernel
theorem dX9_fewestForLeastRest_53 : decode cX9_fewestForLeastRest 53 = .ok (.istore_n 3, 1) := by decide +kernel
theorem dX9_fewestForLeastRest_54 : decode cX9_fewestForLeastRest 54 = .ok (.iinc 5 1, 3) := by decide +kernel
theorem dX9_fewestForLeastRest_57 : decode cX9_fewestForLeastRest 57 = .ok (.goto (-45), 3) := by decide +kernel
theorem dX9_fewestForLeastRest_60 : decode cX9_fewestForLeastRest 60 = .ok (.iload_n 3, 1) := by decide +kernel
theorem dX9_fewestForLeastRest_61 : decode cX9_fewestForLeastRest 61 = .ok (.ireturn, 1) := by decide +kernel
theorem dX9_restBy_0 : decode cX9_restBy 0 = .ok (.iload_n 1, 1) := by decide +kernel
theorem dX9_restBy_1 : decode cX9_restBy 1 = .ok (.iconst 1, 1) := by decide +kernel
theorem dX9_restBy_2 : decode cX9_restBy 2 = .ok (.if_icmp .ge 7, 3) := by decide +kernel
theorem dX9_restBy_5 : decode cX9_restBy 5 = .ok (.iload_n 0, 1) := by decide +kernel
theorem dX9_restBy_6 : decode cX9_restBy 6 = .ok (.goto 6, 3) := by decide +kernel
theorem dX9_restBy_9 : decode cX9_restBy 9 = .ok (.iload_n 0, 1) := by decide +kernel
theorem dX9_restBy_10 : decode cX9_restBy 10 = .ok (.iload_n 1, 1) := by decide +kernel
theorem dX9_restBy_11 : decode cX9_restBy 11 = .ok (.irem, 1) := by decide +kernel
theorem dX9_restBy_12 : decode cX9_restBy 12 = .ok (.ireturn, 1) := by decide +kernel
theorem dX9_lowest_0 : decode cX9_lowest 0 = .ok (.lload_n 0, 1) := by decide +kernel
theorem dX9_lowest_1 : decode cX9_lowest 1 = .ok (.lload_n 2, 1) := by decide +kernel
theorem dX9_lowest_2 : decode cX9_lowest 2 = .ok (.invokestatic 297, 3) := by decide +kernel
theorem dX9_lowest_5 : decode cX9_lowest 5 = .ok (.lstore 5, 2) := by decide +kernel
theorem dX9_lowest_7 : decode cX9_lowest 7 = .ok (.iload 4, 2) := by decide +kernel
theorem dX9_lowest_9 : decode cX9_lowest 9 = .ok (.ifCond .ne 10, 3) := by decide +kernel
theorem dX9_lowest_12 : decode cX9_lowest 12 = .ok (.lload_n 0, 1) := by decide +kernel
theorem dX9_lowest_13 : decode cX9_lowest 13 = .ok (.lload 5, 2) := by decide +kernel
theorem dX9_lowest_15 : decode cX9_lowest 15 = .ok (.ldiv, 1) := by decide +kernel
theorem dX9_lowest_16 : decode cX9_lowest 16 = .ok (.goto 7, 3) := by decide +kernel
theorem dX9_lowest_19 : decode cX9_lowest 19 = .ok (.lload_n 2, 1) := by decide +kernel
theorem dX9_lowest_20 : decode cX9_lowest 20 = .ok (.lload 5, 2) := by decide +kernel
theorem dX9_lowest_22 : decode cX9_lowest 22 = .ok (.ldiv, 1) := by decide +kernel
theorem dX9_lowest_23 : decode cX9_lowest 23 = .ok (.lreturn, 1) := by decide +kernel
theorem dX9_sharedDivisor_0 : decode cX9_sharedDivisor 0 = .ok (.lload_n 0, 1) := by decide +kernel
theorem dX9_sharedDivisor_1 : decode cX9_sharedDivisor 1 = .ok (.lstore 4, 2) := by decide +kernel
theorem dX9_sharedDivisor_3 : decode cX9_sharedDivisor 3 = .ok (.lload_n 2, 1) := by decide +kernel
theorem dX9_sharedDivisor_4 : decode cX9_sharedDivisor 4 = .ok (.lstore 6, 2) := by decide +kernel
theorem dX9_sharedDivisor_6 : decode cX9_sharedDivisor 6 = .ok (.iconst 0, 1) := by decide +kernel
theorem dX9_sharedDivisor_7 : decode cX9_sharedDivisor 7 = .ok (.istore 8, 2) := by decide +kernel
theorem dX9_sharedDivisor_9 : decode cX9_sharedDivisor 9 = .ok (.iload 8, 2) := by decide +kernel
theorem dX9_sharedDivisor_11 : decode cX9_sharedDivisor 11 = .ok (.bipush 100, 2) := by decide +kernel
theorem dX9_sharedDivisor_13 : decode cX9_sharedDivisor 13 = .ok (.if_icmp .ge 31, 3) := by decide +kernel
theorem dX9_sharedDivisor_16 : decode cX9_sharedDivisor 16 = .ok (.lload 6, 2) := by decide +kernel
theorem dX9_sharedDivisor_18 : decode cX9_sharedDivisor 18 = .ok (.lconst 0, 1) := by decide +kernel
theorem dX9_sharedDivisor_19 : decode cX9_sharedDivisor 19 = .ok (.lcmp, 1) := by decide +kernel
theorem dX9_sharedDivisor_20 : decode cX9_sharedDivisor 20 = .ok (.ifCond .eq 24, 3) := by decide +kernel
theorem dX9_sharedDivisor_23 : decode cX9_sharedDivisor 23 = .ok (.lload 4, 2) := by decide +kernel
theorem dX9_sharedDivisor_25 : decode cX9_sharedDivisor 25 = .ok (.lload 6, 2) := by decide +kernel
theorem dX9_sharedDivisor_27 : decode cX9_sharedDivisor 27 = .ok (.lrem, 1) := by decide +kernel
theorem dX9_sharedDivisor_28 : decode cX9_sharedDivisor 28 = .ok (.lstore 9, 2) := by decide +kernel
theorem dX9_sharedDivisor_30 : decode cX9_sharedDivisor 30 = .ok (.lload 6, 2) := by decide +kernel
theorem dX9_sharedDivisor_32 : decode cX9_sharedDivisor 32 = .ok (.lstore 4, 2) := by decide +kernel
theorem dX9_sharedDivisor_34 : decode cX9_sharedDivisor 34 = .ok (.lload 9, 2) := by decide +kernel
theorem dX9_sharedDivisor_36 : decode cX9_sharedDivisor 36 = .ok (.lstore 6, 2) := by decide +kernel
theorem dX9_sharedDivisor_38 : decode cX9_sharedDivisor 38 = .ok (.iinc 8 1, 3) := by decide +kernel
theorem dX9_sharedDivisor_41 : decode cX9_sharedDivisor 41 = .ok (.goto (-32), 3) := by decide +kernel
theorem dX9_sharedDivisor_44 : decode cX9_sharedDivisor 44 = .ok (.lconst 1, 1) := by decide +kernel
theorem dX9_sharedDivisor_45 : decode cX9_sharedDivisor 45 = .ok (.lload 4, 2) := by decide +kernel
theorem dX9_sharedDivisor_47 : decode cX9_sharedDivisor 47 = .ok (.invokestatic 301, 3) := by decide +kernel
theorem dX9_sharedDivisor_50 : decode cX9_sharedDivisor 50 = .ok (.lreturn, 1) := by decide +kernel
end
section
theorem dX10_init_0 : decode cX10_init 0 = .ok (.aload_n 0, 1) := by decide +kernel
theorem dX10_init_1 : decode cX10_init 1 = .ok (.invokespecial 1, 3) := by decide +kernel
theorem dX10_init_4 : decode cX10_init 4 = .ok (.aload_n 0, 1) := by decide +kernel
theorem dX10_init_5 : decode cX10_init 5 = .ok (.bipush 40, 2) := by decide +kernel
theorem dX10_init_7 : decode cX10_init 7 = .ok (.newarray .int, 2) := by decide +kernel
theorem dX10_init_9 : decode cX10_init 9 = .ok (.putfield 7, 3) := by decide +kernel
theorem dX10_init_12 : decode cX10_init 12 = .ok (.aload_n 0, 1) := by decide +kernel
theorem dX10_init_13 : decode cX10_init 13 = .ok (.bipush 40, 2) := by decide +kernel
theorem dX10_init_15 : decode cX10_init 15 = .ok (.newarray .int, 2) := by decide +kernel
theorem dX10_init_17 : decode cX10_init 17 = .ok (.putfield 13, 3) := by decide +kernel
theorem dX10_init_20 : decode cX10_init 20 = .ok (.aload_n 0, 1) := by decide +kernel
theorem dX10_init_21 : decode cX10_init 21 = .ok (.bipush 7, 2) := by decide +kernel
theorem dX10_init_23 : decode cX10_init 23 = .ok (.newarray .int, 2) := by decide +kernel
theorem dX10_init_25 : decode cX10_init 25 = .ok (.putfield 16, 3) := by decide +kernel
theorem dX10_init_28 : decode cX10_init 28 = .ok (.aload_n 0, 1) := by decide +kernel
theorem dX10_init_29 : decode cX10_init 29 = .ok (.bipush 16, 2) := by decide +kernel
theorem dX10_init_31 : decode cX10_init 31 = .ok (.newarray .int, 2) := by decide +kernel
theorem dX10_init_33 : decode cX10_init 33 = .ok (.putfield 19, 3) := by decide +kernel
theorem dX10_init_36 : decode cX10_init 36 = .ok (.aload_n 0, 1) := by decide +kernel
theorem dX10_init_37 : decode cX10_init 37 = .ok (.bipush 60, 2) := by decide +kernel
theorem dX10_init_39 : decode cX10_init 39 = .ok (.newarray .int, 2) := by decide +kernel
theorem dX10_init_41 : decode cX10_init 41 = .ok (.putfield 22, 3) := by decide +kernel
theorem dX10_init_44 : decode cX10_init 44 = .ok (.aload_n 0, 1) := by decide +kernel
theorem dX10_init_45 : decode cX10_init 45 = .ok (.bipush 100, 2) := by decide +kernel
theorem dX10_init_47 : decode cX10_init 47 = .ok (.newarray .int, 2) := by decide +kernel
theorem dX10_init_49 : decode cX10_init 49 = .ok (.putfield 25, 3) := by decide +kernel
theorem dX10_init_52 : decode cX10_init 52 = .ok (.aload_n 0, 1) := by decide +kernel
theorem dX10_init_53 : decode cX10_init 53 = .ok (.sipush 3800, 3) := by decide +kernel
theorem dX10_init_56 : decode cX10_init 56 = .ok (.newarray .int, 2) := by decide +kernel
theorem dX10_init_58 : decode cX10_init 58 = .ok (.putfield 28, 3) := by decide +kernel
theorem dX10_init_61 : decode cX10_init 61 = .ok (.aload_n 0, 1) := by decide +kernel
theorem dX10_init_62 : decode cX10_init 62 = .ok (.sipush 201, 3) := by decide +kernel
theorem dX10_init_65 : decode cX10_init 65 = .ok (.newarray .int, 2) := by decide +kernel
theorem dX10_init_67 : decode cX10_init 67 = .ok (.putfield 31, 3) := by decide +kernel
theorem dX10_init_70 : decode cX10_init 70 = .ok (.aload_n 0, 1) := by decide +kernel
theorem dX10_init_71 : decode cX10_init 71 = .ok (.bipush 6, 2) := by decide +kernel
theorem dX10_init_73 : decode cX10_init 73 = .ok (.newarray .int, 2) := by decide +kernel
theorem dX10_init_75 : decode cX10_init 75 = .ok (.putfield 34, 3) := by decide +kernel
theorem dX10_init_78 : decode cX10_init 78 = .ok (.aload_n 0, 1) := by decide +kernel
theorem dX10_init_79 : decode cX10_init 79 = .ok (.bipush 6, 2) := by decide +kernel
theorem dX10_init_81 : decode cX10_init 81 = .ok (.newarray .int, 2) := by decide +kernel
theorem dX10_init_83 : decode cX10_init 83 = .ok (.putfield 37, 3) := by decide +kernel
theorem dX10_init_86 : decode cX10_init 86 = .ok (.aload_n 0, 1) := by decide +kernel
theorem dX10_init_87 : decode cX10_init 87 = .ok (.sipush 201, 3) := by decide +kernel
theorem dX10_init_90 : decode cX10_init 90 = .ok (.newarray .boolean, 2) := by decide +kernel
theorem dX10_init_92 : decode cX10_init 92 = .ok (.putfield 40, 3) := by decide +kernel
theorem dX10_init_95 : decode cX10_init 95 = .ok (.aload_n 0, 1) := by decide +kernel
theorem dX10_init_96 : decode cX10_init 96 = .ok (.bipush 27, 2) := by decide +kernel
theorem dX10_init_98 : decode cX10_init 98 = .ok (.newarray .long, 2) := by decide +kernel
theorem dX10_init_100 : decode cX10_init 100 = .ok (.putfield 44, 3) := by decide +kernel
theorem dX10_init_103 : decode cX10_init 103 = .ok (.aload_n 0, 1) := by decide +kernel
theorem dX10_init_104 : decode cX10_init 104 = .ok (.bipush 27, 2) := by decide +kernel
theorem dX10_init_106 : decode cX10_init 106 = .ok (.newarray .long, 2) := by decide +kernel
theorem dX10_init_108 : decode cX10_init 108 = .ok (.putfield 48, 3) := by decide +kernel
theorem dX10_init_111 : decode cX10_init 111 = .ok (.aload_n 0, 1) := by decide +kernel
theorem dX10_init_112 : decode cX10_init 112 = .ok (.sipush 140, 3) := by decide +kernel
theorem dX10_init_115 : decode cX10_init 115 = .ok (.newarray .int, 2) := by decide +kernel
theorem dX10_init_117 : decode cX10_init 117 = .ok (.putfield 51, 3) := by decide +kernel
theorem dX10_init_120 : decode cX10_init 120 = .ok (.aload_n 0, 1) := by decide +kernel
theorem dX10_init_121 : decode cX10_init 121 = .ok (.iconst 2, 1) := by decide +kernel
theorem dX10_init_122 : decode cX10_init 122 = .ok (.newarray .boolean, 2) := by decide +kernel
theorem dX10_init_124 : decode cX10_init 124 = .ok (.putfield 54, 3) := by decide +kernel
theorem dX10_init_127 : decode cX10_init 127 = .ok (.iconst 0, 1) := by decide +kernel
theorem dX10_init_128 : decode cX10_init 128 = .ok (.istore_n 1, 1) := by decide +kernel
theorem dX10_init_129 : decode cX10_init 129 = .ok (.iload_n 1, 1) := by decide +kernel
theorem dX10_init_130 : decode cX10_init 130 = .ok (.bipush 6, 2) := by decide +kernel
theorem dX10_init_132 : decode cX10_init 132 = .ok (.if_icmp .ge 17, 3) := by decide +kernel
theorem dX10_init_135 : decode cX10_init 135 = .ok (.aload_n 0, 1) := by decide +kernel
theorem dX10_init_136 : decode cX10_init 136 = .ok (.getfield 7, 3) := by decide +kernel
theorem dX10_init_139 : decode cX10_init 139 = .ok (.iload_n 1, 1) := by decide +kernel
theorem dX10_init_140 : decode cX10_init 140 = .ok (.bipush 100, 2) := by decide +kernel
theorem dX10_init_142 : decode cX10_init 142 = .ok (.iastore, 1) := by decide +kernel
theorem dX10_init_143 : decode cX10_init 143 = .ok (.iinc 1 1, 3) := by decide +kernel
theorem dX10_init_146 : decode cX10_init 146 = .ok (.goto (-17), 3) := by decide +kernel
theorem dX10_init_149 : decode cX10_init 149 = .ok (.iconst 0, 1) := by decide +kernel
theorem dX10_init_150 : decode cX10_init 150 = .ok (.istore_n 1, 1) := by decide +kernel
theorem dX10_init_151 : decode cX10_init 151 = .ok (.iload_n 1, 1) := by decide +kernel
theorem dX10_init_152 : decode cX10_init 152 = .ok (.iconst 4, 1) := by decide +kernel
theorem dX10_init_153 : decode cX10_init 153 = .ok (.if_icmp .ge 21, 3) := by decide +kernel
theorem dX10_init_156 : decode cX10_init 156 = .ok (.aload_n 0, 1) := by decide +kernel
theorem dX10_init_157 : decode cX10_init 157 = .ok (.getfield 7, 3) := by decide +kernel
theorem dX10_init_160 : decode cX10_init 160 = .ok (.bipush 34, 2) := by decide +kernel
theorem dX10_init_162 : decode cX10_init 162 = .ok (.iload_n 1, 1) := by decide +kernel
theorem dX10_init_163 : decode cX10_init 163 = .ok (.iadd, 1) := by decide +kernel
theorem dX10_init_164 : decode cX10_init 164 = .ok (.sipush 600, 3) := by decide +kernel
theorem dX10_init_167 : decode cX10_init 167 = .ok (.iastore, 1) := by decide +kernel
theorem dX10_init_168 : decode cX10_init 168 = .ok (.iinc 1 1, 3) := by decide +kernel
theorem dX10_init_171 : decode cX10_init 171 = .ok (.goto (-20), 3) := by decide +kernel
theorem dX10_init_174 : decode cX10_init 174 = .ok (.aload_n 0, 1) := by decide +kernel
theorem dX10_init_175 : decode cX10_init 175 = .ok (.getfield 7, 3) := by decide +kernel
theorem dX10_init_178 : decode cX10_init 178 = .ok (.bipush 38, 2) := by decide +kernel
theorem dX10_init_180 : decode cX10_init 180 = .ok (.bipush 60, 2) := by decide +kernel
theorem dX10_init_182 : decode cX10_init 182 = .ok (.iastore, 1) := by decide +kernel
theorem dX10_init_183 : decode cX10_init 183 = .ok (.return_, 1) := by decide +kernel
theorem dX10_in_0 : decode cX10_in 0 = .ok (.iload_n 0, 1) := by decide +kernel
theorem dX10_in_1 : decode cX10_in 1 = .ok (.iload_n 1, 1) := by decide +kernel
theorem dX10_in_2 : decode cX10_in 2 = .ok (.if_icmp .lt 12, 3) := by decide +kernel
theorem dX10_in_5 : decode cX10_in 5 = .ok (.iload_n 0, 1) := by decide +kernel
theorem dX10_in_6 : decode cX10_in 6 = .ok (.iload_n 2, 1) := by decide +kernel
theorem dX10_in_7 : decode cX10_in 7 = .ok (.if_icmp .gt 7, 3) := by decide +kernel
theorem dX10_in_10 : decode cX10_in 10 = .ok (.iconst 1, 1) := by decide +kernel
theorem dX10_in_11 : decode cX10_in 11 = .ok (.goto 4, 3) := by decide +kernel
theorem dX10_in_14 : decode cX10_in 14 = .ok (.iconst 0, 1) := by decide +kernel
theorem dX10_in_15 : decode cX10_in 15 = .ok (.ireturn, 1) := by decide +kernel
theorem dX10_clamp_0 : decode cX10_clamp 0 = .ok (.iload_n 0, 1) := by decide +kernel
theorem dX10_clamp_1 : decode cX10_clamp 1 = .ok (.iconst 1, 1) := by decide +kernel
theorem dX10_clamp_2 : decode cX10_clamp 2 = .ok (.if_icmp .ge 7, 3) := by decide +kernel
theorem dX10_clamp_5 : decode cX10_clamp 5 = .ok (.iconst 1, 1) := by decide +kernel
theorem dX10_clamp_6 : decode cX10_clamp 6 = .ok (.goto 17, 3) := by decide +kernel
theorem dX10_clamp_9 : decode cX10_clamp 9 = .ok (.iload_n 0, 1) := by decide +kernel
theorem dX10_clamp_10 : decode cX10_clamp 10 = .ok (.sipush 200, 3) := by decide +kernel
theorem dX10_clamp_13 : decode cX10_clamp 13 = .ok (.if_icmp .le 9, 3) := by decide +kernel
theorem dX10_clamp_16 : decode cX10_clamp 16 = .ok (.sipush 200, 3) := by decide +kernel
theorem dX10_clamp_19 : decode cX10_clamp 19 = .ok (.goto 4, 3) := by decide +kernel
theorem dX10_clamp_22 : decode cX10_clamp 22 = .ok (.iload_n 0, 1) := by decide +kernel
theorem dX10_clamp_23 : decode cX10_clamp 23 = .ok (.ireturn, 1) := by decide +kernel
theorem dX10_isOne_0 : decode cX10_isOne 0 = .ok (.iload_n 0, 1) := by decide +kernel
theorem dX10_isOne_1 : decode cX10_isOne 1 = .ok (.iconst 0, 1) := by decide +kernel
theorem dX10_isOne_2 : decode cX10_isOne 2 = .ok (.iconst 5, 1) := by decide +kernel
theorem dX10_isOne_3 : decode cX10_isOne 3 = .ok (.invokestatic 57, 3) := by decide +kernel
theorem dX10_isOne_6 : decode cX10_isOne 6 = .ok (.ireturn, 1) := by decide +kernel
theorem dX10_isStick_0 : decode cX10_isStick 0 = .ok (.iload_n 0, 1) := by decide +kernel
theorem dX10_isStick_1 : decode cX10_isStick 1 = .ok (.iconst 0, 1) := by decide +kernel
theorem dX10_isStick_2 : decode cX10_isStick 2 = .ok (.bipush 7, 2) := by decide +kernel
theorem dX10_isStick_4 : decode cX10_isStick 4 = .ok (.invokestatic 57, 3) := by decide +kernel
theorem dX10_isStick_7 : decode cX10_isStick 7 = .ok (.ireturn, 1) := by decide +kernel
theorem dX10_isBridge_0 : decode cX10_isBridge 0 = .ok (.iload_n 0, 1) := by decide +kernel
theorem dX10_isBridge_1 : decode cX10_isBridge 1 = .ok (.iconst 0, 1) := by decide +kernel
theorem dX10_isBridge_2 : decode cX10_isBridge 2 = .ok (.iconst 3, 1) := by decide +kernel
theorem dX10_isBridge_3 : decode cX10_isBridge 3 = .ok (.invokestatic 57, 3) := by decide +kernel
theorem dX10_isBridge_6 : decode cX10_isBridge 6 = .ok (.ireturn, 1) := by decide +kernel
theorem dX10_inch_0 : decode cX10_inch 0 = .ok (.iload_n 1, 1) := by decide +kernel
theorem dX10_inch_1 : decode cX10_inch 1 = .ok (.iconst 1, 1) := by decide +kernel
theorem dX10_inch_2 : decode cX10_inch 2 = .ok (.sipush 200, 3) := by decide +kernel
theorem dX10_inch_5 : decode cX10_inch 5 = .ok (.invokestatic 57, 3) := by decide +kernel
theorem dX10_inch_8 : decode cX10_inch 8 = .ok (.ifCond .ne 6, 3) := by decide +kernel
theorem dX10_inch_11 : decode cX10_inch 11 = .ok (.bipush (-2), 2) := by decide +kernel
theorem dX10_inch_13 : decode cX10_inch 13 = .ok (.ireturn, 1) := by decide +kernel
theorem dX10_inch_14 : decode cX10_inch 14 = .ok (.aload_n 0, 1) := by decide +kernel
theorem dX10_inch_15 : decode cX10_inch 15 = .ok (.getfield 7, 3) := by decide +kernel
theorem dX10_inch_18 : decode cX10_inch 18 = .ok (.bipush 38, 2) := by decide +kernel
theorem dX10_inch_20 : decode cX10_inch 20 = .ok (.iaload, 1) := by decide +kernel
theorem dX10_inch_21 : decode cX10_inch 21 = .ok (.istore_n 2, 1) := by decide +kernel
theorem dX10_inch_22 : decode cX10_inch 22 = .ok (.aload_n 0, 1) := by decide +kernel
theorem dX10_inch_23 : decode cX10_inch 23 = .ok (.getfield 7, 3) := by decide +kernel
theorem dX10_inch_26 : decode cX10_inch 26 = .ok (.bipush 38, 2) := by decide +kernel
theorem dX10_inch_28 : decode cX10_inch 28 = .ok (.iload_n 1, 1) := by decide +kernel
theorem dX10_inch_29 : decode cX10_inch 29 = .ok (.iastore, 1) := by decide +kernel
theorem dX10_inch_30 : decode cX10_inch 30 = .ok (.iload_n 2, 1) := by decide +kernel
theorem dX10_inch_31 : decode cX10_inch 31 = .ok (.ireturn, 1) := by decide +kernel
theorem dX10_week_0 : decode cX10_week 0 = .ok (.iload_n 1, 1) := by decide +kernel
theorem dX10_week_1 : decode cX10_week 1 = .ok (.iconst 0, 1) := by decide +kernel
theorem dX10_week_2 : decode cX10_week 2 = .ok (.bipush 6, 2) := by decide +kernel
theorem dX10_week_4 : decode cX10_week 4 = .ok (.invokestatic 57, 3) := by decide +kernel
theorem dX10_week_7 : decode cX10_week 7 = .ok (.ifCond .eq 14, 3) := by decide +kernel
theorem dX10_week_10 : decode cX10_week 10 = .ok (.iload_n 2, 1) := by decide +kernel
theorem dX10_week_11 : decode cX10_week 11 = .ok (.bipush (-9), 2) := by decide +kernel
theorem dX10_week_13 : decode cX10_week 13 = .ok (.bipush 9, 2) := by decide +kernel
theorem dX10_week_15 : decode cX10_week 15 = .ok (.invokestatic 57, 3) := by decide +kernel
theorem dX10_week_18 : decode cX10_week 18 = .ok (.ifCond .ne 6, 3) := by decide +kernel
theorem dX10_week_21 : decode cX10_week 21 = .ok (.bipush (-2), 2) := by decide +kernel
theorem dX10_week_23 : decode cX10_week 23 = .ok (.ireturn, 1) := by decide +kernel
theorem dX10_week_24 : decode cX10_week 24 = .ok (.aload_n 0, 1) := by decide +kernel
theorem dX10_week_25 : decode cX10_week 25 = .ok (.getfield 16, 3) := by decide +kernel
theorem dX10_week_28 : decode cX10_week 28 = .ok (.iload_n 1, 1) := by decide +kernel
theorem dX10_week_29 : decode cX10_week 29 = .ok (.iaload, 1) := by decide +kernel
theorem dX10_week_30 : decode cX10_week 30 = .ok (.istore_n 3, 1) := by decide +kernel
theorem dX10_week_31 : decode cX10_week 31 = .ok (.aload_n 0, 1) := by decide +kernel
theorem dX10_week_32 : decode cX10_week 32 = .ok (.getfield 16, 3) := by decide +kernel
theorem dX10_week_35 : decode cX10_week 35 = .ok (.iload_n 1, 1) := by decide +kernel
theorem dX10_week_36 : decode cX10_week 36 = .ok (.iload_n 2, 1) := by decide +kernel
theorem dX10_week_37 : decode cX10_week 37 = .ok (.iastore, 1) := by decide +kernel
theorem dX10_week_38 : decode cX10_week 38 = .ok (.iload_n 3, 1) := by decide +kernel
theorem dX10_week_39 : decode cX10_week 39 = .ok (.bipush 9, 2) := by decide +kernel
theorem dX10_week_41 : decode cX10_week 41 = .ok (.iadd, 1) := by decide +kernel
theorem dX10_week_42 : decode cX10_week 42 = .ok (.ireturn, 1) := by decide +kernel
theorem dX10_one_0 : decode cX10_one 0 = .ok (.iload_n 1, 1) := by decide +kernel
theorem dX10_one_1 : decode cX10_one 1 = .ok (.invokestatic 61, 3) := by decide +kernel
theorem dX10_one_4 : decode cX10_one 4 = .ok (.ifCond .ne 5, 3) := by decide +kernel
theorem dX10_one_7 : decode cX10_one 7 = .ok (.iconst (-1), 1) := by decide +kernel
theorem dX10_one_8 : decode cX10_one 8 = .ok (.ireturn, 1) := by decide +kernel
theorem dX10_one_9 : decode cX10_one 9 = .ok (.iload_n 2, 1) := by decide +kernel
theorem dX10_one_10 : decode cX10_one 10 = .ok (.iconst 0, 1) := by decide +kernel
theorem dX10_one_11 : decode cX10_one 11 = .ok (.sipush 9999, 3) := by decide +kernel
theorem dX10_one_14 : decode cX10_one 14 = .ok (.invokestatic 57, 3) := by decide +kernel
theorem dX10_one_17 : decode cX10_one 17 = .ok (.ifCond .eq 25, 3) := by decide +kernel
theorem dX10_one_20 : decode cX10_one 20 = .ok (.iload_n 3, 1) := by decide +kernel
theorem dX10_one_21 : decode cX10_one 21 = .ok (.iconst 0, 1) := by decide +kernel
theorem dX10_one_22 : decode cX10_one 22 = .ok (.ldc 65, 2) := by decide +kernel
theorem dX10_one_24 : decode cX10_one 24 = .ok (.invokestatic 57, 3) := by decide +kernel
theorem dX10_one_27 : decode cX10_one 27 = .ok (.ifCond .eq 15, 3) := by decide +kernel
theorem dX10_one_30 : decode cX10_one 30 = .ok (.iload 4, 2) := by decide +kernel
theorem dX10_one_32 : decode cX10_one 32 = .ok (.iconst 0, 1) := by decide +kernel
theorem dX10_one_33 : decode cX10_one 33 = .ok (.sipush 200, 3) := by decide +kernel
theorem dX10_one_36 : decode cX10_one 36 = .ok (.invokestatic 57, 3) := by decide +kernel
theorem dX10_one_39 : decode cX10_one 39 = .ok (.ifCond .ne 6, 3) := by decide +kernel
theorem dX10_one_42 : decode cX10_one 42 = .ok (.bipush (-2), 2) := by decide +kernel
theorem dX10_one_44 : decode cX10_one 44 = .ok (.ireturn, 1) := by decide +kernel
theorem dX10_one_45 : decode cX10_one 45 = .ok (.aload_n 0, 1) := by decide +kernel
theorem dX10_one_46 : decode cX10_one 46 = .ok (.getfield 7, 3) := by decide +kernel
theorem dX10_one_49 : decode cX10_one 49 = .ok (.iload_n 1, 1) := by decide +kernel
theorem dX10_one_50 : decode cX10_one 50 = .ok (.iaload, 1) := by decide +kernel
theorem dX10_one_51 : decode cX10_one 51 = .ok (.istore 5, 2) := by decide +kernel
theorem dX10_one_53 : decode cX10_one 53 = .ok (.aload_n 0, 1) := by decide +kernel
theorem dX10_one_54 : decode cX10_one 54 = .ok (.getfield 7, 3) := by decide +kernel
theorem dX10_one_57 : decode cX10_one 57 = .ok (.iload_n 1, 1) := by decide +kernel
theorem dX10_one_58 : decode cX10_one 58 = .ok (.iload_n 2, 1) := by decide +kernel
theorem dX10_one_59 : decode cX10_one 59 = .ok (.iastore, 1) := by decide +kernel
theorem dX10_one_60 : decode cX10_one 60 = .ok (.aload_n 0, 1) := by decide +kernel
theorem dX10_one_61 : decode cX10_one 61 = .ok (.getfield 7, 3) := by decide +kernel
theorem dX10_one_64 : decode cX10_one 64 = .ok (.bipush 6, 2) := by decide +kernel
theorem dX10_one_66 : decode cX10_one 66 = .ok (.iload_n 1, 1) := by decide +kernel
theorem dX10_one_67 : decode cX10_one 67 = .ok (.iadd, 1) := by decide +kernel
theorem dX10_one_68 : decode cX10_one 68 = .ok (.iload_n 3, 1) := by decide +kernel
theorem dX10_one_69 : decode cX10_one 69 = .ok (.iastore, 1) := by decide +kernel
theorem dX10_one_70 : decode cX10_one 70 = .ok (.aload_n 0, 1) := by decide +kernel
theorem dX10_one_71 : decode cX10_one 71 = .ok (.getfield 7, 3) := by decide +kernel
theorem dX10_one_74 : decode cX10_one 74 = .ok (.bipush 12, 2) := by decide +kernel
theorem dX10_one_76 : decode cX10_one 76 = .ok (.iload_n 1, 1) := by decide +kernel
theorem dX10_one_77 : decode cX10_one 77 = .ok (.iadd, 1) := by decide +kernel
theorem dX10_one_78 : decode cX10_one 78 = .ok (.iload 4, 2) := by decide +kernel
theorem dX10_one_80 : decode cX10_one 80 = .ok (.iastore, 1) := by decide +kernel
theorem dX10_one_81 : decode cX10_one 81 = .ok (.iload 5, 2) := by decide +kernel
theorem dX10_one_83 : decode cX10_one 83 = .ok (.ireturn, 1) := by decide +kernel
theorem dX10_stick_0 : decode cX10_stick 0 = .ok (.iload_n 1, 1) := by decide +kernel
theorem dX10_stick_1 : decode cX10_stick 1 = .ok (.invokestatic 66, 3) := by decide +kernel
theorem dX10_stick_4 : decode cX10_stick 4 = .ok (.ifCond .ne 5, 3) := by decide +kernel
theorem dX10_stick_7 : decode cX10_stick 7 = .ok (.iconst (-1), 1) := by decide +kernel
theorem dX10_stick_8 : decode cX10_stick 8 = .ok (.ireturn, 1) := by decide +kernel
theorem dX10_stick_9 : decode cX10_stick 9 = .ok (.iload_n 2, 1) := by decide +kernel
theorem dX10_stick_10 : decode cX10_stick 10 = .ok (.iconst 0, 1) := by decide +kernel
theorem dX10_stick_11 : decode cX10_stick 11 = .ok (.sipush 1800, 3) := by decide +kernel
theorem dX10_stick_14 : decode cX10_stick 14 = .ok (.invokestatic 57, 3) := by decide +kernel
theorem dX10_stick_17 : decode cX10_stick 17 = .ok (.ifCond .ne 6, 3) := by decide +kernel
theorem dX10_stick_20 : decode cX10_stick 20 = .ok (.bipush (-2), 2) := by decide +kernel
theorem dX10_stick_22 : decode cX10_stick 22 = .ok (.ireturn, 1) := by decide +kernel
theorem dX10_stick_23 : decode cX10_stick 23 = .ok (.aload_n 0, 1) := by decide +kernel
theorem dX10_stick_24 : decode cX10_stick 24 = .ok (.getfield 7, 3) := by decide +kernel
theorem dX10_stick_27 : decode cX10_stick 27 = .ok (.bipush 18, 2) := by decide +kernel
theorem dX10_stick_29 : decode cX10_stick 29 = .ok (.iload_n 1, 1) := by decide +kernel
theorem dX10_stick_30 : decode cX10_stick 30 = .ok (.iadd, 1) := by decide +kernel
theorem dX10_stick_31 : decode cX10_stick 31 = .ok (.iaload, 1) := by decide +kernel
theorem dX10_stick_32 : decode cX10_stick 32 = .ok (.istore_n 3, 1) := by decide +kernel
theorem dX10_stick_33 : decode cX10_stick 33 = .ok (.aload_n 0, 1) := by decide +kernel
theorem dX10_stick_34 : decode cX10_stick 34 = .ok (.getfield 7, 3) := by decide +kernel
theorem dX10_stick_37 : decode cX10_stick 37 = .ok (.bipush 18, 2) := by decide +kernel
theorem dX10_stick_39 : decode cX10_stick 39 = .ok (.iload_n 1, 1) := by decide +kernel
theorem dX10_stick_40 : decode cX10_stick 40 = .ok (.iadd, 1) := by decide +kernel
theorem dX10_stick_41 : decode cX10_stick 41 = .ok (.iload_n 2, 1) := by decide +kernel
theorem dX10_stick_42 : decode cX10_stick 42 = .ok (.iastore, 1) := by decide +kernel
theorem dX10_stick_43 : decode cX10_stick 43 = .ok (.iload_n 3, 1) := by decide +kernel
theorem dX10_stick_44 : decode cX10_stick 44 = .ok (.ireturn, 1) := by decide +kernel
theorem dX10_bridge_0 : decode cX10_bridge 0 = .ok (.iload_n 1, 1) := by decide +kernel
theorem dX10_bridge_1 : decode cX10_bridge 1 = .ok (.invokestatic 69, 3) := by decide +kernel
theorem dX10_bridge_4 : decode cX10_bridge 4 = .ok (.ifCond .ne 5, 3) := by decide +kernel
theorem dX10_bridge_7 : decode cX10_bridge 7 = .ok (.iconst (-1), 1) := by decide +kernel
theorem dX10_bridge_8 : decode cX10_bridge 8 = .ok (.ireturn, 1) := by decide +kernel
theorem dX10_bridge_9 : decode cX10_bridge 9 = .ok (.iload_n 2, 1) := by decide +kernel
theorem dX10_bridge_10 : decode cX10_bridge 10 = .ok (.iconst 1, 1) := by decide +kernel
theorem dX10_bridge_11 : decode cX10_bridge 11 = .ok (.ldc 65, 2) := by decide +kernel
theorem dX10_bridge_13 : decode cX10_bridge 13 = .ok (.invokestatic 57, 3) := by decide +kernel
theorem dX10_bridge_16 : decode cX10_bridge 16 = .ok (.ifCond .ne 6, 3) := by decide +kernel
theorem dX10_bridge_19 : decode cX10_bridge 19 = .ok (.bipush (-2), 2) := by decide +kernel
theorem dX10_bridge_21 : decode cX10_bridge 21 = .ok (.ireturn, 1) := by decide +kernel
theorem dX10_bridge_22 : decode cX10_bridge 22 = .ok (.aload_n 0, 1) := by decide +kernel
theorem dX10_bridge_23 : decode cX10_bridge 23 = .ok (.getfield 7, 3) := by decide +kernel
theorem dX10_bridge_26 : decode cX10_bridge 26 = .ok (.bipush 34, 2) := by decide +kernel
theorem dX10_bridge_28 : decode cX10_bridge 28 = .ok (.iload_n 1, 1) := by decide +kernel
theorem dX10_bridge_29 : decode cX10_bridge 29 = .ok (.iadd, 1) := by decide +kernel
theorem dX10_bridge_30 : decode cX10_bridge 30 = .ok (.iaload, 1) := by decide +kernel
theorem dX10_bridge_31 : decode cX10_bridge 31 = .ok (.istore_n 3, 1) := by decide +kernel
theorem dX10_bridge_32 : decode cX10_bridge 32 = .ok (.aload_n 0, 1) := by decide +kernel
theorem dX10_bridge_33 : decode cX10_bridge 33 = .ok (.getfield 7, 3) := by decide +kernel
theorem dX10_bridge_36 : decode cX10_bridge 36 = .ok (.bipush 34, 2) := by decide +kernel
theorem dX10_bridge_38 : decode cX10_bridge 38 = .ok (.iload_n 1, 1) := by decide +kernel
theorem dX10_bridge_39 : decode cX10_bridge 39 = .ok (.iadd, 1) := by decide +kernel
theorem dX10_bridge_40 : decode cX10_bridge 40 = .ok (.iload_n 2, 1) := by decide +kernel
theorem dX10_bridge_41 : decode cX10_bridge 41 = .ok (.iastore, 1) := by decide +kernel
theorem dX10_bridge_42 : decode cX10_bridge 42 = .ok (.aload_n 0, 1) := by decide +kernel
theorem dX10_bridge_43 : decode cX10_bridge 43 = .ok (.getfield 7, 3) := by decide +kernel
theorem dX10_bridge_46 : decode cX10_bridge 46 = .ok (.bipush 26, 2) := by decide +kernel
theorem dX10_bridge_48 : decode cX10_bridge 48 = .ok (.iload_n 1, 1) := by decide +kernel
theorem dX10_bridge_49 : decode cX10_bridge 49 = .ok (.iadd, 1) := by decide +kernel
theorem dX10_bridge_50 : decode cX10_bridge 50 = .ok (.iconst 0, 1) := by decide +kernel
theorem dX10_bridge_51 : decode cX10_bridge 51 = .ok (.iastore, 1) := by decide +kernel
theorem dX10_bridge_52 : decode cX10_bridge 52 = .ok (.aload_n 0, 1) := by decide +kernel
theorem dX10_bridge_53 : decode cX10_bridge 53 = .ok (.getfield 7, 3) := by decide +kernel
theorem dX10_bridge_56 : decode cX10_bridge 56 = .ok (.bipush 30, 2) := by decide +kernel
theorem dX10_bridge_58 : decode cX10_bridge 58 = .ok (.iload_n 1, 1) := by decide +kernel
theorem dX10_bridge_59 : decode cX10_bridge 59 = .ok (.iadd, 1) := by decide +kernel
theorem dX10_bridge_60 : decode cX10_bridge 60 = .ok (.iconst 0, 1) := by decide +kernel
theorem dX10_bridge_61 : decode cX10_bridge 61 = .ok (.iastore, 1) := by decide +kernel
theorem dX10_bridge_62 : decode cX10_bridge 62 = .ok (.iload_n 3, 1) := by decide +kernel
theorem dX10_bridge_63 : decode cX10_bridge 63 = .ok (.ireturn, 1) := by decide +kernel
theorem dX10_say_0 : decode cX10_say 0 = .ok (.iload_n 1, 1) := by decide +kernel
theorem dX10_say_1 : decode cX10_say 1 = .ok (.bipush 33, 2) := by decide +kernel
theorem dX10_say_3 : decode cX10_say 3 = .ok (.bipush 126, 2) := by decide +kernel
theorem dX10_say_5 : decode cX10_say 5 = .ok (.invokestatic 57, 3) := by decide +kernel
theorem dX10_say_8 : decode cX10_say 8 = .ok (.ifCond .ne 6, 3) := by decide +kernel
theorem dX10_say_11 : decode cX10_say 11 = .ok (.bipush (-2), 2) := by decide +kernel
theorem dX10_say_13 : decode cX10_say 13 = .ok (.ireturn, 1) := by decide +kernel
theorem dX10_say_14 : decode cX10_say 14 = .ok (.aload_n 0, 1) := by decide +kernel
theorem dX10_say_15 : decode cX10_say 15 = .ok (.getfield 72, 3) := by decide +kernel
theorem dX10_say_18 : decode cX10_say 18 = .ok (.bipush 60, 2) := by decide +kernel
theorem dX10_say_20 : decode cX10_say 20 = .ok (.if_icmp .ne 6, 3) := by decide +kernel
theorem dX10_say_23 : decode cX10_say 23 = .ok (.bipush (-4), 2) := by decide +kernel
theorem dX10_say_25 : decode cX10_say 25 = .ok (.ireturn, 1) := by decide +kernel
theorem dX10_say_26 : decode cX10_say 26 = .ok (.aload_n 0, 1) := by decide +kernel
theorem dX10_say_27 : decode cX10_say 27 = .ok (.getfield 22, 3) := by decide +kernel
theorem dX10_say_30 : decode cX10_say 30 = .ok (.aload_n 0, 1) := by decide +kernel
theorem dX10_say_31 : decode cX10_say 31 = .ok (.getfield 72, 3) := by decide +kernel
theorem dX10_say_34 : decode cX10_say 34 = .ok (.iload_n 1, 1) := by decide +kernel
theorem dX10_say_35 : decode cX10_say 35 = .ok (.iastore, 1) := by decide +kernel
theorem dX10_say_36 : decode cX10_say 36 = .ok (.aload_n 0, 1) := by decide +kernel
theorem dX10_say_37 : decode cX10_say 37 = .ok (.dup, 1) := by decide +kernel
theorem dX10_say_38 : decode cX10_say 38 = .ok (.getfield 72, 3) := by decide +kernel
theorem dX10_say_41 : decode cX10_say 41 = .ok (.iconst 1, 1) := by decide +kernel
theorem dX10_say_42 : decode cX10_say 42 = .ok (.iadd, 1) := by decide +kernel
theorem dX10_say_43 : decode cX10_say 43 = .ok (.putfield 72, 3) := by decide +kernel
theorem dX10_say_46 : decode cX10_say 46 = .ok (.aload_n 0, 1) := by decide +kernel
theorem dX10_say_47 : decode cX10_say 47 = .ok (.getfield 72, 3) := by decide +kernel
theorem dX10_say_50 : decode cX10_say 50 = .ok (.ireturn, 1) := by decide +kernel
theorem dX10_wipe_0 : decode cX10_wipe 0 = .ok (.aload_n 0, 1) := by decide +kernel
theorem dX10_wipe_1 : decode cX10_wipe 1 = .ok (.getfield 72, 3) := by decide +kernel
theorem dX10_wipe_4 : decode cX10_wipe 4 = .ok (.istore_n 1, 1) := by decide +kernel
theorem dX10_wipe_5 : decode cX10_wipe 5 = .ok (.aload_n 0, 1) := by decide +kernel
theorem dX10_wipe_6 : decode cX10_wipe 6 = .ok (.iconst 0, 1) := by decide +kernel
theorem dX10_wipe_7 : decode cX10_wipe 7 = .ok (.putfield 72, 3) := by decide +kernel
theorem dX10_wipe_10 : decode cX10_wipe 10 = .ok (.iload_n 1, 1) := by decide +kernel
theorem dX10_wipe_11 : decode cX10_wipe 11 = .ok (.ireturn, 1) := by decide +kernel
theorem dX10_step_0 : decode cX10_step 0 = .ok (.iload_n 0, 1) := by decide +kernel
theorem dX10_step_1 : decode cX10_step 1 = .ok (.tableswitch 172 0 3 #[31, 75, 136, 154], 31) := by decide +kernel
theorem dX10_step_32 : decode cX10_step 32 = .ok (.iload_n 1, 1) := by decide +kernel
theorem dX10_step_33 : decode cX10_step 33 = .ok (.bipush 65, 2) := by decide +kernel
theorem dX10_step_35 : decode cX10_step 35 = .ok (.bipush 70, 2) := by decide +kernel
theorem dX10_step_37 : decode cX10_step 37 = .ok (.invokestatic 57, 3) := by decide +kernel
theorem dX10_step_40 : decode cX10_step 40 = .ok (.ifCond .eq 7, 3) := by decide +kernel
theorem dX10_step_43 : decode cX10_step 43 = .ok (.iconst 1, 1) := by decide +kernel
theorem dX10_step_44 : decode cX10_step 44 = .ok (.goto 31, 3) := by decide +kernel
theorem dX10_step_47 : decode cX10_step 47 = .ok (.iload_n 1, 1) := by decide +kernel
theorem dX10_step_48 : decode cX10_step 48 = .ok (.bipush 60, 2) := by decide +kernel
theorem dX10_step_50 : decode cX10_step 50 = .ok (.if_icmp .eq 9, 3) := by decide +kernel
theorem dX10_step_53 : decode cX10_step 53 = .ok (.iload_n 1, 1) := by decide +kernel
theorem dX10_step_54 : decode cX10_step 54 = .ok (.bipush 62, 2) := by decide +kernel
theorem dX10_step_56 : decode cX10_step 56 = .ok (.if_icmp .ne 7, 3) := by decide +kernel
theorem dX10_step_59 : decode cX10_step 59 = .ok (.iconst 2, 1) := by decide +kernel
theorem dX10_step_60 : decode cX10_step 60 = .ok (.goto 15, 3) := by decide +kernel
theorem dX10_step_63 : decode cX10_step 63 = .ok (.iload_n 1, 1) := by decide +kernel
theorem dX10_step_64 : decode cX10_step 64 = .ok (.bipush 46, 2) := by decide +kernel
theorem dX10_step_66 : decode cX10_step 66 = .ok (.if_icmp .ne 7, 3) := by decide +kernel
theorem dX10_step_69 : decode cX10_step 69 = .ok (.iconst 0, 1) := by decide +kernel
theorem dX10_step_70 : decode cX10_step 70 = .ok (.goto 5, 3) := by decide +kernel
theorem dX10_step_73 : decode cX10_step 73 = .ok (.bipush (-6), 2) := by decide +kernel
theorem dX10_step_75 : decode cX10_step 75 = .ok (.ireturn, 1) := by decide +kernel
theorem dX10_step_76 : decode cX10_step 76 = .ok (.iload_n 1, 1) := by decide +kernel
theorem dX10_step_77 : decode cX10_step 77 = .ok (.bipush 43, 2) := by decide +kernel
theorem dX10_step_79 : decode cX10_step 79 = .ok (.if_icmp .eq 9, 3) := by decide +kernel
theorem dX10_step_82 : decode cX10_step 82 = .ok (.iload_n 1, 1) := by decide +kernel
theorem dX10_step_83 : decode cX10_step 83 = .ok (.bipush 45, 2) := by decide +kernel
theorem dX10_step_85 : decode cX10_step 85 = .ok (.if_icmp .ne 7, 3) := by decide +kernel
theorem dX10_step_88 : decode cX10_step 88 = .ok (.iconst 2, 1) := by decide +kernel
theorem dX10_step_89 : decode cX10_step 89 = .ok (.goto 47, 3) := by decide +kernel
theorem dX10_step_92 : decode cX10_step 92 = .ok (.iload_n 1, 1) := by decide +kernel
theorem dX10_step_93 : decode cX10_step 93 = .ok (.bipush 47, 2) := by decide +kernel
theorem dX10_step_95 : decode cX10_step 95 = .ok (.if_icmp .ne 7, 3) := by decide +kernel
theorem dX10_step_98 : decode cX10_step 98 = .ok (.iconst 3, 1) := by decide +kernel
theorem dX10_step_99 : decode cX10_step 99 = .ok (.goto 37, 3) := by decide +kernel
theorem dX10_step_102 : decode cX10_step 102 = .ok (.iload_n 1, 1) := by decide +kernel
theorem dX10_step_103 : decode cX10_step 103 = .ok (.bipush 40, 2) := by decide +kernel
theorem dX10_step_105 : decode cX10_step 105 = .ok (.if_icmp .eq 9, 3) := by decide +kernel
theorem dX10_step_108 : decode cX10_step 108 = .ok (.iload_n 1, 1) := by decide +kernel
theorem dX10_step_109 : decode cX10_step 109 = .ok (.bipush 41, 2) := by decide +kernel
theorem dX10_step_111 : decode cX10_step 111 = .ok (.if_icmp .ne 7, 3) := by decide +kernel
theorem dX10_step_114 : decode cX10_step 114 = .ok (.iconst 4, 1) := by decide +kernel
theorem dX10_step_115 : decode cX10_step 115 = .ok (.goto 21, 3) := by decide +kernel
theorem dX10_step_118 : decode cX10_step 118 = .ok (.iload_n 1, 1) := by decide +kernel
theorem dX10_step_119 : decode cX10_step 119 = .ok (.bipush 61, 2) := by decide +kernel
theorem dX10_step_121 : decode cX10_step 121 = .ok (.if_icmp .eq 9, 3) := by decide +kernel
theorem dX10_step_124 : decode cX10_step 124 = .ok (.iload_n 1, 1) := by decide +kernel
theorem dX10_step_125 : decode cX10_step 125 = .ok (.bipush 120, 2) := by decide +kernel
theorem dX10_step_127 : decode cX10_step 127 = .ok (.if_icmp .ne 7, 3) := by decide +kernel
theorem dX10_step_130 : decode cX10_step 130 = .ok (.iconst 0, 1) := by decide +kernel
theorem dX10_step_131 : decode cX10_step 131 = .ok (.goto 5, 3) := by decide +kernel
theorem dX10_step_134 : decode cX10_step 134 = .ok (.bipush (-6), 2) := by decide +kernel
theorem dX10_step_136 : decode cX10_step 136 = .ok (.ireturn, 1) := by decide +kernel
theorem dX10_step_137 : decode cX10_step 137 = .ok (.iload_n 1, 1) := by decide +kernel
theorem dX10_step_138 : decode cX10_step 138 = .ok (.bipush 49, 2) := by decide +kernel
theorem dX10_step_140 : decode cX10_step 140 = .ok (.bipush 57, 2) := by decide +kernel
theorem dX10_step_142 : decode cX10_step 142 = .ok (.invokestatic 57, 3) := by decide +kernel
theorem dX10_step_145 : decode cX10_step 145 = .ok (.ifCond .eq 7, 3) := by decide +kernel
theorem dX10_step_148 : decode cX10_step 148 = .ok (.iconst 0, 1) := by decide +kernel
theorem dX10_step_149 : decode cX10_step 149 = .ok (.goto 5, 3) := by decide +kernel
theorem dX10_step_152 : decode cX10_step 152 = .ok (.bipush (-6), 2) := by decide +kernel
theorem dX10_step_154 : decode cX10_step 154 = .ok (.ireturn, 1) := by decide +kernel
theorem dX10_step_155 : decode cX10_step 155 = .ok (.iload_n 1, 1) := by decide +kernel
theorem dX10_step_156 : decode cX10_step 156 = .ok (.bipush 48, 2) := by decide +kernel
theorem dX10_step_158 : decode cX10_step 158 = .ok (.bipush 55, 2) := by decide +kernel
theorem dX10_step_160 : decode cX10_step 160 = .ok (.invokestatic 57, 3) := by decide +kernel
theorem dX10_step_163 : decode cX10_step 163 = .ok (.ifCond .eq 7, 3) := by decide +kernel
theorem dX10_step_166 : decode cX10_step 166 = .ok (.iconst 2, 1) := by decide +kernel
theorem dX10_step_167 : decode cX10_step 167 = .ok (.goto 5, 3) := by decide +kernel
theorem dX10_step_170 : decode cX10_step 170 = .ok (.bipush (-6), 2) := by decide +kernel
theorem dX10_step_172 : decode cX10_step 172 = .ok (.ireturn, 1) := by decide +kernel
theorem dX10_step_173 : decode cX10_step 173 = .ok (.iload_n 1, 1) := by decide +kernel
theorem dX10_step_174 : decode cX10_step 174 = .ok (.bipush 48, 2) := by decide +kernel
theorem dX10_step_176 : decode cX10_step 176 = .ok (.bipush 51, 2) := by decide +kernel
theorem dX10_step_178 : decode cX10_step 178 = .ok (.invokestatic 57, 3) := by decide +kernel
theorem dX10_step_181 : decode cX10_step 181 = .ok (.ifCond .eq 7, 3) := by decide +kernel
theorem dX10_step_184 : decode cX10_step 184 = .ok (.iconst 2, 1) := by decide +kernel
theorem dX10_step_185 : decode cX10_step 185 = .ok (.goto 5, 3) := by decide +kernel
theorem dX10_step_188 : decode cX10_step 188 = .ok (.bipush (-6), 2) := by decide +kernel
theorem dX10_step_190 : decode cX10_step 190 = .ok (.ireturn, 1) := by decide +kernel
theorem dX10_faultOf_0 : decode cX10_faultOf 0 = .ok (.iconst 0, 1) := by decide +kernel
theorem dX10_faultOf_1 : decode cX10_faultOf 1 = .ok (.istore_n 1, 1) := by decide +kernel
theorem dX10_faultOf_2 : decode cX10_faultOf 2 = .ok (.iconst 0, 1) := by decide +kernel
theorem dX10_faultOf_3 : decode cX10_faultOf 3 = .ok (.istore_n 2, 1) := by decide +kernel
theorem dX10_faultOf_4 : decode cX10_faultOf 4 = .ok (.iload_n 2, 1) := by decide +kernel
theorem dX10_faultOf_5 : decode cX10_faultOf 5 = .ok (.aload_n 0, 1) := by decide +kernel
theorem dX10_faultOf_6 : decode cX10_faultOf 6 = .ok (.getfield 72, 3) := by decide +kernel
theorem dX10_faultOf_9 : decode cX10_faultOf 9 = .ok (.if_icmp .ge 26, 3) := by decide +kernel
theorem dX10_faultOf_12 : decode cX10_faultOf 12 = .ok (.iload_n 1, 1) := by decide +kernel
theorem dX10_faultOf_13 : decode cX10_faultOf 13 = .ok (.aload_n 0, 1) := by decide +kernel
theorem dX10_faultOf_14 : decode cX10_faultOf 14 = .ok (.getfield 22, 3) := by decide +kernel
theorem dX10_faultOf_17 : decode cX10_faultOf 17 = .ok (.iload_n 2, 1) := by decide +kernel
theorem dX10_faultOf_18 : decode cX10_faultOf 18 = .ok (.iaload, 1) := by decide +kernel
theorem dX10_faultOf_19 : decode cX10_faultOf 19 = .ok (.invokestatic 76, 3) := by decide +kernel
theorem dX10_faultOf_22 : decode cX10_faultOf 22 = .ok (.istore_n 1, 1) := by decide +kernel
theorem dX10_faultOf_23 : decode cX10_faultOf 23 = .ok (.iload_n 1, 1) := by decide +kernel
theorem dX10_faultOf_24 : decode cX10_faultOf 24 = .ok (.ifCond .ge 5, 3) := by decide +kernel
theorem dX10_faultOf_27 : decode cX10_faultOf 27 = .ok (.iload_n 2, 1) := by decide +kernel
theorem dX10_faultOf_28 : decode cX10_faultOf 28 = .ok (.ireturn, 1) := by decide +kernel
theorem dX10_faultOf_29 : decode cX10_faultOf 29 = .ok (.iinc 2 1, 3) := by decide +kernel
theorem dX10_faultOf_32 : decode cX10_faultOf 32 = .ok (.goto (-28), 3) := by decide +kernel
theorem dX10_faultOf_35 : decode cX10_faultOf 35 = .ok (.iload_n 1, 1) := by decide +kernel
theorem dX10_faultOf_36 : decode cX10_faultOf 36 = .ok (.ifCond .ne 8, 3) := by decide +kernel
theorem dX10_faultOf_39 : decode cX10_faultOf 39 = .ok (.bipush (-6), 2) := by decide +kernel
theorem dX10_faultOf_41 : decode cX10_faultOf 41 = .ok (.goto 7, 3) := by decide +kernel
theorem dX10_faultOf_44 : decode cX10_faultOf 44 = .ok (.aload_n 0, 1) := by decide +kernel
theorem dX10_faultOf_45 : decode cX10_faultOf 45 = .ok (.getfield 72, 3) := by decide +kernel
theorem dX10_faultOf_48 : decode cX10_faultOf 48 = .ok (.ireturn, 1) := by decide +kernel
theorem dX10_fault_0 : decode cX10_fault 0 = .ok (.aload_n 0, 1) := by decide +kernel
theorem dX10_fault_1 : decode cX10_fault 1 = .ok (.invokevirtual 80, 3) := by decide +kernel
theorem dX10_fault_4 : decode cX10_fault 4 = .ok (.ireturn, 1) := by decide +kernel
theorem dX10_asNow_0 : decode cX10_asNow 0 = .ok (.iconst 0, 1) := by decide +kernel
theorem dX10_asNow_1 : decode cX10_asNow 1 = .ok (.istore_n 1, 1) := by decide +kernel
theorem dX10_asNow_2 : decode cX10_asNow 2 = .ok (.iload_n 1, 1) := by decide +kernel
theorem dX10_asNow_3 : decode cX10_asNow 3 = .ok (.bipush 40, 2) := by decide +kernel
theorem dX10_asNow_5 : decode cX10_asNow 5 = .ok (.if_icmp .ge 21, 3) := by decide +kernel
theorem dX10_asNow_8 : decode cX10_asNow 8 = .ok (.aload_n 0, 1) := by decide +kernel
theorem dX10_asNow_9 : decode cX10_asNow 9 = .ok (.getfield 13, 3) := by decide +kernel
theorem dX10_asNow_12 : decode cX10_asNow 12 = .ok (.iload_n 1, 1) := by decide +kernel
theorem dX10_asNow_13 : decode cX10_asNow 13 = .ok (.aload_n 0, 1) := by decide +kernel
theorem dX10_asNow_14 : decode cX10_asNow 14 = .ok (.getfield 7, 3) := by decide +kernel
theorem dX10_asNow_17 : decode cX10_asNow 17 = .ok (.iload_n 1, 1) := by decide +kernel
theorem dX10_asNow_18 : decode cX10_asNow 18 = .ok (.iaload, 1) := by decide +kernel
theorem dX10_asNow_19 : decode cX10_asNow 19 = .ok (.iastore, 1) := by decide +kernel
theorem dX10_asNow_20 : decode cX10_asNow 20 = .ok (.iinc 1 1, 3) := by decide +kernel
theorem dX10_asNow_23 : decode cX10_asNow 23 = .ok (.goto (-21), 3) := by decide +kernel
theorem dX10_asNow_26 : decode cX10_asNow 26 = .ok (.aload_n 0, 1) := by decide +kernel
theorem dX10_asNow_27 : decode cX10_asNow 27 = .ok (.bipush (-6), 2) := by decide +kernel
theorem dX10_asNow_29 : decode cX10_asNow 29 = .ok (.putfield 84, 3) := by decide +kernel
theorem dX10_asNow_32 : decode cX10_asNow 32 = .ok (.aload_n 0, 1) := by decide +kernel
theorem dX10_asNow_33 : decode cX10_asNow 33 = .ok (.bipush (-6), 2) := by decide +kernel
theorem dX10_asNow_35 : decode cX10_asNow 35 = .ok (.putfield 87, 3) := by decide +kernel
theorem dX10_asNow_38 : decode cX10_asNow 38 = .ok (.return_, 1) := by decide +kernel
theorem dX10_measureOf_0 : decode cX10_measureOf 0 = .ok (.aload_n 0, 1) := by decide +kernel
theorem dX10_measureOf_1 : decode cX10_measureOf 1 = .ok (.getfield 13, 3) := by decide +kernel
theorem dX10_measureOf_4 : decode cX10_measureOf 4 = .ok (.bipush 12, 2) := by decide +kernel
theorem dX10_measureOf_6 : decode cX10_measureOf 6 = .ok (.iload_n 1, 1) := by decide +kernel
theorem dX10_measureOf_7 : decode cX10_measureOf 7 = .ok (.iadd, 1) := by decide +kernel
theorem dX10_measureOf_8 : decode cX10_measureOf 8 = .ok (.iaload, 1) := by decide +kernel
theorem dX10_measureOf_9 : decode cX10_measureOf 9 = .ok (.ifCond .ne 13, 3) := by decide +kernel
theorem dX10_measureOf_12 : decode cX10_measureOf 12 = .ok (.aload_n 0, 1) := by decide +kernel
theorem dX10_measureOf_13 : decode cX10_measureOf 13 = .ok (.getfield 13, 3) := by decide +kernel
theorem dX10_measureOf_16 : decode cX10_measureOf 16 = .ok (.bipush 38, 2) := by decide +kernel
theorem dX10_measureOf_18 : decode cX10_measureOf 18 = .ok (.iaload, 1) := by decide +kernel
theorem dX10_measureOf_19 : decode cX10_measureOf 19 = .ok (.goto 12, 3) := by decide +kernel
theorem dX10_measureOf_22 : decode cX10_measureOf 22 = .ok (.aload_n 0, 1) := by decide +kernel
theorem dX10_measureOf_23 : decode cX10_measureOf 23 = .ok (.getfield 13, 3) := by decide +kernel
theorem dX10_measureOf_26 : decode cX10_measureOf 26 = .ok (.bipush 12, 2) := by decide +kernel
theorem dX10_measureOf_28 : decode cX10_measureOf 28 = .ok (.iload_n 1, 1) := by decide +kernel
theorem dX10_measureOf_29 : decode cX10_measureOf 29 = .ok (.iadd, 1) := by decide +kernel
theorem dX10_measureOf_30 : decode cX10_measureOf 30 = .ok (.iaload, 1) := by decide +kernel
theorem dX10_measureOf_31 : decode cX10_measureOf 31 = .ok (.ireturn, 1) := by decide +kernel
theorem dX10_hasMet_0 : decode cX10_hasMet 0 = .ok (.aload_n 0, 1) := by decide +kernel
theorem dX10_hasMet_1 : decode cX10_hasMet 1 = .ok (.getfield 13, 3) := by decide +kernel
theorem dX10_hasMet_4 : decode cX10_hasMet 4 = .ok (.bipush 26, 2) := by decide +kernel
theorem dX10_hasMet_6 : decode cX10_hasMet 6 = .ok (.iload_n 1, 1) := by decide +kernel
theorem dX10_hasMet_7 : decode cX10_hasMet 7 = .ok (.iadd, 1) := by decide +kernel
theorem dX10_hasMet_8 : decode cX10_hasMet 8 = .ok (.iaload, 1) := by decide +kernel
theorem dX10_hasMet_9 : decode cX10_hasMet 9 = .ok (.aload_n 0, 1) := by decide +kernel
theorem dX10_hasMet_10 : decode cX10_hasMet 10 = .ok (.getfield 13, 3) := by decide +kernel
theorem dX10_hasMet_13 : decode cX10_hasMet 13 = .ok (.bipush 30, 2) := by decide +kernel
theorem dX10_hasMet_15 : decode cX10_hasMet 15 = .ok (.iload_n 1, 1) := by decide +kernel
theorem dX10_hasMet_16 : decode cX10_hasMet 16 = .ok (.iadd, 1) := by decide +kernel
theorem dX10_hasMet_17 : decode cX10_hasMet 17 = .ok (.iaload, 1) := by decide +kernel
theorem dX10_hasMet_18 : decode cX10_hasMet 18 = .ok (.iadd, 1) := by decide +kernel
theorem dX10_hasMet_19 : decode cX10_hasMet 19 = .ok (.aload_n 0, 1) := by decide +kernel
theorem dX10_hasMet_20 : decode cX10_hasMet 20 = .ok (.getfield 13, 3) := by decide +kernel
theorem dX10_hasMet_23 : decode cX10_hasMet 23 = .ok (.bipush 34, 2) := by decide +kernel
theorem dX10_hasMet_25 : decode cX10_hasMet 25 = .ok (.iload_n 1, 1) := by decide +kernel
theorem dX10_hasMet_26 : decode cX10_hasMet 26 = .ok (.iadd, 1) := by decide +kernel
theorem dX10_hasMet_27 : decode cX10_hasMet 27 = .ok (.iaload, 1) := by decide +kernel
theorem dX10_hasMet_28 : decode cX10_hasMet 28 = .ok (.if_icmp .lt 7, 3) := by decide +kernel
theorem dX10_hasMet_31 : decode cX10_hasMet 31 = .ok (.iconst 1, 1) := by decide +kernel
theorem dX10_hasMet_32 : decode cX10_hasMet 32 = .ok (.goto 4, 3) := by decide +kernel
theorem dX10_hasMet_35 : decode cX10_hasMet 35 = .ok (.iconst 0, 1) := by decide +kernel
theorem dX10_hasMet_36 : decode cX10_hasMet 36 = .ok (.ireturn, 1) := by decide +kernel
theorem dX10_buy_0 : decode cX10_buy 0 = .ok (.aload_n 0, 1) := by decide +kernel
theorem dX10_buy_1 : decode cX10_buy 1 = .ok (.getfield 13, 3) := by decide +kernel
theorem dX10_buy_4 : decode cX10_buy 4 = .ok (.iload_n 1, 1) := by decide +kernel
theorem dX10_buy_5 : decode cX10_buy 5 = .ok (.iaload, 1) := by decide +kernel
theorem dX10_buy_6 : decode cX10_buy 6 = .ok (.iload_n 2, 1) := by decide +kernel
theorem dX10_buy_7 : decode cX10_buy 7 = .ok (.if_icmp .ge 5, 3) := by decide +kernel
theorem dX10_buy_10 : decode cX10_buy 10 = .ok (.iconst 1, 1) := by decide +kernel
theorem dX10_buy_11 : decode cX10_buy 11 = .ok (.ireturn, 1) := by decide +kernel
theorem dX10_buy_12 : decode cX10_buy 12 = .ok (.aload_n 0, 1) := by decide +kernel
theorem dX10_buy_13 : decode cX10_buy 13 = .ok (.getfield 13, 3) := by decide +kernel
theorem dX10_buy_16 : decode cX10_buy 16 = .ok (.bipush 6, 2) := by decide +kernel
theorem dX10_buy_18 : decode cX10_buy 18 = .ok (.iload_n 1, 1) := by decide +kernel
theorem dX10_buy_19 : decode cX10_buy 19 = .ok (.iadd, 1) := by decide +kernel
theorem dX10_buy_20 : decode cX10_buy 20 = .ok (.iaload, 1) := by decide +kernel
theorem dX10_buy_21 : decode cX10_buy 21 = .ok (.iload_n 2, 1) := by decide +kernel
theorem dX10_buy_22 : decode cX10_buy 22 = .ok (.aload_n 0, 1) := by decide +kernel
theorem dX10_buy_23 : decode cX10_buy 23 = .ok (.getfield 13, 3) := by decide +kernel
theorem dX10_buy_26 : decode cX10_buy 26 = .ok (.bipush 38, 2) := by decide +kernel
theorem dX10_buy_28 : decode cX10_buy 28 = .ok (.iaload, 1) := by decide +kernel
theorem dX10_buy_29 : decode cX10_buy 29 = .ok (.imul, 1) := by decide +kernel
theorem dX10_buy_30 : decode cX10_buy 30 = .ok (.iadd, 1) := by decide +kernel
theorem dX10_buy_31 : decode cX10_buy 31 = .ok (.ldc 65, 2) := by decide +kernel
theorem dX10_buy_33 : decode cX10_buy 33 = .ok (.if_icmp .le 5, 3) := by decide +kernel
theorem dX10_buy_36 : decode cX10_buy 36 = .ok (.iconst 2, 1) := by decide +kernel
theorem dX10_buy_37 : decode cX10_buy 37 = .ok (.ireturn, 1) := by decide +kernel
theorem dX10_buy_38 : decode cX10_buy 38 = .ok (.aload_n 0, 1) := by decide +kernel
theorem dX10_buy_39 : decode cX10_buy 39 = .ok (.getfield 13, 3) := by decide +kernel
theorem dX10_buy_42 : decode cX10_buy 42 = .ok (.iload_n 1, 1) := by decide +kernel
theorem dX10_buy_43 : decode cX10_buy 43 = .ok (.dup2, 1) := by decide +kernel
theorem dX10_buy_44 : decode cX10_buy 44 = .ok (.iaload, 1) := by decide +kernel
theorem dX10_buy_45 : decode cX10_buy 45 = .ok (.iload_n 2, 1) := by decide +kernel
theorem dX10_buy_46 : decode cX10_buy 46 = .ok (.isub, 1) := by decide +kernel
theorem dX10_buy_47 : decode cX10_buy 47 = .ok (.iastore, 1) := by decide +kernel
theorem dX10_buy_48 : decode cX10_buy 48 = .ok (.aload_n 0, 1) := by decide +kernel
theorem dX10_buy_49 : decode cX10_buy 49 = .ok (.getfield 13, 3) := by decide +kernel
theorem dX10_buy_52 : decode cX10_buy 52 = .ok (.bipush 6, 2) := by decide +kernel
theorem dX10_buy_54 : decode cX10_buy 54 = .ok (.iload_n 1, 1) := by decide +kernel
theorem dX10_buy_55 : decode cX10_buy 55 = .ok (.iadd, 1) := by decide +kernel
theorem dX10_buy_56 : decode cX10_buy 56 = .ok (.dup2, 1) := by decide +kernel
theorem dX10_buy_57 : decode cX10_buy 57 = .ok (.iaload, 1) := by decide +kernel
theorem dX10_buy_58 : decode cX10_buy 58 = .ok (.iload_n 2, 1) := by decide +kernel
theorem dX10_buy_59 : decode cX10_buy 59 = .ok (.aload_n 0, 1) := by decide +kernel
theorem dX10_buy_60 : decode cX10_buy 60 = .ok (.getfield 13, 3) := by decide +kernel
theorem dX10_buy_63 : decode cX10_buy 63 = .ok (.bipush 38, 2) := by decide +kernel
theorem dX10_buy_65 : decode cX10_buy 65 = .ok (.iaload, 1) := by decide +kernel
theorem dX10_buy_66 : decode cX10_buy 66 = .ok (.imul, 1) := by decide +kernel
theorem dX10_buy_67 : decode cX10_buy 67 = .ok (.iadd, 1) := by decide +kernel
theorem dX10_buy_68 : decode cX10_buy 68 = .ok (.iastore, 1) := by decide +kernel
theorem dX10_buy_69 : decode cX10_buy 69 = .ok (.iconst 0, 1) := by decide +kernel
theorem dX10_buy_70 : decode cX10_buy 70 = .ok (.ireturn, 1) := by decide +kernel
theorem dX10_sell_0 : decode cX10_sell 0 = .ok (.aload_n 0, 1) := by decide +kernel
theorem dX10_sell_1 : decode cX10_sell 1 = .ok (.getfield 13, 3) := by decide +kernel
theorem dX10_sell_4 : decode cX10_sell 4 = .ok (.bipush 6, 2) := by decide +kernel
theorem dX10_sell_6 : decode cX10_sell 6 = .ok (.iload_n 1, 1) := by decide +kernel
theorem dX10_sell_7 : decode cX10_sell 7 = .ok (.iadd, 1) := by decide +kernel
theorem dX10_sell_8 : decode cX10_sell 8 = .ok (.iaload, 1) := by decide +kernel
theorem dX10_sell_9 : decode cX10_sell 9 = .ok (.iload_n 2, 1) := by decide +kernel
theorem dX10_sell_10 : decode cX10_sell 10 = .ok (.aload_n 0, 1) := by decide +kernel
theorem dX10_sell_11 : decode cX10_sell 11 = .ok (.iload_n 1, 1) := by decide +kernel
theorem dX10_sell_12 : decode cX10_sell 12 = .ok (.invokevirtual 90, 3) := by decide +kernel
theorem dX10_sell_15 : decode cX10_sell 15 = .ok (.imul, 1) := by decide +kernel
theorem dX10_sell_16 : decode cX10_sell 16 = .ok (.if_icmp .ge 5, 3) := by decide +kernel
theorem dX10_sell_19 : decode cX10_sell 19 = .ok (.iconst 1, 1) := by decide +kernel
theorem dX10_sell_20 : decode cX10_sell 20 = .ok (.ireturn, 1) := by decide +kernel
theorem dX10_sell_21 : decode cX10_sell 21 = .ok (.aload_n 0, 1) := by decide +kernel
theorem dX10_sell_22 : decode cX10_sell 22 = .ok (.getfield 13, 3) := by decide +kernel
theorem dX10_sell_25 : decode cX10_sell 25 = .ok (.iload_n 1, 1) := by decide +kernel
theorem dX10_sell_26 : decode cX10_sell 26 = .ok (.iaload, 1) := by decide +kernel
theorem dX10_sell_27 : decode cX10_sell 27 = .ok (.iload_n 2, 1) := by decide +kernel
theorem dX10_sell_28 : decode cX10_sell 28 = .ok (.iadd, 1) := by decide +kernel
theorem dX10_sell_29 : decode cX10_sell 29 = .ok (.sipush 9999, 3) := by decide +kernel
theorem dX10_sell_32 : decode cX10_sell 32 = .ok (.if_icmp .le 5, 3) := by decide +kernel
theorem dX10_sell_35 : decode cX10_sell 35 = .ok (.iconst 2, 1) := by decide +kernel
theorem dX10_sell_36 : decode cX10_sell 36 = .ok (.ireturn, 1) := by decide +kernel
theorem dX10_sell_37 : decode cX10_sell 37 = .ok (.aload_n 0, 1) := by decide +kernel
theorem dX10_sell_38 : decode cX10_sell 38 = .ok (.getfield 13, 3) := by decide +kernel
theorem dX10_sell_41 : decode cX10_sell 41 = .ok (.iload_n 1, 1) := by decide +kernel
theorem dX10_sell_42 : decode cX10_sell 42 = .ok (.dup2, 1) := by decide +kernel
theorem dX10_sell_43 : decode cX10_sell 43 = .ok (.iaload, 1) := by decide +kernel
theorem dX10_sell_44 : decode cX10_sell 44 = .ok (.iload_n 2, 1) := by decide +kernel
theorem dX10_sell_45 : decode cX10_sell 45 = .ok (.iadd, 1) := by decide +kernel
theorem dX10_sell_46 : decode cX10_sell 46 = .ok (.iastore, 1) := by decide +kernel
theorem dX10_sell_47 : decode cX10_sell 47 = .ok (.aload_n 0, 1) := by decide +kernel
theorem dX10_sell_48 : decode cX10_sell 48 = .ok (.getfield 13, 3) := by decide +kernel
theorem dX10_sell_51 : decode cX10_sell 51 = .ok (.bipush 6, 2) := by decide +kernel
theorem dX10_sell_53 : decode cX10_sell 53 = .ok (.iload_n 1, 1) := by decide +kernel
theorem dX10_sell_54 : decode cX10_sell 54 = .ok (.iadd, 1) := by decide +kernel
theorem dX10_sell_55 : decode cX10_sell 55 = .ok (.dup2, 1) := by decide +kernel
theorem dX10_sell_56 : decode cX10_sell 56 = .ok (.iaload, 1) := by decide +kernel
theorem dX10_sell_57 : decode cX10_sell 57 = .ok (.iload_n 2, 1) := by decide +kernel
theorem dX10_sell_58 : decode cX10_sell 58 = .ok (.aload_n 0, 1) := by decide +kernel
theorem dX10_sell_59 : decode cX10_sell 59 = .ok (.iload_n 1, 1) := by decide +kernel
theorem dX10_sell_60 : decode cX10_sell 60 = .ok (.invokevirtual 90, 3) := by decide +kernel
theorem dX10_sell_63 : decode cX10_sell 63 = .ok (.imul, 1) := by decide +kernel
theorem dX10_sell_64 : decode cX10_sell 64 = .ok (.isub, 1) := by decide +kernel
theorem dX10_sell_65 : decode cX10_sell 65 = .ok (.iastore, 1) := by decide +kernel
theorem dX10_sell_66 : decode cX10_sell 66 = .ok (.iconst 0, 1) := by decide +kernel
theorem dX10_sell_67 : decode cX10_sell 67 = .ok (.ireturn, 1) := by decide +kernel
theorem dX10_build_0 : decode cX10_build 0 = .ok (.aload_n 0, 1) := by decide +kernel
theorem dX10_build_1 : decode cX10_build 1 = .ok (.iload_n 2, 1) := by decide +kernel
theorem dX10_build_2 : decode cX10_build 2 = .ok (.invokevirtual 94, 3) := by decide +kernel
theorem dX10_build_5 : decode cX10_build 5 = .ok (.ifCond .eq 5, 3) := by decide +kernel
theorem dX10_build_8 : decode cX10_build 8 = .ok (.iconst 3, 1) := by decide +kernel
theorem dX10_build_9 : decode cX10_build 9 = .ok (.ireturn, 1) := by decide +kernel
theorem dX10_build_10 : decode cX10_build 10 = .ok (.aload_n 0, 1) := by decide +kernel
theorem dX10_build_11 : decode cX10_build 11 = .ok (.getfield 13, 3) := by decide +kernel
theorem dX10_build_14 : decode cX10_build 14 = .ok (.iload_n 3, 1) := by decide +kernel
theorem dX10_build_15 : decode cX10_build 15 = .ok (.iload_n 2, 1) := by decide +kernel
theorem dX10_build_16 : decode cX10_build 16 = .ok (.iadd, 1) := by decide +kernel
theorem dX10_build_17 : decode cX10_build 17 = .ok (.dup2, 1) := by decide +kernel
theorem dX10_build_18 : decode cX10_build 18 = .ok (.iaload, 1) := by decide +kernel
theorem dX10_build_19 : decode cX10_build 19 = .ok (.iload 4, 2) := by decide +kernel
theorem dX10_build_21 : decode cX10_build 21 = .ok (.aload_n 0, 1) := by decide +kernel
theorem dX10_build_22 : decode cX10_build 22 = .ok (.iload_n 1, 1) := by decide +kernel
theorem dX10_build_23 : decode cX10_build 23 = .ok (.invokevirtual 90, 3) := by decide +kernel
theorem dX10_build_26 : decode cX10_build 26 = .ok (.imul, 1) := by decide +kernel
theorem dX10_build_27 : decode cX10_build 27 = .ok (.iadd, 1) := by decide +kernel
theorem dX10_build_28 : decode cX10_build 28 = .ok (.iastore, 1) := by decide +kernel
theorem dX10_build_29 : decode cX10_build 29 = .ok (.iconst 0, 1) := by decide +kernel
theorem dX10_build_30 : decode cX10_build 30 = .ok (.ireturn, 1) := by decide +kernel
theorem dX10_change_0 : decode cX10_change 0 = .ok (.aload_n 0, 1) := by decide +kernel
theorem dX10_change_1 : decode cX10_change 1 = .ok (.getfield 13, 3) := by decide +kernel
theorem dX10_change_4 : decode cX10_change 4 = .ok (.bipush 38, 2) := by decide +kernel
theorem dX10_change_6 : decode cX10_change 6 = .ok (.iaload, 1) := by decide +kernel
theorem dX10_change_7 : decode cX10_change 7 = .ok (.iload_n 1, 1) := by decide +kernel
theorem dX10_change_8 : decode cX10_change 8 = .ok (.ifCond .ge 7, 3) := by decide +kernel
theorem dX10_change_11 : decode cX10_change 11 = .ok (.iconst 1, 1) := by decide +kernel
theorem dX10_change_12 : decode cX10_change 12 = .ok (.goto 6, 3) := by decide +kernel
theorem dX10_change_15 : decode cX10_change 15 = .ok (.sipush 200, 3) := by decide +kernel
theorem dX10_change_18 : decode cX10_change 18 = .ok (.if_icmp .ne 5, 3) := by decide +kernel
theorem dX10_change_21 : decode cX10_change 21 = .ok (.iconst 4, 1) := by decide +kernel
theorem dX10_change_22 : decode cX10_change 22 = .ok (.ireturn, 1) := by decide +kernel
theorem dX10_change_23 : decode cX10_change 23 = .ok (.aload_n 0, 1) := by decide +kernel
theorem dX10_change_24 : decode cX10_change 24 = .ok (.getfield 13, 3) := by decide +kernel
theorem dX10_change_27 : decode cX10_change 27 = .ok (.bipush 38, 2) := by decide +kernel
theorem dX10_change_29 : decode cX10_change 29 = .ok (.aload_n 0, 1) := by decide +kernel
theorem dX10_change_30 : decode cX10_change 30 = .ok (.getfield 13, 3) := by decide +kernel
theorem dX10_change_33 : decode cX10_change 33 = .ok (.bipush 38, 2) := by decide +kernel
theorem dX10_change_35 : decode cX10_change 35 = .ok (.iaload, 1) := by decide +kernel
theorem dX10_change_36 : decode cX10_change 36 = .ok (.iload_n 1, 1) := by decide +kernel
theorem dX10_change_37 : decode cX10_change 37 = .ok (.iadd, 1) := by decide +kernel
theorem dX10_change_38 : decode cX10_change 38 = .ok (.invokestatic 97, 3) := by decide +kernel
theorem dX10_change_41 : decode cX10_change 41 = .ok (.iastore, 1) := by decide +kernel
theorem dX10_change_42 : decode cX10_change 42 = .ok (.iconst 0, 1) := by decide +kernel
theorem dX10_change_43 : decode cX10_change 43 = .ok (.ireturn, 1) := by decide +kernel
theorem dX10_copy_0 : decode cX10_copy 0 = .ok (.aload_n 0, 1) := by decide +kernel
theorem dX10_copy_1 : decode cX10_copy 1 = .ok (.getfield 13, 3) := by decide +kernel
theorem dX10_copy_4 : decode cX10_copy 4 = .ok (.bipush 12, 2) := by decide +kernel
theorem dX10_copy_6 : decode cX10_copy 6 = .ok (.iload_n 1, 1) := by decide +kernel
theorem dX10_copy_7 : decode cX10_copy 7 = .ok (.iadd, 1) := by decide +kernel
theorem dX10_copy_8 : decode cX10_copy 8 = .ok (.iaload, 1) := by decide +kernel
theorem dX10_copy_9 : decode cX10_copy 9 = .ok (.aload_n 0, 1) := by decide +kernel
theorem dX10_copy_10 : decode cX10_copy 10 = .ok (.getfield 13, 3) := by decide +kernel
theorem dX10_copy_13 : decode cX10_copy 13 = .ok (.bipush 38, 2) := by decide +kernel
theorem dX10_copy_15 : decode cX10_copy 15 = .ok (.iaload, 1) := by decide +kernel
theorem dX10_copy_16 : decode cX10_copy 16 = .ok (.if_icmp .ne 5, 3) := by decide +kernel
theorem dX10_copy_19 : decode cX10_copy 19 = .ok (.iconst 5, 1) := by decide +kernel
theorem dX10_copy_20 : decode cX10_copy 20 = .ok (.ireturn, 1) := by decide +kernel
theorem dX10_copy_21 : decode cX10_copy 21 = .ok (.aload_n 0, 1) := by decide +kernel
theorem dX10_copy_22 : decode cX10_copy 22 = .ok (.getfield 13, 3) := by decide +kernel
theorem dX10_copy_25 : decode cX10_copy 25 = .ok (.bipush 12, 2) := by decide +kernel
theorem dX10_copy_27 : decode cX10_copy 27 = .ok (.iload_n 1, 1) := by decide +kernel
theorem dX10_copy_28 : decode cX10_copy 28 = .ok (.iadd, 1) := by decide +kernel
theorem dX10_copy_29 : decode cX10_copy 29 = .ok (.aload_n 0, 1) := by decide +kernel
theorem dX10_copy_30 : decode cX10_copy 30 = .ok (.getfield 13, 3) := by decide +kernel
theorem dX10_copy_33 : decode cX10_copy 33 = .ok (.bipush 38, 2) := by decide +kernel
theorem dX10_copy_35 : decode cX10_copy 35 = .ok (.iaload, 1) := by decide +kernel
theorem dX10_copy_36 : decode cX10_copy 36 = .ok (.iastore, 1) := by decide +kernel
theorem dX10_copy_37 : decode cX10_copy 37 = .ok (.iconst 0, 1) := by decide +kernel
theorem dX10_copy_38 : decode cX10_copy 38 = .ok (.ireturn, 1) := by decide +kernel
theorem dX10_lay_0 : decode cX10_lay 0 = .ok (.aload_n 0, 1) := by decide +kernel
theorem dX10_lay_1 : decode cX10_lay 1 = .ok (.getfield 13, 3) := by decide +kernel
theorem dX10_lay_4 : decode cX10_lay 4 = .ok (.bipush 12, 2) := by decide +kernel
theorem dX10_lay_6 : decode cX10_lay 6 = .ok (.iload_n 1, 1) := by decide +kernel
theorem dX10_lay_7 : decode cX10_lay 7 = .ok (.iadd, 1) := by decide +kernel
theorem dX10_lay_8 : decode cX10_lay 8 = .ok (.iaload, 1) := by decide +kernel
theorem dX10_lay_9 : decode cX10_lay 9 = .ok (.ifCond .ne 5, 3) := by decide +kernel
theorem dX10_lay_12 : decode cX10_lay 12 = .ok (.iconst 5, 1) := by decide +kernel
theorem dX10_lay_13 : decode cX10_lay 13 = .ok (.ireturn, 1) := by decide +kernel
theorem dX10_lay_14 : decode cX10_lay 14 = .ok (.aload_n 0, 1) := by decide +kernel
theorem dX10_lay_15 : decode cX10_lay 15 = .ok (.getfield 13, 3) := by decide +kernel
theorem dX10_lay_18 : decode cX10_lay 18 = .ok (.bipush 12, 2) := by decide +kernel
theorem dX10_lay_20 : decode cX10_lay 20 = .ok (.iload_n 1, 1) := by decide +kernel
theorem dX10_lay_21 : decode cX10_lay 21 = .ok (.iadd, 1) := by decide +kernel
theorem dX10_lay_22 : decode cX10_lay 22 = .ok (.iconst 0, 1) := by decide +kernel
theorem dX10_lay_23 : decode cX10_lay 23 = .ok (.iastore, 1) := by decide +kernel
theorem dX10_lay_24 : decode cX10_lay 24 = .ok (.iconst 0, 1) := by decide +kernel
theorem dX10_lay_25 : decode cX10_lay 25 = .ok (.ireturn, 1) := by decide +kernel
theorem dX10_endDay_0 : decode cX10_endDay 0 = .ok (.aload_n 0, 1) := by decide +kernel
theorem dX10_endDay_1 : decode cX10_endDay 1 = .ok (.getfield 13, 3) := by decide +kernel
theorem dX10_endDay_4 : decode cX10_endDay 4 = .ok (.bipush 39, 2) := by decide +kernel
theorem dX10_endDay_6 : decode cX10_endDay 6 = .ok (.iaload, 1) := by decide +kernel
theorem dX10_endDay_7 : decode cX10_endDay 7 = .ok (.sipush 999, 3) := by decide +kernel
theorem dX10_endDay_10 : decode cX10_endDay 10 = .ok (.if_icmp .ne 6, 3) := by decide +kernel
theorem dX10_endDay_13 : decode cX10_endDay 13 = .ok (.bipush 6, 2) := by decide +kernel
theorem dX10_endDay_15 : decode cX10_endDay 15 = .ok (.ireturn, 1) := by decide +kernel
theorem dX10_endDay_16 : decode cX10_endDay 16 = .ok (.aload_n 0, 1) := by decide +kernel
theorem dX10_endDay_17 : decode cX10_endDay 17 = .ok (.getfield 13, 3) := by decide +kernel
theorem dX10_endDay_20 : decode cX10_endDay 20 = .ok (.bipush 38, 2) := by decide +kernel
theorem dX10_endDay_22 : decode cX10_endDay 22 = .ok (.aload_n 0, 1) := by decide +kernel
theorem dX10_endDay_23 : decode cX10_endDay 23 = .ok (.getfield 13, 3) := by decide +kernel
theorem dX10_endDay_26 : decode cX10_endDay 26 = .ok (.bipush 38, 2) := by decide +kernel
theorem dX10_endDay_28 : decode cX10_endDay 28 = .ok (.iaload, 1) := by decide +kernel
theorem dX10_endDay_29 : decode cX10_endDay 29 = .ok (.aload_n 0, 1) := by decide +kernel
theorem dX10_endDay_30 : decode cX10_endDay 30 = .ok (.getfield 16, 3) := by decide +kernel
theorem dX10_endDay_33 : decode cX10_endDay 33 = .ok (.aload_n 0, 1) := by decide +kernel
theorem dX10_endDay_34 : decode cX10_endDay 34 = .ok (.getfield 13, 3) := by decide +kernel
theorem dX10_endDay_37 : decode cX10_endDay 37 = .ok (.bipush 39, 2) := by decide +kernel
theorem dX10_endDay_39 : decode cX10_endDay 39 = .ok (.iaload, 1) := by decide +kernel
theorem dX10_endDay_40 : decode cX10_endDay 40 = .ok (.bipush 7, 2) := by decide +kernel
theorem dX10_endDay_42 : decode cX10_endDay 42 = .ok (.irem, 1) := by decide +kernel
theorem dX10_endDay_43 : decode cX10_endDay 43 = .ok (.iaload, 1) := by decide +kernel
theorem dX10_endDay_44 : decode cX10_endDay 44 = .ok (.iadd, 1) := by decide +kernel
theorem dX10_endDay_45 : decode cX10_endDay 45 = .ok (.invokestatic 97, 3) := by decide +kernel
theorem dX10_endDay_48 : decode cX10_endDay 48 = .ok (.iastore, 1) := by decide +kernel
theorem dX10_endDay_49 : decode cX10_endDay 49 = .ok (.aload_n 0, 1) := by decide +kernel
theorem dX10_endDay_50 : decode cX10_endDay 50 = .ok (.getfield 13, 3) := by decide +kernel
theorem dX10_endDay_53 : decode cX10_endDay 53 = .ok (.bipush 39, 2) := by decide +kernel
theorem dX10_endDay_55 : decode cX10_endDay 55 = .ok (.dup2, 1) := by decide +kernel
theorem dX10_endDay_56 : decode cX10_endDay 56 = .ok (.iaload, 1) := by decide +kernel
theorem dX10_endDay_57 : decode cX10_endDay 57 = .ok (.iconst 1, 1) := by decide +kernel
theorem dX10_endDay_58 : decode cX10_endDay 58 = .ok (.iadd, 1) := by decide +kernel
theorem dX10_endDay_59 : decode cX10_endDay 59 = .ok (.iastore, 1) := by decide +kernel
theorem dX10_endDay_60 : decode cX10_endDay 60 = .ok (.iconst 0, 1) := by decide +kernel
theorem dX10_endDay_61 : decode cX10_endDay 61 = .ok (.ireturn, 1) := by decide +kernel
theorem dX10_numberAt_0 : decode cX10_numberAt 0 = .ok (.aload_n 0, 1) := by decide +kernel
theorem dX10_numberAt_1 : decode cX10_numberAt 1 = .ok (.getfield 22, 3) := by decide +kernel
theorem dX10_numberAt_4 : decode cX10_numberAt 4 = .ok (.iload_n 1, 1) := by decide +kernel
theorem dX10_numberAt_5 : decode cX10_numberAt 5 = .ok (.iaload, 1) := by decide +kernel
theorem dX10_numberAt_6 : decode cX10_numberAt 6 = .ok (.bipush 48, 2) := by decide +kernel
theorem dX10_numberAt_8 : decode cX10_numberAt 8 = .ok (.isub, 1) := by decide +kernel
theorem dX10_numberAt_9 : decode cX10_numberAt 9 = .ok (.ireturn, 1) := by decide +kernel
theorem dX10_oneAct_0 : decode cX10_oneAct 0 = .ok (.aload_n 0, 1) := by decide +kernel
theorem dX10_oneAct_1 : decode cX10_oneAct 1 = .ok (.getfield 22, 3) := by decide +kernel
theorem dX10_oneAct_4 : decode cX10_oneAct 4 = .ok (.aload_n 0, 1) := by decide +kernel
theorem dX10_oneAct_5 : decode cX10_oneAct 5 = .ok (.getfield 100, 3) := by decide +kernel
theorem dX10_oneAct_8 : decode cX10_oneAct 8 = .ok (.iconst 1, 1) := by decide +kernel
theorem dX10_oneAct_9 : decode cX10_oneAct 9 = .ok (.iadd, 1) := by decide +kernel
theorem dX10_oneAct_10 : decode cX10_oneAct 10 = .ok (.iaload, 1) := by decide +kernel
theorem dX10_oneAct_11 : decode cX10_oneAct 11 = .ok (.istore_n 2, 1) := by decide +kernel
theorem dX10_oneAct_12 : decode cX10_oneAct 12 = .ok (.iload_n 2, 1) := by decide +kernel
theorem dX10_oneAct_13 : decode cX10_oneAct 13 = .ok (.bipush 61, 2) := by decide +kernel
theorem dX10_oneAct_15 : decode cX10_oneAct 15 = .ok (.if_icmp .eq 9, 3) := by decide +kernel
theorem dX10_oneAct_18 : decode cX10_oneAct 18 = .ok (.iload_n 2, 1) := by decide +kernel
theorem dX10_oneAct_19 : decode cX10_oneAct 19 = .ok (.bipush 120, 2) := by decide +kernel
theorem dX10_oneAct_21 : decode cX10_oneAct 21 = .ok (.if_icmp .ne 33, 3) := by decide +kernel
theorem dX10_oneAct_24 : decode cX10_oneAct 24 = .ok (.aload_n 0, 1) := by decide +kernel
theorem dX10_oneAct_25 : decode cX10_oneAct 25 = .ok (.dup, 1) := by decide +kernel
theorem dX10_oneAct_26 : decode cX10_oneAct 26 = .ok (.getfield 100, 3) := by decide +kernel
theorem dX10_oneAct_29 : decode cX10_oneAct 29 = .ok (.iconst 2, 1) := by decide +kernel
theorem dX10_oneAct_30 : decode cX10_oneAct 30 = .ok (.iadd, 1) := by decide +kernel
theorem dX10_oneAct_31 : decode cX10_oneAct 31 = .ok (.putfield 100, 3) := by decide +kernel
theorem dX10_oneAct_34 : decode cX10_oneAct 34 = .ok (.iload_n 2, 1) := by decide +kernel
theorem dX10_oneAct_35 : decode cX10_oneAct 35 = .ok (.bipush 61, 2) := by decide +kernel
theorem dX10_oneAct_37 : decode cX10_oneAct 37 = .ok (.if_icmp .ne 11, 3) := by decide +kernel
theorem dX10_oneAct_40 : decode cX10_oneAct 40 = .ok (.aload_n 0, 1) := by decide +kernel
theorem dX10_oneAct_41 : decode cX10_oneAct 41 = .ok (.iload_n 1, 1) := by decide +kernel
theorem dX10_oneAct_42 : decode cX10_oneAct 42 = .ok (.invokevirtual 103, 3) := by decide +kernel
theorem dX10_oneAct_45 : decode cX10_oneAct 45 = .ok (.goto 8, 3) := by decide +kernel
theorem dX10_oneAct_48 : decode cX10_oneAct 48 = .ok (.aload_n 0, 1) := by decide +kernel
theorem dX10_oneAct_49 : decode cX10_oneAct 49 = .ok (.iload_n 1, 1) := by decide +kernel
theorem dX10_oneAct_50 : decode cX10_oneAct 50 = .ok (.invokevirtual 106, 3) := by decide +kernel
theorem dX10_oneAct_53 : decode cX10_oneAct 53 = .ok (.ireturn, 1) := by decide +kernel
theorem dX10_oneAct_54 : decode cX10_oneAct 54 = .ok (.iload_n 2, 1) := by decide +kernel
theorem dX10_oneAct_55 : decode cX10_oneAct 55 = .ok (.bipush 43, 2) := by decide +kernel
theorem dX10_oneAct_57 : decode cX10_oneAct 57 = .ok (.if_icmp .eq 9, 3) := by decide +kernel
theorem dX10_oneAct_60 : decode cX10_oneAct 60 = .ok (.iload_n 2, 1) := by decide +kernel
theorem dX10_oneAct_61 : decode cX10_oneAct 61 = .ok (.bipush 45, 2) := by decide +kernel
theorem dX10_oneAct_63 : decode cX10_oneAct 63 = .ok (.if_icmp .ne 53, 3) := by decide +kernel
theorem dX10_oneAct_66 : decode cX10_oneAct 66 = .ok (.aload_n 0, 1) := by decide +kernel
theorem dX10_oneAct_67 : decode cX10_oneAct 67 = .ok (.dup, 1) := by decide +kernel
theorem dX10_oneAct_68 : decode cX10_oneAct 68 = .ok (.getfield 100, 3) := by decide +kernel
theorem dX10_oneAct_71 : decode cX10_oneAct 71 = .ok (.iconst 3, 1) := by decide +kernel
theorem dX10_oneAct_72 : decode cX10_oneAct 72 = .ok (.iadd, 1) := by decide +kernel
theorem dX10_oneAct_73 : decode cX10_oneAct 73 = .ok (.putfield 100, 3) := by decide +kernel
theorem dX10_oneAct_76 : decode cX10_oneAct 76 = .ok (.iload_n 2, 1) := by decide +kernel
theorem dX10_oneAct_77 : decode cX10_oneAct 77 = .ok (.bipush 43, 2) := by decide +kernel
theorem dX10_oneAct_79 : decode cX10_oneAct 79 = .ok (.if_icmp .ne 21, 3) := by decide +kernel
theorem dX10_oneAct_82 : decode cX10_oneAct 82 = .ok (.aload_n 0, 1) := by decide +kernel
theorem dX10_oneAct_83 : decode cX10_oneAct 83 = .ok (.iload_n 1, 1) := by decide +kernel
theorem dX10_oneAct_84 : decode cX10_oneAct 84 = .ok (.aload_n 0, 1) := by decide +kernel
theorem dX10_oneAct_85 : decode cX10_oneAct 85 = .ok (.aload_n 0, 1) := by decide +kernel
theorem dX10_oneAct_86 : decode cX10_oneAct 86 = .ok (.getfield 100, 3) := by decide +kernel
theorem dX10_oneAct_89 : decode cX10_oneAct 89 = .ok (.iconst 1, 1) := by decide +kernel
theorem dX10_oneAct_90 : decode cX10_oneAct 90 = .ok (.isub, 1) := by decide +kernel
theorem dX10_oneAct_91 : decode cX10_oneAct 91 = .ok (.invokevirtual 109, 3) := by decide +kernel
theorem dX10_oneAct_94 : decode cX10_oneAct 94 = .ok (.invokevirtual 112, 3) := by decide +kernel
theorem dX10_oneAct_97 : decode cX10_oneAct 97 = .ok (.goto 18, 3) := by decide +kernel
theorem dX10_oneAct_100 : decode cX10_oneAct 100 = .ok (.aload_n 0, 1) := by decide +kernel
theorem dX10_oneAct_101 : decode cX10_oneAct 101 = .ok (.iload_n 1, 1) := by decide +kernel
theorem dX10_oneAct_102 : decode cX10_oneAct 102 = .ok (.aload_n 0, 1) := by decide +kernel
theorem dX10_oneAct_103 : decode cX10_oneAct 103 = .ok (.aload_n 0, 1) := by decide +kernel
theorem dX10_oneAct_104 : decode cX10_oneAct 104 = .ok (.getfield 100, 3) := by decide +kernel
theorem dX10_oneAct_107 : decode cX10_oneAct 107 = .ok (.iconst 1, 1) := by decide +kernel
theorem dX10_oneAct_108 : decode cX10_oneAct 108 = .ok (.isub, 1) := by decide +kernel
theorem dX10_oneAct_109 : decode cX10_oneAct 109 = .ok (.invokevirtual 109, 3) := by decide +kernel
theorem dX10_oneAct_112 : decode cX10_oneAct 112 = .ok (.invokevirtual 115, 3) := by decide +kernel
theorem dX10_oneAct_115 : decode cX10_oneAct 115 = .ok (.ireturn, 1) := by decide +kernel
theorem dX10_oneAct_116 : decode cX10_oneAct 116 = .ok (.aload_n 0, 1) := by decide +kernel
theorem dX10_oneAct_117 : decode cX10_oneAct 117 = .ok (.dup, 1) := by decide +kernel
theorem dX10_oneAct_118 : decode cX10_oneAct 118 = .ok (.getfield 100, 3) := by decide +kernel
theorem dX10_oneAct_121 : decode cX10_oneAct 121 = .ok (.iconst 4, 1) := by decide +kernel
theorem dX10_oneAct_122 : decode cX10_oneAct 122 = .ok (.iadd, 1) := by decide +kernel
theorem dX10_oneAct_123 : decode cX10_oneAct 123 = .ok (.putfield 100, 3) := by decide +kernel
theorem dX10_oneAct_126 : decode cX10_oneAct 126 = .ok (.iload_n 2, 1) := by decide +kernel
theorem dX10_oneAct_127 : decode cX10_oneAct 127 = .ok (.bipush 47, 2) := by decide +kernel
theorem dX10_oneAct_129 : decode cX10_oneAct 129 = .ok (.if_icmp .ne 39, 3) := by decide +kernel
theorem dX10_oneAct_132 : decode cX10_oneAct 132 = .ok (.aload_n 0, 1) := by decide +kernel
theorem dX10_oneAct_133 : decode cX10_oneAct 133 = .ok (.getfield 13, 3) := by decide +kernel
theorem dX10_oneAct_136 : decode cX10_oneAct 136 = .ok (.bipush 18, 2) := by decide +kernel
theorem dX10_oneAct_138 : decode cX10_oneAct 138 = .ok (.aload_n 0, 1) := by decide +kernel
theorem dX10_oneAct_139 : decode cX10_oneAct 139 = .ok (.aload_n 0, 1) := by decide +kernel
theorem dX10_oneAct_140 : decode cX10_oneAct 140 = .ok (.getfield 100, 3) := by decide +kernel
theorem dX10_oneAct_143 : decode cX10_oneAct 143 = .ok (.iconst 2, 1) := by decide +kernel
theorem dX10_oneAct_144 : decode cX10_oneAct 144 = .ok (.isub, 1) := by decide +kernel
theorem dX10_oneAct_145 : decode cX10_oneAct 145 = .ok (.invokevirtual 109, 3) := by decide +kernel
theorem dX10_oneAct_148 : decode cX10_oneAct 148 = .ok (.iadd, 1) := by decide +kernel
theorem dX10_oneAct_149 : decode cX10_oneAct 149 = .ok (.aload_n 0, 1) := by decide +kernel
theorem dX10_oneAct_150 : decode cX10_oneAct 150 = .ok (.aload_n 0, 1) := by decide +kernel
theorem dX10_oneAct_151 : decode cX10_oneAct 151 = .ok (.getfield 100, 3) := by decide +kernel
theorem dX10_oneAct_154 : decode cX10_oneAct 154 = .ok (.iconst 1, 1) := by decide +kernel
theorem dX10_oneAct_155 : decode cX10_oneAct 155 = .ok (.isub, 1) := by decide +kernel
theorem dX10_oneAct_156 : decode cX10_oneAct 156 = .ok (.invokevirtual 109, 3) := by decide +kernel
theorem dX10_oneAct_159 : decode cX10_oneAct 159 = .ok (.aload_n 0, 1) := by decide +kernel
theorem dX10_oneAct_160 : decode cX10_oneAct 160 = .ok (.iload_n 1, 1) := by decide +kernel
theorem dX10_oneAct_161 : decode cX10_oneAct 161 = .ok (.invokevirtual 90, 3) := by decide +kernel
theorem dX10_oneAct_164 : decode cX10_oneAct 164 = .ok (.imul, 1) := by decide +kernel
theorem dX10_oneAct_165 : decode cX10_oneAct 165 = .ok (.iastore, 1) := by decide +kernel
theorem dX10_oneAct_166 : decode cX10_oneAct 166 = .ok (.iconst 0, 1) := by decide +kernel
theorem dX10_oneAct_167 : decode cX10_oneAct 167 = .ok (.ireturn, 1) := by decide +kernel
theorem dX10_oneAct_168 : decode cX10_oneAct 168 = .ok (.aload_n 0, 1) := by decide +kernel
theorem dX10_oneAct_169 : decode cX10_oneAct 169 = .ok (.iload_n 1, 1) := by decide +kernel
theorem dX10_oneAct_170 : decode cX10_oneAct 170 = .ok (.aload_n 0, 1) := by decide +kernel
theorem dX10_oneAct_171 : decode cX10_oneAct 171 = .ok (.aload_n 0, 1) := by decide +kernel
theorem dX10_oneAct_172 : decode cX10_oneAct 172 = .ok (.getfield 100, 3) := by decide +kernel
theorem dX10_oneAct_175 : decode cX10_oneAct 175 = .ok (.iconst 2, 1) := by decide +kernel
theorem dX10_oneAct_176 : decode cX10_oneAct 176 = .ok (.isub, 1) := by decide +kernel
theorem dX10_oneAct_177 : decode cX10_oneAct 177 = .ok (.invokevirtual 109, 3) := by decide +kernel
theorem dX10_oneAct_180 : decode cX10_oneAct 180 = .ok (.iload_n 2, 1) := by decide +kernel
theorem dX10_oneAct_181 : decode cX10_oneAct 181 = .ok (.bipush 40, 2) := by decide +kernel
theorem dX10_oneAct_183 : decode cX10_oneAct 183 = .ok (.if_icmp .ne 8, 3) := by decide +kernel
theorem dX10_oneAct_186 : decode cX10_oneAct 186 = .ok (.bipush 26, 2) := by decide +kernel
theorem dX10_oneAct_188 : decode cX10_oneAct 188 = .ok (.goto 5, 3) := by decide +kernel
theorem dX10_oneAct_191 : decode cX10_oneAct 191 = .ok (.bipush 30, 2) := by decide +kernel
theorem dX10_oneAct_193 : decode cX10_oneAct 193 = .ok (.aload_n 0, 1) := by decide +kernel
theorem dX10_oneAct_194 : decode cX10_oneAct 194 = .ok (.aload_n 0, 1) := by decide +kernel
theorem dX10_oneAct_195 : decode cX10_oneAct 195 = .ok (.getfield 100, 3) := by decide +kernel
theorem dX10_oneAct_198 : decode cX10_oneAct 198 = .ok (.iconst 1, 1) := by decide +kernel
theorem dX10_oneAct_199 : decode cX10_oneAct 199 = .ok (.isub, 1) := by decide +kernel
theorem dX10_oneAct_200 : decode cX10_oneAct 200 = .ok (.invokevirtual 109, 3) := by decide +kernel
theorem dX10_oneAct_203 : decode cX10_oneAct 203 = .ok (.invokevirtual 118, 3) := by decide +kernel
theorem dX10_oneAct_206 : decode cX10_oneAct 206 = .ok (.ireturn, 1) := by decide +kernel
theorem dX10_met_0 : decode cX10_met 0 = .ok (.iconst 0, 1) := by decide +kernel
theorem dX10_met_1 : decode cX10_met 1 = .ok (.istore_n 1, 1) := by decide +kernel
theorem dX10_met_2 : decode cX10_met 2 = .ok (.iconst 0, 1) := by decide +kernel
theorem dX10_met_3 : decode cX10_met 3 = .ok (.istore_n 2, 1) := by decide +kernel
theorem dX10_met_4 : decode cX10_met 4 = .ok (.iload_n 2, 1) := by decide +kernel
theorem dX10_met_5 : decode cX10_met 5 = .ok (.iconst 4, 1) := by decide +kernel
theorem dX10_met_6 : decode cX10_met 6 = .ok (.if_icmp .ge 27, 3) := by decide +kernel
theorem dX10_met_9 : decode cX10_met 9 = .ok (.iload_n 1, 1) := by decide +kernel
theorem dX10_met_10 : decode cX10_met 10 = .ok (.aload_n 0, 1) := by decide +kernel
theorem dX10_met_11 : decode cX10_met 11 = .ok (.iload_n 2, 1) := by decide +kernel
theorem dX10_met_12 : decode cX10_met 12 = .ok (.invokevirtual 94, 3) := by decide +kernel
theorem dX10_met_15 : decode cX10_met 15 = .ok (.ifCond .eq 9, 3) := by decide +kernel
theorem dX10_met_18 : decode cX10_met 18 = .ok (.iconst 1, 1) := by decide +kernel
theorem dX10_met_19 : decode cX10_met 19 = .ok (.iload_n 2, 1) := by decide +kernel
theorem dX10_met_20 : decode cX10_met 20 = .ok (.ishl, 1) := by decide +kernel
theorem dX10_met_21 : decode cX10_met 21 = .ok (.goto 4, 3) := by decide +kernel
theorem dX10_met_24 : decode cX10_met 24 = .ok (.iconst 0, 1) := by decide +kernel
theorem dX10_met_25 : decode cX10_met 25 = .ok (.ior, 1) := by decide +kernel
theorem dX10_met_26 : decode cX10_met 26 = .ok (.istore_n 1, 1) := by decide +kernel
theorem dX10_met_27 : decode cX10_met 27 = .ok (.iinc 2 1, 3) := by decide +kernel
theorem dX10_met_30 : decode cX10_met 30 = .ok (.goto (-26), 3) := by decide +kernel
theorem dX10_met_33 : decode cX10_met 33 = .ok (.iload_n 1, 1) := by decide +kernel
theorem dX10_met_34 : decode cX10_met 34 = .ok (.ireturn, 1) := by decide +kernel
theorem dX10_goWeeks_0 : decode cX10_goWeeks 0 = .ok (.aload_n 0, 1) := by decide +kernel
theorem dX10_goWeeks_1 : decode cX10_goWeeks 1 = .ok (.invokevirtual 122, 3) := by decide +kernel
theorem dX10_goWeeks_4 : decode cX10_goWeeks 4 = .ok (.aload_n 0, 1) := by decide +kernel
theorem dX10_goWeeks_5 : decode cX10_goWeeks 5 = .ok (.iconst 0, 1) := by decide +kernel
theorem dX10_goWeeks_6 : decode cX10_goWeeks 6 = .ok (.putfield 125, 3) := by decide +kernel
theorem dX10_goWeeks_9 : decode cX10_goWeeks 9 = .ok (.aload_n 0, 1) := by decide +kernel
theorem dX10_goWeeks_10 : decode cX10_goWeeks 10 = .ok (.iconst 0, 1) := by decide +kernel
theorem dX10_goWeeks_11 : decode cX10_goWeeks 11 = .ok (.putfield 100, 3) := by decide +kernel
theorem dX10_goWeeks_14 : decode cX10_goWeeks 14 = .ok (.aload_n 0, 1) := by decide +kernel
theorem dX10_goWeeks_15 : decode cX10_goWeeks 15 = .ok (.getfield 100, 3) := by decide +kernel
theorem dX10_goWeeks_18 : decode cX10_goWeeks 18 = .ok (.aload_n 0, 1) := by decide +kernel
theorem dX10_goWeeks_19 : decode cX10_goWeeks 19 = .ok (.getfield 72, 3) := by decide +kernel
theorem dX10_goWeeks_22 : decode cX10_goWeeks 22 = .ok (.if_icmp .ge 200, 3) := by decide +kernel
theorem dX10_goWeeks_25 : decode cX10_goWeeks 25 = .ok (.aload_n 0, 1) := by decide +kernel
theorem dX10_goWeeks_26 : decode cX10_goWeeks 26 = .ok (.getfield 22, 3) := by decide +kernel
theorem dX10_goWeeks_29 : decode cX10_goWeeks 29 = .ok (.aload_n 0, 1) := by decide +kernel
theorem dX10_goWeeks_30 : decode cX10_goWeeks 30 = .ok (.getfield 100, 3) := by decide +kernel
theorem dX10_goWeeks_33 : decode cX10_goWeeks 33 = .ok (.iaload, 1) := by decide +kernel
theorem dX10_goWeeks_34 : decode cX10_goWeeks 34 = .ok (.istore_n 1, 1) := by decide +kernel
theorem dX10_goWeeks_35 : decode cX10_goWeeks 35 = .ok (.aload_n 0, 1) := by decide +kernel
theorem dX10_goWeeks_36 : decode cX10_goWeeks 36 = .ok (.invokevirtual 128, 3) := by decide +kernel
theorem dX10_goWeeks_39 : decode cX10_goWeeks 39 = .ok (.istore_n 2, 1) := by decide +kernel
theorem dX10_goWeeks_40 : decode cX10_goWeeks 40 = .ok (.iload_n 1, 1) := by decide +kernel
theorem dX10_goWeeks_41 : decode cX10_goWeeks 41 = .ok (.bipush 46, 2) := by decide +kernel
theorem dX10_goWeeks_43 : decode cX10_goWeeks 43 = .ok (.if_icmp .ne 24, 3) := by decide +kernel
theorem dX10_goWeeks_46 : decode cX10_goWeeks 46 = .ok (.aload_n 0, 1) := by decide +kernel
theorem dX10_goWeeks_47 : decode cX10_goWeeks 47 = .ok (.dup, 1) := by decide +kernel
theorem dX10_goWeeks_48 : decode cX10_goWeeks 48 = .ok (.getfield 100, 3) := by decide +kernel
theorem dX10_goWeeks_51 : decode cX10_goWeeks 51 = .ok (.iconst 1, 1) := by decide +kernel
theorem dX10_goWeeks_52 : decode cX10_goWeeks 52 = .ok (.iadd, 1) := by decide +kernel
theorem dX10_goWeeks_53 : decode cX10_goWeeks 53 = .ok (.putfield 100, 3) := by decide +kernel
theorem dX10_goWeeks_56 : decode cX10_goWeeks 56 = .ok (.aload_n 0, 1) := by decide +kernel
theorem dX10_goWeeks_57 : decode cX10_goWeeks 57 = .ok (.aload_n 0, 1) := by decide +kernel
theorem dX10_goWeeks_58 : decode cX10_goWeeks 58 = .ok (.invokevirtual 131, 3) := by decide +kernel
theorem dX10_goWeeks_61 : decode cX10_goWeeks 61 = .ok (.putfield 134, 3) := by decide +kernel
theorem dX10_goWeeks_64 : decode cX10_goWeeks 64 = .ok (.goto 78, 3) := by decide +kernel
theorem dX10_goWeeks_67 : decode cX10_goWeeks 67 = .ok (.iload_n 1, 1) := by decide +kernel
theorem dX10_goWeeks_68 : decode cX10_goWeeks 68 = .ok (.bipush 60, 2) := by decide +kernel
theorem dX10_goWeeks_70 : decode cX10_goWeeks 70 = .ok (.if_icmp .eq 9, 3) := by decide +kernel
theorem dX10_goWeeks_73 : decode cX10_goWeeks 73 = .ok (.iload_n 1, 1) := by decide +kernel
theorem dX10_goWeeks_74 : decode cX10_goWeeks 74 = .ok (.bipush 62, 2) := by decide +kernel
theorem dX10_goWeeks_76 : decode cX10_goWeeks 76 = .ok (.if_icmp .ne 54, 3) := by decide +kernel
theorem dX10_goWeeks_79 : decode cX10_goWeeks 79 = .ok (.aload_n 0, 1) := by decide +kernel
theorem dX10_goWeeks_80 : decode cX10_goWeeks 80 = .ok (.dup, 1) := by decide +kernel
theorem dX10_goWeeks_81 : decode cX10_goWeeks 81 = .ok (.getfield 100, 3) := by decide +kernel
theorem dX10_goWeeks_84 : decode cX10_goWeeks 84 = .ok (.iconst 2, 1) := by decide +kernel
theorem dX10_goWeeks_85 : decode cX10_goWeeks 85 = .ok (.iadd, 1) := by decide +kernel
theorem dX10_goWeeks_86 : decode cX10_goWeeks 86 = .ok (.putfield 100, 3) := by decide +kernel
theorem dX10_goWeeks_89 : decode cX10_goWeeks 89 = .ok (.aload_n 0, 1) := by decide +kernel
theorem dX10_goWeeks_90 : decode cX10_goWeeks 90 = .ok (.aload_n 0, 1) := by decide +kernel
theorem dX10_goWeeks_91 : decode cX10_goWeeks 91 = .ok (.iload_n 1, 1) := by decide +kernel
theorem dX10_goWeeks_92 : decode cX10_goWeeks 92 = .ok (.bipush 60, 2) := by decide +kernel
theorem dX10_goWeeks_94 : decode cX10_goWeeks 94 = .ok (.if_icmp .ne 17, 3) := by decide +kernel
theorem dX10_goWeeks_97 : decode cX10_goWeeks 97 = .ok (.aload_n 0, 1) := by decide +kernel
theorem dX10_goWeeks_98 : decode cX10_goWeeks 98 = .ok (.aload_n 0, 1) := by decide +kernel
theorem dX10_goWeeks_99 : decode cX10_goWeeks 99 = .ok (.getfield 100, 3) := by decide +kernel
theorem dX10_goWeeks_102 : decode cX10_goWeeks 102 = .ok (.iconst 1, 1) := by decide +kernel
theorem dX10_goWeeks_103 : decode cX10_goWeeks 103 = .ok (.isub, 1) := by decide +kernel
theorem dX10_goWeeks_104 : decode cX10_goWeeks 104 = .ok (.invokevirtual 109, 3) := by decide +kernel
theorem dX10_goWeeks_107 : decode cX10_goWeeks 107 = .ok (.ineg, 1) := by decide +kernel
theorem dX10_goWeeks_108 : decode cX10_goWeeks 108 = .ok (.goto 13, 3) := by decide +kernel
theorem dX10_goWeeks_111 : decode cX10_goWeeks 111 = .ok (.aload_n 0, 1) := by decide +kernel
theorem dX10_goWeeks_112 : decode cX10_goWeeks 112 = .ok (.aload_n 0, 1) := by decide +kernel
theorem dX10_goWeeks_113 : decode cX10_goWeeks 113 = .ok (.getfield 100, 3) := by decide +kernel
theorem dX10_goWeeks_116 : decode cX10_goWeeks 116 = .ok (.iconst 1, 1) := by decide +kernel
theorem dX10_goWeeks_117 : decode cX10_goWeeks 117 = .ok (.isub, 1) := by decide +kernel
theorem dX10_goWeeks_118 : decode cX10_goWeeks 118 = .ok (.invokevirtual 109, 3) := by decide +kernel
theorem dX10_goWeeks_121 : decode cX10_goWeeks 121 = .ok (.invokevirtual 137, 3) := by decide +kernel
theorem dX10_goWeeks_124 : decode cX10_goWeeks 124 = .ok (.putfield 134, 3) := by decide +kernel
theorem dX10_goWeeks_127 : decode cX10_goWeeks 127 = .ok (.goto 15, 3) := by decide +kernel
theorem dX10_goWeeks_130 : decode cX10_goWeeks 130 = .ok (.aload_n 0, 1) := by decide +kernel
theorem dX10_goWeeks_131 : decode cX10_goWeeks 131 = .ok (.aload_n 0, 1) := by decide +kernel
theorem dX10_goWeeks_132 : decode cX10_goWeeks 132 = .ok (.iload_n 1, 1) := by decide +kernel
theorem dX10_goWeeks_133 : decode cX10_goWeeks 133 = .ok (.bipush 65, 2) := by decide +kernel
theorem dX10_goWeeks_135 : decode cX10_goWeeks 135 = .ok (.isub, 1) := by decide +kernel
theorem dX10_goWeeks_136 : decode cX10_goWeeks 136 = .ok (.invokevirtual 140, 3) := by decide +kernel
theorem dX10_goWeeks_139 : decode cX10_goWeeks 139 = .ok (.putfield 134, 3) := by decide +kernel
theorem dX10_goWeeks_142 : decode cX10_goWeeks 142 = .ok (.aload_n 0, 1) := by decide +kernel
theorem dX10_goWeeks_143 : decode cX10_goWeeks 143 = .ok (.getfield 134, 3) := by decide +kernel
theorem dX10_goWeeks_146 : decode cX10_goWeeks 146 = .ok (.ifCond .le 8, 3) := by decide +kernel
theorem dX10_goWeeks_149 : decode cX10_goWeeks 149 = .ok (.aload_n 0, 1) := by decide +kernel
theorem dX10_goWeeks_150 : decode cX10_goWeeks 150 = .ok (.getfield 125, 3) := by decide +kernel
theorem dX10_goWeeks_153 : decode cX10_goWeeks 153 = .ok (.ireturn, 1) := by decide +kernel
theorem dX10_goWeeks_154 : decode cX10_goWeeks 154 = .ok (.aload_n 0, 1) := by decide +kernel
theorem dX10_goWeeks_155 : decode cX10_goWeeks 155 = .ok (.invokevirtual 128, 3) := by decide +kernel
theorem dX10_goWeeks_158 : decode cX10_goWeeks 158 = .ok (.iload_n 2, 1) := by decide +kernel
theorem dX10_goWeeks_159 : decode cX10_goWeeks 159 = .ok (.iconst (-1), 1) := by decide +kernel
theorem dX10_goWeeks_160 : decode cX10_goWeeks 160 = .ok (.ixor, 1) := by decide +kernel
theorem dX10_goWeeks_161 : decode cX10_goWeeks 161 = .ok (.iand, 1) := by decide +kernel
theorem dX10_goWeeks_162 : decode cX10_goWeeks 162 = .ok (.istore_n 3, 1) := by decide +kernel
theorem dX10_goWeeks_163 : decode cX10_goWeeks 163 = .ok (.iconst 0, 1) := by decide +kernel
theorem dX10_goWeeks_164 : decode cX10_goWeeks 164 = .ok (.istore 4, 2) := by decide +kernel
theorem dX10_goWeeks_166 : decode cX10_goWeeks 166 = .ok (.iload 4, 2) := by decide +kernel
theorem dX10_goWeeks_168 : decode cX10_goWeeks 168 = .ok (.iconst 4, 1) := by decide +kernel
theorem dX10_goWeeks_169 : decode cX10_goWeeks 169 = .ok (.if_icmp .ge 40, 3) := by decide +kernel
theorem dX10_goWeeks_172 : decode cX10_goWeeks 172 = .ok (.aload_n 0, 1) := by decide +kernel
theorem dX10_goWeeks_173 : decode cX10_goWeeks 173 = .ok (.getfield 84, 3) := by decide +kernel
theorem dX10_goWeeks_176 : decode cX10_goWeeks 176 = .ok (.ifCond .ge 33, 3) := by decide +kernel
theorem dX10_goWeeks_179 : decode cX10_goWeeks 179 = .ok (.iload_n 3, 1) := by decide +kernel
theorem dX10_goWeeks_180 : decode cX10_goWeeks 180 = .ok (.iload 4, 2) := by decide +kernel
theorem dX10_goWeeks_182 : decode cX10_goWeeks 182 = .ok (.ishr, 1) := by decide +kernel
theorem dX10_goWeeks_183 : decode cX10_goWeeks 183 = .ok (.iconst 1, 1) := by decide +kernel
theorem dX10_goWeeks_184 : decode cX10_goWeeks 184 = .ok (.iand, 1) := by decide +kernel
theorem dX10_goWeeks_185 : decode cX10_goWeeks 185 = .ok (.iconst 1, 1) := by decide +kernel
theorem dX10_goWeeks_186 : decode cX10_goWeeks 186 = .ok (.if_icmp .ne 17, 3) := by decide +kernel
theorem dX10_goWeeks_189 : decode cX10_goWeeks 189 = .ok (.aload_n 0, 1) := by decide +kernel
theorem dX10_goWeeks_190 : decode cX10_goWeeks 190 = .ok (.aload_n 0, 1) := by decide +kernel
theorem dX10_goWeeks_191 : decode cX10_goWeeks 191 = .ok (.getfield 125, 3) := by decide +kernel
theorem dX10_goWeeks_194 : decode cX10_goWeeks 194 = .ok (.putfield 84, 3) := by decide +kernel
theorem dX10_goWeeks_197 : decode cX10_goWeeks 197 = .ok (.aload_n 0, 1) := by decide +kernel
theorem dX10_goWeeks_198 : decode cX10_goWeeks 198 = .ok (.iload 4, 2) := by decide +kernel
theorem dX10_goWeeks_200 : decode cX10_goWeeks 200 = .ok (.putfield 87, 3) := by decide +kernel
theorem dX10_goWeeks_203 : decode cX10_goWeeks 203 = .ok (.iinc 4 1, 3) := by decide +kernel
theorem dX10_goWeeks_206 : decode cX10_goWeeks 206 = .ok (.goto (-40), 3) := by decide +kernel
theorem dX10_goWeeks_209 : decode cX10_goWeeks 209 = .ok (.aload_n 0, 1) := by decide +kernel
theorem dX10_goWeeks_210 : decode cX10_goWeeks 210 = .ok (.dup, 1) := by decide +kernel
theorem dX10_goWeeks_211 : decode cX10_goWeeks 211 = .ok (.getfield 125, 3) := by decide +kernel
theorem dX10_goWeeks_214 : decode cX10_goWeeks 214 = .ok (.iconst 1, 1) := by decide +kernel
theorem dX10_goWeeks_215 : decode cX10_goWeeks 215 = .ok (.iadd, 1) := by decide +kernel
theorem dX10_goWeeks_216 : decode cX10_goWeeks 216 = .ok (.putfield 125, 3) := by decide +kernel
theorem dX10_goWeeks_219 : decode cX10_goWeeks 219 = .ok (.goto (-205), 3) := by decide +kernel
theorem dX10_goWeeks_222 : decode cX10_goWeeks 222 = .ok (.bipush (-6), 2) := by decide +kernel
theorem dX10_goWeeks_224 : decode cX10_goWeeks 224 = .ok (.ireturn, 1) := by decide +kernel
theorem dX10_judge_0 : decode cX10_judge 0 = .ok (.iload_n 1, 1) := by decide +kernel
theorem dX10_judge_1 : decode cX10_judge 1 = .ok (.iconst 0, 1) := by decide +kernel
theorem dX10_judge_2 : decode cX10_judge 2 = .ok (.iconst 1, 1) := by decide +kernel
theorem dX10_judge_3 : decode cX10_judge 3 = .ok (.invokestatic 57, 3) := by decide +kernel
theorem dX10_judge_6 : decode cX10_judge 6 = .ok (.ifCond .ne 6, 3) := by decide +kernel
theorem dX10_judge_9 : decode cX10_judge 9 = .ok (.bipush (-2), 2) := by decide +kernel
theorem dX10_judge_11 : decode cX10_judge 11 = .ok (.ireturn, 1) := by decide +kernel
theorem dX10_judge_12 : decode cX10_judge 12 = .ok (.aload_n 0, 1) := by decide +kernel
theorem dX10_judge_13 : decode cX10_judge 13 = .ok (.invokevirtual 80, 3) := by decide +kernel
theorem dX10_judge_16 : decode cX10_judge 16 = .ok (.ifCond .lt 6, 3) := by decide +kernel
theorem dX10_judge_19 : decode cX10_judge 19 = .ok (.bipush (-5), 2) := by decide +kernel
theorem dX10_judge_21 : decode cX10_judge 21 = .ok (.ireturn, 1) := by decide +kernel
theorem dX10_judge_22 : decode cX10_judge 22 = .ok (.aload_n 0, 1) := by decide +kernel
theorem dX10_judge_23 : decode cX10_judge 23 = .ok (.invokevirtual 143, 3) := by decide +kernel
theorem dX10_judge_26 : decode cX10_judge 26 = .ok (.istore_n 2, 1) := by decide +kernel
theorem dX10_judge_27 : decode cX10_judge 27 = .ok (.iload_n 2, 1) := by decide +kernel
theorem dX10_judge_28 : decode cX10_judge 28 = .ok (.ifCond .lt 7, 3) := by decide +kernel
theorem dX10_judge_31 : decode cX10_judge 31 = .ok (.iload_n 1, 1) := by decide +kernel
theorem dX10_judge_32 : decode cX10_judge 32 = .ok (.ifCond .ne 7, 3) := by decide +kernel
theorem dX10_judge_35 : decode cX10_judge 35 = .ok (.iload_n 2, 1) := by decide +kernel
theorem dX10_judge_36 : decode cX10_judge 36 = .ok (.goto 7, 3) := by decide +kernel
theorem dX10_judge_39 : decode cX10_judge 39 = .ok (.aload_n 0, 1) := by decide +kernel
theorem dX10_judge_40 : decode cX10_judge 40 = .ok (.getfield 134, 3) := by decide +kernel
theorem dX10_judge_43 : decode cX10_judge 43 = .ok (.ireturn, 1) := by decide +kernel
theorem dX10_barOfWeeks_0 : decode cX10_barOfWeeks 0 = .ok (.aload_n 0, 1) := by decide +kernel
theorem dX10_barOfWeeks_1 : decode cX10_barOfWeeks 1 = .ok (.invokevirtual 80, 3) := by decide +kernel
theorem dX10_barOfWeeks_4 : decode cX10_barOfWeeks 4 = .ok (.ifCond .ge 10, 3) := by decide +kernel
theorem dX10_barOfWeeks_7 : decode cX10_barOfWeeks 7 = .ok (.aload_n 0, 1) := by decide +kernel
theorem dX10_barOfWeeks_8 : decode cX10_barOfWeeks 8 = .ok (.invokevirtual 143, 3) := by decide +kernel
theorem dX10_barOfWeeks_11 : decode cX10_barOfWeeks 11 = .ok (.ifCond .lt 8, 3) := by decide +kernel
theorem dX10_barOfWeeks_14 : decode cX10_barOfWeeks 14 = .ok (.bipush (-5), 2) := by decide +kernel
theorem dX10_barOfWeeks_16 : decode cX10_barOfWeeks 16 = .ok (.goto 4, 3) := by decide +kernel
theorem dX10_barOfWeeks_19 : decode cX10_barOfWeeks 19 = .ok (.iconst 0, 1) := by decide +kernel
theorem dX10_barOfWeeks_20 : decode cX10_barOfWeeks 20 = .ok (.ireturn, 1) := by decide +kernel
theorem dX10_done_0 : decode cX10_done 0 = .ok (.aload_n 0, 1) := by decide +kernel
theorem dX10_done_1 : decode cX10_done 1 = .ok (.invokevirtual 146, 3) := by decide +kernel
theorem dX10_done_4 : decode cX10_done 4 = .ok (.ifCond .ge 6, 3) := by decide +kernel
theorem dX10_done_7 : decode cX10_done 7 = .ok (.bipush (-5), 2) := by decide +kernel
theorem dX10_done_9 : decode cX10_done 9 = .ok (.ireturn, 1) := by decide +kernel
theorem dX10_done_10 : decode cX10_done 10 = .ok (.iconst 0, 1) := by decide +kernel
theorem dX10_done_11 : decode cX10_done 11 = .ok (.istore_n 1, 1) := by decide +kernel
theorem dX10_done_12 : decode cX10_done 12 = .ok (.iload_n 1, 1) := by decide +kernel
theorem dX10_done_13 : decode cX10_done 13 = .ok (.bipush 40, 2) := by decide +kernel
theorem dX10_done_15 : decode cX10_done 15 = .ok (.if_icmp .ge 21, 3) := by decide +kernel
theorem dX10_done_18 : decode cX10_done 18 = .ok (.aload_n 0, 1) := by decide +kernel
theorem dX10_done_19 : decode cX10_done 19 = .ok (.getfield 7, 3) := by decide +kernel
theorem dX10_done_22 : decode cX10_done 22 = .ok (.iload_n 1, 1) := by decide +kernel
theorem dX10_done_23 : decode cX10_done 23 = .ok (.aload_n 0, 1) := by decide +kernel
theorem dX10_done_24 : decode cX10_done 24 = .ok (.getfield 13, 3) := by decide +kernel
theorem dX10_done_27 : decode cX10_done 27 = .ok (.iload_n 1, 1) := by decide +kernel
theorem dX10_done_28 : decode cX10_done 28 = .ok (.iaload, 1) := by decide +kernel
theorem dX10_done_29 : decode cX10_done 29 = .ok (.iastore, 1) := by decide +kernel
theorem dX10_done_30 : decode cX10_done 30 = .ok (.iinc 1 1, 3) := by decide +kernel
theorem dX10_done_33 : decode cX10_done 33 = .ok (.goto (-21), 3) := by decide +kernel
theorem dX10_done_36 : decode cX10_done 36 = .ok (.aload_n 0, 1) := by decide +kernel
theorem dX10_done_37 : decode cX10_done 37 = .ok (.iconst 0, 1) := by decide +kernel
theorem dX10_done_38 : decode cX10_done 38 = .ok (.putfield 72, 3) := by decide +kernel
theorem dX10_done_41 : decode cX10_done 41 = .ok (.aload_n 0, 1) := by decide +kernel
theorem dX10_done_42 : decode cX10_done 42 = .ok (.getfield 125, 3) := by decide +kernel
theorem dX10_done_45 : decode cX10_done 45 = .ok (.ireturn, 1) := by decide +kernel
theorem dX10_behind_0 : decode cX10_behind 0 = .ok (.iload_n 1, 1) := by decide +kernel
theorem dX10_behind_1 : decode cX10_behind 1 = .ok (.invokestatic 61, 3) := by decide +kernel
theorem dX10_behind_4 : decode cX10_behind 4 = .ok (.ifCond .ne 5, 3) := by decide +kernel
theorem dX10_behind_7 : decode cX10_behind 7 = .ok (.iconst (-1), 1) := by decide +kernel
theorem dX10_behind_8 : decode cX10_behind 8 = .ok (.ireturn, 1) := by decide +kernel
theorem dX10_behind_9 : decode cX10_behind 9 = .ok (.iload_n 2, 1) := by decide +kernel
theorem dX10_behind_10 : decode cX10_behind 10 = .ok (.iconst 0, 1) := by decide +kernel
theorem dX10_behind_11 : decode cX10_behind 11 = .ok (.iconst 2, 1) := by decide +kernel
theorem dX10_behind_12 : decode cX10_behind 12 = .ok (.invokestatic 57, 3) := by decide +kernel
theorem dX10_behind_15 : decode cX10_behind 15 = .ok (.ifCond .ne 6, 3) := by decide +kernel
theorem dX10_behind_18 : decode cX10_behind 18 = .ok (.bipush (-2), 2) := by decide +kernel
theorem dX10_behind_20 : decode cX10_behind 20 = .ok (.ireturn, 1) := by decide +kernel
theorem dX10_behind_21 : decode cX10_behind 21 = .ok (.aload_n 0, 1) := by decide +kernel
theorem dX10_behind_22 : decode cX10_behind 22 = .ok (.invokevirtual 146, 3) := by decide +kernel
theorem dX10_behind_25 : decode cX10_behind 25 = .ok (.ifCond .ge 8, 3) := by decide +kernel
theorem dX10_behind_28 : decode cX10_behind 28 = .ok (.bipush (-5), 2) := by decide +kernel
theorem dX10_behind_30 : decode cX10_behind 30 = .ok (.goto 14, 3) := by decide +kernel
theorem dX10_behind_33 : decode cX10_behind 33 = .ok (.aload_n 0, 1) := by decide +kernel
theorem dX10_behind_34 : decode cX10_behind 34 = .ok (.getfield 13, 3) := by decide +kernel
theorem dX10_behind_37 : decode cX10_behind 37 = .ok (.bipush 6, 2) := by decide +kernel
theorem dX10_behind_39 : decode cX10_behind 39 = .ok (.iload_n 2, 1) := by decide +kernel
theorem dX10_behind_40 : decode cX10_behind 40 = .ok (.imul, 1) := by decide +kernel
theorem dX10_behind_41 : decode cX10_behind 41 = .ok (.iload_n 1, 1) := by decide +kernel
theorem dX10_behind_42 : decode cX10_behind 42 = .ok (.iadd, 1) := by decide +kernel
theorem dX10_behind_43 : decode cX10_behind 43 = .ok (.iaload, 1) := by decide +kernel
theorem dX10_behind_44 : decode cX10_behind 44 = .ok (.ireturn, 1) := by decide +kernel
theorem dX10_lies_0 : decode cX10_lies 0 = .ok (.iload_n 1, 1) := by decide +kernel
theorem dX10_lies_1 : decode cX10_lies 1 = .ok (.invokestatic 66, 3) := by decide +kernel
theorem dX10_lies_4 : decode cX10_lies 4 = .ok (.ifCond .ne 5, 3) := by decide +kernel
theorem dX10_lies_7 : decode cX10_lies 7 = .ok (.iconst (-1), 1) := by decide +kernel
theorem dX10_lies_8 : decode cX10_lies 8 = .ok (.ireturn, 1) := by decide +kernel
theorem dX10_lies_9 : decode cX10_lies 9 = .ok (.aload_n 0, 1) := by decide +kernel
theorem dX10_lies_10 : decode cX10_lies 10 = .ok (.invokevirtual 146, 3) := by decide +kernel
theorem dX10_lies_13 : decode cX10_lies 13 = .ok (.ifCond .ge 8, 3) := by decide +kernel
theorem dX10_lies_16 : decode cX10_lies 16 = .ok (.bipush (-5), 2) := by decide +kernel
theorem dX10_lies_18 : decode cX10_lies 18 = .ok (.goto 12, 3) := by decide +kernel
theorem dX10_lies_21 : decode cX10_lies 21 = .ok (.aload_n 0, 1) := by decide +kernel
theorem dX10_lies_22 : decode cX10_lies 22 = .ok (.getfield 13, 3) := by decide +kernel
theorem dX10_lies_25 : decode cX10_lies 25 = .ok (.bipush 18, 2) := by decide +kernel
theorem dX10_lies_27 : decode cX10_lies 27 = .ok (.iload_n 1, 1) := by decide +kernel
theorem dX10_lies_28 : decode cX10_lies 28 = .ok (.iadd, 1) := by decide +kernel
theorem dX10_lies_29 : decode cX10_lies 29 = .ok (.iaload, 1) := by decide +kernel
theorem dX10_lies_30 : decode cX10_lies 30 = .ok (.ireturn, 1) := by decide +kernel
theorem dX10_built_0 : decode cX10_built 0 = .ok (.iload_n 1, 1) := by decide +kernel
theorem dX10_built_1 : decode cX10_built 1 = .ok (.invokestatic 69, 3) := by decide +kernel
theorem dX10_built_4 : decode cX10_built 4 = .ok (.ifCond .ne 5, 3) := by decide +kernel
theorem dX10_built_7 : decode cX10_built 7 = .ok (.iconst (-1), 1) := by decide +kernel
theorem dX10_built_8 : decode cX10_built 8 = .ok (.ireturn, 1) := by decide +kernel
theorem dX10_built_9 : decode cX10_built 9 = .ok (.iload_n 2, 1) := by decide +kernel
theorem dX10_built_10 : decode cX10_built 10 = .ok (.iconst 0, 1) := by decide +kernel
theorem dX10_built_11 : decode cX10_built 11 = .ok (.iconst 2, 1) := by decide +kernel
theorem dX10_built_12 : decode cX10_built 12 = .ok (.invokestatic 57, 3) := by decide +kernel
theorem dX10_built_15 : decode cX10_built 15 = .ok (.ifCond .ne 6, 3) := by decide +kernel
theorem dX10_built_18 : decode cX10_built 18 = .ok (.bipush (-2), 2) := by decide +kernel
theorem dX10_built_20 : decode cX10_built 20 = .ok (.ireturn, 1) := by decide +kernel
theorem dX10_built_21 : decode cX10_built 21 = .ok (.aload_n 0, 1) := by decide +kernel
theorem dX10_built_22 : decode cX10_built 22 = .ok (.invokevirtual 146, 3) := by decide +kernel
theorem dX10_built_25 : decode cX10_built 25 = .ok (.ifCond .ge 6, 3) := by decide +kernel
theorem dX10_built_28 : decode cX10_built 28 = .ok (.bipush (-5), 2) := by decide +kernel
theorem dX10_built_30 : decode cX10_built 30 = .ok (.ireturn, 1) := by decide +kernel
theorem dX10_built_31 : decode cX10_built 31 = .ok (.iload_n 2, 1) := by decide +kernel
theorem dX10_built_32 : decode cX10_built 32 = .ok (.iconst 2, 1) := by decide +kernel
theorem dX10_built_33 : decode cX10_built 33 = .ok (.if_icmp .ge 17, 3) := by decide +kernel
theorem dX10_built_36 : decode cX10_built 36 = .ok (.aload_n 0, 1) := by decide +kernel
theorem dX10_built_37 : decode cX10_built 37 = .ok (.getfield 13, 3) := by decide +kernel
theorem dX10_built_40 : decode cX10_built 40 = .ok (.bipush 26, 2) := by decide +kernel
theorem dX10_built_42 : decode cX10_built 42 = .ok (.iconst 4, 1) := by decide +kernel
theorem dX10_built_43 : decode cX10_built 43 = .ok (.iload_n 2, 1) := by decide +kernel
theorem dX10_built_44 : decode cX10_built 44 = .ok (.imul, 1) := by decide +kernel
theorem dX10_built_45 : decode cX10_built 45 = .ok (.iadd, 1) := by decide +kernel
theorem dX10_built_46 : decode cX10_built 46 = .ok (.iload_n 1, 1) := by decide +kernel
theorem dX10_built_47 : decode cX10_built 47 = .ok (.iadd, 1) := by decide +kernel
theorem dX10_built_48 : decode cX10_built 48 = .ok (.iaload, 1) := by decide +kernel
theorem dX10_built_49 : decode cX10_built 49 = .ok (.ireturn, 1) := by decide +kernel
theorem dX10_built_50 : decode cX10_built 50 = .ok (.aload_n 0, 1) := by decide +kernel
theorem dX10_built_51 : decode cX10_built 51 = .ok (.iload_n 1, 1) := by decide +kernel
theorem dX10_built_52 : decode cX10_built 52 = .ok (.invokevirtual 94, 3) := by decide +kernel
theorem dX10_built_55 : decode cX10_built 55 = .ok (.ifCond .eq 35, 3) := by decide +kernel
theorem dX10_built_58 : decode cX10_built 58 = .ok (.aload_n 0, 1) := by decide +kernel
theorem dX10_built_59 : decode cX10_built 59 = .ok (.getfield 13, 3) := by decide +kernel
theorem dX10_built_62 : decode cX10_built 62 = .ok (.bipush 26, 2) := by decide +kernel
theorem dX10_built_64 : decode cX10_built 64 = .ok (.iload_n 1, 1) := by decide +kernel
theorem dX10_built_65 : decode cX10_built 65 = .ok (.iadd, 1) := by decide +kernel
theorem dX10_built_66 : decode cX10_built 66 = .ok (.iaload, 1) := by decide +kernel
theorem dX10_built_67 : decode cX10_built 67 = .ok (.aload_n 0, 1) := by decide +kernel
theorem dX10_built_68 : decode cX10_built 68 = .ok (.getfield 13, 3) := by decide +kernel
theorem dX10_built_71 : decode cX10_built 71 = .ok (.bipush 30, 2) := by decide +kernel
theorem dX10_built_73 : decode cX10_built 73 = .ok (.iload_n 1, 1) := by decide +kernel
theorem dX10_built_74 : decode cX10_built 74 = .ok (.iadd, 1) := by decide +kernel
theorem dX10_built_75 : decode cX10_built 75 = .ok (.iaload, 1) := by decide +kernel
theorem dX10_built_76 : decode cX10_built 76 = .ok (.iadd, 1) := by decide +kernel
theorem dX10_built_77 : decode cX10_built 77 = .ok (.aload_n 0, 1) := by decide +kernel
theorem dX10_built_78 : decode cX10_built 78 = .ok (.getfield 13, 3) := by decide +kernel
theorem dX10_built_81 : decode cX10_built 81 = .ok (.bipush 34, 2) := by decide +kernel
theorem dX10_built_83 : decode cX10_built 83 = .ok (.iload_n 1, 1) := by decide +kernel
theorem dX10_built_84 : decode cX10_built 84 = .ok (.iadd, 1) := by decide +kernel
theorem dX10_built_85 : decode cX10_built 85 = .ok (.iaload, 1) := by decide +kernel
theorem dX10_built_86 : decode cX10_built 86 = .ok (.isub, 1) := by decide +kernel
theorem dX10_built_87 : decode cX10_built 87 = .ok (.goto 5, 3) := by decide +kernel
theorem dX10_built_90 : decode cX10_built 90 = .ok (.bipush (-6), 2) := by decide +kernel
theorem dX10_built_92 : decode cX10_built 92 = .ok (.ireturn, 1) := by decide +kernel
theorem dX10_then_0 : decode cX10_then 0 = .ok (.iload_n 1, 1) := by decide +kernel
theorem dX10_then_1 : decode cX10_then 1 = .ok (.iconst 0, 1) := by decide +kernel
theorem dX10_then_2 : decode cX10_then 2 = .ok (.iconst 3, 1) := by decide +kernel
theorem dX10_then_3 : decode cX10_then 3 = .ok (.invokestatic 57, 3) := by decide +kernel
theorem dX10_then_6 : decode cX10_then 6 = .ok (.ifCond .ne 6, 3) := by decide +kernel
theorem dX10_then_9 : decode cX10_then 9 = .ok (.bipush (-2), 2) := by decide +kernel
theorem dX10_then_11 : decode cX10_then 11 = .ok (.ireturn, 1) := by decide +kernel
theorem dX10_then_12 : decode cX10_then 12 = .ok (.aload_n 0, 1) := by decide +kernel
theorem dX10_then_13 : decode cX10_then 13 = .ok (.invokevirtual 146, 3) := by decide +kernel
theorem dX10_then_16 : decode cX10_then 16 = .ok (.ifCond .ge 6, 3) := by decide +kernel
theorem dX10_then_19 : decode cX10_then 19 = .ok (.bipush (-5), 2) := by decide +kernel
theorem dX10_then_21 : decode cX10_then 21 = .ok (.ireturn, 1) := by decide +kernel
theorem dX10_then_22 : decode cX10_then 22 = .ok (.iload_n 1, 1) := by decide +kernel
theorem dX10_then_23 : decode cX10_then 23 = .ok (.iconst 2, 1) := by decide +kernel
theorem dX10_then_24 : decode cX10_then 24 = .ok (.if_icmp .ge 15, 3) := by decide +kernel
theorem dX10_then_27 : decode cX10_then 27 = .ok (.aload_n 0, 1) := by decide +kernel
theorem dX10_then_28 : decode cX10_then 28 = .ok (.getfield 13, 3) := by decide +kernel
theorem dX10_then_31 : decode cX10_then 31 = .ok (.bipush 38, 2) := by decide +kernel
theorem dX10_then_33 : decode cX10_then 33 = .ok (.iload_n 1, 1) := by decide +kernel
theorem dX10_then_34 : decode cX10_then 34 = .ok (.iadd, 1) := by decide +kernel
theorem dX10_then_35 : decode cX10_then 35 = .ok (.iaload, 1) := by decide +kernel
theorem dX10_then_36 : decode cX10_then 36 = .ok (.goto 19, 3) := by decide +kernel
theorem dX10_then_39 : decode cX10_then 39 = .ok (.iload_n 1, 1) := by decide +kernel
theorem dX10_then_40 : decode cX10_then 40 = .ok (.iconst 2, 1) := by decide +kernel
theorem dX10_then_41 : decode cX10_then 41 = .ok (.if_icmp .ne 10, 3) := by decide +kernel
theorem dX10_then_44 : decode cX10_then 44 = .ok (.aload_n 0, 1) := by decide +kernel
theorem dX10_then_45 : decode cX10_then 45 = .ok (.getfield 84, 3) := by decide +kernel
theorem dX10_then_48 : decode cX10_then 48 = .ok (.goto 7, 3) := by decide +kernel
theorem dX10_then_51 : decode cX10_then 51 = .ok (.aload_n 0, 1) := by decide +kernel
theorem dX10_then_52 : decode cX10_then 52 = .ok (.getfield 87, 3) := by decide +kernel
theorem dX10_then_55 : decode cX10_then 55 = .ok (.ireturn, 1) := by decide +kernel
theorem dX10_lowest_0 : decode cX10_lowest 0 = .ok (.lload_n 0, 1) := by decide +kernel
theorem dX10_lowest_1 : decode cX10_lowest 1 = .ok (.lstore 5, 2) := by decide +kernel
theorem dX10_lowest_3 : decode cX10_lowest 3 = .ok (.lload_n 2, 1) := by decide +kernel
theorem dX10_lowest_4 : decode cX10_lowest 4 = .ok (.lstore 7, 2) := by decide +kernel
theorem dX10_lowest_6 : decode cX10_lowest 6 = .ok (.lload 7, 2) := by decide +kernel
theorem dX10_lowest_8 : decode cX10_lowest 8 = .ok (.lconst 0, 1) := by decide +kernel
theorem dX10_lowest_9 : decode cX10_lowest 9 = .ok (.lcmp, 1) := by decide +kernel
theorem dX10_lowest_10 : decode cX10_lowest 10 = .ok (.ifCond .eq 21, 3) := by decide +kernel
theorem dX10_lowest_13 : decode cX10_lowest 13 = .ok (.lload 5, 2) := by decide +kernel
theorem dX10_lowest_15 : decode cX10_lowest 15 = .ok (.lload 7, 2) := by decide +kernel
theorem dX10_lowest_17 : decode cX10_lowest 17 = .ok (.lrem, 1) := by decide +kernel
theorem dX10_lowest_18 : decode cX10_lowest 18 = .ok (.lstore 9, 2) := by decide +kernel
theorem dX10_lowest_20 : decode cX10_lowest 20 = .ok (.lload 7, 2) := by decide +kernel
theorem dX10_lowest_22 : decode cX10_lowest 22 = .ok (.lstore 5, 2) := by decide +kernel
theorem dX10_lowest_24 : decode cX10_lowest 24 = .ok (.lload 9, 2) := by decide +kernel
theorem dX10_lowest_26 : decode cX10_lowest 26 = .ok (.lstore 7, 2) := by decide +kernel
theorem dX10_lowest_28 : decode cX10_lowest 28 = .ok (.goto (-22), 3) := by decide +kernel
theorem dX10_lowest_31 : decode cX10_lowest 31 = .ok (.iload 4, 2) := by decide +kernel
theorem dX10_lowest_33 : decode cX10_lowest 33 = .ok (.ifCond .ne 10, 3) := by decide +kernel
theorem dX10_lowest_36 : decode cX10_lowest 36 = .ok (.lload_n 0, 1) := by decide +kernel
theorem dX10_lowest_37 : decode cX10_lowest 37 = .ok (.lload 5, 2) := by decide +kernel
theorem dX10_lowest_39 : decode cX10_lowest 39 = .ok (.ldiv, 1) := by decide +kernel
theorem dX10_lowest_40 : decode cX10_lowest 40 = .ok (.goto 7, 3) := by decide +kernel
theorem dX10_lowest_43 : decode cX10_lowest 43 = .ok (.lload_n 2, 1) := by decide +kernel
theorem dX10_lowest_44 : decode cX10_lowest 44 = .ok (.lload 5, 2) := by decide +kernel
theorem dX10_lowest_46 : decode cX10_lowest 46 = .ok (.ldiv, 1) := by decide +kernel
theorem dX10_lowest_47 : decode cX10_lowest 47 = .ok (.lreturn, 1) := by decide +kernel
theorem dX10_inches_0 : decode cX10_inches 0 = .ok (.iload_n 1, 1) := by decide +kernel
theorem dX10_inches_1 : decode cX10_inches 1 = .ok (.invokestatic 66, 3) := by decide +kernel
theorem dX10_inches_4 : decode cX10_inches 4 = .ok (.ifCond .eq 10, 3) := by decide +kernel
theorem dX10_inches_7 : decode cX10_inches 7 = .ok (.iload_n 2, 1) := by decide +kernel
theorem dX10_inches_8 : decode cX10_inches 8 = .ok (.invokestatic 61, 3) := by decide +kernel
theorem dX10_inches_11 : decode cX10_inches 11 = .ok (.ifCond .ne 7, 3) := by decide +kernel
theorem dX10_inches_14 : decode cX10_inches 14 = .ok (.ldc2_w 149, 3) := by decide +kernel
theorem dX10_inches_17 : decode cX10_inches 17 = .ok (.lreturn, 1) := by decide +kernel
theorem dX10_inches_18 : decode cX10_inches 18 = .ok (.iload_n 3, 1) := by decide +kernel
theorem dX10_inches_19 : decode cX10_inches 19 = .ok (.iconst 0, 1) := by decide +kernel
theorem dX10_inches_20 : decode cX10_inches 20 = .ok (.iconst 1, 1) := by decide +kernel
theorem dX10_inches_21 : decode cX10_inches 21 = .ok (.invokestatic 57, 3) := by decide +kernel
theorem dX10_inches_24 : decode cX10_inches 24 = .ok (.ifCond .ne 7, 3) := by decide +kernel
theorem dX10_inches_27 : decode cX10_inches 27 = .ok (.ldc2_w 151, 3) := by decide +kernel
theorem dX10_inches_30 : decode cX10_inches 30 = .ok (.lreturn, 1) := by decide +kernel
theorem dX10_inches_31 : decode cX10_inches 31 = .ok (.aload_n 0, 1) := by decide +kernel
theorem dX10_inches_32 : decode cX10_inches 32 = .ok (.invokevirtual 122, 3) := by decide +kernel
theorem dX10_inches_35 : decode cX10_inches 35 = .ok (.aload_n 0, 1) := by decide +kernel
theorem dX10_inches_36 : decode cX10_inches 36 = .ok (.getfield 7, 3) := by decide +kernel
theorem dX10_inches_39 : decode cX10_inches 39 = .ok (.bipush 18, 2) := by decide +kernel
theorem dX10_inches_41 : decode cX10_inches 41 = .ok (.iload_n 1, 1) := by decide +kernel
theorem dX10_inches_42 : decode cX10_inches 42 = .ok (.iadd, 1) := by decide +kernel
theorem dX10_inches_43 : decode cX10_inches 43 = .ok (.iaload, 1) := by decide +kernel
theorem dX10_inches_44 : decode cX10_inches 44 = .ok (.i2l, 1) := by decide +kernel
theorem dX10_inches_45 : decode cX10_inches 45 = .ok (.aload_n 0, 1) := by decide +kernel
theorem dX10_inches_46 : decode cX10_inches 46 = .ok (.iload_n 2, 1) := by decide +kernel
theorem dX10_inches_47 : decode cX10_inches 47 = .ok (.invokevirtual 90, 3) := by decide +kernel
theorem dX10_inches_50 : decode cX10_inches 50 = .ok (.i2l, 1) := by decide +kernel
theorem dX10_inches_51 : decode cX10_inches 51 = .ok (.iload_n 3, 1) := by decide +kernel
theorem dX10_inches_52 : decode cX10_inches 52 = .ok (.invokestatic 153, 3) := by decide +kernel
theorem dX10_inches_55 : decode cX10_inches 55 = .ok (.lreturn, 1) := by decide +kernel
theorem dX10_layWill_0 : decode cX10_layWill 0 = .ok (.aload_n 0, 1) := by decide +kernel
theorem dX10_layWill_1 : decode cX10_layWill 1 = .ok (.getfield 25, 3) := by decide +kernel
theorem dX10_layWill_4 : decode cX10_layWill 4 = .ok (.iconst 0, 1) := by decide +kernel
theorem dX10_layWill_5 : decode cX10_layWill 5 = .ok (.aload_n 0, 1) := by decide +kernel
theorem dX10_layWill_6 : decode cX10_layWill 6 = .ok (.getfield 7, 3) := by decide +kernel
theorem dX10_layWill_9 : decode cX10_layWill 9 = .ok (.bipush 38, 2) := by decide +kernel
theorem dX10_layWill_11 : decode cX10_layWill 11 = .ok (.iaload, 1) := by decide +kernel
theorem dX10_layWill_12 : decode cX10_layWill 12 = .ok (.iastore, 1) := by decide +kernel
theorem dX10_layWill_13 : decode cX10_layWill 13 = .ok (.iconst 1, 1) := by decide +kernel
theorem dX10_layWill_14 : decode cX10_layWill 14 = .ok (.istore_n 1, 1) := by decide +kernel
theorem dX10_layWill_15 : decode cX10_layWill 15 = .ok (.iload_n 1, 1) := by decide +kernel
theorem dX10_layWill_16 : decode cX10_layWill 16 = .ok (.bipush 100, 2) := by decide +kernel
theorem dX10_layWill_18 : decode cX10_layWill 18 = .ok (.if_icmp .ge 46, 3) := by decide +kernel
theorem dX10_layWill_21 : decode cX10_layWill 21 = .ok (.aload_n 0, 1) := by decide +kernel
theorem dX10_layWill_22 : decode cX10_layWill 22 = .ok (.getfield 25, 3) := by decide +kernel
theorem dX10_layWill_25 : decode cX10_layWill 25 = .ok (.iload_n 1, 1) := by decide +kernel
theorem dX10_layWill_26 : decode cX10_layWill 26 = .ok (.aload_n 0, 1) := by decide +kernel
theorem dX10_layWill_27 : decode cX10_layWill 27 = .ok (.getfield 25, 3) := by decide +kernel
theorem dX10_layWill_30 : decode cX10_layWill 30 = .ok (.iload_n 1, 1) := by decide +kernel
theorem dX10_layWill_31 : decode cX10_layWill 31 = .ok (.iconst 1, 1) := by decide +kernel
theorem dX10_layWill_32 : decode cX10_layWill 32 = .ok (.isub, 1) := by decide +kernel
theorem dX10_layWill_33 : decode cX10_layWill 33 = .ok (.iaload, 1) := by decide +kernel
theorem dX10_layWill_34 : decode cX10_layWill 34 = .ok (.aload_n 0, 1) := by decide +kernel
theorem dX10_layWill_35 : decode cX10_layWill 35 = .ok (.getfield 16, 3) := by decide +kernel
theorem dX10_layWill_38 : decode cX10_layWill 38 = .ok (.aload_n 0, 1) := by decide +kernel
theorem dX10_layWill_39 : decode cX10_layWill 39 = .ok (.getfield 7, 3) := by decide +kernel
theorem dX10_layWill_42 : decode cX10_layWill 42 = .ok (.bipush 39, 2) := by decide +kernel
theorem dX10_layWill_44 : decode cX10_layWill 44 = .ok (.iaload, 1) := by decide +kernel
theorem dX10_layWill_45 : decode cX10_layWill 45 = .ok (.iload_n 1, 1) := by decide +kernel
theorem dX10_layWill_46 : decode cX10_layWill 46 = .ok (.iadd, 1) := by decide +kernel
theorem dX10_layWill_47 : decode cX10_layWill 47 = .ok (.iconst 1, 1) := by decide +kernel
theorem dX10_layWill_48 : decode cX10_layWill 48 = .ok (.isub, 1) := by decide +kernel
theorem dX10_layWill_49 : decode cX10_layWill 49 = .ok (.bipush 7, 2) := by decide +kernel
theorem dX10_layWill_51 : decode cX10_layWill 51 = .ok (.irem, 1) := by decide +kernel
theorem dX10_layWill_52 : decode cX10_layWill 52 = .ok (.iaload, 1) := by decide +kernel
theorem dX10_layWill_53 : decode cX10_layWill 53 = .ok (.iadd, 1) := by decide +kernel
theorem dX10_layWill_54 : decode cX10_layWill 54 = .ok (.invokestatic 97, 3) := by decide +kernel
theorem dX10_layWill_57 : decode cX10_layWill 57 = .ok (.iastore, 1) := by decide +kernel
theorem dX10_layWill_58 : decode cX10_layWill 58 = .ok (.iinc 1 1, 3) := by decide +kernel
theorem dX10_layWill_61 : decode cX10_layWill 61 = .ok (.goto (-46), 3) := by decide +kernel
theorem dX10_layWill_64 : decode cX10_layWill 64 = .ok (.return_, 1) := by decide +kernel
theorem dX10_will_0 : decode cX10_will 0 = .ok (.iload_n 1, 1) := by decide +kernel
theorem dX10_will_1 : decode cX10_will 1 = .ok (.iconst 0, 1) := by decide +kernel
theorem dX10_will_2 : decode cX10_will 2 = .ok (.bipush 99, 2) := by decide +kernel
theorem dX10_will_4 : decode cX10_will 4 = .ok (.invokestatic 57, 3) := by decide +kernel
theorem dX10_will_7 : decode cX10_will 7 = .ok (.ifCond .ne 6, 3) := by decide +kernel
theorem dX10_will_10 : decode cX10_will 10 = .ok (.bipush (-2), 2) := by decide +kernel
theorem dX10_will_12 : decode cX10_will 12 = .ok (.ireturn, 1) := by decide +kernel
theorem dX10_will_13 : decode cX10_will 13 = .ok (.aload_n 0, 1) := by decide +kernel
theorem dX10_will_14 : decode cX10_will 14 = .ok (.invokevirtual 157, 3) := by decide +kernel
theorem dX10_will_17 : decode cX10_will 17 = .ok (.aload_n 0, 1) := by decide +kernel
theorem dX10_will_18 : decode cX10_will 18 = .ok (.getfield 25, 3) := by decide +kernel
theorem dX10_will_21 : decode cX10_will 21 = .ok (.iload_n 1, 1) := by decide +kernel
theorem dX10_will_22 : decode cX10_will 22 = .ok (.iaload, 1) := by decide +kernel
theorem dX10_will_23 : decode cX10_will 23 = .ok (.ireturn, 1) := by decide +kernel
theorem dX10_best_0 : decode cX10_best 0 = .ok (.aload_n 0, 1) := by decide +kernel
theorem dX10_best_1 : decode cX10_best 1 = .ok (.invokevirtual 157, 3) := by decide +kernel
theorem dX10_best_4 : decode cX10_best 4 = .ok (.iconst 1, 1) := by decide +kernel
theorem dX10_best_5 : decode cX10_best 5 = .ok (.istore_n 2, 1) := by decide +kernel
theorem dX10_best_6 : decode cX10_best 6 = .ok (.iconst 0, 1) := by decide +kernel
theorem dX10_best_7 : decode cX10_best 7 = .ok (.istore_n 3, 1) := by decide +kernel
theorem dX10_best_8 : decode cX10_best 8 = .ok (.iload_n 3, 1) := by decide +kernel
theorem dX10_best_9 : decode cX10_best 9 = .ok (.iload_n 1, 1) := by decide +kernel
theorem dX10_best_10 : decode cX10_best 10 = .ok (.if_icmp .ge 86, 3) := by decide +kernel
theorem dX10_best_13 : decode cX10_best 13 = .ok (.iload_n 3, 1) := by decide +kernel
theorem dX10_best_14 : decode cX10_best 14 = .ok (.iconst 1, 1) := by decide +kernel
theorem dX10_best_15 : decode cX10_best 15 = .ok (.iadd, 1) := by decide +kernel
theorem dX10_best_16 : decode cX10_best 16 = .ok (.istore 4, 2) := by decide +kernel
theorem dX10_best_18 : decode cX10_best 18 = .ok (.iload 4, 2) := by decide +kernel
theorem dX10_best_20 : decode cX10_best 20 = .ok (.iload_n 1, 1) := by decide +kernel
theorem dX10_best_21 : decode cX10_best 21 = .ok (.if_icmp .gt 69, 3) := by decide +kernel
theorem dX10_best_24 : decode cX10_best 24 = .ok (.aload_n 0, 1) := by decide +kernel
theorem dX10_best_25 : decode cX10_best 25 = .ok (.getfield 25, 3) := by decide +kernel
theorem dX10_best_28 : decode cX10_best 28 = .ok (.iload_n 3, 1) := by decide +kernel
theorem dX10_best_29 : decode cX10_best 29 = .ok (.iaload, 1) := by decide +kernel
theorem dX10_best_30 : decode cX10_best 30 = .ok (.aload_n 0, 1) := by decide +kernel
theorem dX10_best_31 : decode cX10_best 31 = .ok (.getfield 25, 3) := by decide +kernel
theorem dX10_best_34 : decode cX10_best 34 = .ok (.iload_n 2, 1) := by decide +kernel
theorem dX10_best_35 : decode cX10_best 35 = .ok (.bipush 100, 2) := by decide +kernel
theorem dX10_best_37 : decode cX10_best 37 = .ok (.irem, 1) := by decide +kernel
theorem dX10_best_38 : decode cX10_best 38 = .ok (.iaload, 1) := by decide +kernel
theorem dX10_best_39 : decode cX10_best 39 = .ok (.imul, 1) := by decide +kernel
theorem dX10_best_40 : decode cX10_best 40 = .ok (.aload_n 0, 1) := by decide +kernel
theorem dX10_best_41 : decode cX10_best 41 = .ok (.getfield 25, 3) := by decide +kernel
theorem dX10_best_44 : decode cX10_best 44 = .ok (.iload_n 2, 1) := by decide +kernel
theorem dX10_best_45 : decode cX10_best 45 = .ok (.bipush 100, 2) := by decide +kernel
theorem dX10_best_47 : decode cX10_best 47 = .ok (.idiv, 1) := by decide +kernel
theorem dX10_best_48 : decode cX10_best 48 = .ok (.iaload, 1) := by decide +kernel
theorem dX10_best_49 : decode cX10_best 49 = .ok (.aload_n 0, 1) := by decide +kernel
theorem dX10_best_50 : decode cX10_best 50 = .ok (.getfield 25, 3) := by decide +kernel
theorem dX10_best_53 : decode cX10_best 53 = .ok (.iload 4, 2) := by decide +kernel
theorem dX10_best_55 : decode cX10_best 55 = .ok (.iaload, 1) := by decide +kernel
theorem dX10_best_56 : decode cX10_best 56 = .ok (.imul, 1) := by decide +kernel
theorem dX10_best_57 : decode cX10_best 57 = .ok (.if_icmp .le 7, 3) := by decide +kernel
theorem dX10_best_60 : decode cX10_best 60 = .ok (.iconst 1, 1) := by decide +kernel
theorem dX10_best_61 : decode cX10_best 61 = .ok (.goto 4, 3) := by decide +kernel
theorem dX10_best_64 : decode cX10_best 64 = .ok (.iconst 0, 1) := by decide +kernel
theorem dX10_best_65 : decode cX10_best 65 = .ok (.istore 5, 2) := by decide +kernel
theorem dX10_best_67 : decode cX10_best 67 = .ok (.iload 5, 2) := by decide +kernel
theorem dX10_best_69 : decode cX10_best 69 = .ok (.ifCond .eq 13, 3) := by decide +kernel
theorem dX10_best_72 : decode cX10_best 72 = .ok (.bipush 100, 2) := by decide +kernel
theorem dX10_best_74 : decode cX10_best 74 = .ok (.iload_n 3, 1) := by decide +kernel
theorem dX10_best_75 : decode cX10_best 75 = .ok (.imul, 1) := by decide +kernel
theorem dX10_best_76 : decode cX10_best 76 = .ok (.iload 4, 2) := by decide +kernel
theorem dX10_best_78 : decode cX10_best 78 = .ok (.iadd, 1) := by decide +kernel
theorem dX10_best_79 : decode cX10_best 79 = .ok (.goto 4, 3) := by decide +kernel
theorem dX10_best_82 : decode cX10_best 82 = .ok (.iload_n 2, 1) := by decide +kernel
theorem dX10_best_83 : decode cX10_best 83 = .ok (.istore_n 2, 1) := by decide +kernel
theorem dX10_best_84 : decode cX10_best 84 = .ok (.iinc 4 1, 3) := by decide +kernel
theorem dX10_best_87 : decode cX10_best 87 = .ok (.goto (-69), 3) := by decide +kernel
theorem dX10_best_90 : decode cX10_best 90 = .ok (.iinc 3 1, 3) := by decide +kernel
theorem dX10_best_93 : decode cX10_best 93 = .ok (.goto (-85), 3) := by decide +kernel
theorem dX10_best_96 : decode cX10_best 96 = .ok (.iload_n 2, 1) := by decide +kernel
theorem dX10_best_97 : decode cX10_best 97 = .ok (.ireturn, 1) := by decide +kernel
theorem dX10_sure_0 : decode cX10_sure 0 = .ok (.iload_n 1, 1) := by decide +kernel
theorem dX10_sure_1 : decode cX10_sure 1 = .ok (.iconst 1, 1) := by decide +kernel
theorem dX10_sure_2 : decode cX10_sure 2 = .ok (.bipush 60, 2) := by decide +kernel
theorem dX10_sure_4 : decode cX10_sure 4 = .ok (.invokestatic 57, 3) := by decide +kernel
theorem dX10_sure_7 : decode cX10_sure 7 = .ok (.ifCond .eq 12, 3) := by decide +kernel
theorem dX10_sure_10 : decode cX10_sure 10 = .ok (.iload_n 2, 1) := by decide +kernel
theorem dX10_sure_11 : decode cX10_sure 11 = .ok (.iconst 0, 1) := by decide +kernel
theorem dX10_sure_12 : decode cX10_sure 12 = .ok (.iconst 1, 1) := by decide +kernel
theorem dX10_sure_13 : decode cX10_sure 13 = .ok (.invokestatic 57, 3) := by decide +kernel
theorem dX10_sure_16 : decode cX10_sure 16 = .ok (.ifCond .ne 7, 3) := by decide +kernel
theorem dX10_sure_19 : decode cX10_sure 19 = .ok (.ldc2_w 151, 3) := by decide +kernel
theorem dX10_sure_22 : decode cX10_sure 22 = .ok (.lreturn, 1) := by decide +kernel
theorem dX10_sure_23 : decode cX10_sure 23 = .ok (.aload_n 0, 1) := by decide +kernel
theorem dX10_sure_24 : decode cX10_sure 24 = .ok (.iload_n 1, 1) := by decide +kernel
theorem dX10_sure_25 : decode cX10_sure 25 = .ok (.invokevirtual 160, 3) := by decide +kernel
theorem dX10_sure_28 : decode cX10_sure 28 = .ok (.istore_n 3, 1) := by decide +kernel
theorem dX10_sure_29 : decode cX10_sure 29 = .ok (.aload_n 0, 1) := by decide +kernel
theorem dX10_sure_30 : decode cX10_sure 30 = .ok (.getfield 25, 3) := by decide +kernel
theorem dX10_sure_33 : decode cX10_sure 33 = .ok (.iload_n 3, 1) := by decide +kernel
theorem dX10_sure_34 : decode cX10_sure 34 = .ok (.bipush 100, 2) := by decide +kernel
theorem dX10_sure_36 : decode cX10_sure 36 = .ok (.idiv, 1) := by decide +kernel
theorem dX10_sure_37 : decode cX10_sure 37 = .ok (.iaload, 1) := by decide +kernel
theorem dX10_sure_38 : decode cX10_sure 38 = .ok (.i2l, 1) := by decide +kernel
theorem dX10_sure_39 : decode cX10_sure 39 = .ok (.aload_n 0, 1) := by decide +kernel
theorem dX10_sure_40 : decode cX10_sure 40 = .ok (.getfield 25, 3) := by decide +kernel
theorem dX10_sure_43 : decode cX10_sure 43 = .ok (.iload_n 3, 1) := by decide +kernel
theorem dX10_sure_44 : decode cX10_sure 44 = .ok (.bipush 100, 2) := by decide +kernel
theorem dX10_sure_46 : decode cX10_sure 46 = .ok (.irem, 1) := by decide +kernel
theorem dX10_sure_47 : decode cX10_sure 47 = .ok (.iaload, 1) := by decide +kernel
theorem dX10_sure_48 : decode cX10_sure 48 = .ok (.i2l, 1) := by decide +kernel
theorem dX10_sure_49 : decode cX10_sure 49 = .ok (.iload_n 2, 1) := by decide +kernel
theorem dX10_sure_50 : decode cX10_sure 50 = .ok (.invokestatic 153, 3) := by decide +kernel
theorem dX10_sure_53 : decode cX10_sure 53 = .ok (.lreturn, 1) := by decide +kernel
theorem dX10_when_0 : decode cX10_when 0 = .ok (.iload_n 1, 1) := by decide +kernel
theorem dX10_when_1 : decode cX10_when 1 = .ok (.iconst 1, 1) := by decide +kernel
theorem dX10_when_2 : decode cX10_when 2 = .ok (.bipush 60, 2) := by decide +kernel
theorem dX10_when_4 : decode cX10_when 4 = .ok (.invokestatic 57, 3) := by decide +kernel
theorem dX10_when_7 : decode cX10_when 7 = .ok (.ifCond .eq 11, 3) := by decide +kernel
theorem dX10_when_10 : decode cX10_when 10 = .ok (.aload_n 0, 1) := by decide +kernel
theorem dX10_when_11 : decode cX10_when 11 = .ok (.iload_n 1, 1) := by decide +kernel
theorem dX10_when_12 : decode cX10_when 12 = .ok (.invokevirtual 160, 3) := by decide +kernel
theorem dX10_when_15 : decode cX10_when 15 = .ok (.goto 5, 3) := by decide +kernel
theorem dX10_when_18 : decode cX10_when 18 = .ok (.bipush (-2), 2) := by decide +kernel
theorem dX10_when_20 : decode cX10_when 20 = .ok (.ireturn, 1) := by decide +kernel
theorem dX10_meet_0 : decode cX10_meet 0 = .ok (.iload_n 1, 1) := by decide +kernel
theorem dX10_meet_1 : decode cX10_meet 1 = .ok (.iconst 1, 1) := by decide +kernel
theorem dX10_meet_2 : decode cX10_meet 2 = .ok (.ldc 65, 2) := by decide +kernel
theorem dX10_meet_4 : decode cX10_meet 4 = .ok (.invokestatic 57, 3) := by decide +kernel
theorem dX10_meet_7 : decode cX10_meet 7 = .ok (.ifCond .eq 45, 3) := by decide +kernel
theorem dX10_meet_10 : decode cX10_meet 10 = .ok (.iload_n 2, 1) := by decide +kernel
theorem dX10_meet_11 : decode cX10_meet 11 = .ok (.iconst 0, 1) := by decide +kernel
theorem dX10_meet_12 : decode cX10_meet 12 = .ok (.bipush 20, 2) := by decide +kernel
theorem dX10_meet_14 : decode cX10_meet 14 = .ok (.invokestatic 57, 3) := by decide +kernel
theorem dX10_meet_17 : decode cX10_meet 17 = .ok (.ifCond .eq 35, 3) := by decide +kernel
theorem dX10_meet_20 : decode cX10_meet 20 = .ok (.iload_n 3, 1) := by decide +kernel
theorem dX10_meet_21 : decode cX10_meet 21 = .ok (.iconst 0, 1) := by decide +kernel
theorem dX10_meet_22 : decode cX10_meet 22 = .ok (.bipush 20, 2) := by decide +kernel
theorem dX10_meet_24 : decode cX10_meet 24 = .ok (.invokestatic 57, 3) := by decide +kernel
theorem dX10_meet_27 : decode cX10_meet 27 = .ok (.ifCond .eq 25, 3) := by decide +kernel
theorem dX10_meet_30 : decode cX10_meet 30 = .ok (.iload 4, 2) := by decide +kernel
theorem dX10_meet_32 : decode cX10_meet 32 = .ok (.iconst 1, 1) := by decide +kernel
theorem dX10_meet_33 : decode cX10_meet 33 = .ok (.sipush 200, 3) := by decide +kernel
theorem dX10_meet_36 : decode cX10_meet 36 = .ok (.invokestatic 57, 3) := by decide +kernel
theorem dX10_meet_39 : decode cX10_meet 39 = .ok (.ifCond .eq 13, 3) := by decide +kernel
theorem dX10_meet_42 : decode cX10_meet 42 = .ok (.iload 5, 2) := by decide +kernel
theorem dX10_meet_44 : decode cX10_meet 44 = .ok (.iconst 0, 1) := by decide +kernel
theorem dX10_meet_45 : decode cX10_meet 45 = .ok (.iconst 1, 1) := by decide +kernel
theorem dX10_meet_46 : decode cX10_meet 46 = .ok (.invokestatic 57, 3) := by decide +kernel
theorem dX10_meet_49 : decode cX10_meet 49 = .ok (.ifCond .ne 6, 3) := by decide +kernel
theorem dX10_meet_52 : decode cX10_meet 52 = .ok (.bipush (-2), 2) := by decide +kernel
theorem dX10_meet_54 : decode cX10_meet 54 = .ok (.ireturn, 1) := by decide +kernel
theorem dX10_meet_55 : decode cX10_meet 55 = .ok (.aload_n 0, 1) := by decide +kernel
theorem dX10_meet_56 : decode cX10_meet 56 = .ok (.invokevirtual 157, 3) := by decide +kernel
theorem dX10_meet_59 : decode cX10_meet 59 = .ok (.iconst 0, 1) := by decide +kernel
theorem dX10_meet_60 : decode cX10_meet 60 = .ok (.istore 6, 2) := by decide +kernel
theorem dX10_meet_62 : decode cX10_meet 62 = .ok (.iconst 0, 1) := by decide +kernel
theorem dX10_meet_63 : decode cX10_meet 63 = .ok (.istore 7, 2) := by decide +kernel
theorem dX10_meet_65 : decode cX10_meet 65 = .ok (.iload 7, 2) := by decide +kernel
theorem dX10_meet_67 : decode cX10_meet 67 = .ok (.bipush 99, 2) := by decide +kernel
theorem dX10_meet_69 : decode cX10_meet 69 = .ok (.if_icmp .ge 51, 3) := by decide +kernel
theorem dX10_meet_72 : decode cX10_meet 72 = .ok (.iload 6, 2) := by decide +kernel
theorem dX10_meet_74 : decode cX10_meet 74 = .ok (.iload_n 2, 1) := by decide +kernel
theorem dX10_meet_75 : decode cX10_meet 75 = .ok (.aload_n 0, 1) := by decide +kernel
theorem dX10_meet_76 : decode cX10_meet 76 = .ok (.getfield 25, 3) := by decide +kernel
theorem dX10_meet_79 : decode cX10_meet 79 = .ok (.iload 7, 2) := by decide +kernel
theorem dX10_meet_81 : decode cX10_meet 81 = .ok (.iaload, 1) := by decide +kernel
theorem dX10_meet_82 : decode cX10_meet 82 = .ok (.imul, 1) := by decide +kernel
theorem dX10_meet_83 : decode cX10_meet 83 = .ok (.iload_n 3, 1) := by decide +kernel
theorem dX10_meet_84 : decode cX10_meet 84 = .ok (.iload 4, 2) := by decide +kernel
theorem dX10_meet_86 : decode cX10_meet 86 = .ok (.imul, 1) := by decide +kernel
theorem dX10_meet_87 : decode cX10_meet 87 = .ok (.iadd, 1) := by decide +kernel
theorem dX10_meet_88 : decode cX10_meet 88 = .ok (.iadd, 1) := by decide +kernel
theorem dX10_meet_89 : decode cX10_meet 89 = .ok (.istore 6, 2) := by decide +kernel
theorem dX10_meet_91 : decode cX10_meet 91 = .ok (.iload 6, 2) := by decide +kernel
theorem dX10_meet_93 : decode cX10_meet 93 = .ok (.iload_n 1, 1) := by decide +kernel
theorem dX10_meet_94 : decode cX10_meet 94 = .ok (.if_icmp .lt 20, 3) := by decide +kernel
theorem dX10_meet_97 : decode cX10_meet 97 = .ok (.iload 5, 2) := by decide +kernel
theorem dX10_meet_99 : decode cX10_meet 99 = .ok (.ifCond .ne 10, 3) := by decide +kernel
theorem dX10_meet_102 : decode cX10_meet 102 = .ok (.iload 7, 2) := by decide +kernel
theorem dX10_meet_104 : decode cX10_meet 104 = .ok (.iconst 1, 1) := by decide +kernel
theorem dX10_meet_105 : decode cX10_meet 105 = .ok (.iadd, 1) := by decide +kernel
theorem dX10_meet_106 : decode cX10_meet 106 = .ok (.goto 7, 3) := by decide +kernel
theorem dX10_meet_109 : decode cX10_meet 109 = .ok (.iload 6, 2) := by decide +kernel
theorem dX10_meet_111 : decode cX10_meet 111 = .ok (.iload_n 1, 1) := by decide +kernel
theorem dX10_meet_112 : decode cX10_meet 112 = .ok (.isub, 1) := by decide +kernel
theorem dX10_meet_113 : decode cX10_meet 113 = .ok (.ireturn, 1) := by decide +kernel
theorem dX10_meet_114 : decode cX10_meet 114 = .ok (.iinc 7 1, 3) := by decide +kernel
theorem dX10_meet_117 : decode cX10_meet 117 = .ok (.goto (-52), 3) := by decide +kernel
theorem dX10_meet_120 : decode cX10_meet 120 = .ok (.bipush (-6), 2) := by decide +kernel
theorem dX10_meet_122 : decode cX10_meet 122 = .ok (.ireturn, 1) := by decide +kernel
theorem dX10_waste_0 : decode cX10_waste 0 = .ok (.iload_n 1, 1) := by decide +kernel
theorem dX10_waste_1 : decode cX10_waste 1 = .ok (.invokestatic 66, 3) := by decide +kernel
theorem dX10_waste_4 : decode cX10_waste 4 = .ok (.ifCond .ne 5, 3) := by decide +kernel
theorem dX10_waste_7 : decode cX10_waste 7 = .ok (.iconst (-1), 1) := by decide +kernel
theorem dX10_waste_8 : decode cX10_waste 8 = .ok (.ireturn, 1) := by decide +kernel
theorem dX10_waste_9 : decode cX10_waste 9 = .ok (.iload_n 2, 1) := by decide +kernel
theorem dX10_waste_10 : decode cX10_waste 10 = .ok (.iconst 1, 1) := by decide +kernel
theorem dX10_waste_11 : decode cX10_waste 11 = .ok (.bipush 20, 2) := by decide +kernel
theorem dX10_waste_13 : decode cX10_waste 13 = .ok (.invokestatic 57, 3) := by decide +kernel
theorem dX10_waste_16 : decode cX10_waste 16 = .ok (.ifCond .eq 23, 3) := by decide +kernel
theorem dX10_waste_19 : decode cX10_waste 19 = .ok (.iload_n 3, 1) := by decide +kernel
theorem dX10_waste_20 : decode cX10_waste 20 = .ok (.iconst 1, 1) := by decide +kernel
theorem dX10_waste_21 : decode cX10_waste 21 = .ok (.bipush 20, 2) := by decide +kernel
theorem dX10_waste_23 : decode cX10_waste 23 = .ok (.invokestatic 57, 3) := by decide +kernel
theorem dX10_waste_26 : decode cX10_waste 26 = .ok (.ifCond .eq 13, 3) := by decide +kernel
theorem dX10_waste_29 : decode cX10_waste 29 = .ok (.iload 4, 2) := by decide +kernel
theorem dX10_waste_31 : decode cX10_waste 31 = .ok (.iconst 0, 1) := by decide +kernel
theorem dX10_waste_32 : decode cX10_waste 32 = .ok (.iconst 1, 1) := by decide +kernel
theorem dX10_waste_33 : decode cX10_waste 33 = .ok (.invokestatic 57, 3) := by decide +kernel
theorem dX10_waste_36 : decode cX10_waste 36 = .ok (.ifCond .ne 6, 3) := by decide +kernel
theorem dX10_waste_39 : decode cX10_waste 39 = .ok (.bipush (-2), 2) := by decide +kernel
theorem dX10_waste_41 : decode cX10_waste 41 = .ok (.ireturn, 1) := by decide +kernel
theorem dX10_waste_42 : decode cX10_waste 42 = .ok (.ldc 163, 2) := by decide +kernel
theorem dX10_waste_44 : decode cX10_waste 44 = .ok (.istore 5, 2) := by decide +kernel
theorem dX10_waste_46 : decode cX10_waste 46 = .ok (.iconst 0, 1) := by decide +kernel
theorem dX10_waste_47 : decode cX10_waste 47 = .ok (.istore 6, 2) := by decide +kernel
theorem dX10_waste_49 : decode cX10_waste 49 = .ok (.iconst 0, 1) := by decide +kernel
theorem dX10_waste_50 : decode cX10_waste 50 = .ok (.istore 7, 2) := by decide +kernel
theorem dX10_waste_52 : decode cX10_waste 52 = .ok (.aload_n 0, 1) := by decide +kernel
theorem dX10_waste_53 : decode cX10_waste 53 = .ok (.getfield 7, 3) := by decide +kernel
theorem dX10_waste_56 : decode cX10_waste 56 = .ok (.bipush 18, 2) := by decide +kernel
theorem dX10_waste_58 : decode cX10_waste 58 = .ok (.iload_n 1, 1) := by decide +kernel
theorem dX10_waste_59 : decode cX10_waste 59 = .ok (.iadd, 1) := by decide +kernel
theorem dX10_waste_60 : decode cX10_waste 60 = .ok (.iaload, 1) := by decide +kernel
theorem dX10_waste_61 : decode cX10_waste 61 = .ok (.istore 8, 2) := by decide +kernel
theorem dX10_waste_63 : decode cX10_waste 63 = .ok (.iload 8, 2) := by decide +kernel
theorem dX10_waste_65 : decode cX10_waste 65 = .ok (.ifCond .lt 69, 3) := by decide +kernel
theorem dX10_waste_68 : decode cX10_waste 68 = .ok (.iload 8, 2) := by decide +kernel
theorem dX10_waste_70 : decode cX10_waste 70 = .ok (.iload_n 3, 1) := by decide +kernel
theorem dX10_waste_71 : decode cX10_waste 71 = .ok (.aload_n 0, 1) := by decide +kernel
theorem dX10_waste_72 : decode cX10_waste 72 = .ok (.getfield 7, 3) := by decide +kernel
theorem dX10_waste_75 : decode cX10_waste 75 = .ok (.bipush 38, 2) := by decide +kernel
theorem dX10_waste_77 : decode cX10_waste 77 = .ok (.iaload, 1) := by decide +kernel
theorem dX10_waste_78 : decode cX10_waste 78 = .ok (.imul, 1) := by decide +kernel
theorem dX10_waste_79 : decode cX10_waste 79 = .ok (.irem, 1) := by decide +kernel
theorem dX10_waste_80 : decode cX10_waste 80 = .ok (.istore 9, 2) := by decide +kernel
theorem dX10_waste_82 : decode cX10_waste 82 = .ok (.iload 9, 2) := by decide +kernel
theorem dX10_waste_84 : decode cX10_waste 84 = .ok (.iload 5, 2) := by decide +kernel
theorem dX10_waste_86 : decode cX10_waste 86 = .ok (.if_icmp .ge 8, 3) := by decide +kernel
theorem dX10_waste_89 : decode cX10_waste 89 = .ok (.iload 7, 2) := by decide +kernel
theorem dX10_waste_91 : decode cX10_waste 91 = .ok (.goto 5, 3) := by decide +kernel
theorem dX10_waste_94 : decode cX10_waste 94 = .ok (.iload 6, 2) := by decide +kernel
theorem dX10_waste_96 : decode cX10_waste 96 = .ok (.istore 6, 2) := by decide +kernel
theorem dX10_waste_98 : decode cX10_waste 98 = .ok (.iload 9, 2) := by decide +kernel
theorem dX10_waste_100 : decode cX10_waste 100 = .ok (.iload 5, 2) := by decide +kernel
theorem dX10_waste_102 : decode cX10_waste 102 = .ok (.if_icmp .ge 8, 3) := by decide +kernel
theorem dX10_waste_105 : decode cX10_waste 105 = .ok (.iload 9, 2) := by decide +kernel
theorem dX10_waste_107 : decode cX10_waste 107 = .ok (.goto 5, 3) := by decide +kernel
theorem dX10_waste_110 : decode cX10_waste 110 = .ok (.iload 5, 2) := by decide +kernel
theorem dX10_waste_112 : decode cX10_waste 112 = .ok (.istore 5, 2) := by decide +kernel
theorem dX10_waste_114 : decode cX10_waste 114 = .ok (.iinc 7 1, 3) := by decide +kernel
theorem dX10_waste_117 : decode cX10_waste 117 = .ok (.iload 8, 2) := by decide +kernel
theorem dX10_waste_119 : decode cX10_waste 119 = .ok (.iload_n 2, 1) := by decide +kernel
theorem dX10_waste_120 : decode cX10_waste 120 = .ok (.aload_n 0, 1) := by decide +kernel
theorem dX10_waste_121 : decode cX10_waste 121 = .ok (.getfield 7, 3) := by decide +kernel
theorem dX10_waste_124 : decode cX10_waste 124 = .ok (.bipush 38, 2) := by decide +kernel
theorem dX10_waste_126 : decode cX10_waste 126 = .ok (.iaload, 1) := by decide +kernel
theorem dX10_waste_127 : decode cX10_waste 127 = .ok (.imul, 1) := by decide +kernel
theorem dX10_waste_128 : decode cX10_waste 128 = .ok (.isub, 1) := by decide +kernel
theorem dX10_waste_129 : decode cX10_waste 129 = .ok (.istore 8, 2) := by decide +kernel
theorem dX10_waste_131 : decode cX10_waste 131 = .ok (.goto (-68), 3) := by decide +kernel
theorem dX10_waste_134 : decode cX10_waste 134 = .ok (.iload 4, 2) := by decide +kernel
theorem dX10_waste_136 : decode cX10_waste 136 = .ok (.ifCond .ne 8, 3) := by decide +kernel
theorem dX10_waste_139 : decode cX10_waste 139 = .ok (.iload 5, 2) := by decide +kernel
theorem dX10_waste_141 : decode cX10_waste 141 = .ok (.goto 5, 3) := by decide +kernel
theorem dX10_waste_144 : decode cX10_waste 144 = .ok (.iload 6, 2) := by decide +kernel
theorem dX10_waste_146 : decode cX10_waste 146 = .ok (.ireturn, 1) := by decide +kernel
theorem dX10_countDays_0 : decode cX10_countDays 0 = .ok (.iconst 0, 1) := by decide +kernel
theorem dX10_countDays_1 : decode cX10_countDays 1 = .ok (.istore 5, 2) := by decide +kernel
theorem dX10_countDays_3 : decode cX10_countDays 3 = .ok (.iload_n 1, 1) := by decide +kernel
theorem dX10_countDays_4 : decode cX10_countDays 4 = .ok (.istore 6, 2) := by decide +kernel
theorem dX10_countDays_6 : decode cX10_countDays 6 = .ok (.iload 6, 2) := by decide +kernel
theorem dX10_countDays_8 : decode cX10_countDays 8 = .ok (.iload_n 2, 1) := by decide +kernel
theorem dX10_countDays_9 : decode cX10_countDays 9 = .ok (.if_icmp .gt 35, 3) := by decide +kernel
theorem dX10_countDays_12 : decode cX10_countDays 12 = .ok (.iload 5, 2) := by decide +kernel
theorem dX10_countDays_14 : decode cX10_countDays 14 = .ok (.aload_n 0, 1) := by decide +kernel
theorem dX10_countDays_15 : decode cX10_countDays 15 = .ok (.getfield 25, 3) := by decide +kernel
theorem dX10_countDays_18 : decode cX10_countDays 18 = .ok (.iload 6, 2) := by decide +kernel
theorem dX10_countDays_20 : decode cX10_countDays 20 = .ok (.iaload, 1) := by decide +kernel
theorem dX10_countDays_21 : decode cX10_countDays 21 = .ok (.iload_n 3, 1) := by decide +kernel
theorem dX10_countDays_22 : decode cX10_countDays 22 = .ok (.iload 4, 2) := by decide +kernel
theorem dX10_countDays_24 : decode cX10_countDays 24 = .ok (.invokestatic 57, 3) := by decide +kernel
theorem dX10_countDays_27 : decode cX10_countDays 27 = .ok (.ifCond .eq 7, 3) := by decide +kernel
theorem dX10_countDays_30 : decode cX10_countDays 30 = .ok (.iconst 1, 1) := by decide +kernel
theorem dX10_countDays_31 : decode cX10_countDays 31 = .ok (.goto 4, 3) := by decide +kernel
theorem dX10_countDays_34 : decode cX10_countDays 34 = .ok (.iconst 0, 1) := by decide +kernel
theorem dX10_countDays_35 : decode cX10_countDays 35 = .ok (.iadd, 1) := by decide +kernel
theorem dX10_countDays_36 : decode cX10_countDays 36 = .ok (.istore 5, 2) := by decide +kernel
theorem dX10_countDays_38 : decode cX10_countDays 38 = .ok (.iinc 6 1, 3) := by decide +kernel
theorem dX10_countDays_41 : decode cX10_countDays 41 = .ok (.goto (-35), 3) := by decide +kernel
theorem dX10_countDays_44 : decode cX10_countDays 44 = .ok (.iload 5, 2) := by decide +kernel
theorem dX10_countDays_46 : decode cX10_countDays 46 = .ok (.ireturn, 1) := by decide +kernel
theorem dX10_days_0 : decode cX10_days 0 = .ok (.iload_n 1, 1) := by decide +kernel
theorem dX10_days_1 : decode cX10_days 1 = .ok (.iconst 0, 1) := by decide +kernel
theorem dX10_days_2 : decode cX10_days 2 = .ok (.bipush 60, 2) := by decide +kernel
theorem dX10_days_4 : decode cX10_days 4 = .ok (.invokestatic 57, 3) := by decide +kernel
theorem dX10_days_7 : decode cX10_days 7 = .ok (.ifCond .eq 29, 3) := by decide +kernel
theorem dX10_days_10 : decode cX10_days 10 = .ok (.iload_n 2, 1) := by decide +kernel
theorem dX10_days_11 : decode cX10_days 11 = .ok (.iconst 1, 1) := by decide +kernel
theorem dX10_days_12 : decode cX10_days 12 = .ok (.bipush 10, 2) := by decide +kernel
theorem dX10_days_14 : decode cX10_days 14 = .ok (.invokestatic 57, 3) := by decide +kernel
theorem dX10_days_17 : decode cX10_days 17 = .ok (.ifCond .eq 19, 3) := by decide +kernel
theorem dX10_days_20 : decode cX10_days 20 = .ok (.iload_n 2, 1) := by decide +kernel
theorem dX10_days_21 : decode cX10_days 21 = .ok (.iload_n 1, 1) := by decide +kernel
theorem dX10_days_22 : decode cX10_days 22 = .ok (.iconst 1, 1) := by decide +kernel
theorem dX10_days_23 : decode cX10_days 23 = .ok (.iadd, 1) := by decide +kernel
theorem dX10_days_24 : decode cX10_days 24 = .ok (.if_icmp .gt 12, 3) := by decide +kernel
theorem dX10_days_27 : decode cX10_days 27 = .ok (.iload_n 3, 1) := by decide +kernel
theorem dX10_days_28 : decode cX10_days 28 = .ok (.iconst 0, 1) := by decide +kernel
theorem dX10_days_29 : decode cX10_days 29 = .ok (.iconst 1, 1) := by decide +kernel
theorem dX10_days_30 : decode cX10_days 30 = .ok (.invokestatic 57, 3) := by decide +kernel
theorem dX10_days_33 : decode cX10_days 33 = .ok (.ifCond .ne 6, 3) := by decide +kernel
theorem dX10_days_36 : decode cX10_days 36 = .ok (.bipush (-2), 2) := by decide +kernel
theorem dX10_days_38 : decode cX10_days 38 = .ok (.ireturn, 1) := by decide +kernel
theorem dX10_days_39 : decode cX10_days 39 = .ok (.aload_n 0, 1) := by decide +kernel
theorem dX10_days_40 : decode cX10_days 40 = .ok (.invokevirtual 157, 3) := by decide +kernel
theorem dX10_days_43 : decode cX10_days 43 = .ok (.iconst (-1), 1) := by decide +kernel
theorem dX10_days_44 : decode cX10_days 44 = .ok (.istore 4, 2) := by decide +kernel
theorem dX10_days_46 : decode cX10_days 46 = .ok (.iconst 0, 1) := by decide +kernel
theorem dX10_days_47 : decode cX10_days 47 = .ok (.istore 5, 2) := by decide +kernel
theorem dX10_days_49 : decode cX10_days 49 = .ok (.iload 5, 2) := by decide +kernel
theorem dX10_days_51 : decode cX10_days 51 = .ok (.ifCond .ne 63, 3) := by decide +kernel
theorem dX10_days_54 : decode cX10_days 54 = .ok (.iinc 4 1, 3) := by decide +kernel
theorem dX10_days_57 : decode cX10_days 57 = .ok (.iconst 0, 1) := by decide +kernel
theorem dX10_days_58 : decode cX10_days 58 = .ok (.istore 6, 2) := by decide +kernel
theorem dX10_days_60 : decode cX10_days 60 = .ok (.iload 6, 2) := by decide +kernel
theorem dX10_days_62 : decode cX10_days 62 = .ok (.iload_n 1, 1) := by decide +kernel
theorem dX10_days_63 : decode cX10_days 63 = .ok (.if_icmp .gt 48, 3) := by decide +kernel
theorem dX10_days_66 : decode cX10_days 66 = .ok (.iload 5, 2) := by decide +kernel
theorem dX10_days_68 : decode cX10_days 68 = .ok (.ifCond .ne 30, 3) := by decide +kernel
theorem dX10_days_71 : decode cX10_days 71 = .ok (.aload_n 0, 1) := by decide +kernel
theorem dX10_days_72 : decode cX10_days 72 = .ok (.iconst 0, 1) := by decide +kernel
theorem dX10_days_73 : decode cX10_days 73 = .ok (.iload_n 1, 1) := by decide +kernel
theorem dX10_days_74 : decode cX10_days 74 = .ok (.aload_n 0, 1) := by decide +kernel
theorem dX10_days_75 : decode cX10_days 75 = .ok (.getfield 25, 3) := by decide +kernel
theorem dX10_days_78 : decode cX10_days 78 = .ok (.iload 6, 2) := by decide +kernel
theorem dX10_days_80 : decode cX10_days 80 = .ok (.iaload, 1) := by decide +kernel
theorem dX10_days_81 : decode cX10_days 81 = .ok (.aload_n 0, 1) := by decide +kernel
theorem dX10_days_82 : decode cX10_days 82 = .ok (.getfield 25, 3) := by decide +kernel
theorem dX10_days_85 : decode cX10_days 85 = .ok (.iload 6, 2) := by decide +kernel
theorem dX10_days_87 : decode cX10_days 87 = .ok (.iaload, 1) := by decide +kernel
theorem dX10_days_88 : decode cX10_days 88 = .ok (.iload 4, 2) := by decide +kernel
theorem dX10_days_90 : decode cX10_days 90 = .ok (.iadd, 1) := by decide +kernel
theorem dX10_days_91 : decode cX10_days 91 = .ok (.invokevirtual 164, 3) := by decide +kernel
theorem dX10_days_94 : decode cX10_days 94 = .ok (.iload_n 2, 1) := by decide +kernel
theorem dX10_days_95 : decode cX10_days 95 = .ok (.if_icmp .lt 7, 3) := by decide +kernel
theorem dX10_days_98 : decode cX10_days 98 = .ok (.iconst 1, 1) := by decide +kernel
theorem dX10_days_99 : decode cX10_days 99 = .ok (.goto 4, 3) := by decide +kernel
theorem dX10_days_102 : decode cX10_days 102 = .ok (.iconst 0, 1) := by decide +kernel
theorem dX10_days_103 : decode cX10_days 103 = .ok (.istore 5, 2) := by decide +kernel
theorem dX10_days_105 : decode cX10_days 105 = .ok (.iinc 6 1, 3) := by decide +kernel
theorem dX10_days_108 : decode cX10_days 108 = .ok (.goto (-48), 3) := by decide +kernel
theorem dX10_days_111 : decode cX10_days 111 = .ok (.goto (-62), 3) := by decide +kernel
theorem dX10_days_114 : decode cX10_days 114 = .ok (.iload_n 3, 1) := by decide +kernel
theorem dX10_days_115 : decode cX10_days 115 = .ok (.ifCond .ne 6, 3) := by decide +kernel
theorem dX10_days_118 : decode cX10_days 118 = .ok (.iload 4, 2) := by decide +kernel
theorem dX10_days_120 : decode cX10_days 120 = .ok (.ireturn, 1) := by decide +kernel
theorem dX10_days_121 : decode cX10_days 121 = .ok (.iconst 0, 1) := by decide +kernel
theorem dX10_days_122 : decode cX10_days 122 = .ok (.istore 6, 2) := by decide +kernel
theorem dX10_days_124 : decode cX10_days 124 = .ok (.iload 6, 2) := by decide +kernel
theorem dX10_days_126 : decode cX10_days 126 = .ok (.iload_n 1, 1) := by decide +kernel
theorem dX10_days_127 : decode cX10_days 127 = .ok (.if_icmp .gt 60, 3) := by decide +kernel
theorem dX10_days_130 : decode cX10_days 130 = .ok (.aload_n 0, 1) := by decide +kernel
theorem dX10_days_131 : decode cX10_days 131 = .ok (.getfield 25, 3) := by decide +kernel
theorem dX10_days_134 : decode cX10_days 134 = .ok (.iload 6, 2) := by decide +kernel
theorem dX10_days_136 : decode cX10_days 136 = .ok (.iaload, 1) := by decide +kernel
theorem dX10_days_137 : decode cX10_days 137 = .ok (.iload 4, 2) := by decide +kernel
theorem dX10_days_139 : decode cX10_days 139 = .ok (.isub, 1) := by decide +kernel
theorem dX10_days_140 : decode cX10_days 140 = .ok (.istore 7, 2) := by decide +kernel
theorem dX10_days_142 : decode cX10_days 142 = .ok (.iload 7, 2) := by decide +kernel
theorem dX10_days_144 : decode cX10_days 144 = .ok (.aload_n 0, 1) := by decide +kernel
theorem dX10_days_145 : decode cX10_days 145 = .ok (.getfield 25, 3) := by decide +kernel
theorem dX10_days_148 : decode cX10_days 148 = .ok (.iload 6, 2) := by decide +kernel
theorem dX10_days_150 : decode cX10_days 150 = .ok (.iaload, 1) := by decide +kernel
theorem dX10_days_151 : decode cX10_days 151 = .ok (.if_icmp .gt 30, 3) := by decide +kernel
theorem dX10_days_154 : decode cX10_days 154 = .ok (.aload_n 0, 1) := by decide +kernel
theorem dX10_days_155 : decode cX10_days 155 = .ok (.iload 6, 2) := by decide +kernel
theorem dX10_days_157 : decode cX10_days 157 = .ok (.iload_n 1, 1) := by decide +kernel
theorem dX10_days_158 : decode cX10_days 158 = .ok (.iload 7, 2) := by decide +kernel
theorem dX10_days_160 : decode cX10_days 160 = .ok (.iload 7, 2) := by decide +kernel
theorem dX10_days_162 : decode cX10_days 162 = .ok (.iload 4, 2) := by decide +kernel
theorem dX10_days_164 : decode cX10_days 164 = .ok (.iadd, 1) := by decide +kernel
theorem dX10_days_165 : decode cX10_days 165 = .ok (.invokevirtual 164, 3) := by decide +kernel
theorem dX10_days_168 : decode cX10_days 168 = .ok (.iload_n 2, 1) := by decide +kernel
theorem dX10_days_169 : decode cX10_days 169 = .ok (.if_icmp .lt 6, 3) := by decide +kernel
theorem dX10_days_172 : decode cX10_days 172 = .ok (.iload 6, 2) := by decide +kernel
theorem dX10_days_174 : decode cX10_days 174 = .ok (.ireturn, 1) := by decide +kernel
theorem dX10_days_175 : decode cX10_days 175 = .ok (.iinc 7 1, 3) := by decide +kernel
theorem dX10_days_178 : decode cX10_days 178 = .ok (.goto (-36), 3) := by decide +kernel
theorem dX10_days_181 : decode cX10_days 181 = .ok (.iinc 6 1, 3) := by decide +kernel
theorem dX10_days_184 : decode cX10_days 184 = .ok (.goto (-60), 3) := by decide +kernel
theorem dX10_days_187 : decode cX10_days 187 = .ok (.bipush (-6), 2) := by decide +kernel
theorem dX10_days_189 : decode cX10_days 189 = .ok (.ireturn, 1) := by decide +kernel
theorem dX10_seen_0 : decode cX10_seen 0 = .ok (.iload_n 1, 1) := by decide +kernel
theorem dX10_seen_1 : decode cX10_seen 1 = .ok (.iconst 0, 1) := by decide +kernel
theorem dX10_seen_2 : decode cX10_seen 2 = .ok (.bipush 60, 2) := by decide +kernel
theorem dX10_seen_4 : decode cX10_seen 4 = .ok (.invokestatic 57, 3) := by decide +kernel
theorem dX10_seen_7 : decode cX10_seen 7 = .ok (.ifCond .eq 14, 3) := by decide +kernel
theorem dX10_seen_10 : decode cX10_seen 10 = .ok (.iload_n 2, 1) := by decide +kernel
theorem dX10_seen_11 : decode cX10_seen 11 = .ok (.iconst 1, 1) := by decide +kernel
theorem dX10_seen_12 : decode cX10_seen 12 = .ok (.sipush 200, 3) := by decide +kernel
theorem dX10_seen_15 : decode cX10_seen 15 = .ok (.invokestatic 57, 3) := by decide +kernel
theorem dX10_seen_18 : decode cX10_seen 18 = .ok (.ifCond .ne 6, 3) := by decide +kernel
theorem dX10_seen_21 : decode cX10_seen 21 = .ok (.bipush (-2), 2) := by decide +kernel
theorem dX10_seen_23 : decode cX10_seen 23 = .ok (.ireturn, 1) := by decide +kernel
theorem dX10_seen_24 : decode cX10_seen 24 = .ok (.aload_n 0, 1) := by decide +kernel
theorem dX10_seen_25 : decode cX10_seen 25 = .ok (.getfield 167, 3) := by decide +kernel
theorem dX10_seen_28 : decode cX10_seen 28 = .ok (.bipush 8, 2) := by decide +kernel
theorem dX10_seen_30 : decode cX10_seen 30 = .ok (.if_icmp .ne 6, 3) := by decide +kernel
theorem dX10_seen_33 : decode cX10_seen 33 = .ok (.bipush (-4), 2) := by decide +kernel
theorem dX10_seen_35 : decode cX10_seen 35 = .ok (.ireturn, 1) := by decide +kernel
theorem dX10_seen_36 : decode cX10_seen 36 = .ok (.aload_n 0, 1) := by decide +kernel
theorem dX10_seen_37 : decode cX10_seen 37 = .ok (.getfield 19, 3) := by decide +kernel
theorem dX10_seen_40 : decode cX10_seen 40 = .ok (.iconst 2, 1) := by decide +kernel
theorem dX10_seen_41 : decode cX10_seen 41 = .ok (.aload_n 0, 1) := by decide +kernel
theorem dX10_seen_42 : decode cX10_seen 42 = .ok (.getfield 167, 3) := by decide +kernel
theorem dX10_seen_45 : decode cX10_seen 45 = .ok (.imul, 1) := by decide +kernel
theorem dX10_seen_46 : decode cX10_seen 46 = .ok (.iload_n 1, 1) := by decide +kernel
theorem dX10_seen_47 : decode cX10_seen 47 = .ok (.iastore, 1) := by decide +kernel
theorem dX10_seen_48 : decode cX10_seen 48 = .ok (.aload_n 0, 1) := by decide +kernel
theorem dX10_seen_49 : decode cX10_seen 49 = .ok (.getfield 19, 3) := by decide +kernel
theorem dX10_seen_52 : decode cX10_seen 52 = .ok (.iconst 2, 1) := by decide +kernel
theorem dX10_seen_53 : decode cX10_seen 53 = .ok (.aload_n 0, 1) := by decide +kernel
theorem dX10_seen_54 : decode cX10_seen 54 = .ok (.getfield 167, 3) := by decide +kernel
theorem dX10_seen_57 : decode cX10_seen 57 = .ok (.imul, 1) := by decide +kernel
theorem dX10_seen_58 : decode cX10_seen 58 = .ok (.iconst 1, 1) := by decide +kernel
theorem dX10_seen_59 : decode cX10_seen 59 = .ok (.iadd, 1) := by decide +kernel
theorem dX10_seen_60 : decode cX10_seen 60 = .ok (.iload_n 2, 1) := by decide +kernel
theorem dX10_seen_61 : decode cX10_seen 61 = .ok (.iastore, 1) := by decide +kernel
theorem dX10_seen_62 : decode cX10_seen 62 = .ok (.aload_n 0, 1) := by decide +kernel
theorem dX10_seen_63 : decode cX10_seen 63 = .ok (.dup, 1) := by decide +kernel
theorem dX10_seen_64 : decode cX10_seen 64 = .ok (.getfield 167, 3) := by decide +kernel
theorem dX10_seen_67 : decode cX10_seen 67 = .ok (.iconst 1, 1) := by decide +kernel
theorem dX10_seen_68 : decode cX10_seen 68 = .ok (.iadd, 1) := by decide +kernel
theorem dX10_seen_69 : decode cX10_seen 69 = .ok (.putfield 167, 3) := by decide +kernel
theorem dX10_seen_72 : decode cX10_seen 72 = .ok (.aload_n 0, 1) := by decide +kernel
theorem dX10_seen_73 : decode cX10_seen 73 = .ok (.getfield 167, 3) := by decide +kernel
theorem dX10_seen_76 : decode cX10_seen 76 = .ok (.ireturn, 1) := by decide +kernel
theorem dX10_forget_0 : decode cX10_forget 0 = .ok (.aload_n 0, 1) := by decide +kernel
theorem dX10_forget_1 : decode cX10_forget 1 = .ok (.getfield 167, 3) := by decide +kernel
theorem dX10_forget_4 : decode cX10_forget 4 = .ok (.istore_n 1, 1) := by decide +kernel
theorem dX10_forget_5 : decode cX10_forget 5 = .ok (.aload_n 0, 1) := by decide +kernel
theorem dX10_forget_6 : decode cX10_forget 6 = .ok (.iconst 0, 1) := by decide +kernel
theorem dX10_forget_7 : decode cX10_forget 7 = .ok (.putfield 167, 3) := by decide +kernel
theorem dX10_forget_10 : decode cX10_forget 10 = .ok (.iload_n 1, 1) := by decide +kernel
theorem dX10_forget_11 : decode cX10_forget 11 = .ok (.ireturn, 1) := by decide +kernel
theorem dX10_byLaw_0 : decode cX10_byLaw 0 = .ok (.iload_n 0, 1) := by decide +kernel
theorem dX10_byLaw_1 : decode cX10_byLaw 1 = .ok (.bipush 100, 2) := by decide +kernel
theorem dX10_byLaw_3 : decode cX10_byLaw 3 = .ok (.idiv, 1) := by decide +kernel
theorem dX10_byLaw_4 : decode cX10_byLaw 4 = .ok (.iload_n 0, 1) := by decide +kernel
theorem dX10_byLaw_5 : decode cX10_byLaw 5 = .ok (.bipush 100, 2) := by decide +kernel
theorem dX10_byLaw_7 : decode cX10_byLaw 7 = .ok (.irem, 1) := by decide +kernel
theorem dX10_byLaw_8 : decode cX10_byLaw 8 = .ok (.bipush 9, 2) := by decide +kernel
theorem dX10_byLaw_10 : decode cX10_byLaw 10 = .ok (.isub, 1) := by decide +kernel
theorem dX10_byLaw_11 : decode cX10_byLaw 11 = .ok (.iload_n 1, 1) := by decide +kernel
theorem dX10_byLaw_12 : decode cX10_byLaw 12 = .ok (.imul, 1) := by decide +kernel
theorem dX10_byLaw_13 : decode cX10_byLaw 13 = .ok (.iadd, 1) := by decide +kernel
theorem dX10_byLaw_14 : decode cX10_byLaw 14 = .ok (.invokestatic 97, 3) := by decide +kernel
theorem dX10_byLaw_17 : decode cX10_byLaw 17 = .ok (.ireturn, 1) := by decide +kernel
theorem dX10_isLaw_0 : decode cX10_isLaw 0 = .ok (.iload_n 1, 1) := by decide +kernel
theorem dX10_isLaw_1 : decode cX10_isLaw 1 = .ok (.bipush 100, 2) := by decide +kernel
theorem dX10_isLaw_3 : decode cX10_isLaw 3 = .ok (.idiv, 1) := by decide +kernel
theorem dX10_isLaw_4 : decode cX10_isLaw 4 = .ok (.iconst 1, 1) := by decide +kernel
theorem dX10_isLaw_5 : decode cX10_isLaw 5 = .ok (.sipush 200, 3) := by decide +kernel
theorem dX10_isLaw_8 : decode cX10_isLaw 8 = .ok (.invokestatic 57, 3) := by decide +kernel
theorem dX10_isLaw_11 : decode cX10_isLaw 11 = .ok (.ifCond .eq 16, 3) := by decide +kernel
theorem dX10_isLaw_14 : decode cX10_isLaw 14 = .ok (.iload_n 1, 1) := by decide +kernel
theorem dX10_isLaw_15 : decode cX10_isLaw 15 = .ok (.bipush 100, 2) := by decide +kernel
theorem dX10_isLaw_17 : decode cX10_isLaw 17 = .ok (.irem, 1) := by decide +kernel
theorem dX10_isLaw_18 : decode cX10_isLaw 18 = .ok (.bipush 19, 2) := by decide +kernel
theorem dX10_isLaw_20 : decode cX10_isLaw 20 = .ok (.if_icmp .ge 7, 3) := by decide +kernel
theorem dX10_isLaw_23 : decode cX10_isLaw 23 = .ok (.iconst 1, 1) := by decide +kernel
theorem dX10_isLaw_24 : decode cX10_isLaw 24 = .ok (.goto 4, 3) := by decide +kernel
theorem dX10_isLaw_27 : decode cX10_isLaw 27 = .ok (.iconst 0, 1) := by decide +kernel
theorem dX10_isLaw_28 : decode cX10_isLaw 28 = .ok (.istore_n 2, 1) := by decide +kernel
theorem dX10_isLaw_29 : decode cX10_isLaw 29 = .ok (.iconst 0, 1) := by decide +kernel
theorem dX10_isLaw_30 : decode cX10_isLaw 30 = .ok (.istore_n 3, 1) := by decide +kernel
theorem dX10_isLaw_31 : decode cX10_isLaw 31 = .ok (.iload_n 3, 1) := by decide +kernel
theorem dX10_isLaw_32 : decode cX10_isLaw 32 = .ok (.aload_n 0, 1) := by decide +kernel
theorem dX10_isLaw_33 : decode cX10_isLaw 33 = .ok (.getfield 167, 3) := by decide +kernel
theorem dX10_isLaw_36 : decode cX10_isLaw 36 = .ok (.if_icmp .ge 44, 3) := by decide +kernel
theorem dX10_isLaw_39 : decode cX10_isLaw 39 = .ok (.iload_n 2, 1) := by decide +kernel
theorem dX10_isLaw_40 : decode cX10_isLaw 40 = .ok (.ifCond .eq 40, 3) := by decide +kernel
theorem dX10_isLaw_43 : decode cX10_isLaw 43 = .ok (.iload_n 1, 1) := by decide +kernel
theorem dX10_isLaw_44 : decode cX10_isLaw 44 = .ok (.aload_n 0, 1) := by decide +kernel
theorem dX10_isLaw_45 : decode cX10_isLaw 45 = .ok (.getfield 19, 3) := by decide +kernel
theorem dX10_isLaw_48 : decode cX10_isLaw 48 = .ok (.iconst 2, 1) := by decide +kernel
theorem dX10_isLaw_49 : decode cX10_isLaw 49 = .ok (.iload_n 3, 1) := by decide +kernel
theorem dX10_isLaw_50 : decode cX10_isLaw 50 = .ok (.imul, 1) := by decide +kernel
theorem dX10_isLaw_51 : decode cX10_isLaw 51 = .ok (.iaload, 1) := by decide +kernel
theorem dX10_isLaw_52 : decode cX10_isLaw 52 = .ok (.invokestatic 170, 3) := by decide +kernel
theorem dX10_isLaw_55 : decode cX10_isLaw 55 = .ok (.aload_n 0, 1) := by decide +kernel
theorem dX10_isLaw_56 : decode cX10_isLaw 56 = .ok (.getfield 19, 3) := by decide +kernel
theorem dX10_isLaw_59 : decode cX10_isLaw 59 = .ok (.iconst 2, 1) := by decide +kernel
theorem dX10_isLaw_60 : decode cX10_isLaw 60 = .ok (.iload_n 3, 1) := by decide +kernel
theorem dX10_isLaw_61 : decode cX10_isLaw 61 = .ok (.imul, 1) := by decide +kernel
theorem dX10_isLaw_62 : decode cX10_isLaw 62 = .ok (.iconst 1, 1) := by decide +kernel
theorem dX10_isLaw_63 : decode cX10_isLaw 63 = .ok (.iadd, 1) := by decide +kernel
theorem dX10_isLaw_64 : decode cX10_isLaw 64 = .ok (.iaload, 1) := by decide +kernel
theorem dX10_isLaw_65 : decode cX10_isLaw 65 = .ok (.if_icmp .ne 7, 3) := by decide +kernel
theorem dX10_isLaw_68 : decode cX10_isLaw 68 = .ok (.iconst 1, 1) := by decide +kernel
theorem dX10_isLaw_69 : decode cX10_isLaw 69 = .ok (.goto 4, 3) := by decide +kernel
theorem dX10_isLaw_72 : decode cX10_isLaw 72 = .ok (.iconst 0, 1) := by decide +kernel
theorem dX10_isLaw_73 : decode cX10_isLaw 73 = .ok (.istore_n 2, 1) := by decide +kernel
theorem dX10_isLaw_74 : decode cX10_isLaw 74 = .ok (.iinc 3 1, 3) := by decide +kernel
theorem dX10_isLaw_77 : decode cX10_isLaw 77 = .ok (.goto (-46), 3) := by decide +kernel
theorem dX10_isLaw_80 : decode cX10_isLaw 80 = .ok (.iload_n 2, 1) := by decide +kernel
theorem dX10_isLaw_81 : decode cX10_isLaw 81 = .ok (.ireturn, 1) := by decide +kernel
theorem dX10_fits_0 : decode cX10_fits 0 = .ok (.iconst 0, 1) := by decide +kernel
theorem dX10_fits_1 : decode cX10_fits 1 = .ok (.istore_n 2, 1) := by decide +kernel
theorem dX10_fits_2 : decode cX10_fits 2 = .ok (.bipush 100, 2) := by decide +kernel
theorem dX10_fits_4 : decode cX10_fits 4 = .ok (.istore_n 3, 1) := by decide +kernel
theorem dX10_fits_5 : decode cX10_fits 5 = .ok (.iload_n 3, 1) := by decide +kernel
theorem dX10_fits_6 : decode cX10_fits 6 = .ok (.sipush 20100, 3) := by decide +kernel
theorem dX10_fits_9 : decode cX10_fits 9 = .ok (.if_icmp .ge 27, 3) := by decide +kernel
theorem dX10_fits_12 : decode cX10_fits 12 = .ok (.aload_n 0, 1) := by decide +kernel
theorem dX10_fits_13 : decode cX10_fits 13 = .ok (.iload_n 3, 1) := by decide +kernel
theorem dX10_fits_14 : decode cX10_fits 14 = .ok (.invokevirtual 173, 3) := by decide +kernel
theorem dX10_fits_17 : decode cX10_fits 17 = .ok (.ifCond .eq 13, 3) := by decide +kernel
theorem dX10_fits_20 : decode cX10_fits 20 = .ok (.iload_n 2, 1) := by decide +kernel
theorem dX10_fits_21 : decode cX10_fits 21 = .ok (.iload_n 1, 1) := by decide +kernel
theorem dX10_fits_22 : decode cX10_fits 22 = .ok (.if_icmp .ne 5, 3) := by decide +kernel
theorem dX10_fits_25 : decode cX10_fits 25 = .ok (.iload_n 3, 1) := by decide +kernel
theorem dX10_fits_26 : decode cX10_fits 26 = .ok (.ireturn, 1) := by decide +kernel
theorem dX10_fits_27 : decode cX10_fits 27 = .ok (.iinc 2 1, 3) := by decide +kernel
theorem dX10_fits_30 : decode cX10_fits 30 = .ok (.iinc 3 1, 3) := by decide +kernel
theorem dX10_fits_33 : decode cX10_fits 33 = .ok (.goto (-28), 3) := by decide +kernel
theorem dX10_fits_36 : decode cX10_fits 36 = .ok (.iload_n 1, 1) := by decide +kernel
theorem dX10_fits_37 : decode cX10_fits 37 = .ok (.iconst (-1), 1) := by decide +kernel
theorem dX10_fits_38 : decode cX10_fits 38 = .ok (.if_icmp .ne 7, 3) := by decide +kernel
theorem dX10_fits_41 : decode cX10_fits 41 = .ok (.iload_n 2, 1) := by decide +kernel
theorem dX10_fits_42 : decode cX10_fits 42 = .ok (.goto 5, 3) := by decide +kernel
theorem dX10_fits_45 : decode cX10_fits 45 = .ok (.bipush (-6), 2) := by decide +kernel
theorem dX10_fits_47 : decode cX10_fits 47 = .ok (.ireturn, 1) := by decide +kernel
theorem dX10_ask_0 : decode cX10_ask 0 = .ok (.iload_n 1, 1) := by decide +kernel
theorem dX10_ask_1 : decode cX10_ask 1 = .ok (.iconst 0, 1) := by decide +kernel
theorem dX10_ask_2 : decode cX10_ask 2 = .ok (.iconst 1, 1) := by decide +kernel
theorem dX10_ask_3 : decode cX10_ask 3 = .ok (.invokestatic 57, 3) := by decide +kernel
theorem dX10_ask_6 : decode cX10_ask 6 = .ok (.ifCond .ne 6, 3) := by decide +kernel
theorem dX10_ask_9 : decode cX10_ask 9 = .ok (.bipush (-2), 2) := by decide +kernel
theorem dX10_ask_11 : decode cX10_ask 11 = .ok (.ireturn, 1) := by decide +kernel
theorem dX10_ask_12 : decode cX10_ask 12 = .ok (.iconst 0, 1) := by decide +kernel
theorem dX10_ask_13 : decode cX10_ask 13 = .ok (.istore_n 2, 1) := by decide +kernel
theorem dX10_ask_14 : decode cX10_ask 14 = .ok (.bipush 100, 2) := by decide +kernel
theorem dX10_ask_16 : decode cX10_ask 16 = .ok (.istore_n 3, 1) := by decide +kernel
theorem dX10_ask_17 : decode cX10_ask 17 = .ok (.iload_n 3, 1) := by decide +kernel
theorem dX10_ask_18 : decode cX10_ask 18 = .ok (.sipush 20100, 3) := by decide +kernel
theorem dX10_ask_21 : decode cX10_ask 21 = .ok (.if_icmp .ge 27, 3) := by decide +kernel
theorem dX10_ask_24 : decode cX10_ask 24 = .ok (.aload_n 0, 1) := by decide +kernel
theorem dX10_ask_25 : decode cX10_ask 25 = .ok (.iload_n 3, 1) := by decide +kernel
theorem dX10_ask_26 : decode cX10_ask 26 = .ok (.invokevirtual 173, 3) := by decide +kernel
theorem dX10_ask_29 : decode cX10_ask 29 = .ok (.ifCond .eq 13, 3) := by decide +kernel
theorem dX10_ask_32 : decode cX10_ask 32 = .ok (.aload_n 0, 1) := by decide +kernel
theorem dX10_ask_33 : decode cX10_ask 33 = .ok (.getfield 28, 3) := by decide +kernel
theorem dX10_ask_36 : decode cX10_ask 36 = .ok (.iload_n 2, 1) := by decide +kernel
theorem dX10_ask_37 : decode cX10_ask 37 = .ok (.iload_n 3, 1) := by decide +kernel
theorem dX10_ask_38 : decode cX10_ask 38 = .ok (.iastore, 1) := by decide +kernel
theorem dX10_ask_39 : decode cX10_ask 39 = .ok (.iinc 2 1, 3) := by decide +kernel
theorem dX10_ask_42 : decode cX10_ask 42 = .ok (.iinc 3 1, 3) := by decide +kernel
theorem dX10_ask_45 : decode cX10_ask 45 = .ok (.goto (-28), 3) := by decide +kernel
theorem dX10_ask_48 : decode cX10_ask 48 = .ok (.bipush (-6), 2) := by decide +kernel
theorem dX10_ask_50 : decode cX10_ask 50 = .ok (.istore_n 3, 1) := by decide +kernel
theorem dX10_ask_51 : decode cX10_ask 51 = .ok (.ldc 163, 2) := by decide +kernel
theorem dX10_ask_53 : decode cX10_ask 53 = .ok (.istore 4, 2) := by decide +kernel
theorem dX10_ask_55 : decode cX10_ask 55 = .ok (.iconst 0, 1) := by decide +kernel
theorem dX10_ask_56 : decode cX10_ask 56 = .ok (.istore 5, 2) := by decide +kernel
theorem dX10_ask_58 : decode cX10_ask 58 = .ok (.iload 5, 2) := by decide +kernel
theorem dX10_ask_60 : decode cX10_ask 60 = .ok (.bipush 61, 2) := by decide +kernel
theorem dX10_ask_62 : decode cX10_ask 62 = .ok (.if_icmp .ge 137, 3) := by decide +kernel
theorem dX10_ask_65 : decode cX10_ask 65 = .ok (.iload_n 2, 1) := by decide +kernel
theorem dX10_ask_66 : decode cX10_ask 66 = .ok (.ifCond .le 133, 3) := by decide +kernel
theorem dX10_ask_69 : decode cX10_ask 69 = .ok (.iconst 0, 1) := by decide +kernel
theorem dX10_ask_70 : decode cX10_ask 70 = .ok (.istore 6, 2) := by decide +kernel
theorem dX10_ask_72 : decode cX10_ask 72 = .ok (.iconst 0, 1) := by decide +kernel
theorem dX10_ask_73 : decode cX10_ask 73 = .ok (.istore 7, 2) := by decide +kernel
theorem dX10_ask_75 : decode cX10_ask 75 = .ok (.iload 7, 2) := by decide +kernel
theorem dX10_ask_77 : decode cX10_ask 77 = .ok (.sipush 201, 3) := by decide +kernel
theorem dX10_ask_80 : decode cX10_ask 80 = .ok (.if_icmp .ge 17, 3) := by decide +kernel
theorem dX10_ask_83 : decode cX10_ask 83 = .ok (.aload_n 0, 1) := by decide +kernel
theorem dX10_ask_84 : decode cX10_ask 84 = .ok (.getfield 31, 3) := by decide +kernel
theorem dX10_ask_87 : decode cX10_ask 87 = .ok (.iload 7, 2) := by decide +kernel
theorem dX10_ask_89 : decode cX10_ask 89 = .ok (.iconst 0, 1) := by decide +kernel
theorem dX10_ask_90 : decode cX10_ask 90 = .ok (.iastore, 1) := by decide +kernel
theorem dX10_ask_91 : decode cX10_ask 91 = .ok (.iinc 7 1, 3) := by decide +kernel
theorem dX10_ask_94 : decode cX10_ask 94 = .ok (.goto (-19), 3) := by decide +kernel
theorem dX10_ask_97 : decode cX10_ask 97 = .ok (.iconst 0, 1) := by decide +kernel
theorem dX10_ask_98 : decode cX10_ask 98 = .ok (.istore 7, 2) := by decide +kernel
theorem dX10_ask_100 : decode cX10_ask 100 = .ok (.iload 7, 2) := by decide +kernel
theorem dX10_ask_102 : decode cX10_ask 102 = .ok (.iload_n 2, 1) := by decide +kernel
theorem dX10_ask_103 : decode cX10_ask 103 = .ok (.if_icmp .ge 60, 3) := by decide +kernel
theorem dX10_ask_106 : decode cX10_ask 106 = .ok (.aload_n 0, 1) := by decide +kernel
theorem dX10_ask_107 : decode cX10_ask 107 = .ok (.getfield 28, 3) := by decide +kernel
theorem dX10_ask_110 : decode cX10_ask 110 = .ok (.iload 7, 2) := by decide +kernel
theorem dX10_ask_112 : decode cX10_ask 112 = .ok (.iaload, 1) := by decide +kernel
theorem dX10_ask_113 : decode cX10_ask 113 = .ok (.iload 5, 2) := by decide +kernel
theorem dX10_ask_115 : decode cX10_ask 115 = .ok (.invokestatic 170, 3) := by decide +kernel
theorem dX10_ask_118 : decode cX10_ask 118 = .ok (.istore 8, 2) := by decide +kernel
theorem dX10_ask_120 : decode cX10_ask 120 = .ok (.aload_n 0, 1) := by decide +kernel
theorem dX10_ask_121 : decode cX10_ask 121 = .ok (.getfield 31, 3) := by decide +kernel
theorem dX10_ask_124 : decode cX10_ask 124 = .ok (.iload 8, 2) := by decide +kernel
theorem dX10_ask_126 : decode cX10_ask 126 = .ok (.dup2, 1) := by decide +kernel
theorem dX10_ask_127 : decode cX10_ask 127 = .ok (.iaload, 1) := by decide +kernel
theorem dX10_ask_128 : decode cX10_ask 128 = .ok (.iconst 1, 1) := by decide +kernel
theorem dX10_ask_129 : decode cX10_ask 129 = .ok (.iadd, 1) := by decide +kernel
theorem dX10_ask_130 : decode cX10_ask 130 = .ok (.iastore, 1) := by decide +kernel
theorem dX10_ask_131 : decode cX10_ask 131 = .ok (.aload_n 0, 1) := by decide +kernel
theorem dX10_ask_132 : decode cX10_ask 132 = .ok (.getfield 31, 3) := by decide +kernel
theorem dX10_ask_135 : decode cX10_ask 135 = .ok (.iload 8, 2) := by decide +kernel
theorem dX10_ask_137 : decode cX10_ask 137 = .ok (.iaload, 1) := by decide +kernel
theorem dX10_ask_138 : decode cX10_ask 138 = .ok (.iload 6, 2) := by decide +kernel
theorem dX10_ask_140 : decode cX10_ask 140 = .ok (.if_icmp .le 13, 3) := by decide +kernel
theorem dX10_ask_143 : decode cX10_ask 143 = .ok (.aload_n 0, 1) := by decide +kernel
theorem dX10_ask_144 : decode cX10_ask 144 = .ok (.getfield 31, 3) := by decide +kernel
theorem dX10_ask_147 : decode cX10_ask 147 = .ok (.iload 8, 2) := by decide +kernel
theorem dX10_ask_149 : decode cX10_ask 149 = .ok (.iaload, 1) := by decide +kernel
theorem dX10_ask_150 : decode cX10_ask 150 = .ok (.goto 5, 3) := by decide +kernel
theorem dX10_ask_153 : decode cX10_ask 153 = .ok (.iload 6, 2) := by decide +kernel
theorem dX10_ask_155 : decode cX10_ask 155 = .ok (.istore 6, 2) := by decide +kernel
theorem dX10_ask_157 : decode cX10_ask 157 = .ok (.iinc 7 1, 3) := by decide +kernel
theorem dX10_ask_160 : decode cX10_ask 160 = .ok (.goto (-60), 3) := by decide +kernel
theorem dX10_ask_163 : decode cX10_ask 163 = .ok (.iload 6, 2) := by decide +kernel
theorem dX10_ask_165 : decode cX10_ask 165 = .ok (.iload 4, 2) := by decide +kernel
theorem dX10_ask_167 : decode cX10_ask 167 = .ok (.if_icmp .ge 8, 3) := by decide +kernel
theorem dX10_ask_170 : decode cX10_ask 170 = .ok (.iload 5, 2) := by decide +kernel
theorem dX10_ask_172 : decode cX10_ask 172 = .ok (.goto 4, 3) := by decide +kernel
theorem dX10_ask_175 : decode cX10_ask 175 = .ok (.iload_n 3, 1) := by decide +kernel
theorem dX10_ask_176 : decode cX10_ask 176 = .ok (.istore_n 3, 1) := by decide +kernel
theorem dX10_ask_177 : decode cX10_ask 177 = .ok (.iload 6, 2) := by decide +kernel
theorem dX10_ask_179 : decode cX10_ask 179 = .ok (.iload 4, 2) := by decide +kernel
theorem dX10_ask_181 : decode cX10_ask 181 = .ok (.if_icmp .ge 8, 3) := by decide +kernel
theorem dX10_ask_184 : decode cX10_ask 184 = .ok (.iload 6, 2) := by decide +kernel
theorem dX10_ask_186 : decode cX10_ask 186 = .ok (.goto 5, 3) := by decide +kernel
theorem dX10_ask_189 : decode cX10_ask 189 = .ok (.iload 4, 2) := by decide +kernel
theorem dX10_ask_191 : decode cX10_ask 191 = .ok (.istore 4, 2) := by decide +kernel
theorem dX10_ask_193 : decode cX10_ask 193 = .ok (.iinc 5 1, 3) := by decide +kernel
theorem dX10_ask_196 : decode cX10_ask 196 = .ok (.goto (-138), 3) := by decide +kernel
theorem dX10_ask_199 : decode cX10_ask 199 = .ok (.iload_n 3, 1) := by decide +kernel
theorem dX10_ask_200 : decode cX10_ask 200 = .ok (.ifCond .lt 7, 3) := by decide +kernel
theorem dX10_ask_203 : decode cX10_ask 203 = .ok (.iload_n 1, 1) := by decide +kernel
theorem dX10_ask_204 : decode cX10_ask 204 = .ok (.ifCond .ne 7, 3) := by decide +kernel
theorem dX10_ask_207 : decode cX10_ask 207 = .ok (.iload_n 3, 1) := by decide +kernel
theorem dX10_ask_208 : decode cX10_ask 208 = .ok (.goto 5, 3) := by decide +kernel
theorem dX10_ask_211 : decode cX10_ask 211 = .ok (.iload 4, 2) := by decide +kernel
theorem dX10_ask_213 : decode cX10_ask 213 = .ok (.ireturn, 1) := by decide +kernel
theorem dX10_layRing_0 : decode cX10_layRing 0 = .ok (.aload_n 0, 1) := by decide +kernel
theorem dX10_layRing_1 : decode cX10_layRing 1 = .ok (.invokevirtual 122, 3) := by decide +kernel
theorem dX10_layRing_4 : decode cX10_layRing 4 = .ok (.iconst 0, 1) := by decide +kernel
theorem dX10_layRing_5 : decode cX10_layRing 5 = .ok (.istore_n 1, 1) := by decide +kernel
theorem dX10_layRing_6 : decode cX10_layRing 6 = .ok (.iload_n 1, 1) := by decide +kernel
theorem dX10_layRing_7 : decode cX10_layRing 7 = .ok (.bipush 6, 2) := by decide +kernel
theorem dX10_layRing_9 : decode cX10_layRing 9 = .ok (.if_icmp .ge 20, 3) := by decide +kernel
theorem dX10_layRing_12 : decode cX10_layRing 12 = .ok (.aload_n 0, 1) := by decide +kernel
theorem dX10_layRing_13 : decode cX10_layRing 13 = .ok (.getfield 34, 3) := by decide +kernel
theorem dX10_layRing_16 : decode cX10_layRing 16 = .ok (.iload_n 1, 1) := by decide +kernel
theorem dX10_layRing_17 : decode cX10_layRing 17 = .ok (.aload_n 0, 1) := by decide +kernel
theorem dX10_layRing_18 : decode cX10_layRing 18 = .ok (.iload_n 1, 1) := by decide +kernel
theorem dX10_layRing_19 : decode cX10_layRing 19 = .ok (.invokevirtual 90, 3) := by decide +kernel
theorem dX10_layRing_22 : decode cX10_layRing 22 = .ok (.iastore, 1) := by decide +kernel
theorem dX10_layRing_23 : decode cX10_layRing 23 = .ok (.iinc 1 1, 3) := by decide +kernel
theorem dX10_layRing_26 : decode cX10_layRing 26 = .ok (.goto (-20), 3) := by decide +kernel
theorem dX10_layRing_29 : decode cX10_layRing 29 = .ok (.return_, 1) := by decide +kernel
theorem dX10_takeMeans_0 : decode cX10_takeMeans 0 = .ok (.iconst 0, 1) := by decide +kernel
theorem dX10_takeMeans_1 : decode cX10_takeMeans 1 = .ok (.istore_n 1, 1) := by decide +kernel
theorem dX10_takeMeans_2 : decode cX10_takeMeans 2 = .ok (.iconst 0, 1) := by decide +kernel
theorem dX10_takeMeans_3 : decode cX10_takeMeans 3 = .ok (.istore_n 2, 1) := by decide +kernel
theorem dX10_takeMeans_4 : decode cX10_takeMeans 4 = .ok (.iload_n 2, 1) := by decide +kernel
theorem dX10_takeMeans_5 : decode cX10_takeMeans 5 = .ok (.bipush 6, 2) := by decide +kernel
theorem dX10_takeMeans_7 : decode cX10_takeMeans 7 = .ok (.if_icmp .ge 72, 3) := by decide +kernel
theorem dX10_takeMeans_10 : decode cX10_takeMeans 10 = .ok (.aload_n 0, 1) := by decide +kernel
theorem dX10_takeMeans_11 : decode cX10_takeMeans 11 = .ok (.getfield 37, 3) := by decide +kernel
theorem dX10_takeMeans_14 : decode cX10_takeMeans 14 = .ok (.iload_n 2, 1) := by decide +kernel
theorem dX10_takeMeans_15 : decode cX10_takeMeans 15 = .ok (.aload_n 0, 1) := by decide +kernel
theorem dX10_takeMeans_16 : decode cX10_takeMeans 16 = .ok (.getfield 34, 3) := by decide +kernel
theorem dX10_takeMeans_19 : decode cX10_takeMeans 19 = .ok (.iload_n 2, 1) := by decide +kernel
theorem dX10_takeMeans_20 : decode cX10_takeMeans 20 = .ok (.iconst 5, 1) := by decide +kernel
theorem dX10_takeMeans_21 : decode cX10_takeMeans 21 = .ok (.iadd, 1) := by decide +kernel
theorem dX10_takeMeans_22 : decode cX10_takeMeans 22 = .ok (.bipush 6, 2) := by decide +kernel
theorem dX10_takeMeans_24 : decode cX10_takeMeans 24 = .ok (.irem, 1) := by decide +kernel
theorem dX10_takeMeans_25 : decode cX10_takeMeans 25 = .ok (.iaload, 1) := by decide +kernel
theorem dX10_takeMeans_26 : decode cX10_takeMeans 26 = .ok (.aload_n 0, 1) := by decide +kernel
theorem dX10_takeMeans_27 : decode cX10_takeMeans 27 = .ok (.getfield 34, 3) := by decide +kernel
theorem dX10_takeMeans_30 : decode cX10_takeMeans 30 = .ok (.iload_n 2, 1) := by decide +kernel
theorem dX10_takeMeans_31 : decode cX10_takeMeans 31 = .ok (.iaload, 1) := by decide +kernel
theorem dX10_takeMeans_32 : decode cX10_takeMeans 32 = .ok (.iadd, 1) := by decide +kernel
theorem dX10_takeMeans_33 : decode cX10_takeMeans 33 = .ok (.aload_n 0, 1) := by decide +kernel
theorem dX10_takeMeans_34 : decode cX10_takeMeans 34 = .ok (.getfield 34, 3) := by decide +kernel
theorem dX10_takeMeans_37 : decode cX10_takeMeans 37 = .ok (.iload_n 2, 1) := by decide +kernel
theorem dX10_takeMeans_38 : decode cX10_takeMeans 38 = .ok (.iconst 1, 1) := by decide +kernel
theorem dX10_takeMeans_39 : decode cX10_takeMeans 39 = .ok (.iadd, 1) := by decide +kernel
theorem dX10_takeMeans_40 : decode cX10_takeMeans 40 = .ok (.bipush 6, 2) := by decide +kernel
theorem dX10_takeMeans_42 : decode cX10_takeMeans 42 = .ok (.irem, 1) := by decide +kernel
theorem dX10_takeMeans_43 : decode cX10_takeMeans 43 = .ok (.iaload, 1) := by decide +kernel
theorem dX10_takeMeans_44 : decode cX10_takeMeans 44 = .ok (.iadd, 1) := by decide +kernel
theorem dX10_takeMeans_45 : decode cX10_takeMeans 45 = .ok (.iconst 3, 1) := by decide +kernel
theorem dX10_takeMeans_46 : decode cX10_takeMeans 46 = .ok (.idiv, 1) := by decide +kernel
theorem dX10_takeMeans_47 : decode cX10_takeMeans 47 = .ok (.iastore, 1) := by decide +kernel
theorem dX10_takeMeans_48 : decode cX10_takeMeans 48 = .ok (.iload_n 1, 1) := by decide +kernel
theorem dX10_takeMeans_49 : decode cX10_takeMeans 49 = .ok (.ifCond .ne 18, 3) := by decide +kernel
theorem dX10_takeMeans_52 : decode cX10_takeMeans 52 = .ok (.aload_n 0, 1) := by decide +kernel
theorem dX10_takeMeans_53 : decode cX10_takeMeans 53 = .ok (.getfield 37, 3) := by decide +kernel
theorem dX10_takeMeans_56 : decode cX10_takeMeans 56 = .ok (.iload_n 2, 1) := by decide +kernel
theorem dX10_takeMeans_57 : decode cX10_takeMeans 57 = .ok (.iaload, 1) := by decide +kernel
theorem dX10_takeMeans_58 : decode cX10_takeMeans 58 = .ok (.aload_n 0, 1) := by decide +kernel
theorem dX10_takeMeans_59 : decode cX10_takeMeans 59 = .ok (.getfield 34, 3) := by decide +kernel
theorem dX10_takeMeans_62 : decode cX10_takeMeans 62 = .ok (.iload_n 2, 1) := by decide +kernel
theorem dX10_takeMeans_63 : decode cX10_takeMeans 63 = .ok (.iaload, 1) := by decide +kernel
theorem dX10_takeMeans_64 : decode cX10_takeMeans 64 = .ok (.if_icmp .eq 7, 3) := by decide +kernel
theorem dX10_takeMeans_67 : decode cX10_takeMeans 67 = .ok (.iconst 1, 1) := by decide +kernel
theorem dX10_takeMeans_68 : decode cX10_takeMeans 68 = .ok (.goto 4, 3) := by decide +kernel
theorem dX10_takeMeans_71 : decode cX10_takeMeans 71 = .ok (.iconst 0, 1) := by decide +kernel
theorem dX10_takeMeans_72 : decode cX10_takeMeans 72 = .ok (.istore_n 1, 1) := by decide +kernel
theorem dX10_takeMeans_73 : decode cX10_takeMeans 73 = .ok (.iinc 2 1, 3) := by decide +kernel
theorem dX10_takeMeans_76 : decode cX10_takeMeans 76 = .ok (.goto (-72), 3) := by decide +kernel
theorem dX10_takeMeans_79 : decode cX10_takeMeans 79 = .ok (.iconst 0, 1) := by decide +kernel
theorem dX10_takeMeans_80 : decode cX10_takeMeans 80 = .ok (.istore_n 2, 1) := by decide +kernel
theorem dX10_takeMeans_81 : decode cX10_takeMeans 81 = .ok (.iload_n 2, 1) := by decide +kernel
theorem dX10_takeMeans_82 : decode cX10_takeMeans 82 = .ok (.bipush 6, 2) := by decide +kernel
theorem dX10_takeMeans_84 : decode cX10_takeMeans 84 = .ok (.if_icmp .ge 21, 3) := by decide +kernel
theorem dX10_takeMeans_87 : decode cX10_takeMeans 87 = .ok (.aload_n 0, 1) := by decide +kernel
theorem dX10_takeMeans_88 : decode cX10_takeMeans 88 = .ok (.getfield 34, 3) := by decide +kernel
theorem dX10_takeMeans_91 : decode cX10_takeMeans 91 = .ok (.iload_n 2, 1) := by decide +kernel
theorem dX10_takeMeans_92 : decode cX10_takeMeans 92 = .ok (.aload_n 0, 1) := by decide +kernel
theorem dX10_takeMeans_93 : decode cX10_takeMeans 93 = .ok (.getfield 37, 3) := by decide +kernel
theorem dX10_takeMeans_96 : decode cX10_takeMeans 96 = .ok (.iload_n 2, 1) := by decide +kernel
theorem dX10_takeMeans_97 : decode cX10_takeMeans 97 = .ok (.iaload, 1) := by decide +kernel
theorem dX10_takeMeans_98 : decode cX10_takeMeans 98 = .ok (.iastore, 1) := by decide +kernel
theorem dX10_takeMeans_99 : decode cX10_takeMeans 99 = .ok (.iinc 2 1, 3) := by decide +kernel
theorem dX10_takeMeans_102 : decode cX10_takeMeans 102 = .ok (.goto (-21), 3) := by decide +kernel
theorem dX10_takeMeans_105 : decode cX10_takeMeans 105 = .ok (.iload_n 1, 1) := by decide +kernel
theorem dX10_takeMeans_106 : decode cX10_takeMeans 106 = .ok (.ireturn, 1) := by decide +kernel
theorem dX10_settle_0 : decode cX10_settle 0 = .ok (.iload_n 1, 1) := by decide +kernel
theorem dX10_settle_1 : decode cX10_settle 1 = .ok (.invokestatic 61, 3) := by decide +kernel
theorem dX10_settle_4 : decode cX10_settle 4 = .ok (.ifCond .ne 5, 3) := by decide +kernel
theorem dX10_settle_7 : decode cX10_settle 7 = .ok (.iconst (-1), 1) := by decide +kernel
theorem dX10_settle_8 : decode cX10_settle 8 = .ok (.ireturn, 1) := by decide +kernel
theorem dX10_settle_9 : decode cX10_settle 9 = .ok (.iload_n 2, 1) := by decide +kernel
theorem dX10_settle_10 : decode cX10_settle 10 = .ok (.iconst 0, 1) := by decide +kernel
theorem dX10_settle_11 : decode cX10_settle 11 = .ok (.bipush 99, 2) := by decide +kernel
theorem dX10_settle_13 : decode cX10_settle 13 = .ok (.invokestatic 57, 3) := by decide +kernel
theorem dX10_settle_16 : decode cX10_settle 16 = .ok (.ifCond .ne 6, 3) := by decide +kernel
theorem dX10_settle_19 : decode cX10_settle 19 = .ok (.bipush (-2), 2) := by decide +kernel
theorem dX10_settle_21 : decode cX10_settle 21 = .ok (.ireturn, 1) := by decide +kernel
theorem dX10_settle_22 : decode cX10_settle 22 = .ok (.aload_n 0, 1) := by decide +kernel
theorem dX10_settle_23 : decode cX10_settle 23 = .ok (.invokevirtual 176, 3) := by decide +kernel
theorem dX10_settle_26 : decode cX10_settle 26 = .ok (.iconst 0, 1) := by decide +kernel
theorem dX10_settle_27 : decode cX10_settle 27 = .ok (.istore_n 3, 1) := by decide +kernel
theorem dX10_settle_28 : decode cX10_settle 28 = .ok (.iload_n 3, 1) := by decide +kernel
theorem dX10_settle_29 : decode cX10_settle 29 = .ok (.iload_n 2, 1) := by decide +kernel
theorem dX10_settle_30 : decode cX10_settle 30 = .ok (.if_icmp .ge 14, 3) := by decide +kernel
theorem dX10_settle_33 : decode cX10_settle 33 = .ok (.aload_n 0, 1) := by decide +kernel
theorem dX10_settle_34 : decode cX10_settle 34 = .ok (.invokevirtual 179, 3) := by decide +kernel
theorem dX10_settle_37 : decode cX10_settle 37 = .ok (.pop, 1) := by decide +kernel
theorem dX10_settle_38 : decode cX10_settle 38 = .ok (.iinc 3 1, 3) := by decide +kernel
theorem dX10_settle_41 : decode cX10_settle 41 = .ok (.goto (-13), 3) := by decide +kernel
theorem dX10_settle_44 : decode cX10_settle 44 = .ok (.aload_n 0, 1) := by decide +kernel
theorem dX10_settle_45 : decode cX10_settle 45 = .ok (.getfield 34, 3) := by decide +kernel
theorem dX10_settle_48 : decode cX10_settle 48 = .ok (.iload_n 1, 1) := by decide +kernel
theorem dX10_settle_49 : decode cX10_settle 49 = .ok (.iaload, 1) := by decide +kernel
theorem dX10_settle_50 : decode cX10_settle 50 = .ok (.ireturn, 1) := by decide +kernel
theorem dX10_settled_0 : decode cX10_settled 0 = .ok (.aload_n 0, 1) := by decide +kernel
theorem dX10_settled_1 : decode cX10_settled 1 = .ok (.invokevirtual 176, 3) := by decide +kernel
theorem dX10_settled_4 : decode cX10_settled 4 = .ok (.iconst 0, 1) := by decide +kernel
theorem dX10_settled_5 : decode cX10_settled 5 = .ok (.istore_n 1, 1) := by decide +kernel
theorem dX10_settled_6 : decode cX10_settled 6 = .ok (.aload_n 0, 1) := by decide +kernel
theorem dX10_settled_7 : decode cX10_settled 7 = .ok (.invokevirtual 179, 3) := by decide +kernel
theorem dX10_settled_10 : decode cX10_settled 10 = .ok (.ifCond .eq 9, 3) := by decide +kernel
theorem dX10_settled_13 : decode cX10_settled 13 = .ok (.iinc 1 1, 3) := by decide +kernel
theorem dX10_settled_16 : decode cX10_settled 16 = .ok (.goto (-10), 3) := by decide +kernel
theorem dX10_settled_19 : decode cX10_settled 19 = .ok (.iload_n 1, 1) := by decide +kernel
theorem dX10_settled_20 : decode cX10_settled 20 = .ok (.ireturn, 1) := by decide +kernel
theorem dX10_halves_0 : decode cX10_halves 0 = .ok (.iload_n 1, 1) := by decide +kernel
theorem dX10_halves_1 : decode cX10_halves 1 = .ok (.iconst 0, 1) := by decide +kernel
theorem dX10_halves_2 : decode cX10_halves 2 = .ok (.sipush 200, 3) := by decide +kernel
theorem dX10_halves_5 : decode cX10_halves 5 = .ok (.invokestatic 57, 3) := by decide +kernel
theorem dX10_halves_8 : decode cX10_halves 8 = .ok (.ifCond .eq 22, 3) := by decide +kernel
theorem dX10_halves_11 : decode cX10_halves 11 = .ok (.iload_n 2, 1) := by decide +kernel
theorem dX10_halves_12 : decode cX10_halves 12 = .ok (.iconst 1, 1) := by decide +kernel
theorem dX10_halves_13 : decode cX10_halves 13 = .ok (.bipush 9, 2) := by decide +kernel
theorem dX10_halves_15 : decode cX10_halves 15 = .ok (.invokestatic 57, 3) := by decide +kernel
theorem dX10_halves_18 : decode cX10_halves 18 = .ok (.ifCond .eq 12, 3) := by decide +kernel
theorem dX10_halves_21 : decode cX10_halves 21 = .ok (.iload_n 3, 1) := by decide +kernel
theorem dX10_halves_22 : decode cX10_halves 22 = .ok (.iconst 0, 1) := by decide +kernel
theorem dX10_halves_23 : decode cX10_halves 23 = .ok (.iconst 1, 1) := by decide +kernel
theorem dX10_halves_24 : decode cX10_halves 24 = .ok (.invokestatic 57, 3) := by decide +kernel
theorem dX10_halves_27 : decode cX10_halves 27 = .ok (.ifCond .ne 6, 3) := by decide +kernel
theorem dX10_halves_30 : decode cX10_halves 30 = .ok (.bipush (-2), 2) := by decide +kernel
theorem dX10_halves_32 : decode cX10_halves 32 = .ok (.ireturn, 1) := by decide +kernel
theorem dX10_halves_33 : decode cX10_halves 33 = .ok (.bipush (-6), 2) := by decide +kernel
theorem dX10_halves_35 : decode cX10_halves 35 = .ok (.istore 4, 2) := by decide +kernel
theorem dX10_halves_37 : decode cX10_halves 37 = .ok (.iconst 0, 1) := by decide +kernel
theorem dX10_halves_38 : decode cX10_halves 38 = .ok (.istore 5, 2) := by decide +kernel
theorem dX10_halves_40 : decode cX10_halves 40 = .ok (.iload 5, 2) := by decide +kernel
theorem dX10_halves_42 : decode cX10_halves 42 = .ok (.iload_n 1, 1) := by decide +kernel
theorem dX10_halves_43 : decode cX10_halves 43 = .ok (.if_icmp .gt 109, 3) := by decide +kernel
theorem dX10_halves_46 : decode cX10_halves 46 = .ok (.bipush (-6), 2) := by decide +kernel
theorem dX10_halves_48 : decode cX10_halves 48 = .ok (.istore 4, 2) := by decide +kernel
theorem dX10_halves_50 : decode cX10_halves 50 = .ok (.iload_n 2, 1) := by decide +kernel
theorem dX10_halves_51 : decode cX10_halves 51 = .ok (.istore 6, 2) := by decide +kernel
theorem dX10_halves_53 : decode cX10_halves 53 = .ok (.iload 6, 2) := by decide +kernel
theorem dX10_halves_55 : decode cX10_halves 55 = .ok (.ifCond .le 49, 3) := by decide +kernel
theorem dX10_halves_58 : decode cX10_halves 58 = .ok (.iload 6, 2) := by decide +kernel
theorem dX10_halves_60 : decode cX10_halves 60 = .ok (.iload 5, 2) := by decide +kernel
theorem dX10_halves_62 : decode cX10_halves 62 = .ok (.if_icmp .gt 32, 3) := by decide +kernel
theorem dX10_halves_65 : decode cX10_halves 65 = .ok (.aload_n 0, 1) := by decide +kernel
theorem dX10_halves_66 : decode cX10_halves 66 = .ok (.getfield 40, 3) := by decide +kernel
theorem dX10_halves_69 : decode cX10_halves 69 = .ok (.iload 5, 2) := by decide +kernel
theorem dX10_halves_71 : decode cX10_halves 71 = .ok (.iload 6, 2) := by decide +kernel
theorem dX10_halves_73 : decode cX10_halves 73 = .ok (.iload 5, 2) := by decide +kernel
theorem dX10_halves_75 : decode cX10_halves 75 = .ok (.if_icmp .gt 8, 3) := by decide +kernel
theorem dX10_halves_78 : decode cX10_halves 78 = .ok (.iload 6, 2) := by decide +kernel
theorem dX10_halves_80 : decode cX10_halves 80 = .ok (.goto 4, 3) := by decide +kernel
theorem dX10_halves_83 : decode cX10_halves 83 = .ok (.iconst 0, 1) := by decide +kernel
theorem dX10_halves_84 : decode cX10_halves 84 = .ok (.isub, 1) := by decide +kernel
theorem dX10_halves_85 : decode cX10_halves 85 = .ok (.baload, 1) := by decide +kernel
theorem dX10_halves_86 : decode cX10_halves 86 = .ok (.ifCond .ne 8, 3) := by decide +kernel
theorem dX10_halves_89 : decode cX10_halves 89 = .ok (.iload 6, 2) := by decide +kernel
theorem dX10_halves_91 : decode cX10_halves 91 = .ok (.goto 5, 3) := by decide +kernel
theorem dX10_halves_94 : decode cX10_halves 94 = .ok (.iload 4, 2) := by decide +kernel
theorem dX10_halves_96 : decode cX10_halves 96 = .ok (.istore 4, 2) := by decide +kernel
theorem dX10_halves_98 : decode cX10_halves 98 = .ok (.iinc 6 (-1), 3) := by decide +kernel
theorem dX10_halves_101 : decode cX10_halves 101 = .ok (.goto (-48), 3) := by decide +kernel
theorem dX10_halves_104 : decode cX10_halves 104 = .ok (.iload 5, 2) := by decide +kernel
theorem dX10_halves_106 : decode cX10_halves 106 = .ok (.ifCond .le 19, 3) := by decide +kernel
theorem dX10_halves_109 : decode cX10_halves 109 = .ok (.aload_n 0, 1) := by decide +kernel
theorem dX10_halves_110 : decode cX10_halves 110 = .ok (.getfield 40, 3) := by decide +kernel
theorem dX10_halves_113 : decode cX10_halves 113 = .ok (.iload 5, 2) := by decide +kernel
theorem dX10_halves_115 : decode cX10_halves 115 = .ok (.iconst 2, 1) := by decide +kernel
theorem dX10_halves_116 : decode cX10_halves 116 = .ok (.idiv, 1) := by decide +kernel
theorem dX10_halves_117 : decode cX10_halves 117 = .ok (.baload, 1) := by decide +kernel
theorem dX10_halves_118 : decode cX10_halves 118 = .ok (.ifCond .ne 7, 3) := by decide +kernel
theorem dX10_halves_121 : decode cX10_halves 121 = .ok (.iconst 0, 1) := by decide +kernel
theorem dX10_halves_122 : decode cX10_halves 122 = .ok (.goto 5, 3) := by decide +kernel
theorem dX10_halves_125 : decode cX10_halves 125 = .ok (.iload 4, 2) := by decide +kernel
theorem dX10_halves_127 : decode cX10_halves 127 = .ok (.istore 4, 2) := by decide +kernel
theorem dX10_halves_129 : decode cX10_halves 129 = .ok (.aload_n 0, 1) := by decide +kernel
theorem dX10_halves_130 : decode cX10_halves 130 = .ok (.getfield 40, 3) := by decide +kernel
theorem dX10_halves_133 : decode cX10_halves 133 = .ok (.iload 5, 2) := by decide +kernel
theorem dX10_halves_135 : decode cX10_halves 135 = .ok (.iload 4, 2) := by decide +kernel
theorem dX10_halves_137 : decode cX10_halves 137 = .ok (.ifCond .lt 7, 3) := by decide +kernel
theorem dX10_halves_140 : decode cX10_halves 140 = .ok (.iconst 1, 1) := by decide +kernel
theorem dX10_halves_141 : decode cX10_halves 141 = .ok (.goto 4, 3) := by decide +kernel
theorem dX10_halves_144 : decode cX10_halves 144 = .ok (.iconst 0, 1) := by decide +kernel
theorem dX10_halves_145 : decode cX10_halves 145 = .ok (.bastore, 1) := by decide +kernel
theorem dX10_halves_146 : decode cX10_halves 146 = .ok (.iinc 5 1, 3) := by decide +kernel
theorem dX10_halves_149 : decode cX10_halves 149 = .ok (.goto (-109), 3) := by decide +kernel
theorem dX10_halves_152 : decode cX10_halves 152 = .ok (.iload_n 3, 1) := by decide +kernel
theorem dX10_halves_153 : decode cX10_halves 153 = .ok (.iconst 1, 1) := by decide +kernel
theorem dX10_halves_154 : decode cX10_halves 154 = .ok (.if_icmp .ne 8, 3) := by decide +kernel
theorem dX10_halves_157 : decode cX10_halves 157 = .ok (.iload 4, 2) := by decide +kernel
theorem dX10_halves_159 : decode cX10_halves 159 = .ok (.goto 13, 3) := by decide +kernel
theorem dX10_halves_162 : decode cX10_halves 162 = .ok (.iload 4, 2) := by decide +kernel
theorem dX10_halves_164 : decode cX10_halves 164 = .ok (.ifCond .ge 7, 3) := by decide +kernel
theorem dX10_halves_167 : decode cX10_halves 167 = .ok (.iconst 0, 1) := by decide +kernel
theorem dX10_halves_168 : decode cX10_halves 168 = .ok (.goto 4, 3) := by decide +kernel
theorem dX10_halves_171 : decode cX10_halves 171 = .ok (.iconst 1, 1) := by decide +kernel
theorem dX10_halves_172 : decode cX10_halves 172 = .ok (.ireturn, 1) := by decide +kernel
theorem dX10_shake_0 : decode cX10_shake 0 = .ok (.iload_n 1, 1) := by decide +kernel
theorem dX10_shake_1 : decode cX10_shake 1 = .ok (.iconst 0, 1) := by decide +kernel
theorem dX10_shake_2 : decode cX10_shake 2 = .ok (.bipush 12, 2) := by decide +kernel
theorem dX10_shake_4 : decode cX10_shake 4 = .ok (.invokestatic 57, 3) := by decide +kernel
theorem dX10_shake_7 : decode cX10_shake 7 = .ok (.ifCond .eq 52, 3) := by decide +kernel
theorem dX10_shake_10 : decode cX10_shake 10 = .ok (.iload_n 2, 1) := by decide +kernel
theorem dX10_shake_11 : decode cX10_shake 11 = .ok (.iconst 0, 1) := by decide +kernel
theorem dX10_shake_12 : decode cX10_shake 12 = .ok (.bipush 10, 2) := by decide +kernel
theorem dX10_shake_14 : decode cX10_shake 14 = .ok (.invokestatic 57, 3) := by decide +kernel
theorem dX10_shake_17 : decode cX10_shake 17 = .ok (.ifCond .eq 42, 3) := by decide +kernel
theorem dX10_shake_20 : decode cX10_shake 20 = .ok (.iload_n 3, 1) := by decide +kernel
theorem dX10_shake_21 : decode cX10_shake 21 = .ok (.iconst 0, 1) := by decide +kernel
theorem dX10_shake_22 : decode cX10_shake 22 = .ok (.bipush 10, 2) := by decide +kernel
theorem dX10_shake_24 : decode cX10_shake 24 = .ok (.invokestatic 57, 3) := by decide +kernel
theorem dX10_shake_27 : decode cX10_shake 27 = .ok (.ifCond .eq 32, 3) := by decide +kernel
theorem dX10_shake_30 : decode cX10_shake 30 = .ok (.iload_n 2, 1) := by decide +kernel
theorem dX10_shake_31 : decode cX10_shake 31 = .ok (.iload_n 3, 1) := by decide +kernel
theorem dX10_shake_32 : decode cX10_shake 32 = .ok (.iadd, 1) := by decide +kernel
theorem dX10_shake_33 : decode cX10_shake 33 = .ok (.bipush 10, 2) := by decide +kernel
theorem dX10_shake_35 : decode cX10_shake 35 = .ok (.if_icmp .gt 24, 3) := by decide +kernel
theorem dX10_shake_38 : decode cX10_shake 38 = .ok (.iload 4, 2) := by decide +kernel
theorem dX10_shake_40 : decode cX10_shake 40 = .ok (.iconst 0, 1) := by decide +kernel
theorem dX10_shake_41 : decode cX10_shake 41 = .ok (.bipush 12, 2) := by decide +kernel
theorem dX10_shake_43 : decode cX10_shake 43 = .ok (.invokestatic 57, 3) := by decide +kernel
theorem dX10_shake_46 : decode cX10_shake 46 = .ok (.ifCond .eq 13, 3) := by decide +kernel
theorem dX10_shake_49 : decode cX10_shake 49 = .ok (.iload 5, 2) := by decide +kernel
theorem dX10_shake_51 : decode cX10_shake 51 = .ok (.iconst 0, 1) := by decide +kernel
theorem dX10_shake_52 : decode cX10_shake 52 = .ok (.iconst 1, 1) := by decide +kernel
theorem dX10_shake_53 : decode cX10_shake 53 = .ok (.invokestatic 57, 3) := by decide +kernel
theorem dX10_shake_56 : decode cX10_shake 56 = .ok (.ifCond .ne 7, 3) := by decide +kernel
theorem dX10_shake_59 : decode cX10_shake 59 = .ok (.ldc2_w 151, 3) := by decide +kernel
theorem dX10_shake_62 : decode cX10_shake 62 = .ok (.lreturn, 1) := by decide +kernel
theorem dX10_shake_63 : decode cX10_shake 63 = .ok (.iconst 0, 1) := by decide +kernel
theorem dX10_shake_64 : decode cX10_shake 64 = .ok (.istore 6, 2) := by decide +kernel
theorem dX10_shake_66 : decode cX10_shake 66 = .ok (.iload 6, 2) := by decide +kernel
theorem dX10_shake_68 : decode cX10_shake 68 = .ok (.bipush 27, 2) := by decide +kernel
theorem dX10_shake_70 : decode cX10_shake 70 = .ok (.if_icmp .ge 28, 3) := by decide +kernel
theorem dX10_shake_73 : decode cX10_shake 73 = .ok (.aload_n 0, 1) := by decide +kernel
theorem dX10_shake_74 : decode cX10_shake 74 = .ok (.getfield 44, 3) := by decide +kernel
theorem dX10_shake_77 : decode cX10_shake 77 = .ok (.iload 6, 2) := by decide +kernel
theorem dX10_shake_79 : decode cX10_shake 79 = .ok (.iload 6, 2) := by decide +kernel
theorem dX10_shake_81 : decode cX10_shake 81 = .ok (.bipush 13, 2) := by decide +kernel
theorem dX10_shake_83 : decode cX10_shake 83 = .ok (.if_icmp .ne 7, 3) := by decide +kernel
theorem dX10_shake_86 : decode cX10_shake 86 = .ok (.lconst 1, 1) := by decide +kernel
theorem dX10_shake_87 : decode cX10_shake 87 = .ok (.goto 4, 3) := by decide +kernel
theorem dX10_shake_90 : decode cX10_shake 90 = .ok (.lconst 0, 1) := by decide +kernel
theorem dX10_shake_91 : decode cX10_shake 91 = .ok (.lastore, 1) := by decide +kernel
theorem dX10_shake_92 : decode cX10_shake 92 = .ok (.iinc 6 1, 3) := by decide +kernel
theorem dX10_shake_95 : decode cX10_shake 95 = .ok (.goto (-29), 3) := by decide +kernel
theorem dX10_shake_98 : decode cX10_shake 98 = .ok (.lconst 1, 1) := by decide +kernel
theorem dX10_shake_99 : decode cX10_shake 99 = .ok (.lstore 6, 2) := by decide +kernel
theorem dX10_shake_101 : decode cX10_shake 101 = .ok (.iconst 0, 1) := by decide +kernel
theorem dX10_shake_102 : decode cX10_shake 102 = .ok (.istore 8, 2) := by decide +kernel
theorem dX10_shake_104 : decode cX10_shake 104 = .ok (.iload 8, 2) := by decide +kernel
theorem dX10_shake_106 : decode cX10_shake 106 = .ok (.iload_n 1, 1) := by decide +kernel
theorem dX10_shake_107 : decode cX10_shake 107 = .ok (.if_icmp .ge 111, 3) := by decide +kernel
theorem dX10_shake_110 : decode cX10_shake 110 = .ok (.iconst 1, 1) := by decide +kernel
theorem dX10_shake_111 : decode cX10_shake 111 = .ok (.istore 9, 2) := by decide +kernel
theorem dX10_shake_113 : decode cX10_shake 113 = .ok (.iload 9, 2) := by decide +kernel
theorem dX10_shake_115 : decode cX10_shake 115 = .ok (.bipush 26, 2) := by decide +kernel
theorem dX10_shake_117 : decode cX10_shake 117 = .ok (.if_icmp .ge 57, 3) := by decide +kernel
theorem dX10_shake_120 : decode cX10_shake 120 = .ok (.aload_n 0, 1) := by decide +kernel
theorem dX10_shake_121 : decode cX10_shake 121 = .ok (.getfield 48, 3) := by decide +kernel
theorem dX10_shake_124 : decode cX10_shake 124 = .ok (.iload 9, 2) := by decide +kernel
theorem dX10_shake_126 : decode cX10_shake 126 = .ok (.iload_n 2, 1) := by decide +kernel
theorem dX10_shake_127 : decode cX10_shake 127 = .ok (.i2l, 1) := by decide +kernel
theorem dX10_shake_128 : decode cX10_shake 128 = .ok (.aload_n 0, 1) := by decide +kernel
theorem dX10_shake_129 : decode cX10_shake 129 = .ok (.getfield 44, 3) := by decide +kernel
theorem dX10_shake_132 : decode cX10_shake 132 = .ok (.iload 9, 2) := by decide +kernel
theorem dX10_shake_134 : decode cX10_shake 134 = .ok (.iconst 1, 1) := by decide +kernel
theorem dX10_shake_135 : decode cX10_shake 135 = .ok (.iadd, 1) := by decide +kernel
theorem dX10_shake_136 : decode cX10_shake 136 = .ok (.laload, 1) := by decide +kernel
theorem dX10_shake_137 : decode cX10_shake 137 = .ok (.lmul, 1) := by decide +kernel
theorem dX10_shake_138 : decode cX10_shake 138 = .ok (.iload_n 3, 1) := by decide +kernel
theorem dX10_shake_139 : decode cX10_shake 139 = .ok (.i2l, 1) := by decide +kernel
theorem dX10_shake_140 : decode cX10_shake 140 = .ok (.aload_n 0, 1) := by decide +kernel
theorem dX10_shake_141 : decode cX10_shake 141 = .ok (.getfield 44, 3) := by decide +kernel
theorem dX10_shake_144 : decode cX10_shake 144 = .ok (.iload 9, 2) := by decide +kernel
theorem dX10_shake_146 : decode cX10_shake 146 = .ok (.iconst 1, 1) := by decide +kernel
theorem dX10_shake_147 : decode cX10_shake 147 = .ok (.isub, 1) := by decide +kernel
theorem dX10_shake_148 : decode cX10_shake 148 = .ok (.laload, 1) := by decide +kernel
theorem dX10_shake_149 : decode cX10_shake 149 = .ok (.lmul, 1) := by decide +kernel
theorem dX10_shake_150 : decode cX10_shake 150 = .ok (.ladd, 1) := by decide +kernel
theorem dX10_shake_151 : decode cX10_shake 151 = .ok (.bipush 10, 2) := by decide +kernel
theorem dX10_shake_153 : decode cX10_shake 153 = .ok (.iload_n 2, 1) := by decide +kernel
theorem dX10_shake_154 : decode cX10_shake 154 = .ok (.isub, 1) := by decide +kernel
theorem dX10_shake_155 : decode cX10_shake 155 = .ok (.iload_n 3, 1) := by decide +kernel
theorem dX10_shake_156 : decode cX10_shake 156 = .ok (.isub, 1) := by decide +kernel
theorem dX10_shake_157 : decode cX10_shake 157 = .ok (.i2l, 1) := by decide +kernel
theorem dX10_shake_158 : decode cX10_shake 158 = .ok (.aload_n 0, 1) := by decide +kernel
theorem dX10_shake_159 : decode cX10_shake 159 = .ok (.getfield 44, 3) := by decide +kernel
theorem dX10_shake_162 : decode cX10_shake 162 = .ok (.iload 9, 2) := by decide +kernel
theorem dX10_shake_164 : decode cX10_shake 164 = .ok (.laload, 1) := by decide +kernel
theorem dX10_shake_165 : decode cX10_shake 165 = .ok (.lmul, 1) := by decide +kernel
theorem dX10_shake_166 : decode cX10_shake 166 = .ok (.ladd, 1) := by decide +kernel
theorem dX10_shake_167 : decode cX10_shake 167 = .ok (.lastore, 1) := by decide +kernel
theorem dX10_shake_168 : decode cX10_shake 168 = .ok (.iinc 9 1, 3) := by decide +kernel
theorem dX10_shake_171 : decode cX10_shake 171 = .ok (.goto (-58), 3) := by decide +kernel
theorem dX10_shake_174 : decode cX10_shake 174 = .ok (.iconst 1, 1) := by decide +kernel
theorem dX10_shake_175 : decode cX10_shake 175 = .ok (.istore 9, 2) := by decide +kernel
theorem dX10_shake_177 : decode cX10_shake 177 = .ok (.iload 9, 2) := by decide +kernel
theorem dX10_shake_179 : decode cX10_shake 179 = .ok (.bipush 26, 2) := by decide +kernel
theorem dX10_shake_181 : decode cX10_shake 181 = .ok (.if_icmp .ge 23, 3) := by decide +kernel
theorem dX10_shake_184 : decode cX10_shake 184 = .ok (.aload_n 0, 1) := by decide +kernel
theorem dX10_shake_185 : decode cX10_shake 185 = .ok (.getfield 44, 3) := by decide +kernel
theorem dX10_shake_188 : decode cX10_shake 188 = .ok (.iload 9, 2) := by decide +kernel
theorem dX10_shake_190 : decode cX10_shake 190 = .ok (.aload_n 0, 1) := by decide +kernel
theorem dX10_shake_191 : decode cX10_shake 191 = .ok (.getfield 48, 3) := by decide +kernel
theorem dX10_shake_194 : decode cX10_shake 194 = .ok (.iload 9, 2) := by decide +kernel
theorem dX10_shake_196 : decode cX10_shake 196 = .ok (.laload, 1) := by decide +kernel
theorem dX10_shake_197 : decode cX10_shake 197 = .ok (.lastore, 1) := by decide +kernel
theorem dX10_shake_198 : decode cX10_shake 198 = .ok (.iinc 9 1, 3) := by decide +kernel
theorem dX10_shake_201 : decode cX10_shake 201 = .ok (.goto (-24), 3) := by decide +kernel
theorem dX10_shake_204 : decode cX10_shake 204 = .ok (.lload 6, 2) := by decide +kernel
theorem dX10_shake_206 : decode cX10_shake 206 = .ok (.ldc2_w 183, 3) := by decide +kernel
theorem dX10_shake_209 : decode cX10_shake 209 = .ok (.lmul, 1) := by decide +kernel
theorem dX10_shake_210 : decode cX10_shake 210 = .ok (.lstore 6, 2) := by decide +kernel
theorem dX10_shake_212 : decode cX10_shake 212 = .ok (.iinc 8 1, 3) := by decide +kernel
theorem dX10_shake_215 : decode cX10_shake 215 = .ok (.goto (-111), 3) := by decide +kernel
theorem dX10_shake_218 : decode cX10_shake 218 = .ok (.lconst 0, 1) := by decide +kernel
theorem dX10_shake_219 : decode cX10_shake 219 = .ok (.lstore 8, 2) := by decide +kernel
theorem dX10_shake_221 : decode cX10_shake 221 = .ok (.iconst 0, 1) := by decide +kernel
theorem dX10_shake_222 : decode cX10_shake 222 = .ok (.istore 10, 2) := by decide +kernel
theorem dX10_shake_224 : decode cX10_shake 224 = .ok (.iload 10, 2) := by decide +kernel
theorem dX10_shake_226 : decode cX10_shake 226 = .ok (.bipush 27, 2) := by decide +kernel
theorem dX10_shake_228 : decode cX10_shake 228 = .ok (.if_icmp .ge 54, 3) := by decide +kernel
theorem dX10_shake_231 : decode cX10_shake 231 = .ok (.iload 10, 2) := by decide +kernel
theorem dX10_shake_233 : decode cX10_shake 233 = .ok (.bipush 13, 2) := by decide +kernel
theorem dX10_shake_235 : decode cX10_shake 235 = .ok (.if_icmp .ge 11, 3) := by decide +kernel
theorem dX10_shake_238 : decode cX10_shake 238 = .ok (.bipush 13, 2) := by decide +kernel
theorem dX10_shake_240 : decode cX10_shake 240 = .ok (.iload 10, 2) := by decide +kernel
theorem dX10_shake_242 : decode cX10_shake 242 = .ok (.isub, 1) := by decide +kernel
theorem dX10_shake_243 : decode cX10_shake 243 = .ok (.goto 8, 3) := by decide +kernel
theorem dX10_shake_246 : decode cX10_shake 246 = .ok (.iload 10, 2) := by decide +kernel
theorem dX10_shake_248 : decode cX10_shake 248 = .ok (.bipush 13, 2) := by decide +kernel
theorem dX10_shake_250 : decode cX10_shake 250 = .ok (.isub, 1) := by decide +kernel
theorem dX10_shake_251 : decode cX10_shake 251 = .ok (.istore 11, 2) := by decide +kernel
theorem dX10_shake_253 : decode cX10_shake 253 = .ok (.lload 8, 2) := by decide +kernel
theorem dX10_shake_255 : decode cX10_shake 255 = .ok (.iload 11, 2) := by decide +kernel
theorem dX10_shake_257 : decode cX10_shake 257 = .ok (.iload 4, 2) := by decide +kernel
theorem dX10_shake_259 : decode cX10_shake 259 = .ok (.if_icmp .lt 13, 3) := by decide +kernel
theorem dX10_shake_262 : decode cX10_shake 262 = .ok (.aload_n 0, 1) := by decide +kernel
theorem dX10_shake_263 : decode cX10_shake 263 = .ok (.getfield 44, 3) := by decide +kernel
theorem dX10_shake_266 : decode cX10_shake 266 = .ok (.iload 10, 2) := by decide +kernel
theorem dX10_shake_268 : decode cX10_shake 268 = .ok (.laload, 1) := by decide +kernel
theorem dX10_shake_269 : decode cX10_shake 269 = .ok (.goto 4, 3) := by decide +kernel
theorem dX10_shake_272 : decode cX10_shake 272 = .ok (.lconst 0, 1) := by decide +kernel
theorem dX10_shake_273 : decode cX10_shake 273 = .ok (.ladd, 1) := by decide +kernel
theorem dX10_shake_274 : decode cX10_shake 274 = .ok (.lstore 8, 2) := by decide +kernel
theorem dX10_shake_276 : decode cX10_shake 276 = .ok (.iinc 10 1, 3) := by decide +kernel
theorem dX10_shake_279 : decode cX10_shake 279 = .ok (.goto (-55), 3) := by decide +kernel
theorem dX10_shake_282 : decode cX10_shake 282 = .ok (.lload 8, 2) := by decide +kernel
theorem dX10_shake_284 : decode cX10_shake 284 = .ok (.lload 6, 2) := by decide +kernel
theorem dX10_shake_286 : decode cX10_shake 286 = .ok (.iload 5, 2) := by decide +kernel
theorem dX10_shake_288 : decode cX10_shake 288 = .ok (.invokestatic 153, 3) := by decide +kernel
theorem dX10_shake_291 : decode cX10_shake 291 = .ok (.lreturn, 1) := by decide +kernel
theorem dX10_year_0 : decode cX10_year 0 = .ok (.iload_n 1, 1) := by decide +kernel
theorem dX10_year_1 : decode cX10_year 1 = .ok (.iconst 0, 1) := by decide +kernel
theorem dX10_year_2 : decode cX10_year 2 = .ok (.sipush 9999, 3) := by decide +kernel
theorem dX10_year_5 : decode cX10_year 5 = .ok (.invokestatic 57, 3) := by decide +kernel
theorem dX10_year_8 : decode cX10_year 8 = .ok (.ifCond .eq 22, 3) := by decide +kernel
theorem dX10_year_11 : decode cX10_year 11 = .ok (.iload_n 2, 1) := by decide +kernel
theorem dX10_year_12 : decode cX10_year 12 = .ok (.iconst 1, 1) := by decide +kernel
theorem dX10_year_13 : decode cX10_year 13 = .ok (.bipush 99, 2) := by decide +kernel
theorem dX10_year_15 : decode cX10_year 15 = .ok (.invokestatic 57, 3) := by decide +kernel
theorem dX10_year_18 : decode cX10_year 18 = .ok (.ifCond .eq 12, 3) := by decide +kernel
theorem dX10_year_21 : decode cX10_year 21 = .ok (.iload_n 3, 1) := by decide +kernel
theorem dX10_year_22 : decode cX10_year 22 = .ok (.iconst 0, 1) := by decide +kernel
theorem dX10_year_23 : decode cX10_year 23 = .ok (.iconst 2, 1) := by decide +kernel
theorem dX10_year_24 : decode cX10_year 24 = .ok (.invokestatic 57, 3) := by decide +kernel
theorem dX10_year_27 : decode cX10_year 27 = .ok (.ifCond .ne 6, 3) := by decide +kernel
theorem dX10_year_30 : decode cX10_year 30 = .ok (.bipush (-2), 2) := by decide +kernel
theorem dX10_year_32 : decode cX10_year 32 = .ok (.ireturn, 1) := by decide +kernel
theorem dX10_year_33 : decode cX10_year 33 = .ok (.aload_n 0, 1) := by decide +kernel
theorem dX10_year_34 : decode cX10_year 34 = .ok (.invokevirtual 122, 3) := by decide +kernel
theorem dX10_year_37 : decode cX10_year 37 = .ok (.iload_n 1, 1) := by decide +kernel
theorem dX10_year_38 : decode cX10_year 38 = .ok (.istore 4, 2) := by decide +kernel
theorem dX10_year_40 : decode cX10_year 40 = .ok (.iconst 0, 1) := by decide +kernel
theorem dX10_year_41 : decode cX10_year 41 = .ok (.istore 5, 2) := by decide +kernel
theorem dX10_year_43 : decode cX10_year 43 = .ok (.iload 5, 2) := by decide +kernel
theorem dX10_year_45 : decode cX10_year 45 = .ok (.iload_n 2, 1) := by decide +kernel
theorem dX10_year_46 : decode cX10_year 46 = .ok (.if_icmp .ge 216, 3) := by decide +kernel
theorem dX10_year_49 : decode cX10_year 49 = .ok (.bipush 75, 2) := by decide +kernel
theorem dX10_year_51 : decode cX10_year 51 = .ok (.iload 4, 2) := by decide +kernel
theorem dX10_year_53 : decode cX10_year 53 = .ok (.imul, 1) := by decide +kernel
theorem dX10_year_54 : decode cX10_year 54 = .ok (.bipush 74, 2) := by decide +kernel
theorem dX10_year_56 : decode cX10_year 56 = .ok (.iadd, 1) := by decide +kernel
theorem dX10_year_57 : decode cX10_year 57 = .ok (.ldc 185, 2) := by decide +kernel
theorem dX10_year_59 : decode cX10_year 59 = .ok (.irem, 1) := by decide +kernel
theorem dX10_year_60 : decode cX10_year 60 = .ok (.istore 4, 2) := by decide +kernel
theorem dX10_year_62 : decode cX10_year 62 = .ok (.iload 4, 2) := by decide +kernel
theorem dX10_year_64 : decode cX10_year 64 = .ok (.bipush 6, 2) := by decide +kernel
theorem dX10_year_66 : decode cX10_year 66 = .ok (.irem, 1) := by decide +kernel
theorem dX10_year_67 : decode cX10_year 67 = .ok (.istore 6, 2) := by decide +kernel
theorem dX10_year_69 : decode cX10_year 69 = .ok (.iconst 1, 1) := by decide +kernel
theorem dX10_year_70 : decode cX10_year 70 = .ok (.iload 4, 2) := by decide +kernel
theorem dX10_year_72 : decode cX10_year 72 = .ok (.bipush 48, 2) := by decide +kernel
theorem dX10_year_74 : decode cX10_year 74 = .ok (.idiv, 1) := by decide +kernel
theorem dX10_year_75 : decode cX10_year 75 = .ok (.bipush 9, 2) := by decide +kernel
theorem dX10_year_77 : decode cX10_year 77 = .ok (.irem, 1) := by decide +kernel
theorem dX10_year_78 : decode cX10_year 78 = .ok (.iadd, 1) := by decide +kernel
theorem dX10_year_79 : decode cX10_year 79 = .ok (.istore 7, 2) := by decide +kernel
theorem dX10_year_81 : decode cX10_year 81 = .ok (.iload 4, 2) := by decide +kernel
theorem dX10_year_83 : decode cX10_year 83 = .ok (.sipush 432, 3) := by decide +kernel
theorem dX10_year_86 : decode cX10_year 86 = .ok (.idiv, 1) := by decide +kernel
theorem dX10_year_87 : decode cX10_year 87 = .ok (.iconst 4, 1) := by decide +kernel
theorem dX10_year_88 : decode cX10_year 88 = .ok (.irem, 1) := by decide +kernel
theorem dX10_year_89 : decode cX10_year 89 = .ok (.istore 8, 2) := by decide +kernel
theorem dX10_year_91 : decode cX10_year 91 = .ok (.iload 4, 2) := by decide +kernel
theorem dX10_year_93 : decode cX10_year 93 = .ok (.bipush 6, 2) := by decide +kernel
theorem dX10_year_95 : decode cX10_year 95 = .ok (.idiv, 1) := by decide +kernel
theorem dX10_year_96 : decode cX10_year 96 = .ok (.bipush 8, 2) := by decide +kernel
theorem dX10_year_98 : decode cX10_year 98 = .ok (.irem, 1) := by decide +kernel
theorem dX10_year_99 : decode cX10_year 99 = .ok (.tableswitch 149 0 6 #[41, 56, 71, 90, 109, 123, 136], 41) := by decide +kernel
theorem dX10_year_140 : decode cX10_year 140 = .ok (.aload_n 0, 1) := by decide +kernel
theorem dX10_year_141 : decode cX10_year 141 = .ok (.aload_n 0, 1) := by decide +kernel
theorem dX10_year_142 : decode cX10_year 142 = .ok (.iload 6, 2) := by decide +kernel
theorem dX10_year_144 : decode cX10_year 144 = .ok (.iload 7, 2) := by decide +kernel
theorem dX10_year_146 : decode cX10_year 146 = .ok (.invokevirtual 112, 3) := by decide +kernel
theorem dX10_year_149 : decode cX10_year 149 = .ok (.putfield 134, 3) := by decide +kernel
theorem dX10_year_152 : decode cX10_year 152 = .ok (.goto 104, 3) := by decide +kernel
theorem dX10_year_155 : decode cX10_year 155 = .ok (.aload_n 0, 1) := by decide +kernel
theorem dX10_year_156 : decode cX10_year 156 = .ok (.aload_n 0, 1) := by decide +kernel
theorem dX10_year_157 : decode cX10_year 157 = .ok (.iload 6, 2) := by decide +kernel
theorem dX10_year_159 : decode cX10_year 159 = .ok (.iload 7, 2) := by decide +kernel
theorem dX10_year_161 : decode cX10_year 161 = .ok (.invokevirtual 115, 3) := by decide +kernel
theorem dX10_year_164 : decode cX10_year 164 = .ok (.putfield 134, 3) := by decide +kernel
theorem dX10_year_167 : decode cX10_year 167 = .ok (.goto 89, 3) := by decide +kernel
theorem dX10_year_170 : decode cX10_year 170 = .ok (.aload_n 0, 1) := by decide +kernel
theorem dX10_year_171 : decode cX10_year 171 = .ok (.aload_n 0, 1) := by decide +kernel
theorem dX10_year_172 : decode cX10_year 172 = .ok (.iload 6, 2) := by decide +kernel
theorem dX10_year_174 : decode cX10_year 174 = .ok (.iload 8, 2) := by decide +kernel
theorem dX10_year_176 : decode cX10_year 176 = .ok (.bipush 26, 2) := by decide +kernel
theorem dX10_year_178 : decode cX10_year 178 = .ok (.iload 7, 2) := by decide +kernel
theorem dX10_year_180 : decode cX10_year 180 = .ok (.invokevirtual 118, 3) := by decide +kernel
theorem dX10_year_183 : decode cX10_year 183 = .ok (.putfield 134, 3) := by decide +kernel
theorem dX10_year_186 : decode cX10_year 186 = .ok (.goto 70, 3) := by decide +kernel
theorem dX10_year_189 : decode cX10_year 189 = .ok (.aload_n 0, 1) := by decide +kernel
theorem dX10_year_190 : decode cX10_year 190 = .ok (.aload_n 0, 1) := by decide +kernel
theorem dX10_year_191 : decode cX10_year 191 = .ok (.iload 6, 2) := by decide +kernel
theorem dX10_year_193 : decode cX10_year 193 = .ok (.iload 8, 2) := by decide +kernel
theorem dX10_year_195 : decode cX10_year 195 = .ok (.bipush 30, 2) := by decide +kernel
theorem dX10_year_197 : decode cX10_year 197 = .ok (.iload 7, 2) := by decide +kernel
theorem dX10_year_199 : decode cX10_year 199 = .ok (.invokevirtual 118, 3) := by decide +kernel
theorem dX10_year_202 : decode cX10_year 202 = .ok (.putfield 134, 3) := by decide +kernel
theorem dX10_year_205 : decode cX10_year 205 = .ok (.goto 51, 3) := by decide +kernel
theorem dX10_year_208 : decode cX10_year 208 = .ok (.aload_n 0, 1) := by decide +kernel
theorem dX10_year_209 : decode cX10_year 209 = .ok (.aload_n 0, 1) := by decide +kernel
theorem dX10_year_210 : decode cX10_year 210 = .ok (.iload 7, 2) := by decide +kernel
theorem dX10_year_212 : decode cX10_year 212 = .ok (.ineg, 1) := by decide +kernel
theorem dX10_year_213 : decode cX10_year 213 = .ok (.invokevirtual 137, 3) := by decide +kernel
theorem dX10_year_216 : decode cX10_year 216 = .ok (.putfield 134, 3) := by decide +kernel
theorem dX10_year_219 : decode cX10_year 219 = .ok (.goto 37, 3) := by decide +kernel
theorem dX10_year_222 : decode cX10_year 222 = .ok (.aload_n 0, 1) := by decide +kernel
theorem dX10_year_223 : decode cX10_year 223 = .ok (.aload_n 0, 1) := by decide +kernel
theorem dX10_year_224 : decode cX10_year 224 = .ok (.iload 7, 2) := by decide +kernel
theorem dX10_year_226 : decode cX10_year 226 = .ok (.invokevirtual 137, 3) := by decide +kernel
theorem dX10_year_229 : decode cX10_year 229 = .ok (.putfield 134, 3) := by decide +kernel
theorem dX10_year_232 : decode cX10_year 232 = .ok (.goto 24, 3) := by decide +kernel
theorem dX10_year_235 : decode cX10_year 235 = .ok (.aload_n 0, 1) := by decide +kernel
theorem dX10_year_236 : decode cX10_year 236 = .ok (.aload_n 0, 1) := by decide +kernel
theorem dX10_year_237 : decode cX10_year 237 = .ok (.iload 6, 2) := by decide +kernel
theorem dX10_year_239 : decode cX10_year 239 = .ok (.invokevirtual 103, 3) := by decide +kernel
theorem dX10_year_242 : decode cX10_year 242 = .ok (.putfield 134, 3) := by decide +kernel
theorem dX10_year_245 : decode cX10_year 245 = .ok (.goto 11, 3) := by decide +kernel
theorem dX10_year_248 : decode cX10_year 248 = .ok (.aload_n 0, 1) := by decide +kernel
theorem dX10_year_249 : decode cX10_year 249 = .ok (.aload_n 0, 1) := by decide +kernel
theorem dX10_year_250 : decode cX10_year 250 = .ok (.invokevirtual 131, 3) := by decide +kernel
theorem dX10_year_253 : decode cX10_year 253 = .ok (.putfield 134, 3) := by decide +kernel
theorem dX10_year_256 : decode cX10_year 256 = .ok (.iinc 5 1, 3) := by decide +kernel
theorem dX10_year_259 : decode cX10_year 259 = .ok (.goto (-216), 3) := by decide +kernel
theorem dX10_year_262 : decode cX10_year 262 = .ok (.iconst 0, 1) := by decide +kernel
theorem dX10_year_263 : decode cX10_year 263 = .ok (.istore 5, 2) := by decide +kernel
theorem dX10_year_265 : decode cX10_year 265 = .ok (.iconst 0, 1) := by decide +kernel
theorem dX10_year_266 : decode cX10_year 266 = .ok (.istore 6, 2) := by decide +kernel
theorem dX10_year_268 : decode cX10_year 268 = .ok (.iload 6, 2) := by decide +kernel
theorem dX10_year_270 : decode cX10_year 270 = .ok (.bipush 6, 2) := by decide +kernel
theorem dX10_year_272 : decode cX10_year 272 = .ok (.if_icmp .ge 21, 3) := by decide +kernel
theorem dX10_year_275 : decode cX10_year 275 = .ok (.iload 5, 2) := by decide +kernel
theorem dX10_year_277 : decode cX10_year 277 = .ok (.aload_n 0, 1) := by decide +kernel
theorem dX10_year_278 : decode cX10_year 278 = .ok (.getfield 13, 3) := by decide +kernel
theorem dX10_year_281 : decode cX10_year 281 = .ok (.iload 6, 2) := by decide +kernel
theorem dX10_year_283 : decode cX10_year 283 = .ok (.iaload, 1) := by decide +kernel
theorem dX10_year_284 : decode cX10_year 284 = .ok (.iadd, 1) := by decide +kernel
theorem dX10_year_285 : decode cX10_year 285 = .ok (.istore 5, 2) := by decide +kernel
theorem dX10_year_287 : decode cX10_year 287 = .ok (.iinc 6 1, 3) := by decide +kernel
theorem dX10_year_290 : decode cX10_year 290 = .ok (.goto (-22), 3) := by decide +kernel
theorem dX10_year_293 : decode cX10_year 293 = .ok (.aload_n 0, 1) := by decide +kernel
theorem dX10_year_294 : decode cX10_year 294 = .ok (.invokevirtual 128, 3) := by decide +kernel
theorem dX10_year_297 : decode cX10_year 297 = .ok (.istore 6, 2) := by decide +kernel
theorem dX10_year_299 : decode cX10_year 299 = .ok (.iload_n 3, 1) := by decide +kernel
theorem dX10_year_300 : decode cX10_year 300 = .ok (.ifCond .ne 13, 3) := by decide +kernel
theorem dX10_year_303 : decode cX10_year 303 = .ok (.aload_n 0, 1) := by decide +kernel
theorem dX10_year_304 : decode cX10_year 304 = .ok (.getfield 13, 3) := by decide +kernel
theorem dX10_year_307 : decode cX10_year 307 = .ok (.bipush 38, 2) := by decide +kernel
theorem dX10_year_309 : decode cX10_year 309 = .ok (.iaload, 1) := by decide +kernel
theorem dX10_year_310 : decode cX10_year 310 = .ok (.goto 38, 3) := by decide +kernel
theorem dX10_year_313 : decode cX10_year 313 = .ok (.iload_n 3, 1) := by decide +kernel
theorem dX10_year_314 : decode cX10_year 314 = .ok (.iconst 1, 1) := by decide +kernel
theorem dX10_year_315 : decode cX10_year 315 = .ok (.if_icmp .ne 8, 3) := by decide +kernel
theorem dX10_year_318 : decode cX10_year 318 = .ok (.iload 5, 2) := by decide +kernel
theorem dX10_year_320 : decode cX10_year 320 = .ok (.goto 28, 3) := by decide +kernel
theorem dX10_year_323 : decode cX10_year 323 = .ok (.iload 6, 2) := by decide +kernel
theorem dX10_year_325 : decode cX10_year 325 = .ok (.iconst 1, 1) := by decide +kernel
theorem dX10_year_326 : decode cX10_year 326 = .ok (.iand, 1) := by decide +kernel
theorem dX10_year_327 : decode cX10_year 327 = .ok (.iload 6, 2) := by decide +kernel
theorem dX10_year_329 : decode cX10_year 329 = .ok (.iconst 1, 1) := by decide +kernel
theorem dX10_year_330 : decode cX10_year 330 = .ok (.ishr, 1) := by decide +kernel
theorem dX10_year_331 : decode cX10_year 331 = .ok (.iconst 1, 1) := by decide +kernel
theorem dX10_year_332 : decode cX10_year 332 = .ok (.iand, 1) := by decide +kernel
theorem dX10_year_333 : decode cX10_year 333 = .ok (.iadd, 1) := by decide +kernel
theorem dX10_year_334 : decode cX10_year 334 = .ok (.iload 6, 2) := by decide +kernel
theorem dX10_year_336 : decode cX10_year 336 = .ok (.iconst 2, 1) := by decide +kernel
theorem dX10_year_337 : decode cX10_year 337 = .ok (.ishr, 1) := by decide +kernel
theorem dX10_year_338 : decode cX10_year 338 = .ok (.iconst 1, 1) := by decide +kernel
theorem dX10_year_339 : decode cX10_year 339 = .ok (.iand, 1) := by decide +kernel
theorem dX10_year_340 : decode cX10_year 340 = .ok (.iadd, 1) := by decide +kernel
theorem dX10_year_341 : decode cX10_year 341 = .ok (.iload 6, 2) := by decide +kernel
theorem dX10_year_343 : decode cX10_year 343 = .ok (.iconst 3, 1) := by decide +kernel
theorem dX10_year_344 : decode cX10_year 344 = .ok (.ishr, 1) := by decide +kernel
theorem dX10_year_345 : decode cX10_year 345 = .ok (.iconst 1, 1) := by decide +kernel
theorem dX10_year_346 : decode cX10_year 346 = .ok (.iand, 1) := by decide +kernel
theorem dX10_year_347 : decode cX10_year 347 = .ok (.iadd, 1) := by decide +kernel
theorem dX10_year_348 : decode cX10_year 348 = .ok (.ireturn, 1) := by decide +kernel
theorem dX10_image_0 : decode cX10_image 0 = .ok (.iload_n 1, 1) := by decide +kernel
theorem dX10_image_1 : decode cX10_image 1 = .ok (.iconst 0, 1) := by decide +kernel
theorem dX10_image_2 : decode cX10_image 2 = .ok (.iconst 1, 1) := by decide +kernel
theorem dX10_image_3 : decode cX10_image 3 = .ok (.invokestatic 57, 3) := by decide +kernel
theorem dX10_image_6 : decode cX10_image 6 = .ok (.ifCond .ne 6, 3) := by decide +kernel
theorem dX10_image_9 : decode cX10_image 9 = .ok (.bipush (-2), 2) := by decide +kernel
theorem dX10_image_11 : decode cX10_image 11 = .ok (.ireturn, 1) := by decide +kernel
theorem dX10_image_12 : decode cX10_image 12 = .ok (.bipush 70, 2) := by decide +kernel
theorem dX10_image_14 : decode cX10_image 14 = .ok (.iload_n 1, 1) := by decide +kernel
theorem dX10_image_15 : decode cX10_image 15 = .ok (.imul, 1) := by decide +kernel
theorem dX10_image_16 : decode cX10_image 16 = .ok (.istore_n 2, 1) := by decide +kernel
theorem dX10_image_17 : decode cX10_image 17 = .ok (.iconst 0, 1) := by decide +kernel
theorem dX10_image_18 : decode cX10_image 18 = .ok (.istore_n 3, 1) := by decide +kernel
theorem dX10_image_19 : decode cX10_image 19 = .ok (.iload_n 3, 1) := by decide +kernel
theorem dX10_image_20 : decode cX10_image 20 = .ok (.bipush 40, 2) := by decide +kernel
theorem dX10_image_22 : decode cX10_image 22 = .ok (.if_icmp .ge 23, 3) := by decide +kernel
theorem dX10_image_25 : decode cX10_image 25 = .ok (.aload_n 0, 1) := by decide +kernel
theorem dX10_image_26 : decode cX10_image 26 = .ok (.getfield 51, 3) := by decide +kernel
theorem dX10_image_29 : decode cX10_image 29 = .ok (.iload_n 2, 1) := by decide +kernel
theorem dX10_image_30 : decode cX10_image 30 = .ok (.iload_n 3, 1) := by decide +kernel
theorem dX10_image_31 : decode cX10_image 31 = .ok (.iadd, 1) := by decide +kernel
theorem dX10_image_32 : decode cX10_image 32 = .ok (.aload_n 0, 1) := by decide +kernel
theorem dX10_image_33 : decode cX10_image 33 = .ok (.getfield 7, 3) := by decide +kernel
theorem dX10_image_36 : decode cX10_image 36 = .ok (.iload_n 3, 1) := by decide +kernel
theorem dX10_image_37 : decode cX10_image 37 = .ok (.iaload, 1) := by decide +kernel
theorem dX10_image_38 : decode cX10_image 38 = .ok (.iastore, 1) := by decide +kernel
theorem dX10_image_39 : decode cX10_image 39 = .ok (.iinc 3 1, 3) := by decide +kernel
theorem dX10_image_42 : decode cX10_image 42 = .ok (.goto (-23), 3) := by decide +kernel
theorem dX10_image_45 : decode cX10_image 45 = .ok (.iconst 0, 1) := by decide +kernel
theorem dX10_image_46 : decode cX10_image 46 = .ok (.istore_n 3, 1) := by decide +kernel
theorem dX10_image_47 : decode cX10_image 47 = .ok (.iload_n 3, 1) := by decide +kernel
theorem dX10_image_48 : decode cX10_image 48 = .ok (.bipush 7, 2) := by decide +kernel
theorem dX10_image_50 : decode cX10_image 50 = .ok (.if_icmp .ge 26, 3) := by decide +kernel
theorem dX10_image_53 : decode cX10_image 53 = .ok (.aload_n 0, 1) := by decide +kernel
theorem dX10_image_54 : decode cX10_image 54 = .ok (.getfield 51, 3) := by decide +kernel
theorem dX10_image_57 : decode cX10_image 57 = .ok (.iload_n 2, 1) := by decide +kernel
theorem dX10_image_58 : decode cX10_image 58 = .ok (.bipush 40, 2) := by decide +kernel
theorem dX10_image_60 : decode cX10_image 60 = .ok (.iadd, 1) := by decide +kernel
theorem dX10_image_61 : decode cX10_image 61 = .ok (.iload_n 3, 1) := by decide +kernel
theorem dX10_image_62 : decode cX10_image 62 = .ok (.iadd, 1) := by decide +kernel
theorem dX10_image_63 : decode cX10_image 63 = .ok (.aload_n 0, 1) := by decide +kernel
theorem dX10_image_64 : decode cX10_image 64 = .ok (.getfield 16, 3) := by decide +kernel
theorem dX10_image_67 : decode cX10_image 67 = .ok (.iload_n 3, 1) := by decide +kernel
theorem dX10_image_68 : decode cX10_image 68 = .ok (.iaload, 1) := by decide +kernel
theorem dX10_image_69 : decode cX10_image 69 = .ok (.iastore, 1) := by decide +kernel
theorem dX10_image_70 : decode cX10_image 70 = .ok (.iinc 3 1, 3) := by decide +kernel
theorem dX10_image_73 : decode cX10_image 73 = .ok (.goto (-26), 3) := by decide +kernel
theorem dX10_image_76 : decode cX10_image 76 = .ok (.iconst 0, 1) := by decide +kernel
theorem dX10_image_77 : decode cX10_image 77 = .ok (.istore_n 3, 1) := by decide +kernel
theorem dX10_image_78 : decode cX10_image 78 = .ok (.iload_n 3, 1) := by decide +kernel
theorem dX10_image_79 : decode cX10_image 79 = .ok (.bipush 16, 2) := by decide +kernel
theorem dX10_image_81 : decode cX10_image 81 = .ok (.if_icmp .ge 26, 3) := by decide +kernel
theorem dX10_image_84 : decode cX10_image 84 = .ok (.aload_n 0, 1) := by decide +kernel
theorem dX10_image_85 : decode cX10_image 85 = .ok (.getfield 51, 3) := by decide +kernel
theorem dX10_image_88 : decode cX10_image 88 = .ok (.iload_n 2, 1) := by decide +kernel
theorem dX10_image_89 : decode cX10_image 89 = .ok (.bipush 47, 2) := by decide +kernel
theorem dX10_image_91 : decode cX10_image 91 = .ok (.iadd, 1) := by decide +kernel
theorem dX10_image_92 : decode cX10_image 92 = .ok (.iload_n 3, 1) := by decide +kernel
theorem dX10_image_93 : decode cX10_image 93 = .ok (.iadd, 1) := by decide +kernel
theorem dX10_image_94 : decode cX10_image 94 = .ok (.aload_n 0, 1) := by decide +kernel
theorem dX10_image_95 : decode cX10_image 95 = .ok (.getfield 19, 3) := by decide +kernel
theorem dX10_image_98 : decode cX10_image 98 = .ok (.iload_n 3, 1) := by decide +kernel
theorem dX10_image_99 : decode cX10_image 99 = .ok (.iaload, 1) := by decide +kernel
theorem dX10_image_100 : decode cX10_image 100 = .ok (.iastore, 1) := by decide +kernel
theorem dX10_image_101 : decode cX10_image 101 = .ok (.iinc 3 1, 3) := by decide +kernel
theorem dX10_image_104 : decode cX10_image 104 = .ok (.goto (-26), 3) := by decide +kernel
theorem dX10_image_107 : decode cX10_image 107 = .ok (.aload_n 0, 1) := by decide +kernel
theorem dX10_image_108 : decode cX10_image 108 = .ok (.getfield 51, 3) := by decide +kernel
theorem dX10_image_111 : decode cX10_image 111 = .ok (.iload_n 2, 1) := by decide +kernel
theorem dX10_image_112 : decode cX10_image 112 = .ok (.bipush 64, 2) := by decide +kernel
theorem dX10_image_114 : decode cX10_image 114 = .ok (.iadd, 1) := by decide +kernel
theorem dX10_image_115 : decode cX10_image 115 = .ok (.aload_n 0, 1) := by decide +kernel
theorem dX10_image_116 : decode cX10_image 116 = .ok (.getfield 167, 3) := by decide +kernel
theorem dX10_image_119 : decode cX10_image 119 = .ok (.iastore, 1) := by decide +kernel
theorem dX10_image_120 : decode cX10_image 120 = .ok (.aload_n 0, 1) := by decide +kernel
theorem dX10_image_121 : decode cX10_image 121 = .ok (.getfield 54, 3) := by decide +kernel
theorem dX10_image_124 : decode cX10_image 124 = .ok (.iload_n 1, 1) := by decide +kernel
theorem dX10_image_125 : decode cX10_image 125 = .ok (.iconst 1, 1) := by decide +kernel
theorem dX10_image_126 : decode cX10_image 126 = .ok (.bastore, 1) := by decide +kernel
theorem dX10_image_127 : decode cX10_image 127 = .ok (.iconst 1, 1) := by decide +kernel
theorem dX10_image_128 : decode cX10_image 128 = .ok (.ireturn, 1) := by decide +kernel
theorem dX10_restore_0 : decode cX10_restore 0 = .ok (.iload_n 1, 1) := by decide +kernel
theorem dX10_restore_1 : decode cX10_restore 1 = .ok (.iconst 0, 1) := by decide +kernel
theorem dX10_restore_2 : decode cX10_restore 2 = .ok (.iconst 1, 1) := by decide +kernel
theorem dX10_restore_3 : decode cX10_restore 3 = .ok (.invokestatic 57, 3) := by decide +kernel
theorem dX10_restore_6 : decode cX10_restore 6 = .ok (.ifCond .ne 6, 3) := by decide +kernel
theorem dX10_restore_9 : decode cX10_restore 9 = .ok (.bipush (-2), 2) := by decide +kernel
theorem dX10_restore_11 : decode cX10_restore 11 = .ok (.ireturn, 1) := by decide +kernel
theorem dX10_restore_12 : decode cX10_restore 12 = .ok (.aload_n 0, 1) := by decide +kernel
theorem dX10_restore_13 : decode cX10_restore 13 = .ok (.getfield 54, 3) := by decide +kernel
theorem dX10_restore_16 : decode cX10_restore 16 = .ok (.iload_n 1, 1) := by decide +kernel
theorem dX10_restore_17 : decode cX10_restore 17 = .ok (.baload, 1) := by decide +kernel
theorem dX10_restore_18 : decode cX10_restore 18 = .ok (.ifCond .ne 6, 3) := by decide +kernel
theorem dX10_restore_21 : decode cX10_restore 21 = .ok (.bipush (-3), 2) := by decide +kernel
theorem dX10_restore_23 : decode cX10_restore 23 = .ok (.ireturn, 1) := by decide +kernel
theorem dX10_restore_24 : decode cX10_restore 24 = .ok (.bipush 70, 2) := by decide +kernel
theorem dX10_restore_26 : decode cX10_restore 26 = .ok (.iload_n 1, 1) := by decide +kernel
theorem dX10_restore_27 : decode cX10_restore 27 = .ok (.imul, 1) := by decide +kernel
theorem dX10_restore_28 : decode cX10_restore 28 = .ok (.istore_n 2, 1) := by decide +kernel
theorem dX10_restore_29 : decode cX10_restore 29 = .ok (.iconst 0, 1) := by decide +kernel
theorem dX10_restore_30 : decode cX10_restore 30 = .ok (.istore_n 3, 1) := by decide +kernel
theorem dX10_restore_31 : decode cX10_restore 31 = .ok (.iload_n 3, 1) := by decide +kernel
theorem dX10_restore_32 : decode cX10_restore 32 = .ok (.bipush 40, 2) := by decide +kernel
theorem dX10_restore_34 : decode cX10_restore 34 = .ok (.if_icmp .ge 23, 3) := by decide +kernel
theorem dX10_restore_37 : decode cX10_restore 37 = .ok (.aload_n 0, 1) := by decide +kernel
theorem dX10_restore_38 : decode cX10_restore 38 = .ok (.getfield 7, 3) := by decide +kernel
theorem dX10_restore_41 : decode cX10_restore 41 = .ok (.iload_n 3, 1) := by decide +kernel
theorem dX10_restore_42 : decode cX10_restore 42 = .ok (.aload_n 0, 1) := by decide +kernel
theorem dX10_restore_43 : decode cX10_restore 43 = .ok (.getfield 51, 3) := by decide +kernel
theorem dX10_restore_46 : decode cX10_restore 46 = .ok (.iload_n 2, 1) := by decide +kernel
theorem dX10_restore_47 : decode cX10_restore 47 = .ok (.iload_n 3, 1) := by decide +kernel
theorem dX10_restore_48 : decode cX10_restore 48 = .ok (.iadd, 1) := by decide +kernel
theorem dX10_restore_49 : decode cX10_restore 49 = .ok (.iaload, 1) := by decide +kernel
theorem dX10_restore_50 : decode cX10_restore 50 = .ok (.iastore, 1) := by decide +kernel
theorem dX10_restore_51 : decode cX10_restore 51 = .ok (.iinc 3 1, 3) := by decide +kernel
theorem dX10_restore_54 : decode cX10_restore 54 = .ok (.goto (-23), 3) := by decide +kernel
theorem dX10_restore_57 : decode cX10_restore 57 = .ok (.iconst 0, 1) := by decide +kernel
theorem dX10_restore_58 : decode cX10_restore 58 = .ok (.istore_n 3, 1) := by decide +kernel
theorem dX10_restore_59 : decode cX10_restore 59 = .ok (.iload_n 3, 1) := by decide +kernel
theorem dX10_restore_60 : decode cX10_restore 60 = .ok (.bipush 7, 2) := by decide +kernel
theorem dX10_restore_62 : decode cX10_restore 62 = .ok (.if_icmp .ge 26, 3) := by decide +kernel
theorem dX10_restore_65 : decode cX10_restore 65 = .ok (.aload_n 0, 1) := by decide +kernel
theorem dX10_restore_66 : decode cX10_restore 66 = .ok (.getfield 16, 3) := by decide +kernel
theorem dX10_restore_69 : decode cX10_restore 69 = .ok (.iload_n 3, 1) := by decide +kernel
theorem dX10_restore_70 : decode cX10_restore 70 = .ok (.aload_n 0, 1) := by decide +kernel
theorem dX10_restore_71 : decode cX10_restore 71 = .ok (.getfield 51, 3) := by decide +kernel
theorem dX10_restore_74 : decode cX10_restore 74 = .ok (.iload_n 2, 1) := by decide +kernel
theorem dX10_restore_75 : decode cX10_restore 75 = .ok (.bipush 40, 2) := by decide +kernel
theorem dX10_restore_77 : decode cX10_restore 77 = .ok (.iadd, 1) := by decide +kernel
theorem dX10_restore_78 : decode cX10_restore 78 = .ok (.iload_n 3, 1) := by decide +kernel
theorem dX10_restore_79 : decode cX10_restore 79 = .ok (.iadd, 1) := by decide +kernel
theorem dX10_restore_80 : decode cX10_restore 80 = .ok (.iaload, 1) := by decide +kernel
theorem dX10_restore_81 : decode cX10_restore 81 = .ok (.iastore, 1) := by decide +kernel
theorem dX10_restore_82 : decode cX10_restore 82 = .ok (.iinc 3 1, 3) := by decide +kernel
theorem dX10_restore_85 : decode cX10_restore 85 = .ok (.goto (-26), 3) := by decide +kernel
theorem dX10_restore_88 : decode cX10_restore 88 = .ok (.iconst 0, 1) := by decide +kernel
theorem dX10_restore_89 : decode cX10_restore 89 = .ok (.istore_n 3, 1) := by decide +kernel
theorem dX10_restore_90 : decode cX10_restore 90 = .ok (.iload_n 3, 1) := by decide +kernel
theorem dX10_restore_91 : decode cX10_restore 91 = .ok (.bipush 16, 2) := by decide +kernel
theorem dX10_restore_93 : decode cX10_restore 93 = .ok (.if_icmp .ge 26, 3) := by decide +kernel
theorem dX10_restore_96 : decode cX10_restore 96 = .ok (.aload_n 0, 1) := by decide +kernel
theorem dX10_restore_97 : decode cX10_restore 97 = .ok (.getfield 19, 3) := by decide +kernel
theorem dX10_restore_100 : decode cX10_restore 100 = .ok (.iload_n 3, 1) := by decide +kernel
theorem dX10_restore_101 : decode cX10_restore 101 = .ok (.aload_n 0, 1) := by decide +kernel
theorem dX10_restore_102 : decode cX10_restore 102 = .ok (.getfield 51, 3) := by decide +kernel
theorem dX10_restore_105 : decode cX10_restore 105 = .ok (.iload_n 2, 1) := by decide +kernel
theorem dX10_restore_106 : decode cX10_restore 106 = .ok (.bipush 47, 2) := by decide +kernel
theorem dX10_restore_108 : decode cX10_restore 108 = .ok (.iadd, 1) := by decide +kernel
theorem dX10_restore_109 : decode cX10_restore 109 = .ok (.iload_n 3, 1) := by decide +kernel
theorem dX10_restore_110 : decode cX10_restore 110 = .ok (.iadd, 1) := by decide +kernel
theorem dX10_restore_111 : decode cX10_restore 111 = .ok (.iaload, 1) := by decide +kernel
theorem dX10_restore_112 : decode cX10_restore 112 = .ok (.iastore, 1) := by decide +kernel
theorem dX10_restore_113 : decode cX10_restore 113 = .ok (.iinc 3 1, 3) := by decide +kernel
theorem dX10_restore_116 : decode cX10_restore 116 = .ok (.goto (-26), 3) := by decide +kernel
theorem dX10_restore_119 : decode cX10_restore 119 = .ok (.aload_n 0, 1) := by decide +kernel
theorem dX10_restore_120 : decode cX10_restore 120 = .ok (.aload_n 0, 1) := by decide +kernel
theorem dX10_restore_121 : decode cX10_restore 121 = .ok (.getfield 51, 3) := by decide +kernel
theorem dX10_restore_124 : decode cX10_restore 124 = .ok (.iload_n 2, 1) := by decide +kernel
theorem dX10_restore_125 : decode cX10_restore 125 = .ok (.bipush 64, 2) := by decide +kernel
theorem dX10_restore_127 : decode cX10_restore 127 = .ok (.iadd, 1) := by decide +kernel
theorem dX10_restore_128 : decode cX10_restore 128 = .ok (.iaload, 1) := by decide +kernel
theorem dX10_restore_129 : decode cX10_restore 129 = .ok (.putfield 167, 3) := by decide +kernel
theorem dX10_restore_132 : decode cX10_restore 132 = .ok (.iconst 1, 1) := by decide +kernel
theorem dX10_restore_133 : decode cX10_restore 133 = .ok (.ireturn, 1) := by decide +kernel
theorem dX10_told_0 : decode cX10_told 0 = .ok (.iload_n 1, 1) := by decide +kernel
theorem dX10_told_1 : decode cX10_told 1 = .ok (.bipush 100, 2) := by decide +kernel
theorem dX10_told_3 : decode cX10_told 3 = .ok (.if_icmp .lt 63, 3) := by decide +kernel
theorem dX10_told_6 : decode cX10_told 6 = .ok (.iload_n 1, 1) := by decide +kernel
theorem dX10_told_7 : decode cX10_told 7 = .ok (.bipush 10, 2) := by decide +kernel
theorem dX10_told_9 : decode cX10_told 9 = .ok (.idiv, 1) := by decide +kernel
theorem dX10_told_10 : decode cX10_told 10 = .ok (.bipush 10, 2) := by decide +kernel
theorem dX10_told_12 : decode cX10_told 12 = .ok (.isub, 1) := by decide +kernel
theorem dX10_told_13 : decode cX10_told 13 = .ok (.istore_n 2, 1) := by decide +kernel
theorem dX10_told_14 : decode cX10_told 14 = .ok (.iload_n 1, 1) := by decide +kernel
theorem dX10_told_15 : decode cX10_told 15 = .ok (.bipush 10, 2) := by decide +kernel
theorem dX10_told_17 : decode cX10_told 17 = .ok (.irem, 1) := by decide +kernel
theorem dX10_told_18 : decode cX10_told 18 = .ok (.istore_n 3, 1) := by decide +kernel
theorem dX10_told_19 : decode cX10_told 19 = .ok (.iload_n 2, 1) := by decide +kernel
theorem dX10_told_20 : decode cX10_told 20 = .ok (.invokestatic 69, 3) := by decide +kernel
theorem dX10_told_23 : decode cX10_told 23 = .ok (.ifCond .eq 8, 3) := by decide +kernel
theorem dX10_told_26 : decode cX10_told 26 = .ok (.iload_n 3, 1) := by decide +kernel
theorem dX10_told_27 : decode cX10_told 27 = .ok (.iconst 2, 1) := by decide +kernel
theorem dX10_told_28 : decode cX10_told 28 = .ok (.if_icmp .le 8, 3) := by decide +kernel
theorem dX10_told_31 : decode cX10_told 31 = .ok (.bipush (-2), 2) := by decide +kernel
theorem dX10_told_33 : decode cX10_told 33 = .ok (.goto 32, 3) := by decide +kernel
theorem dX10_told_36 : decode cX10_told 36 = .ok (.iload_n 3, 1) := by decide +kernel
theorem dX10_told_37 : decode cX10_told 37 = .ok (.ifCond .ne 15, 3) := by decide +kernel
theorem dX10_told_40 : decode cX10_told 40 = .ok (.aload_n 0, 1) := by decide +kernel
theorem dX10_told_41 : decode cX10_told 41 = .ok (.getfield 7, 3) := by decide +kernel
theorem dX10_told_44 : decode cX10_told 44 = .ok (.bipush 34, 2) := by decide +kernel
theorem dX10_told_46 : decode cX10_told 46 = .ok (.iload_n 2, 1) := by decide +kernel
theorem dX10_told_47 : decode cX10_told 47 = .ok (.iadd, 1) := by decide +kernel
theorem dX10_told_48 : decode cX10_told 48 = .ok (.iaload, 1) := by decide +kernel
theorem dX10_told_49 : decode cX10_told 49 = .ok (.goto 16, 3) := by decide +kernel
theorem dX10_told_52 : decode cX10_told 52 = .ok (.aload_n 0, 1) := by decide +kernel
theorem dX10_told_53 : decode cX10_told 53 = .ok (.getfield 7, 3) := by decide +kernel
theorem dX10_told_56 : decode cX10_told 56 = .ok (.bipush 22, 2) := by decide +kernel
theorem dX10_told_58 : decode cX10_told 58 = .ok (.iconst 4, 1) := by decide +kernel
theorem dX10_told_59 : decode cX10_told 59 = .ok (.iload_n 3, 1) := by decide +kernel
theorem dX10_told_60 : decode cX10_told 60 = .ok (.imul, 1) := by decide +kernel
theorem dX10_told_61 : decode cX10_told 61 = .ok (.iadd, 1) := by decide +kernel
theorem dX10_told_62 : decode cX10_told 62 = .ok (.iload_n 2, 1) := by decide +kernel
theorem dX10_told_63 : decode cX10_told 63 = .ok (.iadd, 1) := by decide +kernel
theorem dX10_told_64 : decode cX10_told 64 = .ok (.iaload, 1) := by decide +kernel
theorem dX10_told_65 : decode cX10_told 65 = .ok (.ireturn, 1) := by decide +kernel
theorem dX10_told_66 : decode cX10_told 66 = .ok (.iload_n 1, 1) := by decide +kernel
theorem dX10_told_67 : decode cX10_told 67 = .ok (.bipush 40, 2) := by decide +kernel
theorem dX10_told_69 : decode cX10_told 69 = .ok (.if_icmp .lt 54, 3) := by decide +kernel
theorem dX10_told_72 : decode cX10_told 72 = .ok (.iload_n 1, 1) := by decide +kernel
theorem dX10_told_73 : decode cX10_told 73 = .ok (.bipush 10, 2) := by decide +kernel
theorem dX10_told_75 : decode cX10_told 75 = .ok (.idiv, 1) := by decide +kernel
theorem dX10_told_76 : decode cX10_told 76 = .ok (.iconst 4, 1) := by decide +kernel
theorem dX10_told_77 : decode cX10_told 77 = .ok (.isub, 1) := by decide +kernel
theorem dX10_told_78 : decode cX10_told 78 = .ok (.istore_n 2, 1) := by decide +kernel
theorem dX10_told_79 : decode cX10_told 79 = .ok (.iload_n 1, 1) := by decide +kernel
theorem dX10_told_80 : decode cX10_told 80 = .ok (.bipush 10, 2) := by decide +kernel
theorem dX10_told_82 : decode cX10_told 82 = .ok (.irem, 1) := by decide +kernel
theorem dX10_told_83 : decode cX10_told 83 = .ok (.istore_n 3, 1) := by decide +kernel
theorem dX10_told_84 : decode cX10_told 84 = .ok (.aload_n 0, 1) := by decide +kernel
theorem dX10_told_85 : decode cX10_told 85 = .ok (.invokevirtual 122, 3) := by decide +kernel
theorem dX10_told_88 : decode cX10_told 88 = .ok (.iload_n 3, 1) := by decide +kernel
theorem dX10_told_89 : decode cX10_told 89 = .ok (.iconst 3, 1) := by decide +kernel
theorem dX10_told_90 : decode cX10_told 90 = .ok (.if_icmp .le 8, 3) := by decide +kernel
theorem dX10_told_93 : decode cX10_told 93 = .ok (.bipush (-2), 2) := by decide +kernel
theorem dX10_told_95 : decode cX10_told 95 = .ok (.goto 27, 3) := by decide +kernel
theorem dX10_told_98 : decode cX10_told 98 = .ok (.iload_n 3, 1) := by decide +kernel
theorem dX10_told_99 : decode cX10_told 99 = .ok (.iconst 3, 1) := by decide +kernel
theorem dX10_told_100 : decode cX10_told 100 = .ok (.if_icmp .ne 11, 3) := by decide +kernel
theorem dX10_told_103 : decode cX10_told 103 = .ok (.aload_n 0, 1) := by decide +kernel
theorem dX10_told_104 : decode cX10_told 104 = .ok (.iload_n 2, 1) := by decide +kernel
theorem dX10_told_105 : decode cX10_told 105 = .ok (.invokevirtual 90, 3) := by decide +kernel
theorem dX10_told_108 : decode cX10_told 108 = .ok (.goto 14, 3) := by decide +kernel
theorem dX10_told_111 : decode cX10_told 111 = .ok (.aload_n 0, 1) := by decide +kernel
theorem dX10_told_112 : decode cX10_told 112 = .ok (.getfield 7, 3) := by decide +kernel
theorem dX10_told_115 : decode cX10_told 115 = .ok (.bipush 6, 2) := by decide +kernel
theorem dX10_told_117 : decode cX10_told 117 = .ok (.iload_n 3, 1) := by decide +kernel
theorem dX10_told_118 : decode cX10_told 118 = .ok (.imul, 1) := by decide +kernel
theorem dX10_told_119 : decode cX10_told 119 = .ok (.iload_n 2, 1) := by decide +kernel
theorem dX10_told_120 : decode cX10_told 120 = .ok (.iadd, 1) := by decide +kernel
theorem dX10_told_121 : decode cX10_told 121 = .ok (.iaload, 1) := by decide +kernel
theorem dX10_told_122 : decode cX10_told 122 = .ok (.ireturn, 1) := by decide +kernel
theorem dX10_told_123 : decode cX10_told 123 = .ok (.iload_n 1, 1) := by decide +kernel
theorem dX10_told_124 : decode cX10_told 124 = .ok (.bipush 20, 2) := by decide +kernel
theorem dX10_told_126 : decode cX10_told 126 = .ok (.if_icmp .lt 31, 3) := by decide +kernel
theorem dX10_told_129 : decode cX10_told 129 = .ok (.iload_n 1, 1) := by decide +kernel
theorem dX10_told_130 : decode cX10_told 130 = .ok (.bipush 20, 2) := by decide +kernel
theorem dX10_told_132 : decode cX10_told 132 = .ok (.isub, 1) := by decide +kernel
theorem dX10_told_133 : decode cX10_told 133 = .ok (.invokestatic 66, 3) := by decide +kernel
theorem dX10_told_136 : decode cX10_told 136 = .ok (.ifCond .eq 18, 3) := by decide +kernel
theorem dX10_told_139 : decode cX10_told 139 = .ok (.aload_n 0, 1) := by decide +kernel
theorem dX10_told_140 : decode cX10_told 140 = .ok (.getfield 7, 3) := by decide +kernel
theorem dX10_told_143 : decode cX10_told 143 = .ok (.bipush 18, 2) := by decide +kernel
theorem dX10_told_145 : decode cX10_told 145 = .ok (.iload_n 1, 1) := by decide +kernel
theorem dX10_told_146 : decode cX10_told 146 = .ok (.iadd, 1) := by decide +kernel
theorem dX10_told_147 : decode cX10_told 147 = .ok (.bipush 20, 2) := by decide +kernel
theorem dX10_told_149 : decode cX10_told 149 = .ok (.isub, 1) := by decide +kernel
theorem dX10_told_150 : decode cX10_told 150 = .ok (.iaload, 1) := by decide +kernel
theorem dX10_told_151 : decode cX10_told 151 = .ok (.goto 5, 3) := by decide +kernel
theorem dX10_told_154 : decode cX10_told 154 = .ok (.bipush (-2), 2) := by decide +kernel
theorem dX10_told_156 : decode cX10_told 156 = .ok (.ireturn, 1) := by decide +kernel
theorem dX10_told_157 : decode cX10_told 157 = .ok (.iload_n 1, 1) := by decide +kernel
theorem dX10_told_158 : decode cX10_told 158 = .ok (.bipush 10, 2) := by decide +kernel
theorem dX10_told_160 : decode cX10_told 160 = .ok (.if_icmp .lt 32, 3) := by decide +kernel
theorem dX10_told_163 : decode cX10_told 163 = .ok (.iload_n 1, 1) := by decide +kernel
theorem dX10_told_164 : decode cX10_told 164 = .ok (.bipush 10, 2) := by decide +kernel
theorem dX10_told_166 : decode cX10_told 166 = .ok (.bipush 16, 2) := by decide +kernel
theorem dX10_told_168 : decode cX10_told 168 = .ok (.invokestatic 57, 3) := by decide +kernel
theorem dX10_told_171 : decode cX10_told 171 = .ok (.ifCond .eq 18, 3) := by decide +kernel
theorem dX10_told_174 : decode cX10_told 174 = .ok (.aload_n 0, 1) := by decide +kernel
theorem dX10_told_175 : decode cX10_told 175 = .ok (.getfield 16, 3) := by decide +kernel
theorem dX10_told_178 : decode cX10_told 178 = .ok (.iload_n 1, 1) := by decide +kernel
theorem dX10_told_179 : decode cX10_told 179 = .ok (.bipush 10, 2) := by decide +kernel
theorem dX10_told_181 : decode cX10_told 181 = .ok (.isub, 1) := by decide +kernel
theorem dX10_told_182 : decode cX10_told 182 = .ok (.iaload, 1) := by decide +kernel
theorem dX10_told_183 : decode cX10_told 183 = .ok (.bipush 9, 2) := by decide +kernel
theorem dX10_told_185 : decode cX10_told 185 = .ok (.iadd, 1) := by decide +kernel
theorem dX10_told_186 : decode cX10_told 186 = .ok (.goto 5, 3) := by decide +kernel
theorem dX10_told_189 : decode cX10_told 189 = .ok (.bipush (-2), 2) := by decide +kernel
theorem dX10_told_191 : decode cX10_told 191 = .ok (.ireturn, 1) := by decide +kernel
theorem dX10_told_192 : decode cX10_told 192 = .ok (.iload_n 1, 1) := by decide +kernel
theorem dX10_told_193 : decode cX10_told 193 = .ok (.ifCond .ne 10, 3) := by decide +kernel
theorem dX10_told_196 : decode cX10_told 196 = .ok (.aload_n 0, 1) := by decide +kernel
theorem dX10_told_197 : decode cX10_told 197 = .ok (.getfield 72, 3) := by decide +kernel
theorem dX10_told_200 : decode cX10_told 200 = .ok (.goto 39, 3) := by decide +kernel
theorem dX10_told_203 : decode cX10_told 203 = .ok (.iload_n 1, 1) := by decide +kernel
theorem dX10_told_204 : decode cX10_told 204 = .ok (.iconst 1, 1) := by decide +kernel
theorem dX10_told_205 : decode cX10_told 205 = .ok (.if_icmp .eq 8, 3) := by decide +kernel
theorem dX10_told_208 : decode cX10_told 208 = .ok (.iload_n 1, 1) := by decide +kernel
theorem dX10_told_209 : decode cX10_told 209 = .ok (.iconst 2, 1) := by decide +kernel
theorem dX10_told_210 : decode cX10_told 210 = .ok (.if_icmp .ne 15, 3) := by decide +kernel
theorem dX10_told_213 : decode cX10_told 213 = .ok (.aload_n 0, 1) := by decide +kernel
theorem dX10_told_214 : decode cX10_told 214 = .ok (.getfield 7, 3) := by decide +kernel
theorem dX10_told_217 : decode cX10_told 217 = .ok (.bipush 37, 2) := by decide +kernel
theorem dX10_told_219 : decode cX10_told 219 = .ok (.iload_n 1, 1) := by decide +kernel
theorem dX10_told_220 : decode cX10_told 220 = .ok (.iadd, 1) := by decide +kernel
theorem dX10_told_221 : decode cX10_told 221 = .ok (.iaload, 1) := by decide +kernel
theorem dX10_told_222 : decode cX10_told 222 = .ok (.goto 17, 3) := by decide +kernel
theorem dX10_told_225 : decode cX10_told 225 = .ok (.iload_n 1, 1) := by decide +kernel
theorem dX10_told_226 : decode cX10_told 226 = .ok (.iconst 3, 1) := by decide +kernel
theorem dX10_told_227 : decode cX10_told 227 = .ok (.if_icmp .ne 10, 3) := by decide +kernel
theorem dX10_told_230 : decode cX10_told 230 = .ok (.aload_n 0, 1) := by decide +kernel
theorem dX10_told_231 : decode cX10_told 231 = .ok (.getfield 167, 3) := by decide +kernel
theorem dX10_told_234 : decode cX10_told 234 = .ok (.goto 5, 3) := by decide +kernel
theorem dX10_told_237 : decode cX10_told 237 = .ok (.bipush (-2), 2) := by decide +kernel
theorem dX10_told_239 : decode cX10_told 239 = .ok (.ireturn, 1) := by decide +kernel
end
section
theorem dL_law_0 : decode cL_law 0 = .ok (.new 7, 3) := by decide +kernel
theorem dL_law_3 : decode cL_law 3 = .ok (.dup, 1) := by decide +kernel
theorem dL_law_4 : decode cL_law 4 = .ok (.invokespecial 9, 3) := by decide +kernel
theorem dL_law_7 : decode cL_law 7 = .ok (.astore_n 1, 1) := by decide +kernel
theorem dL_law_8 : decode cL_law 8 = .ok (.new 10, 3) := by decide +kernel
theorem dL_law_11 : decode cL_law 11 = .ok (.dup, 1) := by decide +kernel
theorem dL_law_12 : decode cL_law 12 = .ok (.invokespecial 12, 3) := by decide +kernel
theorem dL_law_15 : decode cL_law 15 = .ok (.astore_n 2, 1) := by decide +kernel
theorem dL_law_16 : decode cL_law 16 = .ok (.iconst 0, 1) := by decide +kernel
theorem dL_law_17 : decode cL_law 17 = .ok (.istore_n 3, 1) := by decide +kernel
theorem dL_law_18 : decode cL_law 18 = .ok (.iload_n 3, 1) := by decide +kernel
theorem dL_law_19 : decode cL_law 19 = .ok (.aload_n 0, 1) := by decide +kernel
theorem dL_law_20 : decode cL_law 20 = .ok (.arraylength, 1) := by decide +kernel
theorem dL_law_21 : decode cL_law 21 = .ok (.bipush 6, 2) := by decide +kernel
theorem dL_law_23 : decode cL_law 23 = .ok (.isub, 1) := by decide +kernel
theorem dL_law_24 : decode cL_law 24 = .ok (.if_icmp .gt 1174, 3) := by decide +kernel
theorem dL_law_27 : decode cL_law 27 = .ok (.aload_n 0, 1) := by decide +kernel
theorem dL_law_28 : decode cL_law 28 = .ok (.iload_n 3, 1) := by decide +kernel
theorem dL_law_29 : decode cL_law 29 = .ok (.iaload, 1) := by decide +kernel
theorem dL_law_30 : decode cL_law 30 = .ok (.bipush 63, 2) := by decide +kernel
theorem dL_law_32 : decode cL_law 32 = .ok (.iand, 1) := by decide +kernel
theorem dL_law_33 : decode cL_law 33 = .ok (.tableswitch 1159 0 32 #[147, 170, 203, 256, 289, 322, 345, 358, 371, 394, 407, 440, 463, 496, 519, 563, 586, 620, 643, 706, 759, 802, 835, 848, 871, 894, 927, 940, 983, 1047, 1090, 1113, 1136], 147) := by decide +kernel
theorem dL_law_180 : decode cL_law 180 = .ok (.aload_n 1, 1) := by decide +kernel
theorem dL_law_181 : decode cL_law 181 = .ok (.aload_n 0, 1) := by decide +kernel
theorem dL_law_182 : decode cL_law 182 = .ok (.iload_n 3, 1) := by decide +kernel
theorem dL_law_183 : decode cL_law 183 = .ok (.iconst 1, 1) := by decide +kernel
theorem dL_law_184 : decode cL_law 184 = .ok (.iadd, 1) := by decide +kernel
theorem dL_law_185 : decode cL_law 185 = .ok (.iaload, 1) := by decide +kernel
theorem dL_law_186 : decode cL_law 186 = .ok (.invokevirtual 13, 3) := by decide +kernel
theorem dL_law_189 : decode cL_law 189 = .ok (.aload_n 2, 1) := by decide +kernel
theorem dL_law_190 : decode cL_law 190 = .ok (.aload_n 0, 1) := by decide +kernel
theorem dL_law_191 : decode cL_law 191 = .ok (.iload_n 3, 1) := by decide +kernel
theorem dL_law_192 : decode cL_law 192 = .ok (.iconst 1, 1) := by decide +kernel
theorem dL_law_193 : decode cL_law 193 = .ok (.iadd, 1) := by decide +kernel
theorem dL_law_194 : decode cL_law 194 = .ok (.iaload, 1) := by decide +kernel
theorem dL_law_195 : decode cL_law 195 = .ok (.invokevirtual 17, 3) := by decide +kernel
theorem dL_law_198 : decode cL_law 198 = .ok (.if_icmp .eq 994, 3) := by decide +kernel
theorem dL_law_201 : decode cL_law 201 = .ok (.iconst 0, 1) := by decide +kernel
theorem dL_law_202 : decode cL_law 202 = .ok (.ireturn, 1) := by decide +kernel
theorem dL_law_203 : decode cL_law 203 = .ok (.aload_n 1, 1) := by decide +kernel
theorem dL_law_204 : decode cL_law 204 = .ok (.aload_n 0, 1) := by decide +kernel
theorem dL_law_205 : decode cL_law 205 = .ok (.iload_n 3, 1) := by decide +kernel
theorem dL_law_206 : decode cL_law 206 = .ok (.iconst 1, 1) := by decide +kernel
theorem dL_law_207 : decode cL_law 207 = .ok (.iadd, 1) := by decide +kernel
theorem dL_law_208 : decode cL_law 208 = .ok (.iaload, 1) := by decide +kernel
theorem dL_law_209 : decode cL_law 209 = .ok (.aload_n 0, 1) := by decide +kernel
theorem dL_law_210 : decode cL_law 210 = .ok (.iload_n 3, 1) := by decide +kernel
theorem dL_law_211 : decode cL_law 211 = .ok (.iconst 2, 1) := by decide +kernel
theorem dL_law_212 : decode cL_law 212 = .ok (.iadd, 1) := by decide +kernel
theorem dL_law_213 : decode cL_law 213 = .ok (.iaload, 1) := by decide +kernel
theorem dL_law_214 : decode cL_law 214 = .ok (.invokevirtual 18, 3) := by decide +kernel
theorem dL_law_217 : decode cL_law 217 = .ok (.aload_n 2, 1) := by decide +kernel
theorem dL_law_218 : decode cL_law 218 = .ok (.aload_n 0, 1) := by decide +kernel
theorem dL_law_219 : decode cL_law 219 = .ok (.iload_n 3, 1) := by decide +kernel
theorem dL_law_220 : decode cL_law 220 = .ok (.iconst 1, 1) := by decide +kernel
theorem dL_law_221 : decode cL_law 221 = .ok (.iadd, 1) := by decide +kernel
theorem dL_law_222 : decode cL_law 222 = .ok (.iaload, 1) := by decide +kernel
theorem dL_law_223 : decode cL_law 223 = .ok (.aload_n 0, 1) := by decide +kernel
theorem dL_law_224 : decode cL_law 224 = .ok (.iload_n 3, 1) := by decide +kernel
theorem dL_law_225 : decode cL_law 225 = .ok (.iconst 2, 1) := by decide +kernel
theorem dL_law_226 : decode cL_law 226 = .ok (.iadd, 1) := by decide +kernel
theorem dL_law_227 : decode cL_law 227 = .ok (.iaload, 1) := by decide +kernel
theorem dL_law_228 : decode cL_law 228 = .ok (.invokevirtual 22, 3) := by decide +kernel
theorem dL_law_231 : decode cL_law 231 = .ok (.if_icmp .eq 961, 3) := by decide +kernel
theorem dL_law_234 : decode cL_law 234 = .ok (.iconst 0, 1) := by decide +kernel
theorem dL_law_235 : decode cL_law 235 = .ok (.ireturn, 1) := by decide +kernel
theorem dL_law_236 : decode cL_law 236 = .ok (.aload_n 1, 1) := by decide +kernel
theorem dL_law_237 : decode cL_law 237 = .ok (.aload_n 0, 1) := by decide +kernel
theorem dL_law_238 : decode cL_law 238 = .ok (.iload_n 3, 1) := by decide +kernel
theorem dL_law_239 : decode cL_law 239 = .ok (.iconst 1, 1) := by decide +kernel
theorem dL_law_240 : decode cL_law 240 = .ok (.iadd, 1) := by decide +kernel
theorem dL_law_241 : decode cL_law 241 = .ok (.iaload, 1) := by decide +kernel
theorem dL_law_242 : decode cL_law 242 = .ok (.aload_n 0, 1) := by decide +kernel
theorem dL_law_243 : decode cL_law 243 = .ok (.iload_n 3, 1) := by decide +kernel
theorem dL_law_244 : decode cL_law 244 = .ok (.iconst 2, 1) := by decide +kernel
theorem dL_law_245 : decode cL_law 245 = .ok (.iadd, 1) := by decide +kernel
theorem dL_law_246 : decode cL_law 246 = .ok (.iaload, 1) := by decide +kernel
theorem dL_law_247 : decode cL_law 247 = .ok (.aload_n 0, 1) := by decide +kernel
theorem dL_law_248 : decode cL_law 248 = .ok (.iload_n 3, 1) := by decide +kernel
theorem dL_law_249 : decode cL_law 249 = .ok (.iconst 3, 1) := by decide +kernel
theorem dL_law_250 : decode cL_law 250 = .ok (.iadd, 1) := by decide +kernel
theorem dL_law_251 : decode cL_law 251 = .ok (.iaload, 1) := by decide +kernel
theorem dL_law_252 : decode cL_law 252 = .ok (.aload_n 0, 1) := by decide +kernel
theorem dL_law_253 : decode cL_law 253 = .ok (.iload_n 3, 1) := by decide +kernel
theorem dL_law_254 : decode cL_law 254 = .ok (.iconst 4, 1) := by decide +kernel
theorem dL_law_255 : decode cL_law 255 = .ok (.iadd, 1) := by decide +kernel
theorem dL_law_256 : decode cL_law 256 = .ok (.iaload, 1) := by decide +kernel
theorem dL_law_257 : decode cL_law 257 = .ok (.invokevirtual 23, 3) := by decide +kernel
theorem dL_law_260 : decode cL_law 260 = .ok (.aload_n 2, 1) := by decide +kernel
theorem dL_law_261 : decode cL_law 261 = .ok (.aload_n 0, 1) := by decide +kernel
theorem dL_law_262 : decode cL_law 262 = .ok (.iload_n 3, 1) := by decide +kernel
theorem dL_law_263 : decode cL_law 263 = .ok (.iconst 1, 1) := by decide +kernel
theorem dL_law_264 : decode cL_law 264 = .ok (.iadd, 1) := by decide +kernel
theorem dL_law_265 : decode cL_law 265 = .ok (.iaload, 1) := by decide +kernel
theorem dL_law_266 : decode cL_law 266 = .ok (.aload_n 0, 1) := by decide +kernel
theorem dL_law_267 : decode cL_law 267 = .ok (.iload_n 3, 1) := by decide +kernel
theorem dL_law_268 : decode cL_law 268 = .ok (.iconst 2, 1) := by decide +kernel
theorem dL_law_269 : decode cL_law 269 = .ok (.iadd, 1) := by decide +kernel
theorem dL_law_270 : decode cL_law 270 = .ok (.iaload, 1) := by decide +kernel
theorem dL_law_271 : decode cL_law 271 = .ok (.aload_n 0, 1) := by decide +kernel
theorem dL_law_272 : decode cL_law 272 = .ok (.iload_n 3, 1) := by decide +kernel
theorem dL_law_273 : decode cL_law 273 = .ok (.iconst 3, 1) := by decide +kernel
theorem dL_law_274 : decode cL_law 274 = .ok (.iadd, 1) := by decide +kernel
theorem dL_law_275 : decode cL_law 275 = .ok (.iaload, 1) := by decide +kernel
theorem dL_law_276 : decode cL_law 276 = .ok (.aload_n 0, 1) := by decide +kernel
theorem dL_law_277 : decode cL_law 277 = .ok (.iload_n 3, 1) := by decide +kernel
theorem dL_law_278 : decode cL_law 278 = .ok (.iconst 4, 1) := by decide +kernel
theorem dL_law_279 : decode cL_law 279 = .ok (.iadd, 1) := by decide +kernel
theorem dL_law_280 : decode cL_law 280 = .ok (.iaload, 1) := by decide +kernel
theorem dL_law_281 : decode cL_law 281 = .ok (.invokevirtual 27, 3) := by decide +kernel
theorem dL_law_284 : decode cL_law 284 = .ok (.if_icmp .eq 908, 3) := by decide +kernel
theorem dL_law_287 : decode cL_law 287 = .ok (.iconst 0, 1) := by decide +kernel
theorem dL_law_288 : decode cL_law 288 = .ok (.ireturn, 1) := by decide +kernel
theorem dL_law_289 : decode cL_law 289 = .ok (.aload_n 1, 1) := by decide +kernel
theorem dL_law_290 : decode cL_law 290 = .ok (.aload_n 0, 1) := by decide +kernel
theorem dL_law_291 : decode cL_law 291 = .ok (.iload_n 3, 1) := by decide +kernel
theorem dL_law_292 : decode cL_law 292 = .ok (.iconst 1, 1) := by decide +kernel
theorem dL_law_293 : decode cL_law 293 = .ok (.iadd, 1) := by decide +kernel
theorem dL_law_294 : decode cL_law 294 = .ok (.iaload, 1) := by decide +kernel
theorem dL_law_295 : decode cL_law 295 = .ok (.aload_n 0, 1) := by decide +kernel
theorem dL_law_296 : decode cL_law 296 = .ok (.iload_n 3, 1) := by decide +kernel
theorem dL_law_297 : decode cL_law 297 = .ok (.iconst 2, 1) := by decide +kernel
theorem dL_law_298 : decode cL_law 298 = .ok (.iadd, 1) := by decide +kernel
theorem dL_law_299 : decode cL_law 299 = .ok (.iaload, 1) := by decide +kernel
theorem dL_law_300 : decode cL_law 300 = .ok (.invokevirtual 28, 3) := by decide +kernel
theorem dL_law_303 : decode cL_law 303 = .ok (.aload_n 2, 1) := by decide +kernel
theorem dL_law_304 : decode cL_law 304 = .ok (.aload_n 0, 1) := by decide +kernel
theorem dL_law_305 : decode cL_law 305 = .ok (.iload_n 3, 1) := by decide +kernel
theorem dL_law_306 : decode cL_law 306 = .ok (.iconst 1, 1) := by decide +kernel
theorem dL_law_307 : decode cL_law 307 = .ok (.iadd, 1) := by decide +kernel
theorem dL_law_308 : decode cL_law 308 = .ok (.iaload, 1) := by decide +kernel
theorem dL_law_309 : decode cL_law 309 = .ok (.aload_n 0, 1) := by decide +kernel
theorem dL_law_310 : decode cL_law 310 = .ok (.iload_n 3, 1) := by decide +kernel
theorem dL_law_311 : decode cL_law 311 = .ok (.iconst 2, 1) := by decide +kernel
theorem dL_law_312 : decode cL_law 312 = .ok (.iadd, 1) := by decide +kernel
theorem dL_law_313 : decode cL_law 313 = .ok (.iaload, 1) := by decide +kernel
theorem dL_law_314 : decode cL_law 314 = .ok (.invokevirtual 31, 3) := by decide +kernel
theorem dL_law_317 : decode cL_law 317 = .ok (.if_icmp .eq 875, 3) := by decide +kernel
theorem dL_law_320 : decode cL_law 320 = .ok (.iconst 0, 1) := by decide +kernel
theorem dL_law_321 : decode cL_law 321 = .ok (.ireturn, 1) := by decide +kernel
theorem dL_law_322 : decode cL_law 322 = .ok (.aload_n 1, 1) := by decide +kernel
theorem dL_law_323 : decode cL_law 323 = .ok (.aload_n 0, 1) := by decide +kernel
theorem dL_law_324 : decode cL_law 324 = .ok (.iload_n 3, 1) := by decide +kernel
theorem dL_law_325 : decode cL_law 325 = .ok (.iconst 1, 1) := by decide +kernel
theorem dL_law_326 : decode cL_law 326 = .ok (.iadd, 1) := by decide +kernel
theorem dL_law_327 : decode cL_law 327 = .ok (.iaload, 1) := by decide +kernel
theorem dL_law_328 : decode cL_law 328 = .ok (.aload_n 0, 1) := by decide +kernel
theorem dL_law_329 : decode cL_law 329 = .ok (.iload_n 3, 1) := by decide +kernel
theorem dL_law_330 : decode cL_law 330 = .ok (.iconst 2, 1) := by decide +kernel
theorem dL_law_331 : decode cL_law 331 = .ok (.iadd, 1) := by decide +kernel
theorem dL_law_332 : decode cL_law 332 = .ok (.iaload, 1) := by decide +kernel
theorem dL_law_333 : decode cL_law 333 = .ok (.invokevirtual 32, 3) := by decide +kernel
theorem dL_law_336 : decode cL_law 336 = .ok (.aload_n 2, 1) := by decide +kernel
theorem dL_law_337 : decode cL_law 337 = .ok (.aload_n 0, 1) := by decide +kernel
theorem dL_law_338 : decode cL_law 338 = .ok (.iload_n 3, 1) := by decide +kernel
theorem dL_law_339 : decode cL_law 339 = .ok (.iconst 1, 1) := by decide +kernel
theorem dL_law_340 : decode cL_law 340 = .ok (.iadd, 1) := by decide +kernel
theorem dL_law_341 : decode cL_law 341 = .ok (.iaload, 1) := by decide +kernel
theorem dL_law_342 : decode cL_law 342 = .ok (.aload_n 0, 1) := by decide +kernel
theorem dL_law_343 : decode cL_law 343 = .ok (.iload_n 3, 1) := by decide +kernel
theorem dL_law_344 : decode cL_law 344 = .ok (.iconst 2, 1) := by decide +kernel
theorem dL_law_345 : decode cL_law 345 = .ok (.iadd, 1) := by decide +kernel
theorem dL_law_346 : decode cL_law 346 = .ok (.iaload, 1) := by decide +kernel
theorem dL_law_347 : decode cL_law 347 = .ok (.invokevirtual 35, 3) := by decide +kernel
theorem dL_law_350 : decode cL_law 350 = .ok (.if_icmp .eq 842, 3) := by decide +kernel
theorem dL_law_353 : decode cL_law 353 = .ok (.iconst 0, 1) := by decide +kernel
theorem dL_law_354 : decode cL_law 354 = .ok (.ireturn, 1) := by decide +kernel
theorem dL_law_355 : decode cL_law 355 = .ok (.aload_n 1, 1) := by decide +kernel
theorem dL_law_356 : decode cL_law 356 = .ok (.aload_n 0, 1) := by decide +kernel
theorem dL_law_357 : decode cL_law 357 = .ok (.iload_n 3, 1) := by decide +kernel
theorem dL_law_358 : decode cL_law 358 = .ok (.iconst 1, 1) := by decide +kernel
theorem dL_law_359 : decode cL_law 359 = .ok (.iadd, 1) := by decide +kernel
theorem dL_law_360 : decode cL_law 360 = .ok (.iaload, 1) := by decide +kernel
theorem dL_law_361 : decode cL_law 361 = .ok (.invokevirtual 36, 3) := by decide +kernel
theorem dL_law_364 : decode cL_law 364 = .ok (.aload_n 2, 1) := by decide +kernel
theorem dL_law_365 : decode cL_law 365 = .ok (.aload_n 0, 1) := by decide +kernel
theorem dL_law_366 : decode cL_law 366 = .ok (.iload_n 3, 1) := by decide +kernel
theorem dL_law_367 : decode cL_law 367 = .ok (.iconst 1, 1) := by decide +kernel
theorem dL_law_368 : decode cL_law 368 = .ok (.iadd, 1) := by decide +kernel
theorem dL_law_369 : decode cL_law 369 = .ok (.iaload, 1) := by decide +kernel
theorem dL_law_370 : decode cL_law 370 = .ok (.invokevirtual 39, 3) := by decide +kernel
theorem dL_law_373 : decode cL_law 373 = .ok (.if_icmp .eq 819, 3) := by decide +kernel
theorem dL_law_376 : decode cL_law 376 = .ok (.iconst 0, 1) := by decide +kernel
theorem dL_law_377 : decode cL_law 377 = .ok (.ireturn, 1) := by decide +kernel
theorem dL_law_378 : decode cL_law 378 = .ok (.aload_n 1, 1) := by decide +kernel
theorem dL_law_379 : decode cL_law 379 = .ok (.invokevirtual 40, 3) := by decide +kernel
theorem dL_law_382 : decode cL_law 382 = .ok (.aload_n 2, 1) := by decide +kernel
theorem dL_law_383 : decode cL_law 383 = .ok (.invokevirtual 44, 3) := by decide +kernel
theorem dL_law_386 : decode cL_law 386 = .ok (.if_icmp .eq 806, 3) := by decide +kernel
theorem dL_law_389 : decode cL_law 389 = .ok (.iconst 0, 1) := by decide +kernel
theorem dL_law_390 : decode cL_law 390 = .ok (.ireturn, 1) := by decide +kernel
theorem dL_law_391 : decode cL_law 391 = .ok (.aload_n 1, 1) := by decide +kernel
theorem dL_law_392 : decode cL_law 392 = .ok (.invokevirtual 45, 3) := by decide +kernel
theorem dL_law_395 : decode cL_law 395 = .ok (.aload_n 2, 1) := by decide +kernel
theorem dL_law_396 : decode cL_law 396 = .ok (.invokevirtual 48, 3) := by decide +kernel
theorem dL_law_399 : decode cL_law 399 = .ok (.if_icmp .eq 793, 3) := by decide +kernel
theorem dL_law_402 : decode cL_law 402 = .ok (.iconst 0, 1) := by decide +kernel
theorem dL_law_403 : decode cL_law 403 = .ok (.ireturn, 1) := by decide +kernel
theorem dL_law_404 : decode cL_law 404 = .ok (.aload_n 1, 1) := by decide +kernel
theorem dL_law_405 : decode cL_law 405 = .ok (.aload_n 0, 1) := by decide +kernel
theorem dL_law_406 : decode cL_law 406 = .ok (.iload_n 3, 1) := by decide +kernel
theorem dL_law_407 : decode cL_law 407 = .ok (.iconst 1, 1) := by decide +kernel
theorem dL_law_408 : decode cL_law 408 = .ok (.iadd, 1) := by decide +kernel
theorem dL_law_409 : decode cL_law 409 = .ok (.iaload, 1) := by decide +kernel
theorem dL_law_410 : decode cL_law 410 = .ok (.invokevirtual 49, 3) := by decide +kernel
theorem dL_law_413 : decode cL_law 413 = .ok (.aload_n 2, 1) := by decide +kernel
theorem dL_law_414 : decode cL_law 414 = .ok (.aload_n 0, 1) := by decide +kernel
theorem dL_law_415 : decode cL_law 415 = .ok (.iload_n 3, 1) := by decide +kernel
theorem dL_law_416 : decode cL_law 416 = .ok (.iconst 1, 1) := by decide +kernel
theorem dL_law_417 : decode cL_law 417 = .ok (.iadd, 1) := by decide +kernel
theorem dL_law_418 : decode cL_law 418 = .ok (.iaload, 1) := by decide +kernel
theorem dL_law_419 : decode cL_law 419 = .ok (.invokevirtual 52, 3) := by decide +kernel
theorem dL_law_422 : decode cL_law 422 = .ok (.if_icmp .eq 770, 3) := by decide +kernel
theorem dL_law_425 : decode cL_law 425 = .ok (.iconst 0, 1) := by decide +kernel
theorem dL_law_426 : decode cL_law 426 = .ok (.ireturn, 1) := by decide +kernel
theorem dL_law_427 : decode cL_law 427 = .ok (.aload_n 1, 1) := by decide +kernel
theorem dL_law_428 : decode cL_law 428 = .ok (.invokevirtual 53, 3) := by decide +kernel
theorem dL_law_431 : decode cL_law 431 = .ok (.aload_n 2, 1) := by decide +kernel
theorem dL_law_432 : decode cL_law 432 = .ok (.invokevirtual 56, 3) := by decide +kernel
theorem dL_law_435 : decode cL_law 435 = .ok (.if_icmp .eq 757, 3) := by decide +kernel
theorem dL_law_438 : decode cL_law 438 = .ok (.iconst 0, 1) := by decide +kernel
theorem dL_law_439 : decode cL_law 439 = .ok (.ireturn, 1) := by decide +kernel
theorem dL_law_440 : decode cL_law 440 = .ok (.aload_n 1, 1) := by decide +kernel
theorem dL_law_441 : decode cL_law 441 = .ok (.aload_n 0, 1) := by decide +kernel
theorem dL_law_442 : decode cL_law 442 = .ok (.iload_n 3, 1) := by decide +kernel
theorem dL_law_443 : decode cL_law 443 = .ok (.iconst 1, 1) := by decide +kernel
theorem dL_law_444 : decode cL_law 444 = .ok (.iadd, 1) := by decide +kernel
theorem dL_law_445 : decode cL_law 445 = .ok (.iaload, 1) := by decide +kernel
theorem dL_law_446 : decode cL_law 446 = .ok (.aload_n 0, 1) := by decide +kernel
theorem dL_law_447 : decode cL_law 447 = .ok (.iload_n 3, 1) := by decide +kernel
theorem dL_law_448 : decode cL_law 448 = .ok (.iconst 2, 1) := by decide +kernel
theorem dL_law_449 : decode cL_law 449 = .ok (.iadd, 1) := by decide +kernel
theorem dL_law_450 : decode cL_law 450 = .ok (.iaload, 1) := by decide +kernel
theorem dL_law_451 : decode cL_law 451 = .ok (.invokevirtual 57, 3) := by decide +kernel
theorem dL_law_454 : decode cL_law 454 = .ok (.aload_n 2, 1) := by decide +kernel
theorem dL_law_455 : decode cL_law 455 = .ok (.aload_n 0, 1) := by decide +kernel
theorem dL_law_456 : decode cL_law 456 = .ok (.iload_n 3, 1) := by decide +kernel
theorem dL_law_457 : decode cL_law 457 = .ok (.iconst 1, 1) := by decide +kernel
theorem dL_law_458 : decode cL_law 458 = .ok (.iadd, 1) := by decide +kernel
theorem dL_law_459 : decode cL_law 459 = .ok (.iaload, 1) := by decide +kernel
theorem dL_law_460 : decode cL_law 460 = .ok (.aload_n 0, 1) := by decide +kernel
theorem dL_law_461 : decode cL_law 461 = .ok (.iload_n 3, 1) := by decide +kernel
theorem dL_law_462 : decode cL_law 462 = .ok (.iconst 2, 1) := by decide +kernel
theorem dL_law_463 : decode cL_law 463 = .ok (.iadd, 1) := by decide +kernel
theorem dL_law_464 : decode cL_law 464 = .ok (.iaload, 1) := by decide +kernel
theorem dL_law_465 : decode cL_law 465 = .ok (.invokevirtual 60, 3) := by decide +kernel
theorem dL_law_468 : decode cL_law 468 = .ok (.if_icmp .eq 724, 3) := by decide +kernel
theorem dL_law_471 : decode cL_law 471 = .ok (.iconst 0, 1) := by decide +kernel
theorem dL_law_472 : decode cL_law 472 = .ok (.ireturn, 1) := by decide +kernel
theorem dL_law_473 : decode cL_law 473 = .ok (.aload_n 1, 1) := by decide +kernel
theorem dL_law_474 : decode cL_law 474 = .ok (.aload_n 0, 1) := by decide +kernel
theorem dL_law_475 : decode cL_law 475 = .ok (.iload_n 3, 1) := by decide +kernel
theorem dL_law_476 : decode cL_law 476 = .ok (.iconst 1, 1) := by decide +kernel
theorem dL_law_477 : decode cL_law 477 = .ok (.iadd, 1) := by decide +kernel
theorem dL_law_478 : decode cL_law 478 = .ok (.iaload, 1) := by decide +kernel
theorem dL_law_479 : decode cL_law 479 = .ok (.invokevirtual 61, 3) := by decide +kernel
theorem dL_law_482 : decode cL_law 482 = .ok (.aload_n 2, 1) := by decide +kernel
theorem dL_law_483 : decode cL_law 483 = .ok (.aload_n 0, 1) := by decide +kernel
theorem dL_law_484 : decode cL_law 484 = .ok (.iload_n 3, 1) := by decide +kernel
theorem dL_law_485 : decode cL_law 485 = .ok (.iconst 1, 1) := by decide +kernel
theorem dL_law_486 : decode cL_law 486 = .ok (.iadd, 1) := by decide +kernel
theorem dL_law_487 : decode cL_law 487 = .ok (.iaload, 1) := by decide +kernel
theorem dL_law_488 : decode cL_law 488 = .ok (.invokevirtual 64, 3) := by decide +kernel
theorem dL_law_491 : decode cL_law 491 = .ok (.if_icmp .eq 701, 3) := by decide +kernel
theorem dL_law_494 : decode cL_law 494 = .ok (.iconst 0, 1) := by decide +kernel
theorem dL_law_495 : decode cL_law 495 = .ok (.ireturn, 1) := by decide +kernel
theorem dL_law_496 : decode cL_law 496 = .ok (.aload_n 1, 1) := by decide +kernel
theorem dL_law_497 : decode cL_law 497 = .ok (.aload_n 0, 1) := by decide +kernel
theorem dL_law_498 : decode cL_law 498 = .ok (.iload_n 3, 1) := by decide +kernel
theorem dL_law_499 : decode cL_law 499 = .ok (.iconst 1, 1) := by decide +kernel
theorem dL_law_500 : decode cL_law 500 = .ok (.iadd, 1) := by decide +kernel
theorem dL_law_501 : decode cL_law 501 = .ok (.iaload, 1) := by decide +kernel
theorem dL_law_502 : decode cL_law 502 = .ok (.aload_n 0, 1) := by decide +kernel
theorem dL_law_503 : decode cL_law 503 = .ok (.iload_n 3, 1) := by decide +kernel
theorem dL_law_504 : decode cL_law 504 = .ok (.iconst 2, 1) := by decide +kernel
theorem dL_law_505 : decode cL_law 505 = .ok (.iadd, 1) := by decide +kernel
theorem dL_law_506 : decode cL_law 506 = .ok (.iaload, 1) := by decide +kernel
theorem dL_law_507 : decode cL_law 507 = .ok (.invokevirtual 65, 3) := by decide +kernel
theorem dL_law_510 : decode cL_law 510 = .ok (.aload_n 2, 1) := by decide +kernel
theorem dL_law_511 : decode cL_law 511 = .ok (.aload_n 0, 1) := by decide +kernel
theorem dL_law_512 : decode cL_law 512 = .ok (.iload_n 3, 1) := by decide +kernel
theorem dL_law_513 : decode cL_law 513 = .ok (.iconst 1, 1) := by decide +kernel
theorem dL_law_514 : decode cL_law 514 = .ok (.iadd, 1) := by decide +kernel
theorem dL_law_515 : decode cL_law 515 = .ok (.iaload, 1) := by decide +kernel
theorem dL_law_516 : decode cL_law 516 = .ok (.aload_n 0, 1) := by decide +kernel
theorem dL_law_517 : decode cL_law 517 = .ok (.iload_n 3, 1) := by decide +kernel
theorem dL_law_518 : decode cL_law 518 = .ok (.iconst 2, 1) := by decide +kernel
theorem dL_law_519 : decode cL_law 519 = .ok (.iadd, 1) := by decide +kernel
theorem dL_law_520 : decode cL_law 520 = .ok (.iaload, 1) := by decide +kernel
theorem dL_law_521 : decode cL_law 521 = .ok (.invokevirtual 68, 3) := by decide +kernel
theorem dL_law_524 : decode cL_law 524 = .ok (.if_icmp .eq 668, 3) := by decide +kernel
theorem dL_law_527 : decode cL_law 527 = .ok (.iconst 0, 1) := by decide +kernel
theorem dL_law_528 : decode cL_law 528 = .ok (.ireturn, 1) := by decide +kernel
theorem dL_law_529 : decode cL_law 529 = .ok (.aload_n 1, 1) := by decide +kernel
theorem dL_law_530 : decode cL_law 530 = .ok (.aload_n 0, 1) := by decide +kernel
theorem dL_law_531 : decode cL_law 531 = .ok (.iload_n 3, 1) := by decide +kernel
theorem dL_law_532 : decode cL_law 532 = .ok (.iconst 1, 1) := by decide +kernel
theorem dL_law_533 : decode cL_law 533 = .ok (.iadd, 1) := by decide +kernel
theorem dL_law_534 : decode cL_law 534 = .ok (.iaload, 1) := by decide +kernel
theorem dL_law_535 : decode cL_law 535 = .ok (.invokevirtual 69, 3) := by decide +kernel
theorem dL_law_538 : decode cL_law 538 = .ok (.aload_n 2, 1) := by decide +kernel
theorem dL_law_539 : decode cL_law 539 = .ok (.aload_n 0, 1) := by decide +kernel
theorem dL_law_540 : decode cL_law 540 = .ok (.iload_n 3, 1) := by decide +kernel
theorem dL_law_541 : decode cL_law 541 = .ok (.iconst 1, 1) := by decide +kernel
theorem dL_law_542 : decode cL_law 542 = .ok (.iadd, 1) := by decide +kernel
theorem dL_law_543 : decode cL_law 543 = .ok (.iaload, 1) := by decide +kernel
theorem dL_law_544 : decode cL_law 544 = .ok (.invokevirtual 72, 3) := by decide +kernel
theorem dL_law_547 : decode cL_law 547 = .ok (.if_icmp .eq 645, 3) := by decide +kernel
theorem dL_law_550 : decode cL_law 550 = .ok (.iconst 0, 1) := by decide +kernel
theorem dL_law_551 : decode cL_law 551 = .ok (.ireturn, 1) := by decide +kernel
theorem dL_law_552 : decode cL_law 552 = .ok (.aload_n 1, 1) := by decide +kernel
theorem dL_law_553 : decode cL_law 553 = .ok (.aload_n 0, 1) := by decide +kernel
theorem dL_law_554 : decode cL_law 554 = .ok (.iload_n 3, 1) := by decide +kernel
theorem dL_law_555 : decode cL_law 555 = .ok (.iconst 1, 1) := by decide +kernel
theorem dL_law_556 : decode cL_law 556 = .ok (.iadd, 1) := by decide +kernel
theorem dL_law_557 : decode cL_law 557 = .ok (.iaload, 1) := by decide +kernel
theorem dL_law_558 : decode cL_law 558 = .ok (.aload_n 0, 1) := by decide +kernel
theorem dL_law_559 : decode cL_law 559 = .ok (.iload_n 3, 1) := by decide +kernel
theorem dL_law_560 : decode cL_law 560 = .ok (.iconst 2, 1) := by decide +kernel
theorem dL_law_561 : decode cL_law 561 = .ok (.iadd, 1) := by decide +kernel
theorem dL_law_562 : decode cL_law 562 = .ok (.iaload, 1) := by decide +kernel
theorem dL_law_563 : decode cL_law 563 = .ok (.aload_n 0, 1) := by decide +kernel
theorem dL_law_564 : decode cL_law 564 = .ok (.iload_n 3, 1) := by decide +kernel
theorem dL_law_565 : decode cL_law 565 = .ok (.iconst 3, 1) := by decide +kernel
theorem dL_law_566 : decode cL_law 566 = .ok (.iadd, 1) := by decide +kernel
theorem dL_law_567 : decode cL_law 567 = .ok (.iaload, 1) := by decide +kernel
theorem dL_law_568 : decode cL_law 568 = .ok (.invokevirtual 73, 3) := by decide +kernel
theorem dL_law_571 : decode cL_law 571 = .ok (.aload_n 2, 1) := by decide +kernel
theorem dL_law_572 : decode cL_law 572 = .ok (.aload_n 0, 1) := by decide +kernel
theorem dL_law_573 : decode cL_law 573 = .ok (.iload_n 3, 1) := by decide +kernel
theorem dL_law_574 : decode cL_law 574 = .ok (.iconst 1, 1) := by decide +kernel
theorem dL_law_575 : decode cL_law 575 = .ok (.iadd, 1) := by decide +kernel
theorem dL_law_576 : decode cL_law 576 = .ok (.iaload, 1) := by decide +kernel
theorem dL_law_577 : decode cL_law 577 = .ok (.aload_n 0, 1) := by decide +kernel
theorem dL_law_578 : decode cL_law 578 = .ok (.iload_n 3, 1) := by decide +kernel
theorem dL_law_579 : decode cL_law 579 = .ok (.iconst 2, 1) := by decide +kernel
theorem dL_law_580 : decode cL_law 580 = .ok (.iadd, 1) := by decide +kernel
theorem dL_law_581 : decode cL_law 581 = .ok (.iaload, 1) := by decide +kernel
theorem dL_law_582 : decode cL_law 582 = .ok (.aload_n 0, 1) := by decide +kernel
theorem dL_law_583 : decode cL_law 583 = .ok (.iload_n 3, 1) := by decide +kernel
theorem dL_law_584 : decode cL_law 584 = .ok (.iconst 3, 1) := by decide +kernel
theorem dL_law_585 : decode cL_law 585 = .ok (.iadd, 1) := by decide +kernel
theorem dL_law_586 : decode cL_law 586 = .ok (.iaload, 1) := by decide +kernel
theorem dL_law_587 : decode cL_law 587 = .ok (.invokevirtual 77, 3) := by decide +kernel
theorem dL_law_590 : decode cL_law 590 = .ok (.lcmp, 1) := by decide +kernel
theorem dL_law_591 : decode cL_law 591 = .ok (.ifCond .eq 601, 3) := by decide +kernel
theorem dL_law_594 : decode cL_law 594 = .ok (.iconst 0, 1) := by decide +kernel
theorem dL_law_595 : decode cL_law 595 = .ok (.ireturn, 1) := by decide +kernel
theorem dL_law_596 : decode cL_law 596 = .ok (.aload_n 1, 1) := by decide +kernel
theorem dL_law_597 : decode cL_law 597 = .ok (.aload_n 0, 1) := by decide +kernel
theorem dL_law_598 : decode cL_law 598 = .ok (.iload_n 3, 1) := by decide +kernel
theorem dL_law_599 : decode cL_law 599 = .ok (.iconst 1, 1) := by decide +kernel
theorem dL_law_600 : decode cL_law 600 = .ok (.iadd, 1) := by decide +kernel
theorem dL_law_601 : decode cL_law 601 = .ok (.iaload, 1) := by decide +kernel
theorem dL_law_602 : decode cL_law 602 = .ok (.invokevirtual 78, 3) := by decide +kernel
theorem dL_law_605 : decode cL_law 605 = .ok (.aload_n 2, 1) := by decide +kernel
theorem dL_law_606 : decode cL_law 606 = .ok (.aload_n 0, 1) := by decide +kernel
theorem dL_law_607 : decode cL_law 607 = .ok (.iload_n 3, 1) := by decide +kernel
theorem dL_law_608 : decode cL_law 608 = .ok (.iconst 1, 1) := by decide +kernel
theorem dL_law_609 : decode cL_law 609 = .ok (.iadd, 1) := by decide +kernel
theorem dL_law_610 : decode cL_law 610 = .ok (.iaload, 1) := by decide +kernel
theorem dL_law_611 : decode cL_law 611 = .ok (.invokevirtual 81, 3) := by decide +kernel
theorem dL_law_614 : decode cL_law 614 = .ok (.if_icmp .eq 578, 3) := by decide +kernel
theorem dL_law_617 : decode cL_law 617 = .ok (.iconst 0, 1) := by decide +kernel
theorem dL_law_618 : decode cL_law 618 = .ok (.ireturn, 1) := by decide +kernel
theorem dL_law_619 : decode cL_law 619 = .ok (.aload_n 1, 1) := by decide +kernel
theorem dL_law_620 : decode cL_law 620 = .ok (.aload_n 0, 1) := by decide +kernel
theorem dL_law_621 : decode cL_law 621 = .ok (.iload_n 3, 1) := by decide +kernel
theorem dL_law_622 : decode cL_law 622 = .ok (.iconst 1, 1) := by decide +kernel
theorem dL_law_623 : decode cL_law 623 = .ok (.iadd, 1) := by decide +kernel
theorem dL_law_624 : decode cL_law 624 = .ok (.iaload, 1) := by decide +kernel
theorem dL_law_625 : decode cL_law 625 = .ok (.aload_n 0, 1) := by decide +kernel
theorem dL_law_626 : decode cL_law 626 = .ok (.iload_n 3, 1) := by decide +kernel
theorem dL_law_627 : decode cL_law 627 = .ok (.iconst 2, 1) := by decide +kernel
theorem dL_law_628 : decode cL_law 628 = .ok (.iadd, 1) := by decide +kernel
theorem dL_law_629 : decode cL_law 629 = .ok (.iaload, 1) := by decide +kernel
theorem dL_law_630 : decode cL_law 630 = .ok (.invokevirtual 82, 3) := by decide +kernel
theorem dL_law_633 : decode cL_law 633 = .ok (.aload_n 2, 1) := by decide +kernel
theorem dL_law_634 : decode cL_law 634 = .ok (.aload_n 0, 1) := by decide +kernel
theorem dL_law_635 : decode cL_law 635 = .ok (.iload_n 3, 1) := by decide +kernel
theorem dL_law_636 : decode cL_law 636 = .ok (.iconst 1, 1) := by decide +kernel
theorem dL_law_637 : decode cL_law 637 = .ok (.iadd, 1) := by decide +kernel
theorem dL_law_638 : decode cL_law 638 = .ok (.iaload, 1) := by decide +kernel
theorem dL_law_639 : decode cL_law 639 = .ok (.aload_n 0, 1) := by decide +kernel
theorem dL_law_640 : decode cL_law 640 = .ok (.iload_n 3, 1) := by decide +kernel
theorem dL_law_641 : decode cL_law 641 = .ok (.iconst 2, 1) := by decide +kernel
theorem dL_law_642 : decode cL_law 642 = .ok (.iadd, 1) := by decide +kernel
theorem dL_law_643 : decode cL_law 643 = .ok (.iaload, 1) := by decide +kernel
theorem dL_law_644 : decode cL_law 644 = .ok (.invokevirtual 86, 3) := by decide +kernel
theorem dL_law_647 : decode cL_law 647 = .ok (.lcmp, 1) := by decide +kernel
theorem dL_law_648 : decode cL_law 648 = .ok (.ifCond .eq 544, 3) := by decide +kernel
theorem dL_law_651 : decode cL_law 651 = .ok (.iconst 0, 1) := by decide +kernel
theorem dL_law_652 : decode cL_law 652 = .ok (.ireturn, 1) := by decide +kernel
theorem dL_law_653 : decode cL_law 653 = .ok (.aload_n 1, 1) := by decide +kernel
theorem dL_law_654 : decode cL_law 654 = .ok (.aload_n 0, 1) := by decide +kernel
theorem dL_law_655 : decode cL_law 655 = .ok (.iload_n 3, 1) := by decide +kernel
theorem dL_law_656 : decode cL_law 656 = .ok (.iconst 1, 1) := by decide +kernel
theorem dL_law_657 : decode cL_law 657 = .ok (.iadd, 1) := by decide +kernel
theorem dL_law_658 : decode cL_law 658 = .ok (.iaload, 1) := by decide +kernel
theorem dL_law_659 : decode cL_law 659 = .ok (.invokevirtual 87, 3) := by decide +kernel
theorem dL_law_662 : decode cL_law 662 = .ok (.aload_n 2, 1) := by decide +kernel
theorem dL_law_663 : decode cL_law 663 = .ok (.aload_n 0, 1) := by decide +kernel
theorem dL_law_664 : decode cL_law 664 = .ok (.iload_n 3, 1) := by decide +kernel
theorem dL_law_665 : decode cL_law 665 = .ok (.iconst 1, 1) := by decide +kernel
theorem dL_law_666 : decode cL_law 666 = .ok (.iadd, 1) := by decide +kernel
theorem dL_law_667 : decode cL_law 667 = .ok (.iaload, 1) := by decide +kernel
theorem dL_law_668 : decode cL_law 668 = .ok (.invokevirtual 90, 3) := by decide +kernel
theorem dL_law_671 : decode cL_law 671 = .ok (.if_icmp .eq 521, 3) := by decide +kernel
theorem dL_law_674 : decode cL_law 674 = .ok (.iconst 0, 1) := by decide +kernel
theorem dL_law_675 : decode cL_law 675 = .ok (.ireturn, 1) := by decide +kernel
theorem dL_law_676 : decode cL_law 676 = .ok (.aload_n 1, 1) := by decide +kernel
theorem dL_law_677 : decode cL_law 677 = .ok (.aload_n 0, 1) := by decide +kernel
theorem dL_law_678 : decode cL_law 678 = .ok (.iload_n 3, 1) := by decide +kernel
theorem dL_law_679 : decode cL_law 679 = .ok (.iconst 1, 1) := by decide +kernel
theorem dL_law_680 : decode cL_law 680 = .ok (.iadd, 1) := by decide +kernel
theorem dL_law_681 : decode cL_law 681 = .ok (.iaload, 1) := by decide +kernel
theorem dL_law_682 : decode cL_law 682 = .ok (.aload_n 0, 1) := by decide +kernel
theorem dL_law_683 : decode cL_law 683 = .ok (.iload_n 3, 1) := by decide +kernel
theorem dL_law_684 : decode cL_law 684 = .ok (.iconst 2, 1) := by decide +kernel
theorem dL_law_685 : decode cL_law 685 = .ok (.iadd, 1) := by decide +kernel
theorem dL_law_686 : decode cL_law 686 = .ok (.iaload, 1) := by decide +kernel
theorem dL_law_687 : decode cL_law 687 = .ok (.aload_n 0, 1) := by decide +kernel
theorem dL_law_688 : decode cL_law 688 = .ok (.iload_n 3, 1) := by decide +kernel
theorem dL_law_689 : decode cL_law 689 = .ok (.iconst 3, 1) := by decide +kernel
theorem dL_law_690 : decode cL_law 690 = .ok (.iadd, 1) := by decide +kernel
theorem dL_law_691 : decode cL_law 691 = .ok (.iaload, 1) := by decide +kernel
theorem dL_law_692 : decode cL_law 692 = .ok (.aload_n 0, 1) := by decide +kernel
theorem dL_law_693 : decode cL_law 693 = .ok (.iload_n 3, 1) := by decide +kernel
theorem dL_law_694 : decode cL_law 694 = .ok (.iconst 4, 1) := by decide +kernel
theorem dL_law_695 : decode cL_law 695 = .ok (.iadd, 1) := by decide +kernel
theorem dL_law_696 : decode cL_law 696 = .ok (.iaload, 1) := by decide +kernel
theorem dL_law_697 : decode cL_law 697 = .ok (.aload_n 0, 1) := by decide +kernel
theorem dL_law_698 : decode cL_law 698 = .ok (.iload_n 3, 1) := by decide +kernel
theorem dL_law_699 : decode cL_law 699 = .ok (.iconst 5, 1) := by decide +kernel
theorem dL_law_700 : decode cL_law 700 = .ok (.iadd, 1) := by decide +kernel
theorem dL_law_701 : decode cL_law 701 = .ok (.iaload, 1) := by decide +kernel
theorem dL_law_702 : decode cL_law 702 = .ok (.invokevirtual 91, 3) := by decide +kernel
theorem dL_law_705 : decode cL_law 705 = .ok (.aload_n 2, 1) := by decide +kernel
theorem dL_law_706 : decode cL_law 706 = .ok (.aload_n 0, 1) := by decide +kernel
theorem dL_law_707 : decode cL_law 707 = .ok (.iload_n 3, 1) := by decide +kernel
theorem dL_law_708 : decode cL_law 708 = .ok (.iconst 1, 1) := by decide +kernel
theorem dL_law_709 : decode cL_law 709 = .ok (.iadd, 1) := by decide +kernel
theorem dL_law_710 : decode cL_law 710 = .ok (.iaload, 1) := by decide +kernel
theorem dL_law_711 : decode cL_law 711 = .ok (.aload_n 0, 1) := by decide +kernel
theorem dL_law_712 : decode cL_law 712 = .ok (.iload_n 3, 1) := by decide +kernel
theorem dL_law_713 : decode cL_law 713 = .ok (.iconst 2, 1) := by decide +kernel
theorem dL_law_714 : decode cL_law 714 = .ok (.iadd, 1) := by decide +kernel
theorem dL_law_715 : decode cL_law 715 = .ok (.iaload, 1) := by decide +kernel
theorem dL_law_716 : decode cL_law 716 = .ok (.aload_n 0, 1) := by decide +kernel
theorem dL_law_717 : decode cL_law 717 = .ok (.iload_n 3, 1) := by decide +kernel
theorem dL_law_718 : decode cL_law 718 = .ok (.iconst 3, 1) := by decide +kernel
theorem dL_law_719 : decode cL_law 719 = .ok (.iadd, 1) := by decide +kernel
theorem dL_law_720 : decode cL_law 720 = .ok (.iaload, 1) := by decide +kernel
theorem dL_law_721 : decode cL_law 721 = .ok (.aload_n 0, 1) := by decide +kernel
theorem dL_law_722 : decode cL_law 722 = .ok (.iload_n 3, 1) := by decide +kernel
theorem dL_law_723 : decode cL_law 723 = .ok (.iconst 4, 1) := by decide +kernel
theorem dL_law_724 : decode cL_law 724 = .ok (.iadd, 1) := by decide +kernel
theorem dL_law_725 : decode cL_law 725 = .ok (.iaload, 1) := by decide +kernel
theorem dL_law_726 : decode cL_law 726 = .ok (.aload_n 0, 1) := by decide +kernel
theorem dL_law_727 : decode cL_law 727 = .ok (.iload_n 3, 1) := by decide +kernel
theorem dL_law_728 : decode cL_law 728 = .ok (.iconst 5, 1) := by decide +kernel
theorem dL_law_729 : decode cL_law 729 = .ok (.iadd, 1) := by decide +kernel
theorem dL_law_730 : decode cL_law 730 = .ok (.iaload, 1) := by decide +kernel
theorem dL_law_731 : decode cL_law 731 = .ok (.invokevirtual 95, 3) := by decide +kernel
theorem dL_law_734 : decode cL_law 734 = .ok (.if_icmp .eq 458, 3) := by decide +kernel
theorem dL_law_737 : decode cL_law 737 = .ok (.iconst 0, 1) := by decide +kernel
theorem dL_law_738 : decode cL_law 738 = .ok (.ireturn, 1) := by decide +kernel
theorem dL_law_739 : decode cL_law 739 = .ok (.aload_n 1, 1) := by decide +kernel
theorem dL_law_740 : decode cL_law 740 = .ok (.aload_n 0, 1) := by decide +kernel
theorem dL_law_741 : decode cL_law 741 = .ok (.iload_n 3, 1) := by decide +kernel
theorem dL_law_742 : decode cL_law 742 = .ok (.iconst 1, 1) := by decide +kernel
theorem dL_law_743 : decode cL_law 743 = .ok (.iadd, 1) := by decide +kernel
theorem dL_law_744 : decode cL_law 744 = .ok (.iaload, 1) := by decide +kernel
theorem dL_law_745 : decode cL_law 745 = .ok (.aload_n 0, 1) := by decide +kernel
theorem dL_law_746 : decode cL_law 746 = .ok (.iload_n 3, 1) := by decide +kernel
theorem dL_law_747 : decode cL_law 747 = .ok (.iconst 2, 1) := by decide +kernel
theorem dL_law_748 : decode cL_law 748 = .ok (.iadd, 1) := by decide +kernel
theorem dL_law_749 : decode cL_law 749 = .ok (.iaload, 1) := by decide +kernel
theorem dL_law_750 : decode cL_law 750 = .ok (.aload_n 0, 1) := by decide +kernel
theorem dL_law_751 : decode cL_law 751 = .ok (.iload_n 3, 1) := by decide +kernel
theorem dL_law_752 : decode cL_law 752 = .ok (.iconst 3, 1) := by decide +kernel
theorem dL_law_753 : decode cL_law 753 = .ok (.iadd, 1) := by decide +kernel
theorem dL_law_754 : decode cL_law 754 = .ok (.iaload, 1) := by decide +kernel
theorem dL_law_755 : decode cL_law 755 = .ok (.aload_n 0, 1) := by decide +kernel
theorem dL_law_756 : decode cL_law 756 = .ok (.iload_n 3, 1) := by decide +kernel
theorem dL_law_757 : decode cL_law 757 = .ok (.iconst 4, 1) := by decide +kernel
theorem dL_law_758 : decode cL_law 758 = .ok (.iadd, 1) := by decide +kernel
theorem dL_law_759 : decode cL_law 759 = .ok (.iaload, 1) := by decide +kernel
theorem dL_law_760 : decode cL_law 760 = .ok (.invokevirtual 96, 3) := by decide +kernel
theorem dL_law_763 : decode cL_law 763 = .ok (.aload_n 2, 1) := by decide +kernel
theorem dL_law_764 : decode cL_law 764 = .ok (.aload_n 0, 1) := by decide +kernel
theorem dL_law_765 : decode cL_law 765 = .ok (.iload_n 3, 1) := by decide +kernel
theorem dL_law_766 : decode cL_law 766 = .ok (.iconst 1, 1) := by decide +kernel
theorem dL_law_767 : decode cL_law 767 = .ok (.iadd, 1) := by decide +kernel
theorem dL_law_768 : decode cL_law 768 = .ok (.iaload, 1) := by decide +kernel
theorem dL_law_769 : decode cL_law 769 = .ok (.aload_n 0, 1) := by decide +kernel
theorem dL_law_770 : decode cL_law 770 = .ok (.iload_n 3, 1) := by decide +kernel
theorem dL_law_771 : decode cL_law 771 = .ok (.iconst 2, 1) := by decide +kernel
theorem dL_law_772 : decode cL_law 772 = .ok (.iadd, 1) := by decide +kernel
theorem dL_law_773 : decode cL_law 773 = .ok (.iaload, 1) := by decide +kernel
theorem dL_law_774 : decode cL_law 774 = .ok (.aload_n 0, 1) := by decide +kernel
theorem dL_law_775 : decode cL_law 775 = .ok (.iload_n 3, 1) := by decide +kernel
theorem dL_law_776 : decode cL_law 776 = .ok (.iconst 3, 1) := by decide +kernel
theorem dL_law_777 : decode cL_law 777 = .ok (.iadd, 1) := by decide +kernel
theorem dL_law_778 : decode cL_law 778 = .ok (.iaload, 1) := by decide +kernel
theorem dL_law_779 : decode cL_law 779 = .ok (.aload_n 0, 1) := by decide +kernel
theorem dL_law_780 : decode cL_law 780 = .ok (.iload_n 3, 1) := by decide +kernel
theorem dL_law_781 : decode cL_law 781 = .ok (.iconst 4, 1) := by decide +kernel
theorem dL_law_782 : decode cL_law 782 = .ok (.iadd, 1) := by decide +kernel
theorem dL_law_783 : decode cL_law 783 = .ok (.iaload, 1) := by decide +kernel
theorem dL_law_784 : decode cL_law 784 = .ok (.invokevirtual 99, 3) := by decide +kernel
theorem dL_law_787 : decode cL_law 787 = .ok (.if_icmp .eq 405, 3) := by decide +kernel
theorem dL_law_790 : decode cL_law 790 = .ok (.iconst 0, 1) := by decide +kernel
theorem dL_law_791 : decode cL_law 791 = .ok (.ireturn, 1) := by decide +kernel
theorem dL_law_792 : decode cL_law 792 = .ok (.aload_n 1, 1) := by decide +kernel
theorem dL_law_793 : decode cL_law 793 = .ok (.aload_n 0, 1) := by decide +kernel
theorem dL_law_794 : decode cL_law 794 = .ok (.iload_n 3, 1) := by decide +kernel
theorem dL_law_795 : decode cL_law 795 = .ok (.iconst 1, 1) := by decide +kernel
theorem dL_law_796 : decode cL_law 796 = .ok (.iadd, 1) := by decide +kernel
theorem dL_law_797 : decode cL_law 797 = .ok (.iaload, 1) := by decide +kernel
theorem dL_law_798 : decode cL_law 798 = .ok (.aload_n 0, 1) := by decide +kernel
theorem dL_law_799 : decode cL_law 799 = .ok (.iload_n 3, 1) := by decide +kernel
theorem dL_law_800 : decode cL_law 800 = .ok (.iconst 2, 1) := by decide +kernel
theorem dL_law_801 : decode cL_law 801 = .ok (.iadd, 1) := by decide +kernel
theorem dL_law_802 : decode cL_law 802 = .ok (.iaload, 1) := by decide +kernel
theorem dL_law_803 : decode cL_law 803 = .ok (.aload_n 0, 1) := by decide +kernel
theorem dL_law_804 : decode cL_law 804 = .ok (.iload_n 3, 1) := by decide +kernel
theorem dL_law_805 : decode cL_law 805 = .ok (.iconst 3, 1) := by decide +kernel
theorem dL_law_806 : decode cL_law 806 = .ok (.iadd, 1) := by decide +kernel
theorem dL_law_807 : decode cL_law 807 = .ok (.iaload, 1) := by decide +kernel
theorem dL_law_808 : decode cL_law 808 = .ok (.invokevirtual 100, 3) := by decide +kernel
theorem dL_law_811 : decode cL_law 811 = .ok (.aload_n 2, 1) := by decide +kernel
theorem dL_law_812 : decode cL_law 812 = .ok (.aload_n 0, 1) := by decide +kernel
theorem dL_law_813 : decode cL_law 813 = .ok (.iload_n 3, 1) := by decide +kernel
theorem dL_law_814 : decode cL_law 814 = .ok (.iconst 1, 1) := by decide +kernel
theorem dL_law_815 : decode cL_law 815 = .ok (.iadd, 1) := by decide +kernel
theorem dL_law_816 : decode cL_law 816 = .ok (.iaload, 1) := by decide +kernel
theorem dL_law_817 : decode cL_law 817 = .ok (.aload_n 0, 1) := by decide +kernel
theorem dL_law_818 : decode cL_law 818 = .ok (.iload_n 3, 1) := by decide +kernel
theorem dL_law_819 : decode cL_law 819 = .ok (.iconst 2, 1) := by decide +kernel
theorem dL_law_820 : decode cL_law 820 = .ok (.iadd, 1) := by decide +kernel
theorem dL_law_821 : decode cL_law 821 = .ok (.iaload, 1) := by decide +kernel
theorem dL_law_822 : decode cL_law 822 = .ok (.aload_n 0, 1) := by decide +kernel
theorem dL_law_823 : decode cL_law 823 = .ok (.iload_n 3, 1) := by decide +kernel
theorem dL_law_824 : decode cL_law 824 = .ok (.iconst 3, 1) := by decide +kernel
theorem dL_law_825 : decode cL_law 825 = .ok (.iadd, 1) := by decide +kernel
theorem dL_law_826 : decode cL_law 826 = .ok (.iaload, 1) := by decide +kernel
theorem dL_law_827 : decode cL_law 827 = .ok (.invokevirtual 104, 3) := by decide +kernel
theorem dL_law_830 : decode cL_law 830 = .ok (.if_icmp .eq 362, 3) := by decide +kernel
theorem dL_law_833 : decode cL_law 833 = .ok (.iconst 0, 1) := by decide +kernel
theorem dL_law_834 : decode cL_law 834 = .ok (.ireturn, 1) := by decide +kernel
theorem dL_law_835 : decode cL_law 835 = .ok (.aload_n 1, 1) := by decide +kernel
theorem dL_law_836 : decode cL_law 836 = .ok (.aload_n 0, 1) := by decide +kernel
theorem dL_law_837 : decode cL_law 837 = .ok (.iload_n 3, 1) := by decide +kernel
theorem dL_law_838 : decode cL_law 838 = .ok (.iconst 1, 1) := by decide +kernel
theorem dL_law_839 : decode cL_law 839 = .ok (.iadd, 1) := by decide +kernel
theorem dL_law_840 : decode cL_law 840 = .ok (.iaload, 1) := by decide +kernel
theorem dL_law_841 : decode cL_law 841 = .ok (.aload_n 0, 1) := by decide +kernel
theorem dL_law_842 : decode cL_law 842 = .ok (.iload_n 3, 1) := by decide +kernel
theorem dL_law_843 : decode cL_law 843 = .ok (.iconst 2, 1) := by decide +kernel
theorem dL_law_844 : decode cL_law 844 = .ok (.iadd, 1) := by decide +kernel
theorem dL_law_845 : decode cL_law 845 = .ok (.iaload, 1) := by decide +kernel
theorem dL_law_846 : decode cL_law 846 = .ok (.invokevirtual 105, 3) := by decide +kernel
theorem dL_law_849 : decode cL_law 849 = .ok (.aload_n 2, 1) := by decide +kernel
theorem dL_law_850 : decode cL_law 850 = .ok (.aload_n 0, 1) := by decide +kernel
theorem dL_law_851 : decode cL_law 851 = .ok (.iload_n 3, 1) := by decide +kernel
theorem dL_law_852 : decode cL_law 852 = .ok (.iconst 1, 1) := by decide +kernel
theorem dL_law_853 : decode cL_law 853 = .ok (.iadd, 1) := by decide +kernel
theorem dL_law_854 : decode cL_law 854 = .ok (.iaload, 1) := by decide +kernel
theorem dL_law_855 : decode cL_law 855 = .ok (.aload_n 0, 1) := by decide +kernel
theorem dL_law_856 : decode cL_law 856 = .ok (.iload_n 3, 1) := by decide +kernel
theorem dL_law_857 : decode cL_law 857 = .ok (.iconst 2, 1) := by decide +kernel
theorem dL_law_858 : decode cL_law 858 = .ok (.iadd, 1) := by decide +kernel
theorem dL_law_859 : decode cL_law 859 = .ok (.iaload, 1) := by decide +kernel
theorem dL_law_860 : decode cL_law 860 = .ok (.invokevirtual 108, 3) := by decide +kernel
theorem dL_law_863 : decode cL_law 863 = .ok (.if_icmp .eq 329, 3) := by decide +kernel
theorem dL_law_866 : decode cL_law 866 = .ok (.iconst 0, 1) := by decide +kernel
theorem dL_law_867 : decode cL_law 867 = .ok (.ireturn, 1) := by decide +kernel
theorem dL_law_868 : decode cL_law 868 = .ok (.aload_n 1, 1) := by decide +kernel
theorem dL_law_869 : decode cL_law 869 = .ok (.invokevirtual 109, 3) := by decide +kernel
theorem dL_law_872 : decode cL_law 872 = .ok (.aload_n 2, 1) := by decide +kernel
theorem dL_law_873 : decode cL_law 873 = .ok (.invokevirtual 112, 3) := by decide +kernel
theorem dL_law_876 : decode cL_law 876 = .ok (.if_icmp .eq 316, 3) := by decide +kernel
theorem dL_law_879 : decode cL_law 879 = .ok (.iconst 0, 1) := by decide +kernel
theorem dL_law_880 : decode cL_law 880 = .ok (.ireturn, 1) := by decide +kernel
theorem dL_law_881 : decode cL_law 881 = .ok (.aload_n 1, 1) := by decide +kernel
theorem dL_law_882 : decode cL_law 882 = .ok (.aload_n 0, 1) := by decide +kernel
theorem dL_law_883 : decode cL_law 883 = .ok (.iload_n 3, 1) := by decide +kernel
theorem dL_law_884 : decode cL_law 884 = .ok (.iconst 1, 1) := by decide +kernel
theorem dL_law_885 : decode cL_law 885 = .ok (.iadd, 1) := by decide +kernel
theorem dL_law_886 : decode cL_law 886 = .ok (.iaload, 1) := by decide +kernel
theorem dL_law_887 : decode cL_law 887 = .ok (.invokevirtual 113, 3) := by decide +kernel
theorem dL_law_890 : decode cL_law 890 = .ok (.aload_n 2, 1) := by decide +kernel
theorem dL_law_891 : decode cL_law 891 = .ok (.aload_n 0, 1) := by decide +kernel
theorem dL_law_892 : decode cL_law 892 = .ok (.iload_n 3, 1) := by decide +kernel
theorem dL_law_893 : decode cL_law 893 = .ok (.iconst 1, 1) := by decide +kernel
theorem dL_law_894 : decode cL_law 894 = .ok (.iadd, 1) := by decide +kernel
theorem dL_law_895 : decode cL_law 895 = .ok (.iaload, 1) := by decide +kernel
theorem dL_law_896 : decode cL_law 896 = .ok (.invokevirtual 116, 3) := by decide +kernel
theorem dL_law_899 : decode cL_law 899 = .ok (.if_icmp .eq 293, 3) := by decide +kernel
theorem dL_law_902 : decode cL_law 902 = .ok (.iconst 0, 1) := by decide +kernel
theorem dL_law_903 : decode cL_law 903 = .ok (.ireturn, 1) := by decide +kernel
theorem dL_law_904 : decode cL_law 904 = .ok (.aload_n 1, 1) := by decide +kernel
theorem dL_law_905 : decode cL_law 905 = .ok (.aload_n 0, 1) := by decide +kernel
theorem dL_law_906 : decode cL_law 906 = .ok (.iload_n 3, 1) := by decide +kernel
theorem dL_law_907 : decode cL_law 907 = .ok (.iconst 1, 1) := by decide +kernel
theorem dL_law_908 : decode cL_law 908 = .ok (.iadd, 1) := by decide +kernel
theorem dL_law_909 : decode cL_law 909 = .ok (.iaload, 1) := by decide +kernel
theorem dL_law_910 : decode cL_law 910 = .ok (.invokevirtual 117, 3) := by decide +kernel
theorem dL_law_913 : decode cL_law 913 = .ok (.aload_n 2, 1) := by decide +kernel
theorem dL_law_914 : decode cL_law 914 = .ok (.aload_n 0, 1) := by decide +kernel
theorem dL_law_915 : decode cL_law 915 = .ok (.iload_n 3, 1) := by decide +kernel
theorem dL_law_916 : decode cL_law 916 = .ok (.iconst 1, 1) := by decide +kernel
theorem dL_law_917 : decode cL_law 917 = .ok (.iadd, 1) := by decide +kernel
theorem dL_law_918 : decode cL_law 918 = .ok (.iaload, 1) := by decide +kernel
theorem dL_law_919 : decode cL_law 919 = .ok (.invokevirtual 120, 3) := by decide +kernel
theorem dL_law_922 : decode cL_law 922 = .ok (.if_icmp .eq 270, 3) := by decide +kernel
theorem dL_law_925 : decode cL_law 925 = .ok (.iconst 0, 1) := by decide +kernel
theorem dL_law_926 : decode cL_law 926 = .ok (.ireturn, 1) := by decide +kernel
theorem dL_law_927 : decode cL_law 927 = .ok (.aload_n 1, 1) := by decide +kernel
theorem dL_law_928 : decode cL_law 928 = .ok (.aload_n 0, 1) := by decide +kernel
theorem dL_law_929 : decode cL_law 929 = .ok (.iload_n 3, 1) := by decide +kernel
theorem dL_law_930 : decode cL_law 930 = .ok (.iconst 1, 1) := by decide +kernel
theorem dL_law_931 : decode cL_law 931 = .ok (.iadd, 1) := by decide +kernel
theorem dL_law_932 : decode cL_law 932 = .ok (.iaload, 1) := by decide +kernel
theorem dL_law_933 : decode cL_law 933 = .ok (.aload_n 0, 1) := by decide +kernel
theorem dL_law_934 : decode cL_law 934 = .ok (.iload_n 3, 1) := by decide +kernel
theorem dL_law_935 : decode cL_law 935 = .ok (.iconst 2, 1) := by decide +kernel
theorem dL_law_936 : decode cL_law 936 = .ok (.iadd, 1) := by decide +kernel
theorem dL_law_937 : decode cL_law 937 = .ok (.iaload, 1) := by decide +kernel
theorem dL_law_938 : decode cL_law 938 = .ok (.invokevirtual 121, 3) := by decide +kernel
theorem dL_law_941 : decode cL_law 941 = .ok (.aload_n 2, 1) := by decide +kernel
theorem dL_law_942 : decode cL_law 942 = .ok (.aload_n 0, 1) := by decide +kernel
theorem dL_law_943 : decode cL_law 943 = .ok (.iload_n 3, 1) := by decide +kernel
theorem dL_law_944 : decode cL_law 944 = .ok (.iconst 1, 1) := by decide +kernel
theorem dL_law_945 : decode cL_law 945 = .ok (.iadd, 1) := by decide +kernel
theorem dL_law_946 : decode cL_law 946 = .ok (.iaload, 1) := by decide +kernel
theorem dL_law_947 : decode cL_law 947 = .ok (.aload_n 0, 1) := by decide +kernel
theorem dL_law_948 : decode cL_law 948 = .ok (.iload_n 3, 1) := by decide +kernel
theorem dL_law_949 : decode cL_law 949 = .ok (.iconst 2, 1) := by decide +kernel
theorem dL_law_950 : decode cL_law 950 = .ok (.iadd, 1) := by decide +kernel
theorem dL_law_951 : decode cL_law 951 = .ok (.iaload, 1) := by decide +kernel
theorem dL_law_952 : decode cL_law 952 = .ok (.invokevirtual 124, 3) := by decide +kernel
theorem dL_law_955 : decode cL_law 955 = .ok (.if_icmp .eq 237, 3) := by decide +kernel
theorem dL_law_958 : decode cL_law 958 = .ok (.iconst 0, 1) := by decide +kernel
theorem dL_law_959 : decode cL_law 959 = .ok (.ireturn, 1) := by decide +kernel
theorem dL_law_960 : decode cL_law 960 = .ok (.aload_n 1, 1) := by decide +kernel
theorem dL_law_961 : decode cL_law 961 = .ok (.invokevirtual 125, 3) := by decide +kernel
theorem dL_law_964 : decode cL_law 964 = .ok (.aload_n 2, 1) := by decide +kernel
theorem dL_law_965 : decode cL_law 965 = .ok (.invokevirtual 128, 3) := by decide +kernel
theorem dL_law_968 : decode cL_law 968 = .ok (.if_icmp .eq 224, 3) := by decide +kernel
theorem dL_law_971 : decode cL_law 971 = .ok (.iconst 0, 1) := by decide +kernel
theorem dL_law_972 : decode cL_law 972 = .ok (.ireturn, 1) := by decide +kernel
theorem dL_law_973 : decode cL_law 973 = .ok (.aload_n 1, 1) := by decide +kernel
theorem dL_law_974 : decode cL_law 974 = .ok (.aload_n 0, 1) := by decide +kernel
theorem dL_law_975 : decode cL_law 975 = .ok (.iload_n 3, 1) := by decide +kernel
theorem dL_law_976 : decode cL_law 976 = .ok (.iconst 1, 1) := by decide +kernel
theorem dL_law_977 : decode cL_law 977 = .ok (.iadd, 1) := by decide +kernel
theorem dL_law_978 : decode cL_law 978 = .ok (.iaload, 1) := by decide +kernel
theorem dL_law_979 : decode cL_law 979 = .ok (.aload_n 0, 1) := by decide +kernel
theorem dL_law_980 : decode cL_law 980 = .ok (.iload_n 3, 1) := by decide +kernel
theorem dL_law_981 : decode cL_law 981 = .ok (.iconst 2, 1) := by decide +kernel
theorem dL_law_982 : decode cL_law 982 = .ok (.iadd, 1) := by decide +kernel
theorem dL_law_983 : decode cL_law 983 = .ok (.iaload, 1) := by decide +kernel
theorem dL_law_984 : decode cL_law 984 = .ok (.aload_n 0, 1) := by decide +kernel
theorem dL_law_985 : decode cL_law 985 = .ok (.iload_n 3, 1) := by decide +kernel
theorem dL_law_986 : decode cL_law 986 = .ok (.iconst 3, 1) := by decide +kernel
theorem dL_law_987 : decode cL_law 987 = .ok (.iadd, 1) := by decide +kernel
theorem dL_law_988 : decode cL_law 988 = .ok (.iaload, 1) := by decide +kernel
theorem dL_law_989 : decode cL_law 989 = .ok (.invokevirtual 129, 3) := by decide +kernel
theorem dL_law_992 : decode cL_law 992 = .ok (.aload_n 2, 1) := by decide +kernel
theorem dL_law_993 : decode cL_law 993 = .ok (.aload_n 0, 1) := by decide +kernel
theorem dL_law_994 : decode cL_law 994 = .ok (.iload_n 3, 1) := by decide +kernel
theorem dL_law_995 : decode cL_law 995 = .ok (.iconst 1, 1) := by decide +kernel
theorem dL_law_996 : decode cL_law 996 = .ok (.iadd, 1) := by decide +kernel
theorem dL_law_997 : decode cL_law 997 = .ok (.iaload, 1) := by decide +kernel
theorem dL_law_998 : decode cL_law 998 = .ok (.aload_n 0, 1) := by decide +kernel
theorem dL_law_999 : decode cL_law 999 = .ok (.iload_n 3, 1) := by decide +kernel
theorem dL_law_1000 : decode cL_law 1000 = .ok (.iconst 2, 1) := by decide +kernel
theorem dL_law_1001 : decode cL_law 1001 = .ok (.iadd, 1) := by decide +kernel
theorem dL_law_1002 : decode cL_law 1002 = .ok (.iaload, 1) := by decide +kernel
theorem dL_law_1003 : decode cL_law 1003 = .ok (.aload_n 0, 1) := by decide +kernel
theorem dL_law_1004 : decode cL_law 1004 = .ok (.iload_n 3, 1) := by decide +kernel
theorem dL_law_1005 : decode cL_law 1005 = .ok (.iconst 3, 1) := by decide +kernel
theorem dL_law_1006 : decode cL_law 1006 = .ok (.iadd, 1) := by decide +kernel
theorem dL_law_1007 : decode cL_law 1007 = .ok (.iaload, 1) := by decide +kernel
theorem dL_law_1008 : decode cL_law 1008 = .ok (.invokevirtual 132, 3) := by decide +kernel
theorem dL_law_1011 : decode cL_law 1011 = .ok (.if_icmp .eq 181, 3) := by decide +kernel
theorem dL_law_1014 : decode cL_law 1014 = .ok (.iconst 0, 1) := by decide +kernel
theorem dL_law_1015 : decode cL_law 1015 = .ok (.ireturn, 1) := by decide +kernel
theorem dL_law_1016 : decode cL_law 1016 = .ok (.aload_n 1, 1) := by decide +kernel
theorem dL_law_1017 : decode cL_law 1017 = .ok (.aload_n 0, 1) := by decide +kernel
theorem dL_law_1018 : decode cL_law 1018 = .ok (.iload_n 3, 1) := by decide +kernel
theorem dL_law_1019 : decode cL_law 1019 = .ok (.iconst 1, 1) := by decide +kernel
theorem dL_law_1020 : decode cL_law 1020 = .ok (.iadd, 1) := by decide +kernel
theorem dL_law_1021 : decode cL_law 1021 = .ok (.iaload, 1) := by decide +kernel
theorem dL_law_1022 : decode cL_law 1022 = .ok (.aload_n 0, 1) := by decide +kernel
theorem dL_law_1023 : decode cL_law 1023 = .ok (.iload_n 3, 1) := by decide +kernel
theorem dL_law_1024 : decode cL_law 1024 = .ok (.iconst 2, 1) := by decide +kernel
theorem dL_law_1025 : decode cL_law 1025 = .ok (.iadd, 1) := by decide +kernel
theorem dL_law_1026 : decode cL_law 1026 = .ok (.iaload, 1) := by decide +kernel
theorem dL_law_1027 : decode cL_law 1027 = .ok (.aload_n 0, 1) := by decide +kernel
theorem dL_law_1028 : decode cL_law 1028 = .ok (.iload_n 3, 1) := by decide +kernel
theorem dL_law_1029 : decode cL_law 1029 = .ok (.iconst 3, 1) := by decide +kernel
theorem dL_law_1030 : decode cL_law 1030 = .ok (.iadd, 1) := by decide +kernel
theorem dL_law_1031 : decode cL_law 1031 = .ok (.iaload, 1) := by decide +kernel
theorem dL_law_1032 : decode cL_law 1032 = .ok (.aload_n 0, 1) := by decide +kernel
theorem dL_law_1033 : decode cL_law 1033 = .ok (.iload_n 3, 1) := by decide +kernel
theorem dL_law_1034 : decode cL_law 1034 = .ok (.iconst 4, 1) := by decide +kernel
theorem dL_law_1035 : decode cL_law 1035 = .ok (.iadd, 1) := by decide +kernel
theorem dL_law_1036 : decode cL_law 1036 = .ok (.iaload, 1) := by decide +kernel
theorem dL_law_1037 : decode cL_law 1037 = .ok (.aload_n 0, 1) := by decide +kernel
theorem dL_law_1038 : decode cL_law 1038 = .ok (.iload_n 3, 1) := by decide +kernel
theorem dL_law_1039 : decode cL_law 1039 = .ok (.iconst 5, 1) := by decide +kernel
theorem dL_law_1040 : decode cL_law 1040 = .ok (.iadd, 1) := by decide +kernel
theorem dL_law_1041 : decode cL_law 1041 = .ok (.iaload, 1) := by decide +kernel
theorem dL_law_1042 : decode cL_law 1042 = .ok (.invokevirtual 133, 3) := by decide +kernel
theorem dL_law_1045 : decode cL_law 1045 = .ok (.aload_n 2, 1) := by decide +kernel
theorem dL_law_1046 : decode cL_law 1046 = .ok (.aload_n 0, 1) := by decide +kernel
theorem dL_law_1047 : decode cL_law 1047 = .ok (.iload_n 3, 1) := by decide +kernel
theorem dL_law_1048 : decode cL_law 1048 = .ok (.iconst 1, 1) := by decide +kernel
theorem dL_law_1049 : decode cL_law 1049 = .ok (.iadd, 1) := by decide +kernel
theorem dL_law_1050 : decode cL_law 1050 = .ok (.iaload, 1) := by decide +kernel
theorem dL_law_1051 : decode cL_law 1051 = .ok (.aload_n 0, 1) := by decide +kernel
theorem dL_law_1052 : decode cL_law 1052 = .ok (.iload_n 3, 1) := by decide +kernel
theorem dL_law_1053 : decode cL_law 1053 = .ok (.iconst 2, 1) := by decide +kernel
theorem dL_law_1054 : decode cL_law 1054 = .ok (.iadd, 1) := by decide +kernel
theorem dL_law_1055 : decode cL_law 1055 = .ok (.iaload, 1) := by decide +kernel
theorem dL_law_1056 : decode cL_law 1056 = .ok (.aload_n 0, 1) := by decide +kernel
theorem dL_law_1057 : decode cL_law 1057 = .ok (.iload_n 3, 1) := by decide +kernel
theorem dL_law_1058 : decode cL_law 1058 = .ok (.iconst 3, 1) := by decide +kernel
theorem dL_law_1059 : decode cL_law 1059 = .ok (.iadd, 1) := by decide +kernel
theorem dL_law_1060 : decode cL_law 1060 = .ok (.iaload, 1) := by decide +kernel
theorem dL_law_1061 : decode cL_law 1061 = .ok (.aload_n 0, 1) := by decide +kernel
theorem dL_law_1062 : decode cL_law 1062 = .ok (.iload_n 3, 1) := by decide +kernel
theorem dL_law_1063 : decode cL_law 1063 = .ok (.iconst 4, 1) := by decide +kernel
theorem dL_law_1064 : decode cL_law 1064 = .ok (.iadd, 1) := by decide +kernel
theorem dL_law_1065 : decode cL_law 1065 = .ok (.iaload, 1) := by decide +kernel
theorem dL_law_1066 : decode cL_law 1066 = .ok (.aload_n 0, 1) := by decide +kernel
theorem dL_law_1067 : decode cL_law 1067 = .ok (.iload_n 3, 1) := by decide +kernel
theorem dL_law_1068 : decode cL_law 1068 = .ok (.iconst 5, 1) := by decide +kernel
theorem dL_law_1069 : decode cL_law 1069 = .ok (.iadd, 1) := by decide +kernel
theorem dL_law_1070 : decode cL_law 1070 = .ok (.iaload, 1) := by decide +kernel
theorem dL_law_1071 : decode cL_law 1071 = .ok (.invokevirtual 137, 3) := by decide +kernel
theorem dL_law_1074 : decode cL_law 1074 = .ok (.lcmp, 1) := by decide +kernel
theorem dL_law_1075 : decode cL_law 1075 = .ok (.ifCond .eq 117, 3) := by decide +kernel
theorem dL_law_1078 : decode cL_law 1078 = .ok (.iconst 0, 1) := by decide +kernel
theorem dL_law_1079 : decode cL_law 1079 = .ok (.ireturn, 1) := by decide +kernel
theorem dL_law_1080 : decode cL_law 1080 = .ok (.aload_n 1, 1) := by decide +kernel
theorem dL_law_1081 : decode cL_law 1081 = .ok (.aload_n 0, 1) := by decide +kernel
theorem dL_law_1082 : decode cL_law 1082 = .ok (.iload_n 3, 1) := by decide +kernel
theorem dL_law_1083 : decode cL_law 1083 = .ok (.iconst 1, 1) := by decide +kernel
theorem dL_law_1084 : decode cL_law 1084 = .ok (.iadd, 1) := by decide +kernel
theorem dL_law_1085 : decode cL_law 1085 = .ok (.iaload, 1) := by decide +kernel
theorem dL_law_1086 : decode cL_law 1086 = .ok (.aload_n 0, 1) := by decide +kernel
theorem dL_law_1087 : decode cL_law 1087 = .ok (.iload_n 3, 1) := by decide +kernel
theorem dL_law_1088 : decode cL_law 1088 = .ok (.iconst 2, 1) := by decide +kernel
theorem dL_law_1089 : decode cL_law 1089 = .ok (.iadd, 1) := by decide +kernel
theorem dL_law_1090 : decode cL_law 1090 = .ok (.iaload, 1) := by decide +kernel
theorem dL_law_1091 : decode cL_law 1091 = .ok (.aload_n 0, 1) := by decide +kernel
theorem dL_law_1092 : decode cL_law 1092 = .ok (.iload_n 3, 1) := by decide +kernel
theorem dL_law_1093 : decode cL_law 1093 = .ok (.iconst 3, 1) := by decide +kernel
theorem dL_law_1094 : decode cL_law 1094 = .ok (.iadd, 1) := by decide +kernel
theorem dL_law_1095 : decode cL_law 1095 = .ok (.iaload, 1) := by decide +kernel
theorem dL_law_1096 : decode cL_law 1096 = .ok (.invokevirtual 138, 3) := by decide +kernel
theorem dL_law_1099 : decode cL_law 1099 = .ok (.aload_n 2, 1) := by decide +kernel
theorem dL_law_1100 : decode cL_law 1100 = .ok (.aload_n 0, 1) := by decide +kernel
theorem dL_law_1101 : decode cL_law 1101 = .ok (.iload_n 3, 1) := by decide +kernel
theorem dL_law_1102 : decode cL_law 1102 = .ok (.iconst 1, 1) := by decide +kernel
theorem dL_law_1103 : decode cL_law 1103 = .ok (.iadd, 1) := by decide +kernel
theorem dL_law_1104 : decode cL_law 1104 = .ok (.iaload, 1) := by decide +kernel
theorem dL_law_1105 : decode cL_law 1105 = .ok (.aload_n 0, 1) := by decide +kernel
theorem dL_law_1106 : decode cL_law 1106 = .ok (.iload_n 3, 1) := by decide +kernel
theorem dL_law_1107 : decode cL_law 1107 = .ok (.iconst 2, 1) := by decide +kernel
theorem dL_law_1108 : decode cL_law 1108 = .ok (.iadd, 1) := by decide +kernel
theorem dL_law_1109 : decode cL_law 1109 = .ok (.iaload, 1) := by decide +kernel
theorem dL_law_1110 : decode cL_law 1110 = .ok (.aload_n 0, 1) := by decide +kernel
theorem dL_law_1111 : decode cL_law 1111 = .ok (.iload_n 3, 1) := by decide +kernel
theorem dL_law_1112 : decode cL_law 1112 = .ok (.iconst 3, 1) := by decide +kernel
theorem dL_law_1113 : decode cL_law 1113 = .ok (.iadd, 1) := by decide +kernel
theorem dL_law_1114 : decode cL_law 1114 = .ok (.iaload, 1) := by decide +kernel
theorem dL_law_1115 : decode cL_law 1115 = .ok (.invokevirtual 141, 3) := by decide +kernel
theorem dL_law_1118 : decode cL_law 1118 = .ok (.if_icmp .eq 74, 3) := by decide +kernel
theorem dL_law_1121 : decode cL_law 1121 = .ok (.iconst 0, 1) := by decide +kernel
theorem dL_law_1122 : decode cL_law 1122 = .ok (.ireturn, 1) := by decide +kernel
theorem dL_law_1123 : decode cL_law 1123 = .ok (.aload_n 1, 1) := by decide +kernel
theorem dL_law_1124 : decode cL_law 1124 = .ok (.aload_n 0, 1) := by decide +kernel
theorem dL_law_1125 : decode cL_law 1125 = .ok (.iload_n 3, 1) := by decide +kernel
theorem dL_law_1126 : decode cL_law 1126 = .ok (.iconst 1, 1) := by decide +kernel
theorem dL_law_1127 : decode cL_law 1127 = .ok (.iadd, 1) := by decide +kernel
theorem dL_law_1128 : decode cL_law 1128 = .ok (.iaload, 1) := by decide +kernel
theorem dL_law_1129 : decode cL_law 1129 = .ok (.invokevirtual 142, 3) := by decide +kernel
theorem dL_law_1132 : decode cL_law 1132 = .ok (.aload_n 2, 1) := by decide +kernel
theorem dL_law_1133 : decode cL_law 1133 = .ok (.aload_n 0, 1) := by decide +kernel
theorem dL_law_1134 : decode cL_law 1134 = .ok (.iload_n 3, 1) := by decide +kernel
theorem dL_law_1135 : decode cL_law 1135 = .ok (.iconst 1, 1) := by decide +kernel
theorem dL_law_1136 : decode cL_law 1136 = .ok (.iadd, 1) := by decide +kernel
theorem dL_law_1137 : decode cL_law 1137 = .ok (.iaload, 1) := by decide +kernel
theorem dL_law_1138 : decode cL_law 1138 = .ok (.invokevirtual 145, 3) := by decide +kernel
theorem dL_law_1141 : decode cL_law 1141 = .ok (.if_icmp .eq 51, 3) := by decide +kernel
theorem dL_law_1144 : decode cL_law 1144 = .ok (.iconst 0, 1) := by decide +kernel
theorem dL_law_1145 : decode cL_law 1145 = .ok (.ireturn, 1) := by decide +kernel
theorem dL_law_1146 : decode cL_law 1146 = .ok (.aload_n 1, 1) := by decide +kernel
theorem dL_law_1147 : decode cL_law 1147 = .ok (.aload_n 0, 1) := by decide +kernel
theorem dL_law_1148 : decode cL_law 1148 = .ok (.iload_n 3, 1) := by decide +kernel
theorem dL_law_1149 : decode cL_law 1149 = .ok (.iconst 1, 1) := by decide +kernel
theorem dL_law_1150 : decode cL_law 1150 = .ok (.iadd, 1) := by decide +kernel
theorem dL_law_1151 : decode cL_law 1151 = .ok (.iaload, 1) := by decide +kernel
theorem dL_law_1152 : decode cL_law 1152 = .ok (.invokevirtual 146, 3) := by decide +kernel
theorem dL_law_1155 : decode cL_law 1155 = .ok (.aload_n 2, 1) := by decide +kernel
theorem dL_law_1156 : decode cL_law 1156 = .ok (.aload_n 0, 1) := by decide +kernel
theorem dL_law_1157 : decode cL_law 1157 = .ok (.iload_n 3, 1) := by decide +kernel
theorem dL_law_1158 : decode cL_law 1158 = .ok (.iconst 1, 1) := by decide +kernel
theorem dL_law_1159 : decode cL_law 1159 = .ok (.iadd, 1) := by decide +kernel
theorem dL_law_1160 : decode cL_law 1160 = .ok (.iaload, 1) := by decide +kernel
theorem dL_law_1161 : decode cL_law 1161 = .ok (.invokevirtual 149, 3) := by decide +kernel
theorem dL_law_1164 : decode cL_law 1164 = .ok (.if_icmp .eq 28, 3) := by decide +kernel
theorem dL_law_1167 : decode cL_law 1167 = .ok (.iconst 0, 1) := by decide +kernel
theorem dL_law_1168 : decode cL_law 1168 = .ok (.ireturn, 1) := by decide +kernel
theorem dL_law_1169 : decode cL_law 1169 = .ok (.aload_n 1, 1) := by decide +kernel
theorem dL_law_1170 : decode cL_law 1170 = .ok (.aload_n 0, 1) := by decide +kernel
theorem dL_law_1171 : decode cL_law 1171 = .ok (.iload_n 3, 1) := by decide +kernel
theorem dL_law_1172 : decode cL_law 1172 = .ok (.iconst 1, 1) := by decide +kernel
theorem dL_law_1173 : decode cL_law 1173 = .ok (.iadd, 1) := by decide +kernel
theorem dL_law_1174 : decode cL_law 1174 = .ok (.iaload, 1) := by decide +kernel
theorem dL_law_1175 : decode cL_law 1175 = .ok (.invokevirtual 150, 3) := by decide +kernel
theorem dL_law_1178 : decode cL_law 1178 = .ok (.aload_n 2, 1) := by decide +kernel
theorem dL_law_1179 : decode cL_law 1179 = .ok (.aload_n 0, 1) := by decide +kernel
theorem dL_law_1180 : decode cL_law 1180 = .ok (.iload_n 3, 1) := by decide +kernel
theorem dL_law_1181 : decode cL_law 1181 = .ok (.iconst 1, 1) := by decide +kernel
theorem dL_law_1182 : decode cL_law 1182 = .ok (.iadd, 1) := by decide +kernel
theorem dL_law_1183 : decode cL_law 1183 = .ok (.iaload, 1) := by decide +kernel
theorem dL_law_1184 : decode cL_law 1184 = .ok (.invokevirtual 153, 3) := by decide +kernel
theorem dL_law_1187 : decode cL_law 1187 = .ok (.if_icmp .eq 5, 3) := by decide +kernel
theorem dL_law_1190 : decode cL_law 1190 = .ok (.iconst 0, 1) := by decide +kernel
theorem dL_law_1191 : decode cL_law 1191 = .ok (.ireturn, 1) := by decide +kernel
theorem dL_law_1192 : decode cL_law 1192 = .ok (.iinc 3 6, 3) := by decide +kernel
theorem dL_law_1195 : decode cL_law 1195 = .ok (.goto (-1177), 3) := by decide +kernel
theorem dL_law_1198 : decode cL_law 1198 = .ok (.iconst 1, 1) := by decide +kernel
theorem dL_law_1199 : decode cL_law 1199 = .ok (.ireturn, 1) := by decide +kernel
end
section
def TB : List Cond := lw_tbl.filter goodWord
theorem TB_in {w : Cond} (h : w ∈ TB) : w ∈ lw_tbl := (List.mem_filter.mp h).1
theorem TB_good {w : Cond} (h : w ∈ TB) : (w.onTables && w.keeps) = true ∨ ∃ ty, w = .arrayClass ty := good_of_word (List.mem_filter.mp h).2
theorem TB_of {w : Cond} (i : Nat) (h : lw_tbl[i]? = some w) (g : goodWord w = true) : w ∈ TB := List.mem_filter.mpr ⟨List.mem_of_getElem? h, g⟩
theorem TB_wc {y : MethodName} {cc : ByteArray} {nL : Nat} {ret : Option FieldType} (h : Cond.code y cc nL ret ∈ TB) : GoodIn TB (Cond.code y cc nL ret :: TB) := fun w hw => (List.mem_cons.mp hw).elim (fun e => e ▸ ⟨h, TB_good h⟩) (fun h => ⟨h, TB_good h⟩)
theorem tm_code_X9_init : Cond.code yX9_init cX9_init 1 none ∈ TB := TB_of 59 (by decide +kernel) (by decide +kernel)
theorem tm_code_obj : Cond.code objectInit ⟨#[0xb1]⟩ 1 none ∈ TB := TB_of 62 (by decide +kernel) (by decide +kernel)
theorem tm_code_X5_init : Cond.code yX5_init cX5_init 1 none ∈ TB := TB_of 67 (by decide +kernel) (by decide +kernel)
theorem tm_code_J7_fill_53178 : Cond.code yJ7_fill_53178 cJ7_fill_53178 4 none ∈ TB := TB_of 71 (by decide +kernel) (by decide +kernel)
theorem tm_code_X2_init : Cond.code yX2_init cX2_init 1 none ∈ TB := TB_of 135 (by decide +kernel) (by decide +kernel)
theorem tm_code_X4_init : Cond.code yX4_init cX4_init 1 none ∈ TB := TB_of 151 (by decide +kernel) (by decide +kernel)
theorem tm_code_X8_init : Cond.code yX8_init cX8_init 1 none ∈ TB := TB_of 185 (by decide +kernel) (by decide +kernel)
theorem tm_code_X0_init : Cond.code yX0_init cX0_init 1 none ∈ TB := TB_of 218 (by decide +kernel) (by decide +kernel)
theorem tm_code_X3_init : Cond.code yX3_init cX3_init 1 none ∈ TB := TB_of 240 (by decide +kernel) (by decide +kernel)
theorem tm_code_X6_init : Cond.code yX6_init cX6_init 1 none ∈ TB := TB_of 256 (by decide +kernel) (by decide +kernel)
theorem tm_code_X7_init : Cond.code yX7_init cX7_init 1 none ∈ TB := TB_of 270 (by decide +kernel) (by decide +kernel)
theorem tm_code_X1_init : Cond.code yX1_init cX1_init 1 none ∈ TB := TB_of 280 (by decide +kernel) (by decide +kernel)
theorem tm_code_X9_inch : Cond.code yX9_inch cX9_inch 3 (some .int) ∈ TB := TB_of 324 (by decide +kernel) (by decide +kernel)
theorem tm_code_X9_within : Cond.code yX9_within cX9_within 3 (some .boolean) ∈ TB := TB_of 327 (by decide +kernel) (by decide +kernel)
theorem tm_code_X9_week : Cond.code yX9_week cX9_week 4 (some .int) ∈ TB := TB_of 331 (by decide +kernel) (by decide +kernel)
theorem tm_code_X9_one : Cond.code yX9_one cX9_one 6 (some .int) ∈ TB := TB_of 335 (by decide +kernel) (by decide +kernel)
theorem tm_code_X9_isOne : Cond.code yX9_isOne cX9_isOne 1 (some .boolean) ∈ TB := TB_of 338 (by decide +kernel) (by decide +kernel)
theorem tm_code_X9_stick : Cond.code yX9_stick cX9_stick 4 (some .int) ∈ TB := TB_of 343 (by decide +kernel) (by decide +kernel)
theorem tm_code_X9_isStick : Cond.code yX9_isStick cX9_isStick 1 (some .boolean) ∈ TB := TB_of 346 (by decide +kernel) (by decide +kernel)
theorem tm_code_X9_bridge : Cond.code yX9_bridge cX9_bridge 4 (some .int) ∈ TB := TB_of 350 (by decide +kernel) (by decide +kernel)
theorem tm_code_X9_isBridge : Cond.code yX9_isBridge cX9_isBridge 1 (some .boolean) ∈ TB := TB_of 353 (by decide +kernel) (by decide +kernel)
theorem tm_code_X9_say : Cond.code yX9_say cX9_say 2 (some .int) ∈ TB := TB_of 357 (by decide +kernel) (by decide +kernel)
theorem tm_code_X4_write : Cond.code yX4_write cX4_write 2 (some .boolean) ∈ TB := TB_of 361 (by decide +kernel) (by decide +kernel)
theorem tm_code_X9_wipe : Cond.code yX9_wipe cX9_wipe 1 (some .int) ∈ TB := TB_of 365 (by decide +kernel) (by decide +kernel)
theorem tm_code_X4_clear : Cond.code yX4_clear cX4_clear 2 (some .int) ∈ TB := TB_of 369 (by decide +kernel) (by decide +kernel)
theorem tm_code_X9_fault : Cond.code yX9_fault cX9_fault 1 (some .int) ∈ TB := TB_of 373 (by decide +kernel) (by decide +kernel)
theorem tm_code_X4_read : Cond.code yX4_read cX4_read 3 (some .int) ∈ TB := TB_of 377 (by decide +kernel) (by decide +kernel)
theorem tm_code_X4_afterSign : Cond.code yX4_afterSign cX4_afterSign 3 (some .int) ∈ TB := TB_of 381 (by decide +kernel) (by decide +kernel)
theorem tm_code_X4_begin : Cond.code yX4_begin cX4_begin 2 (some .int) ∈ TB := TB_of 385 (by decide +kernel) (by decide +kernel)
theorem tm_code_X4_end : Cond.code yX4_end cX4_end 1 (some .int) ∈ TB := TB_of 390 (by decide +kernel) (by decide +kernel)
theorem tm_code_X4_readVerb : Cond.code yX4_readVerb cX4_readVerb 2 (some .int) ∈ TB := TB_of 394 (by decide +kernel) (by decide +kernel)
theorem tm_code_X4_readPlace : Cond.code yX4_readPlace cX4_readPlace 3 (some .int) ∈ TB := TB_of 398 (by decide +kernel) (by decide +kernel)
theorem tm_code_X4_readNumber : Cond.code yX4_readNumber cX4_readNumber 2 (some .int) ∈ TB := TB_of 402 (by decide +kernel) (by decide +kernel)
theorem tm_code_X9_judge : Cond.code yX9_judge cX9_judge 2 (some .int) ∈ TB := TB_of 406 (by decide +kernel) (by decide +kernel)
theorem tm_code_X8_tryOut : Cond.code yX8_tryOut cX8_tryOut 4 (some .boolean) ∈ TB := TB_of 410 (by decide +kernel) (by decide +kernel)
theorem tm_code_X5_become : Cond.code yX5_become cX5_become 2 none ∈ TB := TB_of 415 (by decide +kernel) (by decide +kernel)
theorem tm_code_X8_tryAct : Cond.code yX8_tryAct cX8_tryAct 7 none ∈ TB := TB_of 422 (by decide +kernel) (by decide +kernel)
theorem tm_code_X5_hindrance : Cond.code yX5_hindrance cX5_hindrance 5 (some .int) ∈ TB := TB_of 426 (by decide +kernel) (by decide +kernel)
theorem tm_code_X5_firstOf : Cond.code yX5_firstOf cX5_firstOf 2 (some .int) ∈ TB := TB_of 430 (by decide +kernel) (by decide +kernel)
theorem tm_code_X5_measure : Cond.code yX5_measure cX5_measure 2 (some .int) ∈ TB := TB_of 434 (by decide +kernel) (by decide +kernel)
theorem tm_code_X5_hasMet : Cond.code yX5_hasMet cX5_hasMet 2 (some .boolean) ∈ TB := TB_of 438 (by decide +kernel) (by decide +kernel)
theorem tm_code_X5_act : Cond.code yX5_act cX5_act 5 none ∈ TB := TB_of 442 (by decide +kernel) (by decide +kernel)
theorem tm_code_X9_limited : Cond.code yX9_limited cX9_limited 1 (some .int) ∈ TB := TB_of 445 (by decide +kernel) (by decide +kernel)
theorem tm_code_J9_min_7cf53 : Cond.code Lib.Math.min.name Lib.Math.min.code 2 (some .int) ∈ TB := TB_of 448 (by decide +kernel) (by decide +kernel)
theorem tm_code_J9_max_7cf53 : Cond.code Lib.Math.max.name Lib.Math.max.code 2 (some .int) ∈ TB := TB_of 451 (by decide +kernel) (by decide +kernel)
theorem tm_code_X5_nextInch : Cond.code yX5_nextInch cX5_nextInch 3 (some .int) ∈ TB := TB_of 455 (by decide +kernel) (by decide +kernel)
theorem tm_code_J9_floorMod_7cf53 : Cond.code yJ9_floorMod_7cf53 cJ9_floorMod_7cf53 3 (some .int) ∈ TB := TB_of 458 (by decide +kernel) (by decide +kernel)
theorem tm_code_X9_done : Cond.code yX9_done cX9_done 1 (some .int) ∈ TB := TB_of 463 (by decide +kernel) (by decide +kernel)
theorem tm_code_X9_allCanBe : Cond.code yX9_allCanBe cX9_allCanBe 1 (some .boolean) ∈ TB := TB_of 467 (by decide +kernel) (by decide +kernel)
theorem tm_code_X9_behind : Cond.code yX9_behind cX9_behind 3 (some .int) ∈ TB := TB_of 472 (by decide +kernel) (by decide +kernel)
theorem tm_code_X5_ofOne : Cond.code yX5_ofOne cX5_ofOne 3 (some .int) ∈ TB := TB_of 476 (by decide +kernel) (by decide +kernel)
theorem tm_code_X9_lies : Cond.code yX9_lies cX9_lies 2 (some .int) ∈ TB := TB_of 480 (by decide +kernel) (by decide +kernel)
theorem tm_code_X9_built : Cond.code yX9_built cX9_built 3 (some .int) ∈ TB := TB_of 484 (by decide +kernel) (by decide +kernel)
theorem tm_code_X5_overlap : Cond.code yX5_overlap cX5_overlap 2 (some .int) ∈ TB := TB_of 488 (by decide +kernel) (by decide +kernel)
theorem tm_code_X9_then : Cond.code yX9_then cX9_then 2 (some .int) ∈ TB := TB_of 492 (by decide +kernel) (by decide +kernel)
theorem tm_code_X9_inches : Cond.code yX9_inches cX9_inches 4 (some .long) ∈ TB := TB_of 496 (by decide +kernel) (by decide +kernel)
theorem tm_code_X9_lowest : Cond.code yX9_lowest cX9_lowest 7 (some .long) ∈ TB := TB_of 502 (by decide +kernel) (by decide +kernel)
theorem tm_code_X9_sharedDivisor : Cond.code yX9_sharedDivisor cX9_sharedDivisor 11 (some .long) ∈ TB := TB_of 505 (by decide +kernel) (by decide +kernel)
theorem tm_code_J9_max_f86c9 : Cond.code Lib.MathLoose.max_long.x Lib.MathLoose.max_long.code 4 (some .long) ∈ TB := TB_of 508 (by decide +kernel) (by decide +kernel)
theorem tm_code_X9_will : Cond.code yX9_will cX9_will 2 (some .int) ∈ TB := TB_of 512 (by decide +kernel) (by decide +kernel)
theorem tm_code_X0_look : Cond.code yX0_look cX0_look 4 none ∈ TB := TB_of 516 (by decide +kernel) (by decide +kernel)
theorem tm_code_X9_sure : Cond.code yX9_sure cX9_sure 3 (some .long) ∈ TB := TB_of 521 (by decide +kernel) (by decide +kernel)
theorem tm_code_X0_trade : Cond.code yX0_trade cX0_trade 4 none ∈ TB := TB_of 525 (by decide +kernel) (by decide +kernel)
theorem tm_code_X9_when : Cond.code yX9_when cX9_when 2 (some .int) ∈ TB := TB_of 529 (by decide +kernel) (by decide +kernel)
theorem tm_code_X9_meet : Cond.code yX9_meet cX9_meet 8 (some .int) ∈ TB := TB_of 533 (by decide +kernel) (by decide +kernel)
theorem tm_code_X9_waste : Cond.code yX9_waste cX9_waste 9 (some .int) ∈ TB := TB_of 537 (by decide +kernel) (by decide +kernel)
theorem tm_code_X9_fewestForLeastRest : Cond.code yX9_fewestForLeastRest cX9_fewestForLeastRest 7 (some .int) ∈ TB := TB_of 540 (by decide +kernel) (by decide +kernel)
theorem tm_code_X9_restBy : Cond.code yX9_restBy cX9_restBy 2 (some .int) ∈ TB := TB_of 543 (by decide +kernel) (by decide +kernel)
theorem tm_code_X9_days : Cond.code yX9_days cX9_days 5 (some .int) ∈ TB := TB_of 547 (by decide +kernel) (by decide +kernel)
theorem tm_code_X0_leastSpread : Cond.code yX0_leastSpread cX0_leastSpread 5 (some .int) ∈ TB := TB_of 551 (by decide +kernel) (by decide +kernel)
theorem tm_code_X0_sort : Cond.code yX0_sort cX0_sort 4 none ∈ TB := TB_of 555 (by decide +kernel) (by decide +kernel)
theorem tm_code_X0_firstDay : Cond.code yX0_firstDay cX0_firstDay 5 (some .int) ∈ TB := TB_of 560 (by decide +kernel) (by decide +kernel)
theorem tm_code_X0_begins : Cond.code yX0_begins cX0_begins 7 (some .boolean) ∈ TB := TB_of 564 (by decide +kernel) (by decide +kernel)
theorem tm_code_X0_daysWithin : Cond.code yX0_daysWithin cX0_daysWithin 7 (some .int) ∈ TB := TB_of 569 (by decide +kernel) (by decide +kernel)
theorem tm_code_X9_seen : Cond.code yX9_seen cX9_seen 3 (some .int) ∈ TB := TB_of 573 (by decide +kernel) (by decide +kernel)
theorem tm_code_X9_forget : Cond.code yX9_forget cX9_forget 2 (some .int) ∈ TB := TB_of 577 (by decide +kernel) (by decide +kernel)
theorem tm_code_X9_fits : Cond.code yX9_fits cX9_fits 2 (some .int) ∈ TB := TB_of 581 (by decide +kernel) (by decide +kernel)
theorem tm_code_X3_fit : Cond.code yX3_fit cX3_fit 4 none ∈ TB := TB_of 585 (by decide +kernel) (by decide +kernel)
theorem tm_code_X3_narrow : Cond.code yX3_narrow cX3_narrow 5 none ∈ TB := TB_of 589 (by decide +kernel) (by decide +kernel)
theorem tm_code_X3_howMany : Cond.code yX3_howMany cX3_howMany 3 (some .int) ∈ TB := TB_of 595 (by decide +kernel) (by decide +kernel)
theorem tm_code_X3_lawAt : Cond.code yX3_lawAt cX3_lawAt 5 (some .int) ∈ TB := TB_of 599 (by decide +kernel) (by decide +kernel)
theorem tm_code_X9_ask : Cond.code yX9_ask cX9_ask 3 (some .int) ∈ TB := TB_of 604 (by decide +kernel) (by decide +kernel)
theorem tm_code_X3_bestDay : Cond.code yX3_bestDay cX3_bestDay 5 (some .int) ∈ TB := TB_of 608 (by decide +kernel) (by decide +kernel)
theorem tm_code_X3_mostLeft : Cond.code yX3_mostLeft cX3_mostLeft 7 (some .int) ∈ TB := TB_of 612 (by decide +kernel) (by decide +kernel)
theorem tm_code_X3_raise : Cond.code yX3_raise cX3_raise 3 none ∈ TB := TB_of 617 (by decide +kernel) (by decide +kernel)
theorem tm_code_X3_highestRise : Cond.code yX3_highestRise cX3_highestRise 4 (some .int) ∈ TB := TB_of 621 (by decide +kernel) (by decide +kernel)
theorem tm_code_X9_settle : Cond.code yX9_settle cX9_settle 4 (some .int) ∈ TB := TB_of 626 (by decide +kernel) (by decide +kernel)
theorem tm_code_X6_stand : Cond.code yX6_stand cX6_stand 3 none ∈ TB := TB_of 630 (by decide +kernel) (by decide +kernel)
theorem tm_code_X6_takeMeans : Cond.code yX6_takeMeans cX6_takeMeans 3 (some .boolean) ∈ TB := TB_of 635 (by decide +kernel) (by decide +kernel)
theorem tm_code_X9_settled : Cond.code yX9_settled cX9_settled 1 (some .int) ∈ TB := TB_of 640 (by decide +kernel) (by decide +kernel)
theorem tm_code_X6_timesTillStill : Cond.code yX6_timesTillStill cX6_timesTillStill 2 (some .int) ∈ TB := TB_of 644 (by decide +kernel) (by decide +kernel)
theorem tm_code_X9_halves : Cond.code yX9_halves cX9_halves 5 (some .int) ∈ TB := TB_of 650 (by decide +kernel) (by decide +kernel)
theorem tm_code_X7_firstMove : Cond.code yX7_firstMove cX7_firstMove 4 (some .int) ∈ TB := TB_of 654 (by decide +kernel) (by decide +kernel)
theorem tm_code_X7_winningMove : Cond.code yX7_winningMove cX7_winningMove 4 (some .int) ∈ TB := TB_of 658 (by decide +kernel) (by decide +kernel)
theorem tm_code_X9_shake : Cond.code yX9_shake cX9_shake 6 (some .long) ∈ TB := TB_of 662 (by decide +kernel) (by decide +kernel)
theorem tm_code_X1_spread : Cond.code yX1_spread cX1_spread 6 none ∈ TB := TB_of 666 (by decide +kernel) (by decide +kernel)
theorem tm_code_J7_fill_d0a16 : Cond.code yJ7_fill_d0a16 cJ7_fill_d0a16 5 none ∈ TB := TB_of 669 (by decide +kernel) (by decide +kernel)
theorem tm_code_X1_waysAt : Cond.code yX1_waysAt cX1_waysAt 2 (some .long) ∈ TB := TB_of 673 (by decide +kernel) (by decide +kernel)
theorem tm_code_X1_waysOff : Cond.code yX1_waysOff cX1_waysOff 5 (some .long) ∈ TB := TB_of 679 (by decide +kernel) (by decide +kernel)
theorem tm_code_J9_abs_0f7a4 : Cond.code Lib.Math.abs.name Lib.Math.abs.code 1 (some .int) ∈ TB := TB_of 682 (by decide +kernel) (by decide +kernel)
theorem tm_code_X1_allWays : Cond.code yX1_allWays cX1_allWays 5 (some .long) ∈ TB := TB_of 686 (by decide +kernel) (by decide +kernel)
theorem tm_code_X9_year : Cond.code yX9_year cX9_year 4 (some .int) ∈ TB := TB_of 691 (by decide +kernel) (by decide +kernel)
theorem tm_code_X8_drawYear : Cond.code yX8_drawYear cX8_drawYear 9 none ∈ TB := TB_of 695 (by decide +kernel) (by decide +kernel)
theorem tm_code_X5_coins : Cond.code yX5_coins cX5_coins 3 (some .int) ∈ TB := TB_of 702 (by decide +kernel) (by decide +kernel)
theorem tm_code_X5_metBridges : Cond.code yX5_metBridges cX5_metBridges 3 (some .int) ∈ TB := TB_of 706 (by decide +kernel) (by decide +kernel)
theorem tm_code_X9_image : Cond.code yX9_image cX9_image 3 (some .int) ∈ TB := TB_of 710 (by decide +kernel) (by decide +kernel)
theorem tm_code_X9_imageOf : Cond.code yX9_imageOf cX9_imageOf 2 (some (.object "LentRulers$Image")) ∈ TB := TB_of 714 (by decide +kernel) (by decide +kernel)
theorem tm_code_X9_restore : Cond.code yX9_restore cX9_restore 3 (some .int) ∈ TB := TB_of 718 (by decide +kernel) (by decide +kernel)
theorem tm_code_X9_told : Cond.code yX9_told cX9_told 2 (some .int) ∈ TB := TB_of 722 (by decide +kernel) (by decide +kernel)
theorem tm_code_X9_toldOfAll : Cond.code yX9_toldOfAll cX9_toldOfAll 2 (some .int) ∈ TB := TB_of 726 (by decide +kernel) (by decide +kernel)
theorem tm_code_X5_ofBridge : Cond.code yX5_ofBridge cX5_ofBridge 3 (some .int) ∈ TB := TB_of 730 (by decide +kernel) (by decide +kernel)
theorem tm_code_X10_init : Cond.code yX10_init cX10_init 2 none ∈ TB := TB_of 735 (by decide +kernel) (by decide +kernel)
theorem tm_code_X10_inch : Cond.code yX10_inch cX10_inch 3 (some .int) ∈ TB := TB_of 808 (by decide +kernel) (by decide +kernel)
theorem tm_code_X10_in : Cond.code yX10_in cX10_in 3 (some .boolean) ∈ TB := TB_of 811 (by decide +kernel) (by decide +kernel)
theorem tm_code_X10_week : Cond.code yX10_week cX10_week 4 (some .int) ∈ TB := TB_of 815 (by decide +kernel) (by decide +kernel)
theorem tm_code_X10_one : Cond.code yX10_one cX10_one 6 (some .int) ∈ TB := TB_of 819 (by decide +kernel) (by decide +kernel)
theorem tm_code_X10_isOne : Cond.code yX10_isOne cX10_isOne 1 (some .boolean) ∈ TB := TB_of 822 (by decide +kernel) (by decide +kernel)
theorem tm_code_X10_stick : Cond.code yX10_stick cX10_stick 4 (some .int) ∈ TB := TB_of 827 (by decide +kernel) (by decide +kernel)
theorem tm_code_X10_isStick : Cond.code yX10_isStick cX10_isStick 1 (some .boolean) ∈ TB := TB_of 830 (by decide +kernel) (by decide +kernel)
theorem tm_code_X10_bridge : Cond.code yX10_bridge cX10_bridge 4 (some .int) ∈ TB := TB_of 834 (by decide +kernel) (by decide +kernel)
theorem tm_code_X10_isBridge : Cond.code yX10_isBridge cX10_isBridge 1 (some .boolean) ∈ TB := TB_of 837 (by decide +kernel) (by decide +kernel)
theorem tm_code_X10_say : Cond.code yX10_say cX10_say 2 (some .int) ∈ TB := TB_of 841 (by decide +kernel) (by decide +kernel)
theorem tm_code_X10_wipe : Cond.code yX10_wipe cX10_wipe 2 (some .int) ∈ TB := TB_of 845 (by decide +kernel) (by decide +kernel)
theorem tm_code_X10_fault : Cond.code yX10_fault cX10_fault 1 (some .int) ∈ TB := TB_of 849 (by decide +kernel) (by decide +kernel)
theorem tm_code_X10_faultOf : Cond.code yX10_faultOf cX10_faultOf 3 (some .int) ∈ TB := TB_of 853 (by decide +kernel) (by decide +kernel)
theorem tm_code_X10_step : Cond.code yX10_step cX10_step 2 (some .int) ∈ TB := TB_of 856 (by decide +kernel) (by decide +kernel)
theorem tm_code_X10_judge : Cond.code yX10_judge cX10_judge 3 (some .int) ∈ TB := TB_of 860 (by decide +kernel) (by decide +kernel)
theorem tm_code_X10_goWeeks : Cond.code yX10_goWeeks cX10_goWeeks 5 (some .int) ∈ TB := TB_of 864 (by decide +kernel) (by decide +kernel)
theorem tm_code_X10_asNow : Cond.code yX10_asNow cX10_asNow 2 none ∈ TB := TB_of 868 (by decide +kernel) (by decide +kernel)
theorem tm_code_X10_met : Cond.code yX10_met cX10_met 3 (some .int) ∈ TB := TB_of 872 (by decide +kernel) (by decide +kernel)
theorem tm_code_X10_hasMet : Cond.code yX10_hasMet cX10_hasMet 2 (some .boolean) ∈ TB := TB_of 876 (by decide +kernel) (by decide +kernel)
theorem tm_code_X10_endDay : Cond.code yX10_endDay cX10_endDay 1 (some .int) ∈ TB := TB_of 880 (by decide +kernel) (by decide +kernel)
theorem tm_code_X10_clamp : Cond.code yX10_clamp cX10_clamp 1 (some .int) ∈ TB := TB_of 883 (by decide +kernel) (by decide +kernel)
theorem tm_code_X10_numberAt : Cond.code yX10_numberAt cX10_numberAt 2 (some .int) ∈ TB := TB_of 887 (by decide +kernel) (by decide +kernel)
theorem tm_code_X10_change : Cond.code yX10_change cX10_change 2 (some .int) ∈ TB := TB_of 891 (by decide +kernel) (by decide +kernel)
theorem tm_code_X10_oneAct : Cond.code yX10_oneAct cX10_oneAct 3 (some .int) ∈ TB := TB_of 895 (by decide +kernel) (by decide +kernel)
theorem tm_code_X10_copy : Cond.code yX10_copy cX10_copy 2 (some .int) ∈ TB := TB_of 899 (by decide +kernel) (by decide +kernel)
theorem tm_code_X10_lay : Cond.code yX10_lay cX10_lay 2 (some .int) ∈ TB := TB_of 903 (by decide +kernel) (by decide +kernel)
theorem tm_code_X10_buy : Cond.code yX10_buy cX10_buy 3 (some .int) ∈ TB := TB_of 907 (by decide +kernel) (by decide +kernel)
theorem tm_code_X10_sell : Cond.code yX10_sell cX10_sell 3 (some .int) ∈ TB := TB_of 911 (by decide +kernel) (by decide +kernel)
theorem tm_code_X10_measureOf : Cond.code yX10_measureOf cX10_measureOf 2 (some .int) ∈ TB := TB_of 915 (by decide +kernel) (by decide +kernel)
theorem tm_code_X10_build : Cond.code yX10_build cX10_build 5 (some .int) ∈ TB := TB_of 919 (by decide +kernel) (by decide +kernel)
theorem tm_code_X10_done : Cond.code yX10_done cX10_done 2 (some .int) ∈ TB := TB_of 923 (by decide +kernel) (by decide +kernel)
theorem tm_code_X10_barOfWeeks : Cond.code yX10_barOfWeeks cX10_barOfWeeks 1 (some .int) ∈ TB := TB_of 927 (by decide +kernel) (by decide +kernel)
theorem tm_code_X10_behind : Cond.code yX10_behind cX10_behind 3 (some .int) ∈ TB := TB_of 931 (by decide +kernel) (by decide +kernel)
theorem tm_code_X10_lies : Cond.code yX10_lies cX10_lies 2 (some .int) ∈ TB := TB_of 935 (by decide +kernel) (by decide +kernel)
theorem tm_code_X10_built : Cond.code yX10_built cX10_built 3 (some .int) ∈ TB := TB_of 939 (by decide +kernel) (by decide +kernel)
theorem tm_code_X10_then : Cond.code yX10_then cX10_then 2 (some .int) ∈ TB := TB_of 943 (by decide +kernel) (by decide +kernel)
theorem tm_code_X10_inches : Cond.code yX10_inches cX10_inches 4 (some .long) ∈ TB := TB_of 947 (by decide +kernel) (by decide +kernel)
theorem tm_code_X10_lowest : Cond.code yX10_lowest cX10_lowest 11 (some .long) ∈ TB := TB_of 952 (by decide +kernel) (by decide +kernel)
theorem tm_code_X10_will : Cond.code yX10_will cX10_will 2 (some .int) ∈ TB := TB_of 956 (by decide +kernel) (by decide +kernel)
theorem tm_code_X10_layWill : Cond.code yX10_layWill cX10_layWill 2 none ∈ TB := TB_of 960 (by decide +kernel) (by decide +kernel)
theorem tm_code_X10_sure : Cond.code yX10_sure cX10_sure 4 (some .long) ∈ TB := TB_of 964 (by decide +kernel) (by decide +kernel)
theorem tm_code_X10_best : Cond.code yX10_best cX10_best 6 (some .int) ∈ TB := TB_of 968 (by decide +kernel) (by decide +kernel)
theorem tm_code_X10_when : Cond.code yX10_when cX10_when 2 (some .int) ∈ TB := TB_of 972 (by decide +kernel) (by decide +kernel)
theorem tm_code_X10_meet : Cond.code yX10_meet cX10_meet 8 (some .int) ∈ TB := TB_of 976 (by decide +kernel) (by decide +kernel)
theorem tm_code_X10_waste : Cond.code yX10_waste cX10_waste 10 (some .int) ∈ TB := TB_of 980 (by decide +kernel) (by decide +kernel)
theorem tm_code_X10_days : Cond.code yX10_days cX10_days 8 (some .int) ∈ TB := TB_of 985 (by decide +kernel) (by decide +kernel)
theorem tm_code_X10_countDays : Cond.code yX10_countDays cX10_countDays 7 (some .int) ∈ TB := TB_of 989 (by decide +kernel) (by decide +kernel)
theorem tm_code_X10_seen : Cond.code yX10_seen cX10_seen 3 (some .int) ∈ TB := TB_of 993 (by decide +kernel) (by decide +kernel)
theorem tm_code_X10_forget : Cond.code yX10_forget cX10_forget 2 (some .int) ∈ TB := TB_of 997 (by decide +kernel) (by decide +kernel)
theorem tm_code_X10_fits : Cond.code yX10_fits cX10_fits 4 (some .int) ∈ TB := TB_of 1001 (by decide +kernel) (by decide +kernel)
theorem tm_code_X10_isLaw : Cond.code yX10_isLaw cX10_isLaw 4 (some .boolean) ∈ TB := TB_of 1005 (by decide +kernel) (by decide +kernel)
theorem tm_code_X10_byLaw : Cond.code yX10_byLaw cX10_byLaw 2 (some .int) ∈ TB := TB_of 1008 (by decide +kernel) (by decide +kernel)
theorem tm_code_X10_ask : Cond.code yX10_ask cX10_ask 9 (some .int) ∈ TB := TB_of 1012 (by decide +kernel) (by decide +kernel)
theorem tm_code_X10_settle : Cond.code yX10_settle cX10_settle 4 (some .int) ∈ TB := TB_of 1016 (by decide +kernel) (by decide +kernel)
theorem tm_code_X10_layRing : Cond.code yX10_layRing cX10_layRing 2 none ∈ TB := TB_of 1020 (by decide +kernel) (by decide +kernel)
theorem tm_code_X10_takeMeans : Cond.code yX10_takeMeans cX10_takeMeans 3 (some .boolean) ∈ TB := TB_of 1024 (by decide +kernel) (by decide +kernel)
theorem tm_code_X10_settled : Cond.code yX10_settled cX10_settled 2 (some .int) ∈ TB := TB_of 1028 (by decide +kernel) (by decide +kernel)
theorem tm_code_X10_halves : Cond.code yX10_halves cX10_halves 7 (some .int) ∈ TB := TB_of 1032 (by decide +kernel) (by decide +kernel)
theorem tm_code_X10_shake : Cond.code yX10_shake cX10_shake 12 (some .long) ∈ TB := TB_of 1036 (by decide +kernel) (by decide +kernel)
theorem tm_code_X10_year : Cond.code yX10_year cX10_year 9 (some .int) ∈ TB := TB_of 1041 (by decide +kernel) (by decide +kernel)
theorem tm_code_X10_image : Cond.code yX10_image cX10_image 4 (some .int) ∈ TB := TB_of 1046 (by decide +kernel) (by decide +kernel)
theorem tm_code_X10_restore : Cond.code yX10_restore cX10_restore 4 (some .int) ∈ TB := TB_of 1050 (by decide +kernel) (by decide +kernel)
theorem tm_code_X10_told : Cond.code yX10_told cX10_told 4 (some .int) ∈ TB := TB_of 1054 (by decide +kernel) (by decide +kernel)
theorem tm_sel_X4_afterSign : Cond.selects RX4 yX4_afterSign yX4_afterSign ∈ TB := TB_of 0 (by decide +kernel) (by decide +kernel)
theorem tm_sel_X4_begin : Cond.selects RX4 yX4_begin yX4_begin ∈ TB := TB_of 1 (by decide +kernel) (by decide +kernel)
theorem tm_sel_X4_end : Cond.selects RX4 yX4_end yX4_end ∈ TB := TB_of 2 (by decide +kernel) (by decide +kernel)
theorem tm_sel_X4_readVerb : Cond.selects RX4 yX4_readVerb yX4_readVerb ∈ TB := TB_of 3 (by decide +kernel) (by decide +kernel)
theorem tm_sel_X4_readPlace : Cond.selects RX4 yX4_readPlace yX4_readPlace ∈ TB := TB_of 4 (by decide +kernel) (by decide +kernel)
theorem tm_sel_X4_readNumber : Cond.selects RX4 yX4_readNumber yX4_readNumber ∈ TB := TB_of 5 (by decide +kernel) (by decide +kernel)
theorem tm_sel_X8_tryAct : Cond.selects RX8 yX8_tryAct yX8_tryAct ∈ TB := TB_of 6 (by decide +kernel) (by decide +kernel)
theorem tm_sel_X9_allCanBe : Cond.selects RX9 yX9_allCanBe yX9_allCanBe ∈ TB := TB_of 7 (by decide +kernel) (by decide +kernel)
theorem tm_sel_X0_sort : Cond.selects RX0 yX0_sort yX0_sort ∈ TB := TB_of 8 (by decide +kernel) (by decide +kernel)
theorem tm_sel_X0_begins : Cond.selects RX0 yX0_begins yX0_begins ∈ TB := TB_of 9 (by decide +kernel) (by decide +kernel)
theorem tm_sel_X0_daysWithin : Cond.selects RX0 yX0_daysWithin yX0_daysWithin ∈ TB := TB_of 10 (by decide +kernel) (by decide +kernel)
theorem tm_sel_X3_narrow : Cond.selects RX3 yX3_narrow yX3_narrow ∈ TB := TB_of 11 (by decide +kernel) (by decide +kernel)
theorem tm_sel_X3_raise : Cond.selects RX3 yX3_raise yX3_raise ∈ TB := TB_of 12 (by decide +kernel) (by decide +kernel)
theorem tm_sel_X3_highestRise : Cond.selects RX3 yX3_highestRise yX3_highestRise ∈ TB := TB_of 13 (by decide +kernel) (by decide +kernel)
theorem tm_sel_X7_winningMove : Cond.selects RX7 yX7_winningMove yX7_winningMove ∈ TB := TB_of 14 (by decide +kernel) (by decide +kernel)
theorem tm_sel_X1_waysAt : Cond.selects RX1 yX1_waysAt yX1_waysAt ∈ TB := TB_of 15 (by decide +kernel) (by decide +kernel)
theorem tm_sel_X9_imageOf : Cond.selects RX9 yX9_imageOf yX9_imageOf ∈ TB := TB_of 16 (by decide +kernel) (by decide +kernel)
theorem tm_sel_X9_toldOfAll : Cond.selects RX9 yX9_toldOfAll yX9_toldOfAll ∈ TB := TB_of 17 (by decide +kernel) (by decide +kernel)
theorem tm_sel_X10_faultOf : Cond.selects RX10 yX10_faultOf yX10_faultOf ∈ TB := TB_of 18 (by decide +kernel) (by decide +kernel)
theorem tm_sel_X10_goWeeks : Cond.selects RX10 yX10_goWeeks yX10_goWeeks ∈ TB := TB_of 19 (by decide +kernel) (by decide +kernel)
theorem tm_sel_X10_asNow : Cond.selects RX10 yX10_asNow yX10_asNow ∈ TB := TB_of 20 (by decide +kernel) (by decide +kernel)
theorem tm_sel_X10_met : Cond.selects RX10 yX10_met yX10_met ∈ TB := TB_of 21 (by decide +kernel) (by decide +kernel)
theorem tm_sel_X10_hasMet : Cond.selects RX10 yX10_hasMet yX10_hasMet ∈ TB := TB_of 22 (by decide +kernel) (by decide +kernel)
theorem tm_sel_X10_endDay : Cond.selects RX10 yX10_endDay yX10_endDay ∈ TB := TB_of 23 (by decide +kernel) (by decide +kernel)
theorem tm_sel_X10_numberAt : Cond.selects RX10 yX10_numberAt yX10_numberAt ∈ TB := TB_of 24 (by decide +kernel) (by decide +kernel)
theorem tm_sel_X10_change : Cond.selects RX10 yX10_change yX10_change ∈ TB := TB_of 25 (by decide +kernel) (by decide +kernel)
theorem tm_sel_X10_oneAct : Cond.selects RX10 yX10_oneAct yX10_oneAct ∈ TB := TB_of 26 (by decide +kernel) (by decide +kernel)
theorem tm_sel_X10_copy : Cond.selects RX10 yX10_copy yX10_copy ∈ TB := TB_of 27 (by decide +kernel) (by decide +kernel)
theorem tm_sel_X10_lay : Cond.selects RX10 yX10_lay yX10_lay ∈ TB := TB_of 28 (by decide +kernel) (by decide +kernel)
theorem tm_sel_X10_buy : Cond.selects RX10 yX10_buy yX10_buy ∈ TB := TB_of 29 (by decide +kernel) (by decide +kernel)
theorem tm_sel_X10_sell : Cond.selects RX10 yX10_sell yX10_sell ∈ TB := TB_of 30 (by decide +kernel) (by decide +kernel)
theorem tm_sel_X10_measureOf : Cond.selects RX10 yX10_measureOf yX10_measureOf ∈ TB := TB_of 31 (by decide +kernel) (by decide +kernel)
theorem tm_sel_X10_build : Cond.selects RX10 yX10_build yX10_build ∈ TB := TB_of 32 (by decide +kernel) (by decide +kernel)
theorem tm_sel_X10_barOfWeeks : Cond.selects RX10 yX10_barOfWeeks yX10_barOfWeeks ∈ TB := TB_of 33 (by decide +kernel) (by decide +kernel)
theorem tm_sel_X10_layWill : Cond.selects RX10 yX10_layWill yX10_layWill ∈ TB := TB_of 34 (by decide +kernel) (by decide +kernel)
theorem tm_sel_X10_best : Cond.selects RX10 yX10_best yX10_best ∈ TB := TB_of 35 (by decide +kernel) (by decide +kernel)
theorem tm_sel_X10_countDays : Cond.selects RX10 yX10_countDays yX10_countDays ∈ TB := TB_of 36 (by decide +kernel) (by decide +kernel)
theorem tm_sel_X10_isLaw : Cond.selects RX10 yX10_isLaw yX10_isLaw ∈ TB := TB_of 37 (by decide +kernel) (by decide +kernel)
theorem tm_sel_X10_layRing : Cond.selects RX10 yX10_layRing yX10_layRing ∈ TB := TB_of 38 (by decide +kernel) (by decide +kernel)
theorem tm_sel_X10_takeMeans : Cond.selects RX10 yX10_takeMeans yX10_takeMeans ∈ TB := TB_of 39 (by decide +kernel) (by decide +kernel)
theorem tm_ini_L : Cond.initialized RL ∈ TB := TB_of 40 (by decide +kernel) (by decide +kernel)
theorem tm_ini_X9 : Cond.initialized RX9 ∈ TB := TB_of 41 (by decide +kernel) (by decide +kernel)
theorem tm_ini_X5 : Cond.initialized RX5 ∈ TB := TB_of 42 (by decide +kernel) (by decide +kernel)
theorem tm_ini_J7 : Cond.initialized "java/util/Arrays" ∈ TB := TB_of 43 (by decide +kernel) (by decide +kernel)
theorem tm_ini_X2 : Cond.initialized RX2 ∈ TB := TB_of 44 (by decide +kernel) (by decide +kernel)
theorem tm_ini_X4 : Cond.initialized RX4 ∈ TB := TB_of 45 (by decide +kernel) (by decide +kernel)
theorem tm_ini_X8 : Cond.initialized RX8 ∈ TB := TB_of 46 (by decide +kernel) (by decide +kernel)
theorem tm_ini_X0 : Cond.initialized RX0 ∈ TB := TB_of 47 (by decide +kernel) (by decide +kernel)
theorem tm_ini_X3 : Cond.initialized RX3 ∈ TB := TB_of 48 (by decide +kernel) (by decide +kernel)
theorem tm_ini_X6 : Cond.initialized RX6 ∈ TB := TB_of 49 (by decide +kernel) (by decide +kernel)
theorem tm_ini_X7 : Cond.initialized RX7 ∈ TB := TB_of 50 (by decide +kernel) (by decide +kernel)
theorem tm_ini_X1 : Cond.initialized RX1 ∈ TB := TB_of 51 (by decide +kernel) (by decide +kernel)
theorem tm_ini_X10 : Cond.initialized RX10 ∈ TB := TB_of 52 (by decide +kernel) (by decide +kernel)
theorem tm_ini_J10 : Cond.initialized "java/lang/System" ∈ TB := TB_of 53 (by decide +kernel) (by decide +kernel)
theorem tm_ini_J9 : Cond.initialized "java/lang/Math" ∈ TB := TB_of 54 (by decide +kernel) (by decide +kernel)
theorem tm_cl_L_7 : Cond.classLink RL 7 RX9 ∈ TB := TB_of 55 (by decide +kernel) (by decide +kernel)
theorem tm_inst_X9 : Cond.instantiable RX9 10 ∈ TB := TB_of 56 (by decide +kernel) (by decide +kernel)
theorem tm_ml_L_9 : Cond.methodLink RL 9 yX9_init ∈ TB := TB_of 57 (by decide +kernel) (by decide +kernel)
theorem tm_im_X9_init : Cond.instanceMethod yX9_init ∈ TB := TB_of 58 (by decide +kernel) (by decide +kernel)
theorem tm_ml_X9_1 : Cond.methodLink RX9 1 objectInit ∈ TB := TB_of 60 (by decide +kernel) (by decide +kernel)
theorem tm_im_obj : Cond.instanceMethod objectInit ∈ TB := TB_of 61 (by decide +kernel) (by decide +kernel)
theorem tm_cl_X9_7 : Cond.classLink RX9 7 RX5 ∈ TB := TB_of 63 (by decide +kernel) (by decide +kernel)
theorem tm_inst_X5 : Cond.instantiable RX5 13 ∈ TB := TB_of 64 (by decide +kernel) (by decide +kernel)
theorem tm_ml_X9_9 : Cond.methodLink RX9 9 yX5_init ∈ TB := TB_of 65 (by decide +kernel) (by decide +kernel)
theorem tm_im_X5_init : Cond.instanceMethod yX5_init ∈ TB := TB_of 66 (by decide +kernel) (by decide +kernel)
theorem tm_ml_X5_3 : Cond.methodLink RX5 3 objectInit ∈ TB := TB_of 68 (by decide +kernel) (by decide +kernel)
theorem tm_ml_X5_46 : Cond.methodLink RX5 46 yJ7_fill_53178 ∈ TB := TB_of 69 (by decide +kernel) (by decide +kernel)
theorem tm_st_J7_fill_53178 : Cond.static yJ7_fill_53178 ∈ TB := TB_of 70 (by decide +kernel) (by decide +kernel)
theorem tm_fl_X5_9 : Cond.fieldLink RX5 9 "LentRulers$Realm" "inch" "I" ∈ TB := TB_of 72 (by decide +kernel) (by decide +kernel)
theorem tm_fl_X0_18 : Cond.fieldLink RX0 18 "LentRulers$Realm" "inch" "I" ∈ TB := TB_of 73 (by decide +kernel) (by decide +kernel)
theorem tm_fl_X9_79 : Cond.fieldLink RX9 79 "LentRulers$Realm" "inch" "I" ∈ TB := TB_of 74 (by decide +kernel) (by decide +kernel)
theorem tm_fl_X5_52 : Cond.fieldLink RX5 52 "LentRulers$Realm" "day" "I" ∈ TB := TB_of 75 (by decide +kernel) (by decide +kernel)
theorem tm_fl_X0_24 : Cond.fieldLink RX0 24 "LentRulers$Realm" "day" "I" ∈ TB := TB_of 76 (by decide +kernel) (by decide +kernel)
theorem tm_fl_X9_164 : Cond.fieldLink RX9 164 "LentRulers$Realm" "day" "I" ∈ TB := TB_of 77 (by decide +kernel) (by decide +kernel)
theorem tm_fl_X5_55 : Cond.fieldLink RX5 55 "LentRulers$Realm" "sights" "I" ∈ TB := TB_of 78 (by decide +kernel) (by decide +kernel)
theorem tm_fl_X3_21 : Cond.fieldLink RX3 21 "LentRulers$Realm" "sights" "I" ∈ TB := TB_of 79 (by decide +kernel) (by decide +kernel)
theorem tm_fl_X9_219 : Cond.fieldLink RX9 219 "LentRulers$Realm" "sights" "I" ∈ TB := TB_of 80 (by decide +kernel) (by decide +kernel)
theorem tm_fl_X5_15 : Cond.fieldLink RX5 15 "LentRulers$Realm" "week" "[I" ∈ TB := TB_of 81 (by decide +kernel) (by decide +kernel)
theorem tm_fl_X9_83 : Cond.fieldLink RX9 83 "LentRulers$Realm" "week" "[I" ∈ TB := TB_of 82 (by decide +kernel) (by decide +kernel)
theorem tm_fl_X5_19 : Cond.fieldLink RX5 19 "LentRulers$Realm" "purse" "[I" ∈ TB := TB_of 83 (by decide +kernel) (by decide +kernel)
theorem tm_fl_X9_92 : Cond.fieldLink RX9 92 "LentRulers$Realm" "purse" "[I" ∈ TB := TB_of 84 (by decide +kernel) (by decide +kernel)
theorem tm_fl_X5_22 : Cond.fieldLink RX5 22 "LentRulers$Realm" "cloth" "[I" ∈ TB := TB_of 85 (by decide +kernel) (by decide +kernel)
theorem tm_fl_X9_95 : Cond.fieldLink RX9 95 "LentRulers$Realm" "cloth" "[I" ∈ TB := TB_of 86 (by decide +kernel) (by decide +kernel)
theorem tm_fl_X5_25 : Cond.fieldLink RX5 25 "LentRulers$Realm" "ruler" "[I" ∈ TB := TB_of 87 (by decide +kernel) (by decide +kernel)
theorem tm_fl_X9_98 : Cond.fieldLink RX9 98 "LentRulers$Realm" "ruler" "[I" ∈ TB := TB_of 88 (by decide +kernel) (by decide +kernel)
theorem tm_fl_X5_28 : Cond.fieldLink RX5 28 "LentRulers$Realm" "stick" "[I" ∈ TB := TB_of 89 (by decide +kernel) (by decide +kernel)
theorem tm_fl_X9_104 : Cond.fieldLink RX9 104 "LentRulers$Realm" "stick" "[I" ∈ TB := TB_of 90 (by decide +kernel) (by decide +kernel)
theorem tm_fl_X5_31 : Cond.fieldLink RX5 31 "LentRulers$Realm" "span" "[I" ∈ TB := TB_of 91 (by decide +kernel) (by decide +kernel)
theorem tm_fl_X9_110 : Cond.fieldLink RX9 110 "LentRulers$Realm" "span" "[I" ∈ TB := TB_of 92 (by decide +kernel) (by decide +kernel)
theorem tm_fl_X5_34 : Cond.fieldLink RX5 34 "LentRulers$Realm" "west" "[I" ∈ TB := TB_of 93 (by decide +kernel) (by decide +kernel)
theorem tm_fl_X9_113 : Cond.fieldLink RX9 113 "LentRulers$Realm" "west" "[I" ∈ TB := TB_of 94 (by decide +kernel) (by decide +kernel)
theorem tm_fl_X5_37 : Cond.fieldLink RX5 37 "LentRulers$Realm" "east" "[I" ∈ TB := TB_of 95 (by decide +kernel) (by decide +kernel)
theorem tm_fl_X9_116 : Cond.fieldLink RX9 116 "LentRulers$Realm" "east" "[I" ∈ TB := TB_of 96 (by decide +kernel) (by decide +kernel)
theorem tm_fl_X5_40 : Cond.fieldLink RX5 40 "LentRulers$Realm" "sightDay" "[I" ∈ TB := TB_of 97 (by decide +kernel) (by decide +kernel)
theorem tm_fl_X3_27 : Cond.fieldLink RX3 27 "LentRulers$Realm" "sightDay" "[I" ∈ TB := TB_of 98 (by decide +kernel) (by decide +kernel)
theorem tm_fl_X9_222 : Cond.fieldLink RX9 222 "LentRulers$Realm" "sightDay" "[I" ∈ TB := TB_of 99 (by decide +kernel) (by decide +kernel)
theorem tm_fl_X5_43 : Cond.fieldLink RX5 43 "LentRulers$Realm" "sightInch" "[I" ∈ TB := TB_of 100 (by decide +kernel) (by decide +kernel)
theorem tm_fl_X3_30 : Cond.fieldLink RX3 30 "LentRulers$Realm" "sightInch" "[I" ∈ TB := TB_of 101 (by decide +kernel) (by decide +kernel)
theorem tm_fl_X9_225 : Cond.fieldLink RX9 225 "LentRulers$Realm" "sightInch" "[I" ∈ TB := TB_of 102 (by decide +kernel) (by decide +kernel)
theorem tm_arr_int : Cond.arrayClass .int ∈ TB := TB_of 130 (by decide +kernel) (by decide +kernel)
theorem tm_cl_X9_16 : Cond.classLink RX9 16 RX2 ∈ TB := TB_of 131 (by decide +kernel) (by decide +kernel)
theorem tm_inst_X2 : Cond.instantiable RX2 2 ∈ TB := TB_of 132 (by decide +kernel) (by decide +kernel)
theorem tm_ml_X9_18 : Cond.methodLink RX9 18 yX2_init ∈ TB := TB_of 133 (by decide +kernel) (by decide +kernel)
theorem tm_im_X2_init : Cond.instanceMethod yX2_init ∈ TB := TB_of 134 (by decide +kernel) (by decide +kernel)
theorem tm_ml_X2_1 : Cond.methodLink RX2 1 objectInit ∈ TB := TB_of 136 (by decide +kernel) (by decide +kernel)
theorem tm_cl_X2_7 : Cond.classLink RX2 7 RX5 ∈ TB := TB_of 137 (by decide +kernel) (by decide +kernel)
theorem tm_ml_X2_9 : Cond.methodLink RX2 9 yX5_init ∈ TB := TB_of 138 (by decide +kernel) (by decide +kernel)
theorem tm_fl_X2_10 : Cond.fieldLink RX2 10 "LentRulers$Image" "realm" "LLentRulers$Realm;" ∈ TB := TB_of 139 (by decide +kernel) (by decide +kernel)
theorem tm_fl_X9_283 : Cond.fieldLink RX9 283 "LentRulers$Image" "realm" "LLentRulers$Realm;" ∈ TB := TB_of 140 (by decide +kernel) (by decide +kernel)
theorem tm_fl_X9_284 : Cond.fieldLink RX9 284 "LentRulers$Image" "kept" "Z" ∈ TB := TB_of 141 (by decide +kernel) (by decide +kernel)
theorem tm_cl_X9_26 : Cond.classLink RX9 26 RX4 ∈ TB := TB_of 147 (by decide +kernel) (by decide +kernel)
theorem tm_inst_X4 : Cond.instantiable RX4 7 ∈ TB := TB_of 148 (by decide +kernel) (by decide +kernel)
theorem tm_ml_X9_28 : Cond.methodLink RX9 28 yX4_init ∈ TB := TB_of 149 (by decide +kernel) (by decide +kernel)
theorem tm_im_X4_init : Cond.instanceMethod yX4_init ∈ TB := TB_of 150 (by decide +kernel) (by decide +kernel)
theorem tm_ml_X4_3 : Cond.methodLink RX4 3 objectInit ∈ TB := TB_of 152 (by decide +kernel) (by decide +kernel)
theorem tm_fl_X4_27 : Cond.fieldLink RX4 27 "LentRulers$Pad" "count" "I" ∈ TB := TB_of 153 (by decide +kernel) (by decide +kernel)
theorem tm_fl_X9_122 : Cond.fieldLink RX9 122 "LentRulers$Pad" "count" "I" ∈ TB := TB_of 154 (by decide +kernel) (by decide +kernel)
theorem tm_fl_X8_41 : Cond.fieldLink RX8 41 "LentRulers$Pad" "acts" "I" ∈ TB := TB_of 155 (by decide +kernel) (by decide +kernel)
theorem tm_fl_X4_31 : Cond.fieldLink RX4 31 "LentRulers$Pad" "acts" "I" ∈ TB := TB_of 156 (by decide +kernel) (by decide +kernel)
theorem tm_fl_X4_9 : Cond.fieldLink RX4 9 "LentRulers$Pad" "signs" "[I" ∈ TB := TB_of 157 (by decide +kernel) (by decide +kernel)
theorem tm_fl_X4_15 : Cond.fieldLink RX4 15 "LentRulers$Pad" "kinds" "[I" ∈ TB := TB_of 158 (by decide +kernel) (by decide +kernel)
theorem tm_fl_X8_49 : Cond.fieldLink RX8 49 "LentRulers$Pad" "kinds" "[I" ∈ TB := TB_of 159 (by decide +kernel) (by decide +kernel)
theorem tm_fl_X4_18 : Cond.fieldLink RX4 18 "LentRulers$Pad" "ones" "[I" ∈ TB := TB_of 160 (by decide +kernel) (by decide +kernel)
theorem tm_fl_X8_56 : Cond.fieldLink RX8 56 "LentRulers$Pad" "ones" "[I" ∈ TB := TB_of 161 (by decide +kernel) (by decide +kernel)
theorem tm_fl_X4_21 : Cond.fieldLink RX4 21 "LentRulers$Pad" "places" "[I" ∈ TB := TB_of 162 (by decide +kernel) (by decide +kernel)
theorem tm_fl_X8_53 : Cond.fieldLink RX8 53 "LentRulers$Pad" "places" "[I" ∈ TB := TB_of 163 (by decide +kernel) (by decide +kernel)
theorem tm_fl_X4_24 : Cond.fieldLink RX4 24 "LentRulers$Pad" "numbers" "[I" ∈ TB := TB_of 164 (by decide +kernel) (by decide +kernel)
theorem tm_fl_X8_59 : Cond.fieldLink RX8 59 "LentRulers$Pad" "numbers" "[I" ∈ TB := TB_of 165 (by decide +kernel) (by decide +kernel)
theorem tm_cl_X9_33 : Cond.classLink RX9 33 RX8 ∈ TB := TB_of 181 (by decide +kernel) (by decide +kernel)
theorem tm_inst_X8 : Cond.instantiable RX8 6 ∈ TB := TB_of 182 (by decide +kernel) (by decide +kernel)
theorem tm_ml_X9_35 : Cond.methodLink RX9 35 yX8_init ∈ TB := TB_of 183 (by decide +kernel) (by decide +kernel)
theorem tm_im_X8_init : Cond.instanceMethod yX8_init ∈ TB := TB_of 184 (by decide +kernel) (by decide +kernel)
theorem tm_ml_X8_3 : Cond.methodLink RX8 3 objectInit ∈ TB := TB_of 186 (by decide +kernel) (by decide +kernel)
theorem tm_cl_X8_9 : Cond.classLink RX8 9 RX5 ∈ TB := TB_of 187 (by decide +kernel) (by decide +kernel)
theorem tm_ml_X8_11 : Cond.methodLink RX8 11 yX5_init ∈ TB := TB_of 188 (by decide +kernel) (by decide +kernel)
theorem tm_fl_X8_12 : Cond.fieldLink RX8 12 "LentRulers$Weeks" "trial" "LLentRulers$Realm;" ∈ TB := TB_of 189 (by decide +kernel) (by decide +kernel)
theorem tm_fl_X9_146 : Cond.fieldLink RX9 146 "LentRulers$Weeks" "trial" "LLentRulers$Realm;" ∈ TB := TB_of 190 (by decide +kernel) (by decide +kernel)
theorem tm_fl_X8_44 : Cond.fieldLink RX8 44 "LentRulers$Weeks" "acts" "I" ∈ TB := TB_of 191 (by decide +kernel) (by decide +kernel)
theorem tm_fl_X9_153 : Cond.fieldLink RX9 153 "LentRulers$Weeks" "acts" "I" ∈ TB := TB_of 192 (by decide +kernel) (by decide +kernel)
theorem tm_fl_X8_18 : Cond.fieldLink RX8 18 "LentRulers$Weeks" "stuckAct" "I" ∈ TB := TB_of 193 (by decide +kernel) (by decide +kernel)
theorem tm_fl_X9_136 : Cond.fieldLink RX9 136 "LentRulers$Weeks" "stuckAct" "I" ∈ TB := TB_of 194 (by decide +kernel) (by decide +kernel)
theorem tm_fl_X8_22 : Cond.fieldLink RX8 22 "LentRulers$Weeks" "why" "I" ∈ TB := TB_of 195 (by decide +kernel) (by decide +kernel)
theorem tm_fl_X9_139 : Cond.fieldLink RX9 139 "LentRulers$Weeks" "why" "I" ∈ TB := TB_of 196 (by decide +kernel) (by decide +kernel)
theorem tm_fl_X8_25 : Cond.fieldLink RX8 25 "LentRulers$Weeks" "metAct" "I" ∈ TB := TB_of 197 (by decide +kernel) (by decide +kernel)
theorem tm_fl_X9_167 : Cond.fieldLink RX9 167 "LentRulers$Weeks" "metAct" "I" ∈ TB := TB_of 198 (by decide +kernel) (by decide +kernel)
theorem tm_fl_X8_28 : Cond.fieldLink RX8 28 "LentRulers$Weeks" "metBridge" "I" ∈ TB := TB_of 199 (by decide +kernel) (by decide +kernel)
theorem tm_fl_X9_170 : Cond.fieldLink RX9 170 "LentRulers$Weeks" "metBridge" "I" ∈ TB := TB_of 200 (by decide +kernel) (by decide +kernel)
theorem tm_cl_X9_40 : Cond.classLink RX9 40 RX0 ∈ TB := TB_of 214 (by decide +kernel) (by decide +kernel)
theorem tm_inst_X0 : Cond.instantiable RX0 4 ∈ TB := TB_of 215 (by decide +kernel) (by decide +kernel)
theorem tm_ml_X9_42 : Cond.methodLink RX9 42 yX0_init ∈ TB := TB_of 216 (by decide +kernel) (by decide +kernel)
theorem tm_im_X0_init : Cond.instanceMethod yX0_init ∈ TB := TB_of 217 (by decide +kernel) (by decide +kernel)
theorem tm_ml_X0_3 : Cond.methodLink RX0 3 objectInit ∈ TB := TB_of 219 (by decide +kernel) (by decide +kernel)
theorem tm_fl_X0_9 : Cond.fieldLink RX0 9 "LentRulers$Ahead" "inches" "[I" ∈ TB := TB_of 220 (by decide +kernel) (by decide +kernel)
theorem tm_fl_X9_188 : Cond.fieldLink RX9 188 "LentRulers$Ahead" "inches" "[I" ∈ TB := TB_of 221 (by decide +kernel) (by decide +kernel)
theorem tm_fl_X0_15 : Cond.fieldLink RX0 15 "LentRulers$Ahead" "sorted" "[I" ∈ TB := TB_of 222 (by decide +kernel) (by decide +kernel)
theorem tm_fl_X0_31 : Cond.fieldLink RX0 31 "LentRulers$Ahead" "buyDay" "I" ∈ TB := TB_of 223 (by decide +kernel) (by decide +kernel)
theorem tm_fl_X9_195 : Cond.fieldLink RX9 195 "LentRulers$Ahead" "buyDay" "I" ∈ TB := TB_of 224 (by decide +kernel) (by decide +kernel)
theorem tm_fl_X0_34 : Cond.fieldLink RX0 34 "LentRulers$Ahead" "sellDay" "I" ∈ TB := TB_of 225 (by decide +kernel) (by decide +kernel)
theorem tm_fl_X9_198 : Cond.fieldLink RX9 198 "LentRulers$Ahead" "sellDay" "I" ∈ TB := TB_of 226 (by decide +kernel) (by decide +kernel)
theorem tm_cl_X9_47 : Cond.classLink RX9 47 RX3 ∈ TB := TB_of 236 (by decide +kernel) (by decide +kernel)
theorem tm_inst_X3 : Cond.instantiable RX3 3 ∈ TB := TB_of 237 (by decide +kernel) (by decide +kernel)
theorem tm_ml_X9_49 : Cond.methodLink RX9 49 yX3_init ∈ TB := TB_of 238 (by decide +kernel) (by decide +kernel)
theorem tm_im_X3_init : Cond.instanceMethod yX3_init ∈ TB := TB_of 239 (by decide +kernel) (by decide +kernel)
theorem tm_ml_X3_3 : Cond.methodLink RX3 3 objectInit ∈ TB := TB_of 241 (by decide +kernel) (by decide +kernel)
theorem tm_fl_X3_11 : Cond.fieldLink RX3 11 "LentRulers$Laws" "least" "[I" ∈ TB := TB_of 242 (by decide +kernel) (by decide +kernel)
theorem tm_fl_X3_15 : Cond.fieldLink RX3 15 "LentRulers$Laws" "most" "[I" ∈ TB := TB_of 243 (by decide +kernel) (by decide +kernel)
theorem tm_fl_X3_18 : Cond.fieldLink RX3 18 "LentRulers$Laws" "rise" "[I" ∈ TB := TB_of 244 (by decide +kernel) (by decide +kernel)
theorem tm_cl_X9_54 : Cond.classLink RX9 54 RX6 ∈ TB := TB_of 252 (by decide +kernel) (by decide +kernel)
theorem tm_inst_X6 : Cond.instantiable RX6 2 ∈ TB := TB_of 253 (by decide +kernel) (by decide +kernel)
theorem tm_ml_X9_56 : Cond.methodLink RX9 56 yX6_init ∈ TB := TB_of 254 (by decide +kernel) (by decide +kernel)
theorem tm_im_X6_init : Cond.instanceMethod yX6_init ∈ TB := TB_of 255 (by decide +kernel) (by decide +kernel)
theorem tm_ml_X6_3 : Cond.methodLink RX6 3 objectInit ∈ TB := TB_of 257 (by decide +kernel) (by decide +kernel)
theorem tm_fl_X6_9 : Cond.fieldLink RX6 9 "LentRulers$Ring" "has" "[I" ∈ TB := TB_of 258 (by decide +kernel) (by decide +kernel)
theorem tm_fl_X9_249 : Cond.fieldLink RX9 249 "LentRulers$Ring" "has" "[I" ∈ TB := TB_of 259 (by decide +kernel) (by decide +kernel)
theorem tm_fl_X6_15 : Cond.fieldLink RX6 15 "LentRulers$Ring" "next" "[I" ∈ TB := TB_of 260 (by decide +kernel) (by decide +kernel)
theorem tm_cl_X9_61 : Cond.classLink RX9 61 RX7 ∈ TB := TB_of 266 (by decide +kernel) (by decide +kernel)
theorem tm_inst_X7 : Cond.instantiable RX7 1 ∈ TB := TB_of 267 (by decide +kernel) (by decide +kernel)
theorem tm_ml_X9_63 : Cond.methodLink RX9 63 yX7_init ∈ TB := TB_of 268 (by decide +kernel) (by decide +kernel)
theorem tm_im_X7_init : Cond.instanceMethod yX7_init ∈ TB := TB_of 269 (by decide +kernel) (by decide +kernel)
theorem tm_ml_X7_3 : Cond.methodLink RX7 3 objectInit ∈ TB := TB_of 271 (by decide +kernel) (by decide +kernel)
theorem tm_fl_X7_9 : Cond.fieldLink RX7 9 "LentRulers$Turns" "moves" "[I" ∈ TB := TB_of 272 (by decide +kernel) (by decide +kernel)
theorem tm_cl_X9_68 : Cond.classLink RX9 68 RX1 ∈ TB := TB_of 276 (by decide +kernel) (by decide +kernel)
theorem tm_inst_X1 : Cond.instantiable RX1 2 ∈ TB := TB_of 277 (by decide +kernel) (by decide +kernel)
theorem tm_ml_X9_70 : Cond.methodLink RX9 70 yX1_init ∈ TB := TB_of 278 (by decide +kernel) (by decide +kernel)
theorem tm_im_X1_init : Cond.instanceMethod yX1_init ∈ TB := TB_of 279 (by decide +kernel) (by decide +kernel)
theorem tm_ml_X1_3 : Cond.methodLink RX1 3 objectInit ∈ TB := TB_of 281 (by decide +kernel) (by decide +kernel)
theorem tm_fl_X1_11 : Cond.fieldLink RX1 11 "LentRulers$Hand" "ways" "[J" ∈ TB := TB_of 282 (by decide +kernel) (by decide +kernel)
theorem tm_fl_X1_15 : Cond.fieldLink RX1 15 "LentRulers$Hand" "next" "[J" ∈ TB := TB_of 283 (by decide +kernel) (by decide +kernel)
theorem tm_arr_long : Cond.arrayClass .long ∈ TB := TB_of 289 (by decide +kernel) (by decide +kernel)
theorem tm_fl_X9_10 : Cond.fieldLink RX9 10 "LentRulers" "realm" "LLentRulers$Realm;" ∈ TB := TB_of 290 (by decide +kernel) (by decide +kernel)
theorem tm_fl_X9_19 : Cond.fieldLink RX9 19 "LentRulers" "firstImage" "LLentRulers$Image;" ∈ TB := TB_of 291 (by decide +kernel) (by decide +kernel)
theorem tm_fl_X9_23 : Cond.fieldLink RX9 23 "LentRulers" "secondImage" "LLentRulers$Image;" ∈ TB := TB_of 292 (by decide +kernel) (by decide +kernel)
theorem tm_fl_X9_29 : Cond.fieldLink RX9 29 "LentRulers" "pad" "LLentRulers$Pad;" ∈ TB := TB_of 293 (by decide +kernel) (by decide +kernel)
theorem tm_fl_X9_36 : Cond.fieldLink RX9 36 "LentRulers" "weeks" "LLentRulers$Weeks;" ∈ TB := TB_of 294 (by decide +kernel) (by decide +kernel)
theorem tm_fl_X9_43 : Cond.fieldLink RX9 43 "LentRulers" "ahead" "LLentRulers$Ahead;" ∈ TB := TB_of 295 (by decide +kernel) (by decide +kernel)
theorem tm_fl_X9_50 : Cond.fieldLink RX9 50 "LentRulers" "laws" "LLentRulers$Laws;" ∈ TB := TB_of 296 (by decide +kernel) (by decide +kernel)
theorem tm_fl_X9_57 : Cond.fieldLink RX9 57 "LentRulers" "ring" "LLentRulers$Ring;" ∈ TB := TB_of 297 (by decide +kernel) (by decide +kernel)
theorem tm_fl_X9_64 : Cond.fieldLink RX9 64 "LentRulers" "turns" "LLentRulers$Turns;" ∈ TB := TB_of 298 (by decide +kernel) (by decide +kernel)
theorem tm_fl_X9_71 : Cond.fieldLink RX9 71 "LentRulers" "hand" "LLentRulers$Hand;" ∈ TB := TB_of 299 (by decide +kernel) (by decide +kernel)
theorem tm_ml_L_13 : Cond.methodLink RL 13 yX9_inch ∈ TB := TB_of 321 (by decide +kernel) (by decide +kernel)
theorem tm_im_X9_inch : Cond.instanceMethod yX9_inch ∈ TB := TB_of 322 (by decide +kernel) (by decide +kernel)
theorem tm_sel_X9_inch : Cond.selects RX9 yX9_inch yX9_inch ∈ TB := TB_of 323 (by decide +kernel) (by decide +kernel)
theorem tm_ml_X9_75 : Cond.methodLink RX9 75 yX9_within ∈ TB := TB_of 325 (by decide +kernel) (by decide +kernel)
theorem tm_st_X9_within : Cond.static yX9_within ∈ TB := TB_of 326 (by decide +kernel) (by decide +kernel)
theorem tm_ml_L_18 : Cond.methodLink RL 18 yX9_week ∈ TB := TB_of 328 (by decide +kernel) (by decide +kernel)
theorem tm_im_X9_week : Cond.instanceMethod yX9_week ∈ TB := TB_of 329 (by decide +kernel) (by decide +kernel)
theorem tm_sel_X9_week : Cond.selects RX9 yX9_week yX9_week ∈ TB := TB_of 330 (by decide +kernel) (by decide +kernel)
theorem tm_ml_L_23 : Cond.methodLink RL 23 yX9_one ∈ TB := TB_of 332 (by decide +kernel) (by decide +kernel)
theorem tm_im_X9_one : Cond.instanceMethod yX9_one ∈ TB := TB_of 333 (by decide +kernel) (by decide +kernel)
theorem tm_sel_X9_one : Cond.selects RX9 yX9_one yX9_one ∈ TB := TB_of 334 (by decide +kernel) (by decide +kernel)
theorem tm_ml_X9_87 : Cond.methodLink RX9 87 yX9_isOne ∈ TB := TB_of 336 (by decide +kernel) (by decide +kernel)
theorem tm_st_X9_isOne : Cond.static yX9_isOne ∈ TB := TB_of 337 (by decide +kernel) (by decide +kernel)
theorem tm_k_X9_91 : Cond.constant RX9 91 (99999) ∈ TB := TB_of 339 (by decide +kernel) (by decide +kernel)
theorem tm_ml_L_28 : Cond.methodLink RL 28 yX9_stick ∈ TB := TB_of 340 (by decide +kernel) (by decide +kernel)
theorem tm_im_X9_stick : Cond.instanceMethod yX9_stick ∈ TB := TB_of 341 (by decide +kernel) (by decide +kernel)
theorem tm_sel_X9_stick : Cond.selects RX9 yX9_stick yX9_stick ∈ TB := TB_of 342 (by decide +kernel) (by decide +kernel)
theorem tm_ml_X9_101 : Cond.methodLink RX9 101 yX9_isStick ∈ TB := TB_of 344 (by decide +kernel) (by decide +kernel)
theorem tm_st_X9_isStick : Cond.static yX9_isStick ∈ TB := TB_of 345 (by decide +kernel) (by decide +kernel)
theorem tm_ml_L_32 : Cond.methodLink RL 32 yX9_bridge ∈ TB := TB_of 347 (by decide +kernel) (by decide +kernel)
theorem tm_im_X9_bridge : Cond.instanceMethod yX9_bridge ∈ TB := TB_of 348 (by decide +kernel) (by decide +kernel)
theorem tm_sel_X9_bridge : Cond.selects RX9 yX9_bridge yX9_bridge ∈ TB := TB_of 349 (by decide +kernel) (by decide +kernel)
theorem tm_ml_X9_107 : Cond.methodLink RX9 107 yX9_isBridge ∈ TB := TB_of 351 (by decide +kernel) (by decide +kernel)
theorem tm_st_X9_isBridge : Cond.static yX9_isBridge ∈ TB := TB_of 352 (by decide +kernel) (by decide +kernel)
theorem tm_ml_L_36 : Cond.methodLink RL 36 yX9_say ∈ TB := TB_of 354 (by decide +kernel) (by decide +kernel)
theorem tm_im_X9_say : Cond.instanceMethod yX9_say ∈ TB := TB_of 355 (by decide +kernel) (by decide +kernel)
theorem tm_sel_X9_say : Cond.selects RX9 yX9_say yX9_say ∈ TB := TB_of 356 (by decide +kernel) (by decide +kernel)
theorem tm_ml_X9_119 : Cond.methodLink RX9 119 yX4_write ∈ TB := TB_of 358 (by decide +kernel) (by decide +kernel)
theorem tm_im_X4_write : Cond.instanceMethod yX4_write ∈ TB := TB_of 359 (by decide +kernel) (by decide +kernel)
theorem tm_sel_X4_write : Cond.selects RX4 yX4_write yX4_write ∈ TB := TB_of 360 (by decide +kernel) (by decide +kernel)
theorem tm_ml_L_40 : Cond.methodLink RL 40 yX9_wipe ∈ TB := TB_of 362 (by decide +kernel) (by decide +kernel)
theorem tm_im_X9_wipe : Cond.instanceMethod yX9_wipe ∈ TB := TB_of 363 (by decide +kernel) (by decide +kernel)
theorem tm_sel_X9_wipe : Cond.selects RX9 yX9_wipe yX9_wipe ∈ TB := TB_of 364 (by decide +kernel) (by decide +kernel)
theorem tm_ml_X9_125 : Cond.methodLink RX9 125 yX4_clear ∈ TB := TB_of 366 (by decide +kernel) (by decide +kernel)
theorem tm_im_X4_clear : Cond.instanceMethod yX4_clear ∈ TB := TB_of 367 (by decide +kernel) (by decide +kernel)
theorem tm_sel_X4_clear : Cond.selects RX4 yX4_clear yX4_clear ∈ TB := TB_of 368 (by decide +kernel) (by decide +kernel)
theorem tm_ml_L_45 : Cond.methodLink RL 45 yX9_fault ∈ TB := TB_of 370 (by decide +kernel) (by decide +kernel)
theorem tm_im_X9_fault : Cond.instanceMethod yX9_fault ∈ TB := TB_of 371 (by decide +kernel) (by decide +kernel)
theorem tm_sel_X9_fault : Cond.selects RX9 yX9_fault yX9_fault ∈ TB := TB_of 372 (by decide +kernel) (by decide +kernel)
theorem tm_ml_X9_129 : Cond.methodLink RX9 129 yX4_read ∈ TB := TB_of 374 (by decide +kernel) (by decide +kernel)
theorem tm_im_X4_read : Cond.instanceMethod yX4_read ∈ TB := TB_of 375 (by decide +kernel) (by decide +kernel)
theorem tm_sel_X4_read : Cond.selects RX4 yX4_read yX4_read ∈ TB := TB_of 376 (by decide +kernel) (by decide +kernel)
theorem tm_ml_X4_34 : Cond.methodLink RX4 34 yX4_afterSign ∈ TB := TB_of 378 (by decide +kernel) (by decide +kernel)
theorem tm_im_X4_afterSign : Cond.instanceMethod yX4_afterSign ∈ TB := TB_of 380 (by decide +kernel) (by decide +kernel)
theorem tm_ml_X4_38 : Cond.methodLink RX4 38 yX4_begin ∈ TB := TB_of 382 (by decide +kernel) (by decide +kernel)
theorem tm_im_X4_begin : Cond.instanceMethod yX4_begin ∈ TB := TB_of 384 (by decide +kernel) (by decide +kernel)
theorem tm_ml_X4_55 : Cond.methodLink RX4 55 yX4_end ∈ TB := TB_of 387 (by decide +kernel) (by decide +kernel)
theorem tm_im_X4_end : Cond.instanceMethod yX4_end ∈ TB := TB_of 389 (by decide +kernel) (by decide +kernel)
theorem tm_ml_X4_42 : Cond.methodLink RX4 42 yX4_readVerb ∈ TB := TB_of 391 (by decide +kernel) (by decide +kernel)
theorem tm_im_X4_readVerb : Cond.instanceMethod yX4_readVerb ∈ TB := TB_of 393 (by decide +kernel) (by decide +kernel)
theorem tm_ml_X4_45 : Cond.methodLink RX4 45 yX4_readPlace ∈ TB := TB_of 395 (by decide +kernel) (by decide +kernel)
theorem tm_im_X4_readPlace : Cond.instanceMethod yX4_readPlace ∈ TB := TB_of 397 (by decide +kernel) (by decide +kernel)
theorem tm_ml_X4_48 : Cond.methodLink RX4 48 yX4_readNumber ∈ TB := TB_of 399 (by decide +kernel) (by decide +kernel)
theorem tm_im_X4_readNumber : Cond.instanceMethod yX4_readNumber ∈ TB := TB_of 401 (by decide +kernel) (by decide +kernel)
theorem tm_ml_L_49 : Cond.methodLink RL 49 yX9_judge ∈ TB := TB_of 403 (by decide +kernel) (by decide +kernel)
theorem tm_im_X9_judge : Cond.instanceMethod yX9_judge ∈ TB := TB_of 404 (by decide +kernel) (by decide +kernel)
theorem tm_sel_X9_judge : Cond.selects RX9 yX9_judge yX9_judge ∈ TB := TB_of 405 (by decide +kernel) (by decide +kernel)
theorem tm_ml_X9_132 : Cond.methodLink RX9 132 yX8_tryOut ∈ TB := TB_of 407 (by decide +kernel) (by decide +kernel)
theorem tm_im_X8_tryOut : Cond.instanceMethod yX8_tryOut ∈ TB := TB_of 408 (by decide +kernel) (by decide +kernel)
theorem tm_sel_X8_tryOut : Cond.selects RX8 yX8_tryOut yX8_tryOut ∈ TB := TB_of 409 (by decide +kernel) (by decide +kernel)
theorem tm_ml_X8_31 : Cond.methodLink RX8 31 yX4_read ∈ TB := TB_of 411 (by decide +kernel) (by decide +kernel)
theorem tm_ml_X8_37 : Cond.methodLink RX8 37 yX5_become ∈ TB := TB_of 412 (by decide +kernel) (by decide +kernel)
theorem tm_im_X5_become : Cond.instanceMethod yX5_become ∈ TB := TB_of 413 (by decide +kernel) (by decide +kernel)
theorem tm_sel_X5_become : Cond.selects RX5 yX5_become yX5_become ∈ TB := TB_of 414 (by decide +kernel) (by decide +kernel)
theorem tm_ml_X5_58 : Cond.methodLink RX5 58 arraycopyName ∈ TB := TB_of 416 (by decide +kernel) (by decide +kernel)
theorem tm_st_acopy : Cond.static arraycopyName ∈ TB := TB_of 417 (by decide +kernel) (by decide +kernel)
theorem tm_nat_acopy : Cond.native arraycopyName ∈ TB := TB_of 418 (by decide +kernel) (by decide +kernel)
theorem tm_ml_X8_45 : Cond.methodLink RX8 45 yX8_tryAct ∈ TB := TB_of 419 (by decide +kernel) (by decide +kernel)
theorem tm_im_X8_tryAct : Cond.instanceMethod yX8_tryAct ∈ TB := TB_of 421 (by decide +kernel) (by decide +kernel)
theorem tm_ml_X8_62 : Cond.methodLink RX8 62 yX5_hindrance ∈ TB := TB_of 423 (by decide +kernel) (by decide +kernel)
theorem tm_im_X5_hindrance : Cond.instanceMethod yX5_hindrance ∈ TB := TB_of 424 (by decide +kernel) (by decide +kernel)
theorem tm_sel_X5_hindrance : Cond.selects RX5 yX5_hindrance yX5_hindrance ∈ TB := TB_of 425 (by decide +kernel) (by decide +kernel)
theorem tm_k_X5_81 : Cond.constant RX5 81 (99999) ∈ TB := TB_of 427 (by decide +kernel) (by decide +kernel)
theorem tm_ml_X5_82 : Cond.methodLink RX5 82 yX5_firstOf ∈ TB := TB_of 428 (by decide +kernel) (by decide +kernel)
theorem tm_st_X5_firstOf : Cond.static yX5_firstOf ∈ TB := TB_of 429 (by decide +kernel) (by decide +kernel)
theorem tm_ml_X5_68 : Cond.methodLink RX5 68 yX5_measure ∈ TB := TB_of 431 (by decide +kernel) (by decide +kernel)
theorem tm_im_X5_measure : Cond.instanceMethod yX5_measure ∈ TB := TB_of 432 (by decide +kernel) (by decide +kernel)
theorem tm_sel_X5_measure : Cond.selects RX5 yX5_measure yX5_measure ∈ TB := TB_of 433 (by decide +kernel) (by decide +kernel)
theorem tm_ml_X5_64 : Cond.methodLink RX5 64 yX5_hasMet ∈ TB := TB_of 435 (by decide +kernel) (by decide +kernel)
theorem tm_im_X5_hasMet : Cond.instanceMethod yX5_hasMet ∈ TB := TB_of 436 (by decide +kernel) (by decide +kernel)
theorem tm_sel_X5_hasMet : Cond.selects RX5 yX5_hasMet yX5_hasMet ∈ TB := TB_of 437 (by decide +kernel) (by decide +kernel)
theorem tm_ml_X8_66 : Cond.methodLink RX8 66 yX5_act ∈ TB := TB_of 439 (by decide +kernel) (by decide +kernel)
theorem tm_im_X5_act : Cond.instanceMethod yX5_act ∈ TB := TB_of 440 (by decide +kernel) (by decide +kernel)
theorem tm_sel_X5_act : Cond.selects RX5 yX5_act yX5_act ∈ TB := TB_of 441 (by decide +kernel) (by decide +kernel)
theorem tm_st_X9_limited : Cond.static yX9_limited ∈ TB := TB_of 444 (by decide +kernel) (by decide +kernel)
theorem tm_ml_X9_208 : Cond.methodLink RX9 208 Lib.Math.min.name ∈ TB := TB_of 446 (by decide +kernel) (by decide +kernel)
theorem tm_st_J9_min_7cf53 : Cond.static Lib.Math.min.name ∈ TB := TB_of 447 (by decide +kernel) (by decide +kernel)
theorem tm_ml_X9_294 : Cond.methodLink RX9 294 Lib.Math.max.name ∈ TB := TB_of 449 (by decide +kernel) (by decide +kernel)
theorem tm_st_J9_max_7cf53 : Cond.static Lib.Math.max.name ∈ TB := TB_of 450 (by decide +kernel) (by decide +kernel)
theorem tm_ml_X5_86 : Cond.methodLink RX5 86 yX5_nextInch ∈ TB := TB_of 452 (by decide +kernel) (by decide +kernel)
theorem tm_im_X5_nextInch : Cond.instanceMethod yX5_nextInch ∈ TB := TB_of 453 (by decide +kernel) (by decide +kernel)
theorem tm_sel_X5_nextInch : Cond.selects RX5 yX5_nextInch yX5_nextInch ∈ TB := TB_of 454 (by decide +kernel) (by decide +kernel)
theorem tm_ml_X5_72 : Cond.methodLink RX5 72 yJ9_floorMod_7cf53 ∈ TB := TB_of 456 (by decide +kernel) (by decide +kernel)
theorem tm_st_J9_floorMod_7cf53 : Cond.static yJ9_floorMod_7cf53 ∈ TB := TB_of 457 (by decide +kernel) (by decide +kernel)
theorem tm_ml_X8_70 : Cond.methodLink RX8 70 yX5_hasMet ∈ TB := TB_of 459 (by decide +kernel) (by decide +kernel)
theorem tm_ml_L_53 : Cond.methodLink RL 53 yX9_done ∈ TB := TB_of 460 (by decide +kernel) (by decide +kernel)
theorem tm_im_X9_done : Cond.instanceMethod yX9_done ∈ TB := TB_of 461 (by decide +kernel) (by decide +kernel)
theorem tm_sel_X9_done : Cond.selects RX9 yX9_done yX9_done ∈ TB := TB_of 462 (by decide +kernel) (by decide +kernel)
theorem tm_ml_X9_142 : Cond.methodLink RX9 142 yX9_allCanBe ∈ TB := TB_of 464 (by decide +kernel) (by decide +kernel)
theorem tm_im_X9_allCanBe : Cond.instanceMethod yX9_allCanBe ∈ TB := TB_of 466 (by decide +kernel) (by decide +kernel)
theorem tm_ml_X9_149 : Cond.methodLink RX9 149 yX5_become ∈ TB := TB_of 468 (by decide +kernel) (by decide +kernel)
theorem tm_ml_L_57 : Cond.methodLink RL 57 yX9_behind ∈ TB := TB_of 469 (by decide +kernel) (by decide +kernel)
theorem tm_im_X9_behind : Cond.instanceMethod yX9_behind ∈ TB := TB_of 470 (by decide +kernel) (by decide +kernel)
theorem tm_sel_X9_behind : Cond.selects RX9 yX9_behind yX9_behind ∈ TB := TB_of 471 (by decide +kernel) (by decide +kernel)
theorem tm_ml_X9_156 : Cond.methodLink RX9 156 yX5_ofOne ∈ TB := TB_of 473 (by decide +kernel) (by decide +kernel)
theorem tm_im_X5_ofOne : Cond.instanceMethod yX5_ofOne ∈ TB := TB_of 474 (by decide +kernel) (by decide +kernel)
theorem tm_sel_X5_ofOne : Cond.selects RX5 yX5_ofOne yX5_ofOne ∈ TB := TB_of 475 (by decide +kernel) (by decide +kernel)
theorem tm_ml_L_61 : Cond.methodLink RL 61 yX9_lies ∈ TB := TB_of 477 (by decide +kernel) (by decide +kernel)
theorem tm_im_X9_lies : Cond.instanceMethod yX9_lies ∈ TB := TB_of 478 (by decide +kernel) (by decide +kernel)
theorem tm_sel_X9_lies : Cond.selects RX9 yX9_lies yX9_lies ∈ TB := TB_of 479 (by decide +kernel) (by decide +kernel)
theorem tm_ml_L_65 : Cond.methodLink RL 65 yX9_built ∈ TB := TB_of 481 (by decide +kernel) (by decide +kernel)
theorem tm_im_X9_built : Cond.instanceMethod yX9_built ∈ TB := TB_of 482 (by decide +kernel) (by decide +kernel)
theorem tm_sel_X9_built : Cond.selects RX9 yX9_built yX9_built ∈ TB := TB_of 483 (by decide +kernel) (by decide +kernel)
theorem tm_ml_X9_160 : Cond.methodLink RX9 160 yX5_overlap ∈ TB := TB_of 485 (by decide +kernel) (by decide +kernel)
theorem tm_im_X5_overlap : Cond.instanceMethod yX5_overlap ∈ TB := TB_of 486 (by decide +kernel) (by decide +kernel)
theorem tm_sel_X5_overlap : Cond.selects RX5 yX5_overlap yX5_overlap ∈ TB := TB_of 487 (by decide +kernel) (by decide +kernel)
theorem tm_ml_L_69 : Cond.methodLink RL 69 yX9_then ∈ TB := TB_of 489 (by decide +kernel) (by decide +kernel)
theorem tm_im_X9_then : Cond.instanceMethod yX9_then ∈ TB := TB_of 490 (by decide +kernel) (by decide +kernel)
theorem tm_sel_X9_then : Cond.selects RX9 yX9_then yX9_then ∈ TB := TB_of 491 (by decide +kernel) (by decide +kernel)
theorem tm_ml_L_73 : Cond.methodLink RL 73 yX9_inches ∈ TB := TB_of 493 (by decide +kernel) (by decide +kernel)
theorem tm_im_X9_inches : Cond.instanceMethod yX9_inches ∈ TB := TB_of 494 (by decide +kernel) (by decide +kernel)
theorem tm_sel_X9_inches : Cond.selects RX9 yX9_inches yX9_inches ∈ TB := TB_of 495 (by decide +kernel) (by decide +kernel)
theorem tm_kl_X9_173 : Cond.constantLong RX9 173 (-1000000000000000001) ∈ TB := TB_of 497 (by decide +kernel) (by decide +kernel)
theorem tm_kl_X9_175 : Cond.constantLong RX9 175 (-1000000000000000002) ∈ TB := TB_of 498 (by decide +kernel) (by decide +kernel)
theorem tm_ml_X9_177 : Cond.methodLink RX9 177 yX5_measure ∈ TB := TB_of 499 (by decide +kernel) (by decide +kernel)
theorem tm_ml_X9_180 : Cond.methodLink RX9 180 yX9_lowest ∈ TB := TB_of 500 (by decide +kernel) (by decide +kernel)
theorem tm_st_X9_lowest : Cond.static yX9_lowest ∈ TB := TB_of 501 (by decide +kernel) (by decide +kernel)
theorem tm_ml_X9_297 : Cond.methodLink RX9 297 yX9_sharedDivisor ∈ TB := TB_of 503 (by decide +kernel) (by decide +kernel)
theorem tm_st_X9_sharedDivisor : Cond.static yX9_sharedDivisor ∈ TB := TB_of 504 (by decide +kernel) (by decide +kernel)
theorem tm_ml_X9_301 : Cond.methodLink RX9 301 Lib.MathLoose.max_long.x ∈ TB := TB_of 506 (by decide +kernel) (by decide +kernel)
theorem tm_st_J9_max_f86c9 : Cond.static Lib.MathLoose.max_long.x ∈ TB := TB_of 507 (by decide +kernel) (by decide +kernel)
theorem tm_ml_L_78 : Cond.methodLink RL 78 yX9_will ∈ TB := TB_of 509 (by decide +kernel) (by decide +kernel)
theorem tm_im_X9_will : Cond.instanceMethod yX9_will ∈ TB := TB_of 510 (by decide +kernel) (by decide +kernel)
theorem tm_sel_X9_will : Cond.selects RX9 yX9_will yX9_will ∈ TB := TB_of 511 (by decide +kernel) (by decide +kernel)
theorem tm_ml_X9_184 : Cond.methodLink RX9 184 yX0_look ∈ TB := TB_of 513 (by decide +kernel) (by decide +kernel)
theorem tm_im_X0_look : Cond.instanceMethod yX0_look ∈ TB := TB_of 514 (by decide +kernel) (by decide +kernel)
theorem tm_sel_X0_look : Cond.selects RX0 yX0_look yX0_look ∈ TB := TB_of 515 (by decide +kernel) (by decide +kernel)
theorem tm_ml_X0_27 : Cond.methodLink RX0 27 yX5_nextInch ∈ TB := TB_of 517 (by decide +kernel) (by decide +kernel)
theorem tm_ml_L_82 : Cond.methodLink RL 82 yX9_sure ∈ TB := TB_of 518 (by decide +kernel) (by decide +kernel)
theorem tm_im_X9_sure : Cond.instanceMethod yX9_sure ∈ TB := TB_of 519 (by decide +kernel) (by decide +kernel)
theorem tm_sel_X9_sure : Cond.selects RX9 yX9_sure yX9_sure ∈ TB := TB_of 520 (by decide +kernel) (by decide +kernel)
theorem tm_ml_X9_191 : Cond.methodLink RX9 191 yX0_trade ∈ TB := TB_of 522 (by decide +kernel) (by decide +kernel)
theorem tm_im_X0_trade : Cond.instanceMethod yX0_trade ∈ TB := TB_of 523 (by decide +kernel) (by decide +kernel)
theorem tm_sel_X0_trade : Cond.selects RX0 yX0_trade yX0_trade ∈ TB := TB_of 524 (by decide +kernel) (by decide +kernel)
theorem tm_ml_L_87 : Cond.methodLink RL 87 yX9_when ∈ TB := TB_of 526 (by decide +kernel) (by decide +kernel)
theorem tm_im_X9_when : Cond.instanceMethod yX9_when ∈ TB := TB_of 527 (by decide +kernel) (by decide +kernel)
theorem tm_sel_X9_when : Cond.selects RX9 yX9_when yX9_when ∈ TB := TB_of 528 (by decide +kernel) (by decide +kernel)
theorem tm_ml_L_91 : Cond.methodLink RL 91 yX9_meet ∈ TB := TB_of 530 (by decide +kernel) (by decide +kernel)
theorem tm_im_X9_meet : Cond.instanceMethod yX9_meet ∈ TB := TB_of 531 (by decide +kernel) (by decide +kernel)
theorem tm_sel_X9_meet : Cond.selects RX9 yX9_meet yX9_meet ∈ TB := TB_of 532 (by decide +kernel) (by decide +kernel)
theorem tm_ml_L_96 : Cond.methodLink RL 96 yX9_waste ∈ TB := TB_of 534 (by decide +kernel) (by decide +kernel)
theorem tm_im_X9_waste : Cond.instanceMethod yX9_waste ∈ TB := TB_of 535 (by decide +kernel) (by decide +kernel)
theorem tm_sel_X9_waste : Cond.selects RX9 yX9_waste yX9_waste ∈ TB := TB_of 536 (by decide +kernel) (by decide +kernel)
theorem tm_ml_X9_201 : Cond.methodLink RX9 201 yX9_fewestForLeastRest ∈ TB := TB_of 538 (by decide +kernel) (by decide +kernel)
theorem tm_st_X9_fewestForLeastRest : Cond.static yX9_fewestForLeastRest ∈ TB := TB_of 539 (by decide +kernel) (by decide +kernel)
theorem tm_ml_X9_205 : Cond.methodLink RX9 205 yX9_restBy ∈ TB := TB_of 541 (by decide +kernel) (by decide +kernel)
theorem tm_st_X9_restBy : Cond.static yX9_restBy ∈ TB := TB_of 542 (by decide +kernel) (by decide +kernel)
theorem tm_ml_L_100 : Cond.methodLink RL 100 yX9_days ∈ TB := TB_of 544 (by decide +kernel) (by decide +kernel)
theorem tm_im_X9_days : Cond.instanceMethod yX9_days ∈ TB := TB_of 545 (by decide +kernel) (by decide +kernel)
theorem tm_sel_X9_days : Cond.selects RX9 yX9_days yX9_days ∈ TB := TB_of 546 (by decide +kernel) (by decide +kernel)
theorem tm_ml_X9_213 : Cond.methodLink RX9 213 yX0_leastSpread ∈ TB := TB_of 548 (by decide +kernel) (by decide +kernel)
theorem tm_im_X0_leastSpread : Cond.instanceMethod yX0_leastSpread ∈ TB := TB_of 549 (by decide +kernel) (by decide +kernel)
theorem tm_sel_X0_leastSpread : Cond.selects RX0 yX0_leastSpread yX0_leastSpread ∈ TB := TB_of 550 (by decide +kernel) (by decide +kernel)
theorem tm_ml_X0_37 : Cond.methodLink RX0 37 yX0_sort ∈ TB := TB_of 552 (by decide +kernel) (by decide +kernel)
theorem tm_im_X0_sort : Cond.instanceMethod yX0_sort ∈ TB := TB_of 554 (by decide +kernel) (by decide +kernel)
theorem tm_ml_X0_41 : Cond.methodLink RX0 41 Lib.Math.min.name ∈ TB := TB_of 556 (by decide +kernel) (by decide +kernel)
theorem tm_ml_X9_216 : Cond.methodLink RX9 216 yX0_firstDay ∈ TB := TB_of 557 (by decide +kernel) (by decide +kernel)
theorem tm_im_X0_firstDay : Cond.instanceMethod yX0_firstDay ∈ TB := TB_of 558 (by decide +kernel) (by decide +kernel)
theorem tm_sel_X0_firstDay : Cond.selects RX0 yX0_firstDay yX0_firstDay ∈ TB := TB_of 559 (by decide +kernel) (by decide +kernel)
theorem tm_ml_X0_46 : Cond.methodLink RX0 46 yX0_begins ∈ TB := TB_of 561 (by decide +kernel) (by decide +kernel)
theorem tm_im_X0_begins : Cond.instanceMethod yX0_begins ∈ TB := TB_of 563 (by decide +kernel) (by decide +kernel)
theorem tm_ml_X0_54 : Cond.methodLink RX0 54 yX0_daysWithin ∈ TB := TB_of 566 (by decide +kernel) (by decide +kernel)
theorem tm_im_X0_daysWithin : Cond.instanceMethod yX0_daysWithin ∈ TB := TB_of 568 (by decide +kernel) (by decide +kernel)
theorem tm_ml_L_105 : Cond.methodLink RL 105 yX9_seen ∈ TB := TB_of 570 (by decide +kernel) (by decide +kernel)
theorem tm_im_X9_seen : Cond.instanceMethod yX9_seen ∈ TB := TB_of 571 (by decide +kernel) (by decide +kernel)
theorem tm_sel_X9_seen : Cond.selects RX9 yX9_seen yX9_seen ∈ TB := TB_of 572 (by decide +kernel) (by decide +kernel)
theorem tm_ml_L_109 : Cond.methodLink RL 109 yX9_forget ∈ TB := TB_of 574 (by decide +kernel) (by decide +kernel)
theorem tm_im_X9_forget : Cond.instanceMethod yX9_forget ∈ TB := TB_of 575 (by decide +kernel) (by decide +kernel)
theorem tm_sel_X9_forget : Cond.selects RX9 yX9_forget yX9_forget ∈ TB := TB_of 576 (by decide +kernel) (by decide +kernel)
theorem tm_ml_L_113 : Cond.methodLink RL 113 yX9_fits ∈ TB := TB_of 578 (by decide +kernel) (by decide +kernel)
theorem tm_im_X9_fits : Cond.instanceMethod yX9_fits ∈ TB := TB_of 579 (by decide +kernel) (by decide +kernel)
theorem tm_sel_X9_fits : Cond.selects RX9 yX9_fits yX9_fits ∈ TB := TB_of 580 (by decide +kernel) (by decide +kernel)
theorem tm_ml_X9_228 : Cond.methodLink RX9 228 yX3_fit ∈ TB := TB_of 582 (by decide +kernel) (by decide +kernel)
theorem tm_im_X3_fit : Cond.instanceMethod yX3_fit ∈ TB := TB_of 583 (by decide +kernel) (by decide +kernel)
theorem tm_sel_X3_fit : Cond.selects RX3 yX3_fit yX3_fit ∈ TB := TB_of 584 (by decide +kernel) (by decide +kernel)
theorem tm_ml_X3_33 : Cond.methodLink RX3 33 yX3_narrow ∈ TB := TB_of 586 (by decide +kernel) (by decide +kernel)
theorem tm_im_X3_narrow : Cond.instanceMethod yX3_narrow ∈ TB := TB_of 588 (by decide +kernel) (by decide +kernel)
theorem tm_ml_X3_37 : Cond.methodLink RX3 37 Lib.Math.max.name ∈ TB := TB_of 590 (by decide +kernel) (by decide +kernel)
theorem tm_ml_X3_43 : Cond.methodLink RX3 43 Lib.Math.min.name ∈ TB := TB_of 591 (by decide +kernel) (by decide +kernel)
theorem tm_ml_X9_231 : Cond.methodLink RX9 231 yX3_howMany ∈ TB := TB_of 592 (by decide +kernel) (by decide +kernel)
theorem tm_im_X3_howMany : Cond.instanceMethod yX3_howMany ∈ TB := TB_of 593 (by decide +kernel) (by decide +kernel)
theorem tm_sel_X3_howMany : Cond.selects RX3 yX3_howMany yX3_howMany ∈ TB := TB_of 594 (by decide +kernel) (by decide +kernel)
theorem tm_ml_X9_234 : Cond.methodLink RX9 234 yX3_lawAt ∈ TB := TB_of 596 (by decide +kernel) (by decide +kernel)
theorem tm_im_X3_lawAt : Cond.instanceMethod yX3_lawAt ∈ TB := TB_of 597 (by decide +kernel) (by decide +kernel)
theorem tm_sel_X3_lawAt : Cond.selects RX3 yX3_lawAt yX3_lawAt ∈ TB := TB_of 598 (by decide +kernel) (by decide +kernel)
theorem tm_ml_L_117 : Cond.methodLink RL 117 yX9_ask ∈ TB := TB_of 601 (by decide +kernel) (by decide +kernel)
theorem tm_im_X9_ask : Cond.instanceMethod yX9_ask ∈ TB := TB_of 602 (by decide +kernel) (by decide +kernel)
theorem tm_sel_X9_ask : Cond.selects RX9 yX9_ask yX9_ask ∈ TB := TB_of 603 (by decide +kernel) (by decide +kernel)
theorem tm_ml_X9_237 : Cond.methodLink RX9 237 yX3_bestDay ∈ TB := TB_of 605 (by decide +kernel) (by decide +kernel)
theorem tm_im_X3_bestDay : Cond.instanceMethod yX3_bestDay ∈ TB := TB_of 606 (by decide +kernel) (by decide +kernel)
theorem tm_sel_X3_bestDay : Cond.selects RX3 yX3_bestDay yX3_bestDay ∈ TB := TB_of 607 (by decide +kernel) (by decide +kernel)
theorem tm_ml_X3_50 : Cond.methodLink RX3 50 yX3_mostLeft ∈ TB := TB_of 609 (by decide +kernel) (by decide +kernel)
theorem tm_im_X3_mostLeft : Cond.instanceMethod yX3_mostLeft ∈ TB := TB_of 610 (by decide +kernel) (by decide +kernel)
theorem tm_sel_X3_mostLeft : Cond.selects RX3 yX3_mostLeft yX3_mostLeft ∈ TB := TB_of 611 (by decide +kernel) (by decide +kernel)
theorem tm_ml_X3_54 : Cond.methodLink RX3 54 yJ7_fill_53178 ∈ TB := TB_of 613 (by decide +kernel) (by decide +kernel)
theorem tm_ml_X3_60 : Cond.methodLink RX3 60 yX3_raise ∈ TB := TB_of 614 (by decide +kernel) (by decide +kernel)
theorem tm_im_X3_raise : Cond.instanceMethod yX3_raise ∈ TB := TB_of 616 (by decide +kernel) (by decide +kernel)
theorem tm_ml_X3_64 : Cond.methodLink RX3 64 yX3_highestRise ∈ TB := TB_of 618 (by decide +kernel) (by decide +kernel)
theorem tm_im_X3_highestRise : Cond.instanceMethod yX3_highestRise ∈ TB := TB_of 620 (by decide +kernel) (by decide +kernel)
theorem tm_ml_X9_240 : Cond.methodLink RX9 240 yX3_mostLeft ∈ TB := TB_of 622 (by decide +kernel) (by decide +kernel)
theorem tm_ml_L_121 : Cond.methodLink RL 121 yX9_settle ∈ TB := TB_of 623 (by decide +kernel) (by decide +kernel)
theorem tm_im_X9_settle : Cond.instanceMethod yX9_settle ∈ TB := TB_of 624 (by decide +kernel) (by decide +kernel)
theorem tm_sel_X9_settle : Cond.selects RX9 yX9_settle yX9_settle ∈ TB := TB_of 625 (by decide +kernel) (by decide +kernel)
theorem tm_ml_X9_243 : Cond.methodLink RX9 243 yX6_stand ∈ TB := TB_of 627 (by decide +kernel) (by decide +kernel)
theorem tm_im_X6_stand : Cond.instanceMethod yX6_stand ∈ TB := TB_of 628 (by decide +kernel) (by decide +kernel)
theorem tm_sel_X6_stand : Cond.selects RX6 yX6_stand yX6_stand ∈ TB := TB_of 629 (by decide +kernel) (by decide +kernel)
theorem tm_ml_X6_18 : Cond.methodLink RX6 18 yX5_measure ∈ TB := TB_of 631 (by decide +kernel) (by decide +kernel)
theorem tm_ml_X9_246 : Cond.methodLink RX9 246 yX6_takeMeans ∈ TB := TB_of 632 (by decide +kernel) (by decide +kernel)
theorem tm_im_X6_takeMeans : Cond.instanceMethod yX6_takeMeans ∈ TB := TB_of 633 (by decide +kernel) (by decide +kernel)
theorem tm_sel_X6_takeMeans : Cond.selects RX6 yX6_takeMeans yX6_takeMeans ∈ TB := TB_of 634 (by decide +kernel) (by decide +kernel)
theorem tm_ml_X6_24 : Cond.methodLink RX6 24 arraycopyName ∈ TB := TB_of 636 (by decide +kernel) (by decide +kernel)
theorem tm_ml_L_125 : Cond.methodLink RL 125 yX9_settled ∈ TB := TB_of 637 (by decide +kernel) (by decide +kernel)
theorem tm_im_X9_settled : Cond.instanceMethod yX9_settled ∈ TB := TB_of 638 (by decide +kernel) (by decide +kernel)
theorem tm_sel_X9_settled : Cond.selects RX9 yX9_settled yX9_settled ∈ TB := TB_of 639 (by decide +kernel) (by decide +kernel)
theorem tm_ml_X9_252 : Cond.methodLink RX9 252 yX6_timesTillStill ∈ TB := TB_of 641 (by decide +kernel) (by decide +kernel)
theorem tm_im_X6_timesTillStill : Cond.instanceMethod yX6_timesTillStill ∈ TB := TB_of 642 (by decide +kernel) (by decide +kernel)
theorem tm_sel_X6_timesTillStill : Cond.selects RX6 yX6_timesTillStill yX6_timesTillStill ∈ TB := TB_of 643 (by decide +kernel) (by decide +kernel)
theorem tm_k_X6_30 : Cond.constant RX6 30 (1000000) ∈ TB := TB_of 645 (by decide +kernel) (by decide +kernel)
theorem tm_ml_X6_31 : Cond.methodLink RX6 31 yX6_takeMeans ∈ TB := TB_of 646 (by decide +kernel) (by decide +kernel)
theorem tm_ml_L_129 : Cond.methodLink RL 129 yX9_halves ∈ TB := TB_of 647 (by decide +kernel) (by decide +kernel)
theorem tm_im_X9_halves : Cond.instanceMethod yX9_halves ∈ TB := TB_of 648 (by decide +kernel) (by decide +kernel)
theorem tm_sel_X9_halves : Cond.selects RX9 yX9_halves yX9_halves ∈ TB := TB_of 649 (by decide +kernel) (by decide +kernel)
theorem tm_ml_X9_255 : Cond.methodLink RX9 255 yX7_firstMove ∈ TB := TB_of 651 (by decide +kernel) (by decide +kernel)
theorem tm_im_X7_firstMove : Cond.instanceMethod yX7_firstMove ∈ TB := TB_of 652 (by decide +kernel) (by decide +kernel)
theorem tm_sel_X7_firstMove : Cond.selects RX7 yX7_firstMove yX7_firstMove ∈ TB := TB_of 653 (by decide +kernel) (by decide +kernel)
theorem tm_ml_X7_15 : Cond.methodLink RX7 15 yX7_winningMove ∈ TB := TB_of 655 (by decide +kernel) (by decide +kernel)
theorem tm_im_X7_winningMove : Cond.instanceMethod yX7_winningMove ∈ TB := TB_of 657 (by decide +kernel) (by decide +kernel)
theorem tm_ml_L_133 : Cond.methodLink RL 133 yX9_shake ∈ TB := TB_of 659 (by decide +kernel) (by decide +kernel)
theorem tm_im_X9_shake : Cond.instanceMethod yX9_shake ∈ TB := TB_of 660 (by decide +kernel) (by decide +kernel)
theorem tm_sel_X9_shake : Cond.selects RX9 yX9_shake yX9_shake ∈ TB := TB_of 661 (by decide +kernel) (by decide +kernel)
theorem tm_ml_X9_258 : Cond.methodLink RX9 258 yX1_spread ∈ TB := TB_of 663 (by decide +kernel) (by decide +kernel)
theorem tm_im_X1_spread : Cond.instanceMethod yX1_spread ∈ TB := TB_of 664 (by decide +kernel) (by decide +kernel)
theorem tm_sel_X1_spread : Cond.selects RX1 yX1_spread yX1_spread ∈ TB := TB_of 665 (by decide +kernel) (by decide +kernel)
theorem tm_ml_X1_18 : Cond.methodLink RX1 18 yJ7_fill_d0a16 ∈ TB := TB_of 667 (by decide +kernel) (by decide +kernel)
theorem tm_st_J7_fill_d0a16 : Cond.static yJ7_fill_d0a16 ∈ TB := TB_of 668 (by decide +kernel) (by decide +kernel)
theorem tm_ml_X1_24 : Cond.methodLink RX1 24 yX1_waysAt ∈ TB := TB_of 670 (by decide +kernel) (by decide +kernel)
theorem tm_im_X1_waysAt : Cond.instanceMethod yX1_waysAt ∈ TB := TB_of 672 (by decide +kernel) (by decide +kernel)
theorem tm_ml_X1_28 : Cond.methodLink RX1 28 arraycopyName ∈ TB := TB_of 675 (by decide +kernel) (by decide +kernel)
theorem tm_ml_X9_262 : Cond.methodLink RX9 262 yX1_waysOff ∈ TB := TB_of 676 (by decide +kernel) (by decide +kernel)
theorem tm_im_X1_waysOff : Cond.instanceMethod yX1_waysOff ∈ TB := TB_of 677 (by decide +kernel) (by decide +kernel)
theorem tm_sel_X1_waysOff : Cond.selects RX1 yX1_waysOff yX1_waysOff ∈ TB := TB_of 678 (by decide +kernel) (by decide +kernel)
theorem tm_ml_X1_38 : Cond.methodLink RX1 38 Lib.Math.abs.name ∈ TB := TB_of 680 (by decide +kernel) (by decide +kernel)
theorem tm_st_J9_abs_0f7a4 : Cond.static Lib.Math.abs.name ∈ TB := TB_of 681 (by decide +kernel) (by decide +kernel)
theorem tm_ml_X9_266 : Cond.methodLink RX9 266 yX1_allWays ∈ TB := TB_of 683 (by decide +kernel) (by decide +kernel)
theorem tm_im_X1_allWays : Cond.instanceMethod yX1_allWays ∈ TB := TB_of 684 (by decide +kernel) (by decide +kernel)
theorem tm_sel_X1_allWays : Cond.selects RX1 yX1_allWays yX1_allWays ∈ TB := TB_of 685 (by decide +kernel) (by decide +kernel)
theorem tm_kl_X1_44 : Cond.constantLong RX1 44 (10) ∈ TB := TB_of 687 (by decide +kernel) (by decide +kernel)
theorem tm_ml_L_138 : Cond.methodLink RL 138 yX9_year ∈ TB := TB_of 688 (by decide +kernel) (by decide +kernel)
theorem tm_im_X9_year : Cond.instanceMethod yX9_year ∈ TB := TB_of 689 (by decide +kernel) (by decide +kernel)
theorem tm_sel_X9_year : Cond.selects RX9 yX9_year yX9_year ∈ TB := TB_of 690 (by decide +kernel) (by decide +kernel)
theorem tm_ml_X9_269 : Cond.methodLink RX9 269 yX8_drawYear ∈ TB := TB_of 692 (by decide +kernel) (by decide +kernel)
theorem tm_im_X8_drawYear : Cond.instanceMethod yX8_drawYear ∈ TB := TB_of 693 (by decide +kernel) (by decide +kernel)
theorem tm_sel_X8_drawYear : Cond.selects RX8 yX8_drawYear yX8_drawYear ∈ TB := TB_of 694 (by decide +kernel) (by decide +kernel)
theorem tm_k_X8_74 : Cond.constant RX8 74 (65537) ∈ TB := TB_of 696 (by decide +kernel) (by decide +kernel)
theorem tm_ml_X9_273 : Cond.methodLink RX9 273 yX5_coins ∈ TB := TB_of 699 (by decide +kernel) (by decide +kernel)
theorem tm_im_X5_coins : Cond.instanceMethod yX5_coins ∈ TB := TB_of 700 (by decide +kernel) (by decide +kernel)
theorem tm_sel_X5_coins : Cond.selects RX5 yX5_coins yX5_coins ∈ TB := TB_of 701 (by decide +kernel) (by decide +kernel)
theorem tm_ml_X9_276 : Cond.methodLink RX9 276 yX5_metBridges ∈ TB := TB_of 703 (by decide +kernel) (by decide +kernel)
theorem tm_im_X5_metBridges : Cond.instanceMethod yX5_metBridges ∈ TB := TB_of 704 (by decide +kernel) (by decide +kernel)
theorem tm_sel_X5_metBridges : Cond.selects RX5 yX5_metBridges yX5_metBridges ∈ TB := TB_of 705 (by decide +kernel) (by decide +kernel)
theorem tm_ml_L_142 : Cond.methodLink RL 142 yX9_image ∈ TB := TB_of 707 (by decide +kernel) (by decide +kernel)
theorem tm_im_X9_image : Cond.instanceMethod yX9_image ∈ TB := TB_of 708 (by decide +kernel) (by decide +kernel)
theorem tm_sel_X9_image : Cond.selects RX9 yX9_image yX9_image ∈ TB := TB_of 709 (by decide +kernel) (by decide +kernel)
theorem tm_ml_X9_279 : Cond.methodLink RX9 279 yX9_imageOf ∈ TB := TB_of 711 (by decide +kernel) (by decide +kernel)
theorem tm_im_X9_imageOf : Cond.instanceMethod yX9_imageOf ∈ TB := TB_of 713 (by decide +kernel) (by decide +kernel)
theorem tm_ml_L_146 : Cond.methodLink RL 146 yX9_restore ∈ TB := TB_of 715 (by decide +kernel) (by decide +kernel)
theorem tm_im_X9_restore : Cond.instanceMethod yX9_restore ∈ TB := TB_of 716 (by decide +kernel) (by decide +kernel)
theorem tm_sel_X9_restore : Cond.selects RX9 yX9_restore yX9_restore ∈ TB := TB_of 717 (by decide +kernel) (by decide +kernel)
theorem tm_ml_L_150 : Cond.methodLink RL 150 yX9_told ∈ TB := TB_of 719 (by decide +kernel) (by decide +kernel)
theorem tm_im_X9_told : Cond.instanceMethod yX9_told ∈ TB := TB_of 720 (by decide +kernel) (by decide +kernel)
theorem tm_sel_X9_told : Cond.selects RX9 yX9_told yX9_told ∈ TB := TB_of 721 (by decide +kernel) (by decide +kernel)
theorem tm_ml_X9_288 : Cond.methodLink RX9 288 yX9_toldOfAll ∈ TB := TB_of 723 (by decide +kernel) (by decide +kernel)
theorem tm_im_X9_toldOfAll : Cond.instanceMethod yX9_toldOfAll ∈ TB := TB_of 725 (by decide +kernel) (by decide +kernel)
theorem tm_ml_X9_291 : Cond.methodLink RX9 291 yX5_ofBridge ∈ TB := TB_of 727 (by decide +kernel) (by decide +kernel)
theorem tm_im_X5_ofBridge : Cond.instanceMethod yX5_ofBridge ∈ TB := TB_of 728 (by decide +kernel) (by decide +kernel)
theorem tm_sel_X5_ofBridge : Cond.selects RX5 yX5_ofBridge yX5_ofBridge ∈ TB := TB_of 729 (by decide +kernel) (by decide +kernel)
theorem tm_cl_L_10 : Cond.classLink RL 10 RX10 ∈ TB := TB_of 731 (by decide +kernel) (by decide +kernel)
theorem tm_inst_X10 : Cond.instantiable RX10 22 ∈ TB := TB_of 732 (by decide +kernel) (by decide +kernel)
theorem tm_ml_L_12 : Cond.methodLink RL 12 yX10_init ∈ TB := TB_of 733 (by decide +kernel) (by decide +kernel)
theorem tm_im_X10_init : Cond.instanceMethod yX10_init ∈ TB := TB_of 734 (by decide +kernel) (by decide +kernel)
theorem tm_ml_X10_1 : Cond.methodLink RX10 1 objectInit ∈ TB := TB_of 736 (by decide +kernel) (by decide +kernel)
theorem tm_fl_X10_7 : Cond.fieldLink RX10 7 "LentRulersModel" "book" "[I" ∈ TB := TB_of 737 (by decide +kernel) (by decide +kernel)
theorem tm_fl_X10_13 : Cond.fieldLink RX10 13 "LentRulersModel" "now" "[I" ∈ TB := TB_of 738 (by decide +kernel) (by decide +kernel)
theorem tm_fl_X10_16 : Cond.fieldLink RX10 16 "LentRulersModel" "week" "[I" ∈ TB := TB_of 739 (by decide +kernel) (by decide +kernel)
theorem tm_fl_X10_167 : Cond.fieldLink RX10 167 "LentRulersModel" "sights" "I" ∈ TB := TB_of 740 (by decide +kernel) (by decide +kernel)
theorem tm_fl_X10_19 : Cond.fieldLink RX10 19 "LentRulersModel" "sight" "[I" ∈ TB := TB_of 741 (by decide +kernel) (by decide +kernel)
theorem tm_fl_X10_72 : Cond.fieldLink RX10 72 "LentRulersModel" "signs" "I" ∈ TB := TB_of 742 (by decide +kernel) (by decide +kernel)
theorem tm_fl_X10_22 : Cond.fieldLink RX10 22 "LentRulersModel" "pad" "[I" ∈ TB := TB_of 743 (by decide +kernel) (by decide +kernel)
theorem tm_fl_X10_84 : Cond.fieldLink RX10 84 "LentRulersModel" "metAt" "I" ∈ TB := TB_of 744 (by decide +kernel) (by decide +kernel)
theorem tm_fl_X10_87 : Cond.fieldLink RX10 87 "LentRulersModel" "metWho" "I" ∈ TB := TB_of 745 (by decide +kernel) (by decide +kernel)
theorem tm_fl_X10_134 : Cond.fieldLink RX10 134 "LentRulersModel" "reason" "I" ∈ TB := TB_of 746 (by decide +kernel) (by decide +kernel)
theorem tm_fl_X10_125 : Cond.fieldLink RX10 125 "LentRulersModel" "acts" "I" ∈ TB := TB_of 747 (by decide +kernel) (by decide +kernel)
theorem tm_fl_X10_100 : Cond.fieldLink RX10 100 "LentRulersModel" "at" "I" ∈ TB := TB_of 748 (by decide +kernel) (by decide +kernel)
theorem tm_fl_X10_25 : Cond.fieldLink RX10 25 "LentRulersModel" "will" "[I" ∈ TB := TB_of 749 (by decide +kernel) (by decide +kernel)
theorem tm_fl_X10_28 : Cond.fieldLink RX10 28 "LentRulersModel" "fitting" "[I" ∈ TB := TB_of 750 (by decide +kernel) (by decide +kernel)
theorem tm_fl_X10_31 : Cond.fieldLink RX10 31 "LentRulersModel" "counts" "[I" ∈ TB := TB_of 751 (by decide +kernel) (by decide +kernel)
theorem tm_fl_X10_34 : Cond.fieldLink RX10 34 "LentRulersModel" "ring" "[I" ∈ TB := TB_of 752 (by decide +kernel) (by decide +kernel)
theorem tm_fl_X10_37 : Cond.fieldLink RX10 37 "LentRulersModel" "next" "[I" ∈ TB := TB_of 753 (by decide +kernel) (by decide +kernel)
theorem tm_fl_X10_40 : Cond.fieldLink RX10 40 "LentRulersModel" "wins" "[Z" ∈ TB := TB_of 754 (by decide +kernel) (by decide +kernel)
theorem tm_fl_X10_44 : Cond.fieldLink RX10 44 "LentRulersModel" "ways" "[J" ∈ TB := TB_of 755 (by decide +kernel) (by decide +kernel)
theorem tm_fl_X10_48 : Cond.fieldLink RX10 48 "LentRulersModel" "nextWays" "[J" ∈ TB := TB_of 756 (by decide +kernel) (by decide +kernel)
theorem tm_fl_X10_51 : Cond.fieldLink RX10 51 "LentRulersModel" "image" "[I" ∈ TB := TB_of 757 (by decide +kernel) (by decide +kernel)
theorem tm_fl_X10_54 : Cond.fieldLink RX10 54 "LentRulersModel" "isKept" "[Z" ∈ TB := TB_of 758 (by decide +kernel) (by decide +kernel)
theorem tm_arr_boolean : Cond.arrayClass .boolean ∈ TB := TB_of 804 (by decide +kernel) (by decide +kernel)
theorem tm_ml_L_17 : Cond.methodLink RL 17 yX10_inch ∈ TB := TB_of 805 (by decide +kernel) (by decide +kernel)
theorem tm_im_X10_inch : Cond.instanceMethod yX10_inch ∈ TB := TB_of 806 (by decide +kernel) (by decide +kernel)
theorem tm_sel_X10_inch : Cond.selects RX10 yX10_inch yX10_inch ∈ TB := TB_of 807 (by decide +kernel) (by decide +kernel)
theorem tm_ml_X10_57 : Cond.methodLink RX10 57 yX10_in ∈ TB := TB_of 809 (by decide +kernel) (by decide +kernel)
theorem tm_st_X10_in : Cond.static yX10_in ∈ TB := TB_of 810 (by decide +kernel) (by decide +kernel)
theorem tm_ml_L_22 : Cond.methodLink RL 22 yX10_week ∈ TB := TB_of 812 (by decide +kernel) (by decide +kernel)
theorem tm_im_X10_week : Cond.instanceMethod yX10_week ∈ TB := TB_of 813 (by decide +kernel) (by decide +kernel)
theorem tm_sel_X10_week : Cond.selects RX10 yX10_week yX10_week ∈ TB := TB_of 814 (by decide +kernel) (by decide +kernel)
theorem tm_ml_L_27 : Cond.methodLink RL 27 yX10_one ∈ TB := TB_of 816 (by decide +kernel) (by decide +kernel)
theorem tm_im_X10_one : Cond.instanceMethod yX10_one ∈ TB := TB_of 817 (by decide +kernel) (by decide +kernel)
theorem tm_sel_X10_one : Cond.selects RX10 yX10_one yX10_one ∈ TB := TB_of 818 (by decide +kernel) (by decide +kernel)
theorem tm_ml_X10_61 : Cond.methodLink RX10 61 yX10_isOne ∈ TB := TB_of 820 (by decide +kernel) (by decide +kernel)
theorem tm_st_X10_isOne : Cond.static yX10_isOne ∈ TB := TB_of 821 (by decide +kernel) (by decide +kernel)
theorem tm_k_X10_65 : Cond.constant RX10 65 (99999) ∈ TB := TB_of 823 (by decide +kernel) (by decide +kernel)
theorem tm_ml_L_31 : Cond.methodLink RL 31 yX10_stick ∈ TB := TB_of 824 (by decide +kernel) (by decide +kernel)
theorem tm_im_X10_stick : Cond.instanceMethod yX10_stick ∈ TB := TB_of 825 (by decide +kernel) (by decide +kernel)
theorem tm_sel_X10_stick : Cond.selects RX10 yX10_stick yX10_stick ∈ TB := TB_of 826 (by decide +kernel) (by decide +kernel)
theorem tm_ml_X10_66 : Cond.methodLink RX10 66 yX10_isStick ∈ TB := TB_of 828 (by decide +kernel) (by decide +kernel)
theorem tm_st_X10_isStick : Cond.static yX10_isStick ∈ TB := TB_of 829 (by decide +kernel) (by decide +kernel)
theorem tm_ml_L_35 : Cond.methodLink RL 35 yX10_bridge ∈ TB := TB_of 831 (by decide +kernel) (by decide +kernel)
theorem tm_im_X10_bridge : Cond.instanceMethod yX10_bridge ∈ TB := TB_of 832 (by decide +kernel) (by decide +kernel)
theorem tm_sel_X10_bridge : Cond.selects RX10 yX10_bridge yX10_bridge ∈ TB := TB_of 833 (by decide +kernel) (by decide +kernel)
theorem tm_ml_X10_69 : Cond.methodLink RX10 69 yX10_isBridge ∈ TB := TB_of 835 (by decide +kernel) (by decide +kernel)
theorem tm_st_X10_isBridge : Cond.static yX10_isBridge ∈ TB := TB_of 836 (by decide +kernel) (by decide +kernel)
theorem tm_ml_L_39 : Cond.methodLink RL 39 yX10_say ∈ TB := TB_of 838 (by decide +kernel) (by decide +kernel)
theorem tm_im_X10_say : Cond.instanceMethod yX10_say ∈ TB := TB_of 839 (by decide +kernel) (by decide +kernel)
theorem tm_sel_X10_say : Cond.selects RX10 yX10_say yX10_say ∈ TB := TB_of 840 (by decide +kernel) (by decide +kernel)
theorem tm_ml_L_44 : Cond.methodLink RL 44 yX10_wipe ∈ TB := TB_of 842 (by decide +kernel) (by decide +kernel)
theorem tm_im_X10_wipe : Cond.instanceMethod yX10_wipe ∈ TB := TB_of 843 (by decide +kernel) (by decide +kernel)
theorem tm_sel_X10_wipe : Cond.selects RX10 yX10_wipe yX10_wipe ∈ TB := TB_of 844 (by decide +kernel) (by decide +kernel)
theorem tm_ml_L_48 : Cond.methodLink RL 48 yX10_fault ∈ TB := TB_of 846 (by decide +kernel) (by decide +kernel)
theorem tm_im_X10_fault : Cond.instanceMethod yX10_fault ∈ TB := TB_of 847 (by decide +kernel) (by decide +kernel)
theorem tm_sel_X10_fault : Cond.selects RX10 yX10_fault yX10_fault ∈ TB := TB_of 848 (by decide +kernel) (by decide +kernel)
theorem tm_ml_X10_80 : Cond.methodLink RX10 80 yX10_faultOf ∈ TB := TB_of 850 (by decide +kernel) (by decide +kernel)
theorem tm_im_X10_faultOf : Cond.instanceMethod yX10_faultOf ∈ TB := TB_of 852 (by decide +kernel) (by decide +kernel)
theorem tm_ml_X10_76 : Cond.methodLink RX10 76 yX10_step ∈ TB := TB_of 854 (by decide +kernel) (by decide +kernel)
theorem tm_st_X10_step : Cond.static yX10_step ∈ TB := TB_of 855 (by decide +kernel) (by decide +kernel)
theorem tm_ml_L_52 : Cond.methodLink RL 52 yX10_judge ∈ TB := TB_of 857 (by decide +kernel) (by decide +kernel)
theorem tm_im_X10_judge : Cond.instanceMethod yX10_judge ∈ TB := TB_of 858 (by decide +kernel) (by decide +kernel)
theorem tm_sel_X10_judge : Cond.selects RX10 yX10_judge yX10_judge ∈ TB := TB_of 859 (by decide +kernel) (by decide +kernel)
theorem tm_ml_X10_143 : Cond.methodLink RX10 143 yX10_goWeeks ∈ TB := TB_of 861 (by decide +kernel) (by decide +kernel)
theorem tm_im_X10_goWeeks : Cond.instanceMethod yX10_goWeeks ∈ TB := TB_of 863 (by decide +kernel) (by decide +kernel)
theorem tm_ml_X10_122 : Cond.methodLink RX10 122 yX10_asNow ∈ TB := TB_of 865 (by decide +kernel) (by decide +kernel)
theorem tm_im_X10_asNow : Cond.instanceMethod yX10_asNow ∈ TB := TB_of 867 (by decide +kernel) (by decide +kernel)
theorem tm_ml_X10_128 : Cond.methodLink RX10 128 yX10_met ∈ TB := TB_of 869 (by decide +kernel) (by decide +kernel)
theorem tm_im_X10_met : Cond.instanceMethod yX10_met ∈ TB := TB_of 871 (by decide +kernel) (by decide +kernel)
theorem tm_ml_X10_94 : Cond.methodLink RX10 94 yX10_hasMet ∈ TB := TB_of 873 (by decide +kernel) (by decide +kernel)
theorem tm_im_X10_hasMet : Cond.instanceMethod yX10_hasMet ∈ TB := TB_of 875 (by decide +kernel) (by decide +kernel)
theorem tm_ml_X10_131 : Cond.methodLink RX10 131 yX10_endDay ∈ TB := TB_of 877 (by decide +kernel) (by decide +kernel)
theorem tm_im_X10_endDay : Cond.instanceMethod yX10_endDay ∈ TB := TB_of 879 (by decide +kernel) (by decide +kernel)
theorem tm_ml_X10_97 : Cond.methodLink RX10 97 yX10_clamp ∈ TB := TB_of 881 (by decide +kernel) (by decide +kernel)
theorem tm_st_X10_clamp : Cond.static yX10_clamp ∈ TB := TB_of 882 (by decide +kernel) (by decide +kernel)
theorem tm_ml_X10_109 : Cond.methodLink RX10 109 yX10_numberAt ∈ TB := TB_of 884 (by decide +kernel) (by decide +kernel)
theorem tm_im_X10_numberAt : Cond.instanceMethod yX10_numberAt ∈ TB := TB_of 886 (by decide +kernel) (by decide +kernel)
theorem tm_ml_X10_137 : Cond.methodLink RX10 137 yX10_change ∈ TB := TB_of 888 (by decide +kernel) (by decide +kernel)
theorem tm_im_X10_change : Cond.instanceMethod yX10_change ∈ TB := TB_of 890 (by decide +kernel) (by decide +kernel)
theorem tm_ml_X10_140 : Cond.methodLink RX10 140 yX10_oneAct ∈ TB := TB_of 892 (by decide +kernel) (by decide +kernel)
theorem tm_im_X10_oneAct : Cond.instanceMethod yX10_oneAct ∈ TB := TB_of 894 (by decide +kernel) (by decide +kernel)
theorem tm_ml_X10_103 : Cond.methodLink RX10 103 yX10_copy ∈ TB := TB_of 896 (by decide +kernel) (by decide +kernel)
theorem tm_im_X10_copy : Cond.instanceMethod yX10_copy ∈ TB := TB_of 898 (by decide +kernel) (by decide +kernel)
theorem tm_ml_X10_106 : Cond.methodLink RX10 106 yX10_lay ∈ TB := TB_of 900 (by decide +kernel) (by decide +kernel)
theorem tm_im_X10_lay : Cond.instanceMethod yX10_lay ∈ TB := TB_of 902 (by decide +kernel) (by decide +kernel)
theorem tm_ml_X10_112 : Cond.methodLink RX10 112 yX10_buy ∈ TB := TB_of 904 (by decide +kernel) (by decide +kernel)
theorem tm_im_X10_buy : Cond.instanceMethod yX10_buy ∈ TB := TB_of 906 (by decide +kernel) (by decide +kernel)
theorem tm_ml_X10_115 : Cond.methodLink RX10 115 yX10_sell ∈ TB := TB_of 908 (by decide +kernel) (by decide +kernel)
theorem tm_im_X10_sell : Cond.instanceMethod yX10_sell ∈ TB := TB_of 910 (by decide +kernel) (by decide +kernel)
theorem tm_ml_X10_90 : Cond.methodLink RX10 90 yX10_measureOf ∈ TB := TB_of 912 (by decide +kernel) (by decide +kernel)
theorem tm_im_X10_measureOf : Cond.instanceMethod yX10_measureOf ∈ TB := TB_of 914 (by decide +kernel) (by decide +kernel)
theorem tm_ml_X10_118 : Cond.methodLink RX10 118 yX10_build ∈ TB := TB_of 916 (by decide +kernel) (by decide +kernel)
theorem tm_im_X10_build : Cond.instanceMethod yX10_build ∈ TB := TB_of 918 (by decide +kernel) (by decide +kernel)
theorem tm_ml_L_56 : Cond.methodLink RL 56 yX10_done ∈ TB := TB_of 920 (by decide +kernel) (by decide +kernel)
theorem tm_im_X10_done : Cond.instanceMethod yX10_done ∈ TB := TB_of 921 (by decide +kernel) (by decide +kernel)
theorem tm_sel_X10_done : Cond.selects RX10 yX10_done yX10_done ∈ TB := TB_of 922 (by decide +kernel) (by decide +kernel)
theorem tm_ml_X10_146 : Cond.methodLink RX10 146 yX10_barOfWeeks ∈ TB := TB_of 924 (by decide +kernel) (by decide +kernel)
theorem tm_im_X10_barOfWeeks : Cond.instanceMethod yX10_barOfWeeks ∈ TB := TB_of 926 (by decide +kernel) (by decide +kernel)
theorem tm_ml_L_60 : Cond.methodLink RL 60 yX10_behind ∈ TB := TB_of 928 (by decide +kernel) (by decide +kernel)
theorem tm_im_X10_behind : Cond.instanceMethod yX10_behind ∈ TB := TB_of 929 (by decide +kernel) (by decide +kernel)
theorem tm_sel_X10_behind : Cond.selects RX10 yX10_behind yX10_behind ∈ TB := TB_of 930 (by decide +kernel) (by decide +kernel)
theorem tm_ml_L_64 : Cond.methodLink RL 64 yX10_lies ∈ TB := TB_of 932 (by decide +kernel) (by decide +kernel)
theorem tm_im_X10_lies : Cond.instanceMethod yX10_lies ∈ TB := TB_of 933 (by decide +kernel) (by decide +kernel)
theorem tm_sel_X10_lies : Cond.selects RX10 yX10_lies yX10_lies ∈ TB := TB_of 934 (by decide +kernel) (by decide +kernel)
theorem tm_ml_L_68 : Cond.methodLink RL 68 yX10_built ∈ TB := TB_of 936 (by decide +kernel) (by decide +kernel)
theorem tm_im_X10_built : Cond.instanceMethod yX10_built ∈ TB := TB_of 937 (by decide +kernel) (by decide +kernel)
theorem tm_sel_X10_built : Cond.selects RX10 yX10_built yX10_built ∈ TB := TB_of 938 (by decide +kernel) (by decide +kernel)
theorem tm_ml_L_72 : Cond.methodLink RL 72 yX10_then ∈ TB := TB_of 940 (by decide +kernel) (by decide +kernel)
theorem tm_im_X10_then : Cond.instanceMethod yX10_then ∈ TB := TB_of 941 (by decide +kernel) (by decide +kernel)
theorem tm_sel_X10_then : Cond.selects RX10 yX10_then yX10_then ∈ TB := TB_of 942 (by decide +kernel) (by decide +kernel)
theorem tm_ml_L_77 : Cond.methodLink RL 77 yX10_inches ∈ TB := TB_of 944 (by decide +kernel) (by decide +kernel)
theorem tm_im_X10_inches : Cond.instanceMethod yX10_inches ∈ TB := TB_of 945 (by decide +kernel) (by decide +kernel)
theorem tm_sel_X10_inches : Cond.selects RX10 yX10_inches yX10_inches ∈ TB := TB_of 946 (by decide +kernel) (by decide +kernel)
theorem tm_kl_X10_149 : Cond.constantLong RX10 149 (-1000000000000000001) ∈ TB := TB_of 948 (by decide +kernel) (by decide +kernel)
theorem tm_kl_X10_151 : Cond.constantLong RX10 151 (-1000000000000000002) ∈ TB := TB_of 949 (by decide +kernel) (by decide +kernel)
theorem tm_ml_X10_153 : Cond.methodLink RX10 153 yX10_lowest ∈ TB := TB_of 950 (by decide +kernel) (by decide +kernel)
theorem tm_st_X10_lowest : Cond.static yX10_lowest ∈ TB := TB_of 951 (by decide +kernel) (by decide +kernel)
theorem tm_ml_L_81 : Cond.methodLink RL 81 yX10_will ∈ TB := TB_of 953 (by decide +kernel) (by decide +kernel)
theorem tm_im_X10_will : Cond.instanceMethod yX10_will ∈ TB := TB_of 954 (by decide +kernel) (by decide +kernel)
theorem tm_sel_X10_will : Cond.selects RX10 yX10_will yX10_will ∈ TB := TB_of 955 (by decide +kernel) (by decide +kernel)
theorem tm_ml_X10_157 : Cond.methodLink RX10 157 yX10_layWill ∈ TB := TB_of 957 (by decide +kernel) (by decide +kernel)
theorem tm_im_X10_layWill : Cond.instanceMethod yX10_layWill ∈ TB := TB_of 959 (by decide +kernel) (by decide +kernel)
theorem tm_ml_L_86 : Cond.methodLink RL 86 yX10_sure ∈ TB := TB_of 961 (by decide +kernel) (by decide +kernel)
theorem tm_im_X10_sure : Cond.instanceMethod yX10_sure ∈ TB := TB_of 962 (by decide +kernel) (by decide +kernel)
theorem tm_sel_X10_sure : Cond.selects RX10 yX10_sure yX10_sure ∈ TB := TB_of 963 (by decide +kernel) (by decide +kernel)
theorem tm_ml_X10_160 : Cond.methodLink RX10 160 yX10_best ∈ TB := TB_of 965 (by decide +kernel) (by decide +kernel)
theorem tm_im_X10_best : Cond.instanceMethod yX10_best ∈ TB := TB_of 967 (by decide +kernel) (by decide +kernel)
theorem tm_ml_L_90 : Cond.methodLink RL 90 yX10_when ∈ TB := TB_of 969 (by decide +kernel) (by decide +kernel)
theorem tm_im_X10_when : Cond.instanceMethod yX10_when ∈ TB := TB_of 970 (by decide +kernel) (by decide +kernel)
theorem tm_sel_X10_when : Cond.selects RX10 yX10_when yX10_when ∈ TB := TB_of 971 (by decide +kernel) (by decide +kernel)
theorem tm_ml_L_95 : Cond.methodLink RL 95 yX10_meet ∈ TB := TB_of 973 (by decide +kernel) (by decide +kernel)
theorem tm_im_X10_meet : Cond.instanceMethod yX10_meet ∈ TB := TB_of 974 (by decide +kernel) (by decide +kernel)
theorem tm_sel_X10_meet : Cond.selects RX10 yX10_meet yX10_meet ∈ TB := TB_of 975 (by decide +kernel) (by decide +kernel)
theorem tm_ml_L_99 : Cond.methodLink RL 99 yX10_waste ∈ TB := TB_of 977 (by decide +kernel) (by decide +kernel)
theorem tm_im_X10_waste : Cond.instanceMethod yX10_waste ∈ TB := TB_of 978 (by decide +kernel) (by decide +kernel)
theorem tm_sel_X10_waste : Cond.selects RX10 yX10_waste yX10_waste ∈ TB := TB_of 979 (by decide +kernel) (by decide +kernel)
theorem tm_k_X10_163 : Cond.constant RX10 163 (1000000) ∈ TB := TB_of 981 (by decide +kernel) (by decide +kernel)
theorem tm_ml_L_104 : Cond.methodLink RL 104 yX10_days ∈ TB := TB_of 982 (by decide +kernel) (by decide +kernel)
theorem tm_im_X10_days : Cond.instanceMethod yX10_days ∈ TB := TB_of 983 (by decide +kernel) (by decide +kernel)
theorem tm_sel_X10_days : Cond.selects RX10 yX10_days yX10_days ∈ TB := TB_of 984 (by decide +kernel) (by decide +kernel)
theorem tm_ml_X10_164 : Cond.methodLink RX10 164 yX10_countDays ∈ TB := TB_of 986 (by decide +kernel) (by decide +kernel)
theorem tm_im_X10_countDays : Cond.instanceMethod yX10_countDays ∈ TB := TB_of 988 (by decide +kernel) (by decide +kernel)
theorem tm_ml_L_108 : Cond.methodLink RL 108 yX10_seen ∈ TB := TB_of 990 (by decide +kernel) (by decide +kernel)
theorem tm_im_X10_seen : Cond.instanceMethod yX10_seen ∈ TB := TB_of 991 (by decide +kernel) (by decide +kernel)
theorem tm_sel_X10_seen : Cond.selects RX10 yX10_seen yX10_seen ∈ TB := TB_of 992 (by decide +kernel) (by decide +kernel)
theorem tm_ml_L_112 : Cond.methodLink RL 112 yX10_forget ∈ TB := TB_of 994 (by decide +kernel) (by decide +kernel)
theorem tm_im_X10_forget : Cond.instanceMethod yX10_forget ∈ TB := TB_of 995 (by decide +kernel) (by decide +kernel)
theorem tm_sel_X10_forget : Cond.selects RX10 yX10_forget yX10_forget ∈ TB := TB_of 996 (by decide +kernel) (by decide +kernel)
theorem tm_ml_L_116 : Cond.methodLink RL 116 yX10_fits ∈ TB := TB_of 998 (by decide +kernel) (by decide +kernel)
theorem tm_im_X10_fits : Cond.instanceMethod yX10_fits ∈ TB := TB_of 999 (by decide +kernel) (by decide +kernel)
theorem tm_sel_X10_fits : Cond.selects RX10 yX10_fits yX10_fits ∈ TB := TB_of 1000 (by decide +kernel) (by decide +kernel)
theorem tm_ml_X10_173 : Cond.methodLink RX10 173 yX10_isLaw ∈ TB := TB_of 1002 (by decide +kernel) (by decide +kernel)
theorem tm_im_X10_isLaw : Cond.instanceMethod yX10_isLaw ∈ TB := TB_of 1004 (by decide +kernel) (by decide +kernel)
theorem tm_ml_X10_170 : Cond.methodLink RX10 170 yX10_byLaw ∈ TB := TB_of 1006 (by decide +kernel) (by decide +kernel)
theorem tm_st_X10_byLaw : Cond.static yX10_byLaw ∈ TB := TB_of 1007 (by decide +kernel) (by decide +kernel)
theorem tm_ml_L_120 : Cond.methodLink RL 120 yX10_ask ∈ TB := TB_of 1009 (by decide +kernel) (by decide +kernel)
theorem tm_im_X10_ask : Cond.instanceMethod yX10_ask ∈ TB := TB_of 1010 (by decide +kernel) (by decide +kernel)
theorem tm_sel_X10_ask : Cond.selects RX10 yX10_ask yX10_ask ∈ TB := TB_of 1011 (by decide +kernel) (by decide +kernel)
theorem tm_ml_L_124 : Cond.methodLink RL 124 yX10_settle ∈ TB := TB_of 1013 (by decide +kernel) (by decide +kernel)
theorem tm_im_X10_settle : Cond.instanceMethod yX10_settle ∈ TB := TB_of 1014 (by decide +kernel) (by decide +kernel)
theorem tm_sel_X10_settle : Cond.selects RX10 yX10_settle yX10_settle ∈ TB := TB_of 1015 (by decide +kernel) (by decide +kernel)
theorem tm_ml_X10_176 : Cond.methodLink RX10 176 yX10_layRing ∈ TB := TB_of 1017 (by decide +kernel) (by decide +kernel)
theorem tm_im_X10_layRing : Cond.instanceMethod yX10_layRing ∈ TB := TB_of 1019 (by decide +kernel) (by decide +kernel)
theorem tm_ml_X10_179 : Cond.methodLink RX10 179 yX10_takeMeans ∈ TB := TB_of 1021 (by decide +kernel) (by decide +kernel)
theorem tm_im_X10_takeMeans : Cond.instanceMethod yX10_takeMeans ∈ TB := TB_of 1023 (by decide +kernel) (by decide +kernel)
theorem tm_ml_L_128 : Cond.methodLink RL 128 yX10_settled ∈ TB := TB_of 1025 (by decide +kernel) (by decide +kernel)
theorem tm_im_X10_settled : Cond.instanceMethod yX10_settled ∈ TB := TB_of 1026 (by decide +kernel) (by decide +kernel)
theorem tm_sel_X10_settled : Cond.selects RX10 yX10_settled yX10_settled ∈ TB := TB_of 1027 (by decide +kernel) (by decide +kernel)
theorem tm_ml_L_132 : Cond.methodLink RL 132 yX10_halves ∈ TB := TB_of 1029 (by decide +kernel) (by decide +kernel)
theorem tm_im_X10_halves : Cond.instanceMethod yX10_halves ∈ TB := TB_of 1030 (by decide +kernel) (by decide +kernel)
theorem tm_sel_X10_halves : Cond.selects RX10 yX10_halves yX10_halves ∈ TB := TB_of 1031 (by decide +kernel) (by decide +kernel)
theorem tm_ml_L_137 : Cond.methodLink RL 137 yX10_shake ∈ TB := TB_of 1033 (by decide +kernel) (by decide +kernel)
theorem tm_im_X10_shake : Cond.instanceMethod yX10_shake ∈ TB := TB_of 1034 (by decide +kernel) (by decide +kernel)
theorem tm_sel_X10_shake : Cond.selects RX10 yX10_shake yX10_shake ∈ TB := TB_of 1035 (by decide +kernel) (by decide +kernel)
theorem tm_kl_X10_183 : Cond.constantLong RX10 183 (10) ∈ TB := TB_of 1037 (by decide +kernel) (by decide +kernel)
theorem tm_ml_L_141 : Cond.methodLink RL 141 yX10_year ∈ TB := TB_of 1038 (by decide +kernel) (by decide +kernel)
theorem tm_im_X10_year : Cond.instanceMethod yX10_year ∈ TB := TB_of 1039 (by decide +kernel) (by decide +kernel)
theorem tm_sel_X10_year : Cond.selects RX10 yX10_year yX10_year ∈ TB := TB_of 1040 (by decide +kernel) (by decide +kernel)
theorem tm_k_X10_185 : Cond.constant RX10 185 (65537) ∈ TB := TB_of 1042 (by decide +kernel) (by decide +kernel)
theorem tm_ml_L_145 : Cond.methodLink RL 145 yX10_image ∈ TB := TB_of 1043 (by decide +kernel) (by decide +kernel)
theorem tm_im_X10_image : Cond.instanceMethod yX10_image ∈ TB := TB_of 1044 (by decide +kernel) (by decide +kernel)
theorem tm_sel_X10_image : Cond.selects RX10 yX10_image yX10_image ∈ TB := TB_of 1045 (by decide +kernel) (by decide +kernel)
theorem tm_ml_L_149 : Cond.methodLink RL 149 yX10_restore ∈ TB := TB_of 1047 (by decide +kernel) (by decide +kernel)
theorem tm_im_X10_restore : Cond.instanceMethod yX10_restore ∈ TB := TB_of 1048 (by decide +kernel) (by decide +kernel)
theorem tm_sel_X10_restore : Cond.selects RX10 yX10_restore yX10_restore ∈ TB := TB_of 1049 (by decide +kernel) (by decide +kernel)
theorem tm_ml_L_153 : Cond.methodLink RL 153 yX10_told ∈ TB := TB_of 1051 (by decide +kernel) (by decide +kernel)
theorem tm_im_X10_told : Cond.instanceMethod yX10_told ∈ TB := TB_of 1052 (by decide +kernel) (by decide +kernel)
theorem tm_sel_X10_told : Cond.selects RX10 yX10_told yX10_told ∈ TB := TB_of 1053 (by decide +kernel) (by decide +kernel)
theorem tm_lay_X0 : ∀ w ∈ u_ws RX0 TX0 4, w ∈ TB := fun w h => List.mem_filter.mpr ⟨((goodIn_r (big := lw_tbl) (u_ws RX0 TX0 4) [227, 229, 231, 233] (by decide +kernel) (by decide +kernel)) w h).1, (List.all_eq_true.mp (show (u_ws RX0 TX0 4).all goodWord = true by decide +kernel) w h)⟩
theorem tm_lay_X1 : ∀ w ∈ u_ws RX1 TX1 2, w ∈ TB := fun w h => List.mem_filter.mpr ⟨((goodIn_r (big := lw_tbl) (u_ws RX1 TX1 2) [284, 286] (by decide +kernel) (by decide +kernel)) w h).1, (List.all_eq_true.mp (show (u_ws RX1 TX1 2).all goodWord = true by decide +kernel) w h)⟩
theorem tm_lay_X2 : ∀ w ∈ u_ws RX2 TX2 2, w ∈ TB := fun w h => List.mem_filter.mpr ⟨((goodIn_r (big := lw_tbl) (u_ws RX2 TX2 2) [142, 144] (by decide +kernel) (by decide +kernel)) w h).1, (List.all_eq_true.mp (show (u_ws RX2 TX2 2).all goodWord = true by decide +kernel) w h)⟩
theorem tm_lay_X3 : ∀ w ∈ u_ws RX3 TX3 3, w ∈ TB := fun w h => List.mem_filter.mpr ⟨((goodIn_r (big := lw_tbl) (u_ws RX3 TX3 3) [245, 247, 249] (by decide +kernel) (by decide +kernel)) w h).1, (List.all_eq_true.mp (show (u_ws RX3 TX3 3).all goodWord = true by decide +kernel) w h)⟩
theorem tm_lay_X4 : ∀ w ∈ u_ws RX4 TX4 7, w ∈ TB := fun w h => List.mem_filter.mpr ⟨((goodIn_r (big := lw_tbl) (u_ws RX4 TX4 7) [166, 168, 170, 172, 174, 176, 178] (by decide +kernel) (by decide +kernel)) w h).1, (List.all_eq_true.mp (show (u_ws RX4 TX4 7).all goodWord = true by decide +kernel) w h)⟩
theorem tm_lay_X5 : ∀ w ∈ u_ws RX5 TX5 13, w ∈ TB := fun w h => List.mem_filter.mpr ⟨((goodIn_r (big := lw_tbl) (u_ws RX5 TX5 13) [103, 105, 107, 109, 111, 113, 115, 117, 119, 121, 123, 125, 127] (by decide +kernel) (by decide +kernel)) w h).1, (List.all_eq_true.mp (show (u_ws RX5 TX5 13).all goodWord = true by decide +kernel) w h)⟩
theorem tm_lay_X6 : ∀ w ∈ u_ws RX6 TX6 2, w ∈ TB := fun w h => List.mem_filter.mpr ⟨((goodIn_r (big := lw_tbl) (u_ws RX6 TX6 2) [261, 263] (by decide +kernel) (by decide +kernel)) w h).1, (List.all_eq_true.mp (show (u_ws RX6 TX6 2).all goodWord = true by decide +kernel) w h)⟩
theorem tm_lay_X7 : ∀ w ∈ u_ws RX7 TX7 1, w ∈ TB := fun w h => List.mem_filter.mpr ⟨((goodIn_r (big := lw_tbl) (u_ws RX7 TX7 1) [273] (by decide +kernel) (by decide +kernel)) w h).1, (List.all_eq_true.mp (show (u_ws RX7 TX7 1).all goodWord = true by decide +kernel) w h)⟩
theorem tm_lay_X8 : ∀ w ∈ u_ws RX8 TX8 6, w ∈ TB := fun w h => List.mem_filter.mpr ⟨((goodIn_r (big := lw_tbl) (u_ws RX8 TX8 6) [201, 203, 205, 207, 209, 211] (by decide +kernel) (by decide +kernel)) w h).1, (List.all_eq_true.mp (show (u_ws RX8 TX8 6).all goodWord = true by decide +kernel) w h)⟩
theorem tm_lay_X9 : ∀ w ∈ u_ws RX9 TX9 10, w ∈ TB := fun w h => List.mem_filter.mpr ⟨((goodIn_r (big := lw_tbl) (u_ws RX9 TX9 10) [300, 302, 304, 306, 308, 310, 312, 314, 316, 318] (by decide +kernel) (by decide +kernel)) w h).1, (List.all_eq_true.mp (show (u_ws RX9 TX9 10).all goodWord = true by decide +kernel) w h)⟩
theorem tm_lay_X10 : ∀ w ∈ u_ws RX10 TX10 22, w ∈ TB := fun w h => List.mem_filter.mpr ⟨((goodIn_r (big := lw_tbl) (u_ws RX10 TX10 22) [759, 761, 763, 765, 767, 769, 771, 773, 775, 777, 779, 781, 783, 785, 787, 789, 791, 793, 795, 797, 799, 801] (by decide +kernel) (by decide +kernel)) w h).1, (List.all_eq_true.mp (show (u_ws RX10 TX10 22).all goodWord = true by decide +kernel) w h)⟩
end
section
abbrev EE : Type := va_G × ClassId × ClassId × ClassId
def eT (E : EE) : List (ClassId × FieldType) := [(E.2.1, .int), (E.2.2.1, .long), (E.2.2.2, .boolean)]
def EV (E : EE) (U : State) : Prop := va_K E.1 vwCl (eT E) U ∧ va_Nw (.methodLinkNest RX0 50 yX9_within RX9) U ∧ va_Nw (.methodLinkNest RX1 34 yX9_within RX9) U ∧ va_Nw (.methodLinkNest RX3 46 yX9_within RX9) U ∧ va_Nw (.methodLinkNest RX4 51 yX9_within RX9) U ∧ va_Nw (.methodLinkNest RX5 78 yX9_limited RX9) U ∧ va_Nw (.fieldLinkNest RX8 75 "LentRulers" "YEAR_KINDS" "[I" RX9) U
theorem EV.warm {E : EE} {s U : State} (hW : s.WarmedH U.vm) (h : EV E s) : EV E U := ⟨va_K.moved hW.alike h.1, va_Nw.warmM hW h.2.1, va_Nw.warmM hW h.2.2.1, va_Nw.warmM hW h.2.2.2.1, va_Nw.warmM hW h.2.2.2.2.1, va_Nw.warmM hW h.2.2.2.2.2.1, va_Nw.warmF hW h.2.2.2.2.2.2⟩
theorem EV.calling {E : EE} {U : State} (g : JFrame) (mk : MethodId) (a : Array Value) (h : EV E U) : EV E (U.calling g mk a) := ⟨va_K.moved (u := U) (U := U.calling g mk a) (Vm.Alike.refl U.vm) h.1, va_Nw.same (u := U) (U := U.calling g mk a) rfl rfl h.2.1, va_Nw.same (u := U) (U := U.calling g mk a) rfl rfl h.2.2.1, va_Nw.same (u := U) (U := U.calling g mk a) rfl rfl h.2.2.2.1, va_Nw.same (u := U) (U := U.calling g mk a) rfl rfl h.2.2.2.2.1, va_Nw.same (u := U) (U := U.calling g mk a) rfl rfl h.2.2.2.2.2.1, va_Nw.same (u := U) (U := U.calling g mk a) rfl rfl h.2.2.2.2.2.2⟩
abbrev Ctx : Type := Program × Launch × Env × Room × State × MethodId × Array Value × List Frame × Method × Code × (Nat → Prop) × Nat × (State → Prop)
abbrev kP (K : Ctx) : Program := K.1
abbrev kLa (K : Ctx) : Launch := K.2.1
abbrev kE (K : Ctx) : Env := K.2.2.1
abbrev kR (K : Ctx) : Room := K.2.2.2.1
abbrev kS (K : Ctx) : State := K.2.2.2.2.1
abbrev kM (K : Ctx) : MethodId := K.2.2.2.2.2.1
abbrev kAr (K : Ctx) : Array Value := K.2.2.2.2.2.2.1
abbrev kB (K : Ctx) : List Frame := K.2.2.2.2.2.2.2.1
abbrev kMe (K : Ctx) : Method := K.2.2.2.2.2.2.2.2.1
abbrev kC (K : Ctx) : Code := K.2.2.2.2.2.2.2.2.2.1
abbrev kA (K : Ctx) : Nat → Prop := K.2.2.2.2.2.2.2.2.2.2.1
abbrev kL (K : Ctx) : Nat := K.2.2.2.2.2.2.2.2.2.2.2.1
abbrev kQ (K : Ctx) : State → Prop := K.2.2.2.2.2.2.2.2.2.2.2.2
/-- the machine of the body K comes to its end from: the world ws, the locals lv, pc, the stack st -/
def JV (E : EE) (K : Ctx) (cells slots : Nat) (ws : va_W) (lv : List (Nat × Value)) (pc : Nat) (st : List Value) : Prop :=
  ∀ (ls : Array Slot) (H : Heap) (locs : List Loc), lv_has ls (kL K) lv → va_P E.1 vwCl ws H → va_D (kA K) ws → va_S (kA K) (kS K).heap H locs → W (kP K) (kLa K) (kE K) (kR K) (kS K) (kM K) (kAr K) (kB K) (kMe K) (kC K) H locs cells slots (kQ K) (F0 (kM K) pc ls st)
/-- what is fixed in a body -/
def CX (E : EE) (K : Ctx) (cc : ByteArray) (nL : Nat) (own : String) (rm : Room) : Prop :=
  (kP K).tables.exec = Jvm.exec ∧ (kC K).code = cc ∧ (kC K).maxLocals = nL ∧ kL K = nL ∧ kR K = rm ∧ (kS K).vm.findClass own = some (kM K).cls ∧ (∀ w ∈ TB, w.before (kAr K) (kS K) = true) ∧ EV E (kS K) ∧ (∀ q, (kS K).heap.size ≤ q → kA K q) ∧ (kMe K).locks = false
def QG {S : Type} (E : EE) (r0 : S → Option Value) (wo : S → va_W) (A : Nat → Prop) : Array Value → State → Outcome → State → Prop := fun _ st oc t => (∃ u : S, oc = .returned (r0 u) ∧ va_P E.1 vwCl (wo u) t.heap ∧ va_D A (wo u)) ∧ va_F A st t
/-- what its end must be -/
def RX {S : Type} (E : EE) (K : Ctx) (mc ms : Nat) (ret : Option FieldType) (r0 : S → Option Value) (wo : S → va_W) : Prop := (kMe K).sig.returnType = ret ∧ kQ K = MQ (kB K) (QG E r0 wo (kA K)) (kAr K) (kS K) mc ms (kA K)
/-- a contract: from the world w it answers r0 u and leaves the world wo u -/
def CG {S : Type} (E : EE) (l : Launch) (y : MethodName) (cc : ByteArray) (nL : Nat) (ret : Option FieldType) (rm : Room) (av : List Value) (w : va_W) (B : Nat → State → Prop) (r0 : S → Option Value) (wo : S → va_W) : Prop :=
  ∀ sz : Nat, Met l y (Cond.code y cc nL ret :: TB) rm (va_Pc av (fun U => U.heap.size = sz ∧ va_P E.1 vwCl w U.heap ∧ EV E U ∧ va_D (fun _ => True) w ∧ B sz U)) (QG E r0 wo (va_A w sz)) rm.cells rm.slots (va_A w sz)
def noB : Nat → State → Prop := fun _ _ => True
def CT (E : EE) (l : Launch) (y : MethodName) (cc : ByteArray) (nL : Nat) (ret : Option FieldType) (rm : Room) (av : List Value) (w : va_W) (r0 : Option Value) (w1 : va_W) : Prop := CG E l y cc nL ret rm av w noB (fun _ : Unit => r0) (fun _ : Unit => w1)
theorem CG.intro {S : Type} {E : EE} {l : Launch} {y : MethodName} {cc : ByteArray} {nL : Nat} {ret : Option FieldType} {rm : Room} {av : List Value} {w : va_W} {B : Nat → State → Prop} {r0 : S → Option Value} {wo : S → va_W} (hy : plainName y.cls = true) (hav : (lg_sl av).length ≤ nL)
    (hb : ∀ K : Ctx, CX E K cc nL y.cls rm → RX E K rm.cells rm.slots ret r0 wo → (kA K = va_A w (kS K).heap.size) → B (kS K).heap.size (kS K) → (kMe K).name = y.name → JV E K 0 0 w (lv_args 0 av) 0 []) : CG E l y cc nL ret rm av w B r0 wo := by
  intro sz
  refine Met.ofW (cc := cc) (maxL := nL) (ret := ret) hy rfl ?_
  intro p e s m args below meth c s₁ Bd hml hv
  obtain ⟨rfl, hsz, hP, hE, hD0, hB⟩ := hv
  subst hsz
  have hts := atoms_spec (ws := Cond.code y cc nL ret :: TB) Bd.pre
  have hl := lv_entry av (n := nL) hav
  rw [lg_entry_eq]
  exact hb (p, l, e, rm, s, m, av.toArray, below, meth, c, va_A w s.heap.size, nL, MQ below (QG E r0 wo (va_A w s.heap.size)) av.toArray s rm.cells rm.slots (va_A w s.heap.size))
    ⟨Bd.exec, Bd.bytes, hml, rfl, rfl, findClass_of_methodNamed Bd.named, fun w hw => hts w (List.mem_cons_of_mem _ hw), hE, fun q h => Or.inr h, Bd.notSynchronized⟩ ⟨Bd.returns, rfl⟩ rfl hB (name_of_methodNamed Bd.named Bd.method).1 _ _ _ hl hP hD0.self va_S.rf
theorem CT.intro {E : EE} {l : Launch} {y : MethodName} {cc : ByteArray} {nL : Nat} {ret : Option FieldType} {rm : Room} {av : List Value} {w w1 : va_W} {r0 : Option Value} (hy : plainName y.cls = true) (hav : (lg_sl av).length ≤ nL)
    (hb : ∀ K : Ctx, CX E K cc nL y.cls rm → RX E K rm.cells rm.slots ret (fun _ : Unit => r0) (fun _ : Unit => w1) → JV E K 0 0 w (lv_args 0 av) 0 []) : CT E l y cc nL ret rm av w r0 w1 :=
  CG.intro hy hav (fun K X Y _ _ _ => hb K X Y)
section RowsA
variable {E : EE} {K : Ctx} {cc : ByteArray} {nL : Nat} {own : String} {rm : Room} {cells slots : Nat} {ws : va_W} {lv : List (Nat × Value)} {rest : List Value}
theorem jv_lv {pc : Nat} {st : List Value} {lv' : List (Nat × Value)} (ks : List Nat) (hl : lv_pick lv ks = lv') (k : JV E K cells slots ws lv' pc st) : JV E K cells slots ws lv pc st := fun ls H locs h1 h2 h3 h4 => k ls H locs (lv_sub h1 ks hl) h2 h3 h4
theorem jv_eq {pc : Nat} {st st' : List Value} {ws' : va_W} {lv' : List (Nat × Value)} (hw : ws = ws') (hl : lv = lv') (hs : st = st') (k : JV E K cells slots ws' lv' pc st') : JV E K cells slots ws lv pc st := by subst hw; subst hl; subst hs; exact k
theorem jv_iconst (pc : Nat) (X : CX E K cc nL own rm) {n : Int} {v : Int32} (d : decode cc pc = .ok (.iconst n, 1)) (hv : Int32.ofInt n = v) (k : JV E K cells slots ws lv (pc + 1) (.int v :: rest)) : JV E K cells slots ws lv pc rest := fun ls H locs h1 h2 h3 h4 => lv_iconst X.1 X.2.1 d hv (k ls H locs h1 h2 h3 h4)
theorem jv_bipush (pc : Nat) (X : CX E K cc nL own rm) {n : Int} {v : Int32} (d : decode cc pc = .ok (.bipush n, 2)) (hv : (Int8.ofInt n).toInt32 = v) (k : JV E K cells slots ws lv (pc + 2) (.int v :: rest)) : JV E K cells slots ws lv pc rest := fun ls H locs h1 h2 h3 h4 => lv_bipush X.1 X.2.1 d hv (k ls H locs h1 h2 h3 h4)
theorem jv_sipush (pc : Nat) (X : CX E K cc nL own rm) {n : Int} {v : Int32} (d : decode cc pc = .ok (.sipush n, 3)) (hv : (Int16.ofInt n).toInt32 = v) (k : JV E K cells slots ws lv (pc + 3) (.int v :: rest)) : JV E K cells slots ws lv pc rest := fun ls H locs h1 h2 h3 h4 => lv_sipush X.1 X.2.1 d hv (k ls H locs h1 h2 h3 h4)
theorem jv_lconst (pc : Nat) (X : CX E K cc nL own rm) {n : Fin 2} {v : Int64} (d : decode cc pc = .ok (.lconst n, 1)) (hv : Int64.ofNat (n : Nat) = v) (k : JV E K cells slots ws lv (pc + 1) (.long v :: rest)) : JV E K cells slots ws lv pc rest := fun ls H locs h1 h2 h3 h4 => lv_lconst X.1 X.2.1 d hv (k ls H locs h1 h2 h3 h4)
theorem jv_ldc (pc : Nat) (X : CX E K cc nL own rm) {index : Nat} {v : Int32} (hc : Cond.constant own index v ∈ TB) (d : decode cc pc = .ok (.ldc index, 2)) (k : JV E K cells slots ws lv (pc + 2) (.int v :: rest)) : JV E K cells slots ws lv pc rest := fun ls H locs h1 h2 h3 h4 => lv_ldc X.1 X.2.1 X.2.2.2.2.2.1 (X.2.2.2.2.2.2.1 _ hc) d (k ls H locs h1 h2 h3 h4)
theorem jv_ldc2 (pc : Nat) (X : CX E K cc nL own rm) {index : Nat} {v : Int64} (hc : Cond.constantLong own index v ∈ TB) (d : decode cc pc = .ok (.ldc2_w index, 3)) (k : JV E K cells slots ws lv (pc + 3) (.long v :: rest)) : JV E K cells slots ws lv pc rest := fun ls H locs h1 h2 h3 h4 => lv_ldc2 X.1 X.2.1 X.2.2.2.2.2.1 (X.2.2.2.2.2.2.1 _ hc) d (k ls H locs h1 h2 h3 h4)
theorem jv_iload_n (pc : Nat) (X : CX E K cc nL own rm) {i : Fin 4} {x : Int32} (d : decode cc pc = .ok (.iload_n i, 1)) (j : Nat) (h : lv[j]? = some ((i : Nat), .int x)) (k : JV E K cells slots ws lv (pc + 1) (.int x :: rest)) : JV E K cells slots ws lv pc rest := fun ls H locs h1 h2 h3 h4 => lv_iload_n X.1 X.2.1 d rfl (lv_at h1 j h) (k ls H locs h1 h2 h3 h4)
theorem jv_iload (pc : Nat) (X : CX E K cc nL own rm) {i : Nat} {x : Int32} (d : decode cc pc = .ok (.iload i, 2)) (j : Nat) (h : lv[j]? = some (i, .int x)) (k : JV E K cells slots ws lv (pc + 2) (.int x :: rest)) : JV E K cells slots ws lv pc rest := fun ls H locs h1 h2 h3 h4 => lv_iload X.1 X.2.1 d (lv_at h1 j h) (k ls H locs h1 h2 h3 h4)
theorem jv_lload_n (pc : Nat) (X : CX E K cc nL own rm) {i : Fin 4} {x : Int64} (d : decode cc pc = .ok (.lload_n i, 1)) (j : Nat) (h : lv[j]? = some ((i : Nat), .long x)) (k : JV E K cells slots ws lv (pc + 1) (.long x :: rest)) : JV E K cells slots ws lv pc rest := fun ls H locs h1 h2 h3 h4 => lv_lload_n X.1 X.2.1 d rfl (lv_at h1 j h) (k ls H locs h1 h2 h3 h4)
theorem jv_lload (pc : Nat) (X : CX E K cc nL own rm) {i : Nat} {x : Int64} (d : decode cc pc = .ok (.lload i, 2)) (j : Nat) (h : lv[j]? = some (i, .long x)) (k : JV E K cells slots ws lv (pc + 2) (.long x :: rest)) : JV E K cells slots ws lv pc rest := fun ls H locs h1 h2 h3 h4 => lv_lload X.1 X.2.1 d (lv_at h1 j h) (k ls H locs h1 h2 h3 h4)
theorem jv_aload_n (pc : Nat) (X : CX E K cc nL own rm) {i : Fin 4} {x : Nat} (d : decode cc pc = .ok (.aload_n i, 1)) (j : Nat) (h : lv[j]? = some ((i : Nat), .ref x)) (k : JV E K cells slots ws lv (pc + 1) (.ref x :: rest)) : JV E K cells slots ws lv pc rest := fun ls H locs h1 h2 h3 h4 => lv_aload_n X.1 X.2.1 d rfl (lv_at h1 j h) (k ls H locs h1 h2 h3 h4)
theorem jv_istore_n (pc : Nat) (X : CX E K cc nL own rm) {i : Fin 4} {x : Int32} {lv2 : List (Nat × Value)} (d : decode cc pc = .ok (.istore_n i, 1)) (hn : (i : Nat) < nL) (hl : ((i : Nat), Value.int x) :: lv.filter (fun q => !(q.1 == (i : Nat)) && !(q.1 + 1 == (i : Nat) && q.2.category == 2)) = lv2) (k : JV E K cells slots ws lv2 (pc + 1) rest) : JV E K cells slots ws lv pc (.int x :: rest) := fun ls H locs h1 h2 h3 h4 => lv_istore_n X.1 X.2.1 d rfl h1 (by rw [X.2.2.2.1]; exact hn) hl (fun ls2 h => k ls2 H locs h h2 h3 h4)
theorem jv_istore (pc : Nat) (X : CX E K cc nL own rm) {i : Nat} {x : Int32} {lv2 : List (Nat × Value)} (d : decode cc pc = .ok (.istore i, 2)) (hn : i < nL) (hl : (i, Value.int x) :: lv.filter (fun q => !(q.1 == i) && !(q.1 + 1 == i && q.2.category == 2)) = lv2) (k : JV E K cells slots ws lv2 (pc + 2) rest) : JV E K cells slots ws lv pc (.int x :: rest) := fun ls H locs h1 h2 h3 h4 => lv_istore X.1 X.2.1 d h1 (by rw [X.2.2.2.1]; exact hn) hl (fun ls2 h => k ls2 H locs h h2 h3 h4)
theorem jv_astore_n (pc : Nat) (X : CX E K cc nL own rm) {i : Fin 4} {x : Nat} {lv2 : List (Nat × Value)} (d : decode cc pc = .ok (.astore_n i, 1)) (hn : (i : Nat) < nL) (hl : ((i : Nat), Value.ref x) :: lv.filter (fun q => !(q.1 == (i : Nat)) && !(q.1 + 1 == (i : Nat) && q.2.category == 2)) = lv2) (k : JV E K cells slots ws lv2 (pc + 1) rest) : JV E K cells slots ws lv pc (.ref x :: rest) := fun ls H locs h1 h2 h3 h4 => lv_astore_n X.1 X.2.1 d rfl h1 (by rw [X.2.2.2.1]; exact hn) hl (fun ls2 h => k ls2 H locs h h2 h3 h4)
theorem jv_lstore_n (pc : Nat) (X : CX E K cc nL own rm) {i : Fin 4} {x : Int64} {lv2 : List (Nat × Value)} (d : decode cc pc = .ok (.lstore_n i, 1)) (hn : (i : Nat) + 1 < nL) (hl : ((i : Nat), Value.long x) :: lv.filter (fun q => !(q.1 == (i : Nat)) && (!(q.1 == (i : Nat) + 1) && !(q.1 + 1 == (i : Nat) && q.2.category == 2))) = lv2) (k : JV E K cells slots ws lv2 (pc + 1) rest) : JV E K cells slots ws lv pc (.long x :: rest) := fun ls H locs h1 h2 h3 h4 => lv_lstore_n X.1 X.2.1 d rfl h1 (by rw [X.2.2.2.1]; exact hn) hl (fun ls2 h => k ls2 H locs h h2 h3 h4)
theorem jv_lstore (pc : Nat) (X : CX E K cc nL own rm) {i : Nat} {x : Int64} {lv2 : List (Nat × Value)} (d : decode cc pc = .ok (.lstore i, 2)) (hn : i + 1 < nL) (hl : (i, Value.long x) :: lv.filter (fun q => !(q.1 == i) && (!(q.1 == i + 1) && !(q.1 + 1 == i && q.2.category == 2))) = lv2) (k : JV E K cells slots ws lv2 (pc + 2) rest) : JV E K cells slots ws lv pc (.long x :: rest) := fun ls H locs h1 h2 h3 h4 => lv_lstore X.1 X.2.1 d h1 (by rw [X.2.2.2.1]; exact hn) hl (fun ls2 h => k ls2 H locs h h2 h3 h4)
theorem jv_iinc (pc : Nat) (X : CX E K cc nL own rm) {i : Nat} {n : Int} {x v : Int32} {lv2 : List (Nat × Value)} (d : decode cc pc = .ok (.iinc i n, 3)) (j : Nat) (h : lv[j]? = some (i, .int x)) (hv : x + Int32.ofInt n = v) (hn : i < nL) (hl : (i, Value.int v) :: lv.filter (fun q => !(q.1 == i) && !(q.1 + 1 == i && q.2.category == 2)) = lv2) (k : JV E K cells slots ws lv2 (pc + 3) rest) : JV E K cells slots ws lv pc rest := fun ls H locs h1 h2 h3 h4 => lv_iinc X.1 X.2.1 d h1 (k := j) h hv (by rw [X.2.2.2.1]; exact hn) hl (fun ls2 h => k ls2 H locs h h2 h3 h4)
theorem jv_iadd (pc : Nat) (X : CX E K cc nL own rm) {x y : Int32} (d : decode cc pc = .ok (.iadd, 1)) (k : JV E K cells slots ws lv (pc + 1) (.int (x + y) :: rest)) : JV E K cells slots ws lv pc (.int y :: .int x :: rest) := fun ls H locs h1 h2 h3 h4 => lv_iadd X.1 X.2.1 d (k ls H locs h1 h2 h3 h4)
theorem jv_isub (pc : Nat) (X : CX E K cc nL own rm) {x y : Int32} (d : decode cc pc = .ok (.isub, 1)) (k : JV E K cells slots ws lv (pc + 1) (.int (x - y) :: rest)) : JV E K cells slots ws lv pc (.int y :: .int x :: rest) := fun ls H locs h1 h2 h3 h4 => lv_isub X.1 X.2.1 d (k ls H locs h1 h2 h3 h4)
theorem jv_imul (pc : Nat) (X : CX E K cc nL own rm) {x y : Int32} (d : decode cc pc = .ok (.imul, 1)) (k : JV E K cells slots ws lv (pc + 1) (.int (x * y) :: rest)) : JV E K cells slots ws lv pc (.int y :: .int x :: rest) := fun ls H locs h1 h2 h3 h4 => lv_imul X.1 X.2.1 d (k ls H locs h1 h2 h3 h4)
theorem jv_iand (pc : Nat) (X : CX E K cc nL own rm) {x y : Int32} (d : decode cc pc = .ok (.iand, 1)) (k : JV E K cells slots ws lv (pc + 1) (.int (x &&& y) :: rest)) : JV E K cells slots ws lv pc (.int y :: .int x :: rest) := fun ls H locs h1 h2 h3 h4 => lv_iand X.1 X.2.1 d (k ls H locs h1 h2 h3 h4)
theorem jv_ior (pc : Nat) (X : CX E K cc nL own rm) {x y : Int32} (d : decode cc pc = .ok (.ior, 1)) (k : JV E K cells slots ws lv (pc + 1) (.int (x ||| y) :: rest)) : JV E K cells slots ws lv pc (.int y :: .int x :: rest) := fun ls H locs h1 h2 h3 h4 => lv_ior X.1 X.2.1 d (k ls H locs h1 h2 h3 h4)
theorem jv_ixor (pc : Nat) (X : CX E K cc nL own rm) {x y : Int32} (d : decode cc pc = .ok (.ixor, 1)) (k : JV E K cells slots ws lv (pc + 1) (.int (x ^^^ y) :: rest)) : JV E K cells slots ws lv pc (.int y :: .int x :: rest) := fun ls H locs h1 h2 h3 h4 => lv_ixor X.1 X.2.1 d (k ls H locs h1 h2 h3 h4)
theorem jv_ishl (pc : Nat) (X : CX E K cc nL own rm) {x y : Int32} (d : decode cc pc = .ok (.ishl, 1)) (k : JV E K cells slots ws lv (pc + 1) (.int (x <<< (y &&& 31)) :: rest)) : JV E K cells slots ws lv pc (.int y :: .int x :: rest) := fun ls H locs h1 h2 h3 h4 => lv_ishl X.1 X.2.1 d (k ls H locs h1 h2 h3 h4)
theorem jv_ishr (pc : Nat) (X : CX E K cc nL own rm) {x y : Int32} (d : decode cc pc = .ok (.ishr, 1)) (k : JV E K cells slots ws lv (pc + 1) (.int (x >>> (y &&& 31)) :: rest)) : JV E K cells slots ws lv pc (.int y :: .int x :: rest) := fun ls H locs h1 h2 h3 h4 => lv_ishr X.1 X.2.1 d (k ls H locs h1 h2 h3 h4)
theorem jv_idiv (pc : Nat) (X : CX E K cc nL own rm) {x y : Int32} (d : decode cc pc = .ok (.idiv, 1)) (hne : ¬ y = 0) (k : JV E K cells slots ws lv (pc + 1) (.int (x / y) :: rest)) : JV E K cells slots ws lv pc (.int y :: .int x :: rest) := fun ls H locs h1 h2 h3 h4 => lv_idiv X.1 X.2.1 d hne (k ls H locs h1 h2 h3 h4)
theorem jv_irem (pc : Nat) (X : CX E K cc nL own rm) {x y : Int32} (d : decode cc pc = .ok (.irem, 1)) (hne : ¬ y = 0) (k : JV E K cells slots ws lv (pc + 1) (.int (x - x / y * y) :: rest)) : JV E K cells slots ws lv pc (.int y :: .int x :: rest) := fun ls H locs h1 h2 h3 h4 => lv_irem X.1 X.2.1 d hne (k ls H locs h1 h2 h3 h4)
theorem jv_ineg (pc : Nat) (X : CX E K cc nL own rm) {x : Int32} (d : decode cc pc = .ok (.ineg, 1)) (k : JV E K cells slots ws lv (pc + 1) (.int (-x) :: rest)) : JV E K cells slots ws lv pc (.int x :: rest) := fun ls H locs h1 h2 h3 h4 => lv_ineg X.1 X.2.1 d (k ls H locs h1 h2 h3 h4)
theorem jv_ladd (pc : Nat) (X : CX E K cc nL own rm) {x y : Int64} (d : decode cc pc = .ok (.ladd, 1)) (k : JV E K cells slots ws lv (pc + 1) (.long (x + y) :: rest)) : JV E K cells slots ws lv pc (.long y :: .long x :: rest) := fun ls H locs h1 h2 h3 h4 => lv_ladd X.1 X.2.1 d (k ls H locs h1 h2 h3 h4)
theorem jv_lmul (pc : Nat) (X : CX E K cc nL own rm) {x y : Int64} (d : decode cc pc = .ok (.lmul, 1)) (k : JV E K cells slots ws lv (pc + 1) (.long (x * y) :: rest)) : JV E K cells slots ws lv pc (.long y :: .long x :: rest) := fun ls H locs h1 h2 h3 h4 => lv_lmul X.1 X.2.1 d (k ls H locs h1 h2 h3 h4)
theorem jv_ldiv (pc : Nat) (X : CX E K cc nL own rm) {x y : Int64} (d : decode cc pc = .ok (.ldiv, 1)) (hne : ¬ y = 0) (k : JV E K cells slots ws lv (pc + 1) (.long (x / y) :: rest)) : JV E K cells slots ws lv pc (.long y :: .long x :: rest) := fun ls H locs h1 h2 h3 h4 => lv_ldiv X.1 X.2.1 d hne (k ls H locs h1 h2 h3 h4)
theorem jv_lrem (pc : Nat) (X : CX E K cc nL own rm) {x y : Int64} (d : decode cc pc = .ok (.lrem, 1)) (hne : ¬ y = 0) (k : JV E K cells slots ws lv (pc + 1) (.long (x - x / y * y) :: rest)) : JV E K cells slots ws lv pc (.long y :: .long x :: rest) := fun ls H locs h1 h2 h3 h4 => lv_lrem X.1 X.2.1 d hne (k ls H locs h1 h2 h3 h4)
theorem jv_i2l (pc : Nat) (X : CX E K cc nL own rm) {x : Int32} (d : decode cc pc = .ok (.i2l, 1)) (k : JV E K cells slots ws lv (pc + 1) (.long x.toInt64 :: rest)) : JV E K cells slots ws lv pc (.int x :: rest) := fun ls H locs h1 h2 h3 h4 => lv_i2l X.1 X.2.1 d rfl (k ls H locs h1 h2 h3 h4)
theorem jv_lcmp (pc : Nat) (X : CX E K cc nL own rm) {x y : Int64} (d : decode cc pc = .ok (.lcmp, 1)) (k : JV E K cells slots ws lv (pc + 1) (.int (lg_cmp x y) :: rest)) : JV E K cells slots ws lv pc (.long y :: .long x :: rest) := fun ls H locs h1 h2 h3 h4 => W.lcmp X.1 X.2.1 d (k ls H locs h1 h2 h3 h4)
theorem jv_dup (pc : Nat) (X : CX E K cc nL own rm) {va : Value} (d : decode cc pc = .ok (.dup, 1)) (hva : va.category = 1) (k : JV E K cells slots ws lv (pc + 1) (va :: va :: rest)) : JV E K cells slots ws lv pc (va :: rest) := fun ls H locs h1 h2 h3 h4 => lv_dup X.1 X.2.1 d hva (k ls H locs h1 h2 h3 h4)
theorem jv_pop (pc : Nat) (X : CX E K cc nL own rm) {va : Value} (d : decode cc pc = .ok (.pop, 1)) (hva : va.category = 1) (k : JV E K cells slots ws lv (pc + 1) rest) : JV E K cells slots ws lv pc (va :: rest) := fun ls H locs h1 h2 h3 h4 => lv_pop X.1 X.2.1 d hva (k ls H locs h1 h2 h3 h4)
theorem jv_dup2 (pc : Nat) (X : CX E K cc nL own rm) {va vb : Value} (d : decode cc pc = .ok (.dup2, 1)) (hva : va.category = 1) (hvb : vb.category = 1) (k : JV E K cells slots ws lv (pc + 1) (va :: vb :: va :: vb :: rest)) : JV E K cells slots ws lv pc (va :: vb :: rest) := fun ls H locs h1 h2 h3 h4 => lv_dup2_11 X.1 X.2.1 d hva hvb (k ls H locs h1 h2 h3 h4)
theorem jv_if_eq (pc : Nat) (X : CX E K cc nL own rm) {x : Int32} {off : Int} (d : decode cc pc = .ok (.ifCond .eq off, 3)) (tgt : Nat) (ht : (pc : Int) + off = (tgt : Int)) (kt : x = 0 → JV E K cells slots ws lv tgt rest) (kf : ¬ x = 0 → JV E K cells slots ws lv (pc + 3) rest) : JV E K cells slots ws lv pc (.int x :: rest) := fun ls H locs h1 h2 h3 h4 => lv_if_eq X.1 X.2.1 d ht (fun c => kt c ls H locs h1 h2 h3 h4) (fun c => kf c ls H locs h1 h2 h3 h4)
theorem jv_icmp_eq (pc : Nat) (X : CX E K cc nL own rm) {x y : Int32} {off : Int} (d : decode cc pc = .ok (.if_icmp .eq off, 3)) (tgt : Nat) (ht : (pc : Int) + off = (tgt : Int)) (kt : x = y → JV E K cells slots ws lv tgt rest) (kf : ¬ x = y → JV E K cells slots ws lv (pc + 3) rest) : JV E K cells slots ws lv pc (.int y :: .int x :: rest) := fun ls H locs h1 h2 h3 h4 => lv_icmp_eq X.1 X.2.1 d ht (fun c => kt c ls H locs h1 h2 h3 h4) (fun c => kf c ls H locs h1 h2 h3 h4)
theorem jv_if_ne (pc : Nat) (X : CX E K cc nL own rm) {x : Int32} {off : Int} (d : decode cc pc = .ok (.ifCond .ne off, 3)) (tgt : Nat) (ht : (pc : Int) + off = (tgt : Int)) (kt : ¬ x = 0 → JV E K cells slots ws lv tgt rest) (kf : x = 0 → JV E K cells slots ws lv (pc + 3) rest) : JV E K cells slots ws lv pc (.int x :: rest) := fun ls H locs h1 h2 h3 h4 => lv_if_ne X.1 X.2.1 d ht (fun c => kt c ls H locs h1 h2 h3 h4) (fun c => kf c ls H locs h1 h2 h3 h4)
theorem jv_icmp_ne (pc : Nat) (X : CX E K cc nL own rm) {x y : Int32} {off : Int} (d : decode cc pc = .ok (.if_icmp .ne off, 3)) (tgt : Nat) (ht : (pc : Int) + off = (tgt : Int)) (kt : ¬ x = y → JV E K cells slots ws lv tgt rest) (kf : x = y → JV E K cells slots ws lv (pc + 3) rest) : JV E K cells slots ws lv pc (.int y :: .int x :: rest) := fun ls H locs h1 h2 h3 h4 => lv_icmp_ne X.1 X.2.1 d ht (fun c => kt c ls H locs h1 h2 h3 h4) (fun c => kf c ls H locs h1 h2 h3 h4)
theorem jv_if_lt (pc : Nat) (X : CX E K cc nL own rm) {x : Int32} {off : Int} (d : decode cc pc = .ok (.ifCond .lt off, 3)) (tgt : Nat) (ht : (pc : Int) + off = (tgt : Int)) (kt : x < 0 → JV E K cells slots ws lv tgt rest) (kf : ¬ x < 0 → JV E K cells slots ws lv (pc + 3) rest) : JV E K cells slots ws lv pc (.int x :: rest) := fun ls H locs h1 h2 h3 h4 => lv_if_lt X.1 X.2.1 d ht (fun c => kt c ls H locs h1 h2 h3 h4) (fun c => kf c ls H locs h1 h2 h3 h4)
theorem jv_icmp_lt (pc : Nat) (X : CX E K cc nL own rm) {x y : Int32} {off : Int} (d : decode cc pc = .ok (.if_icmp .lt off, 3)) (tgt : Nat) (ht : (pc : Int) + off = (tgt : Int)) (kt : x < y → JV E K cells slots ws lv tgt rest) (kf : ¬ x < y → JV E K cells slots ws lv (pc + 3) rest) : JV E K cells slots ws lv pc (.int y :: .int x :: rest) := fun ls H locs h1 h2 h3 h4 => lv_icmp_lt X.1 X.2.1 d ht (fun c => kt c ls H locs h1 h2 h3 h4) (fun c => kf c ls H locs h1 h2 h3 h4)
theorem jv_if_ge (pc : Nat) (X : CX E K cc nL own rm) {x : Int32} {off : Int} (d : decode cc pc = .ok (.ifCond .ge off, 3)) (tgt : Nat) (ht : (pc : Int) + off = (tgt : Int)) (kt : 0 ≤ x → JV E K cells slots ws lv tgt rest) (kf : ¬ 0 ≤ x → JV E K cells slots ws lv (pc + 3) rest) : JV E K cells slots ws lv pc (.int x :: rest) := fun ls H locs h1 h2 h3 h4 => lv_if_ge X.1 X.2.1 d ht (fun c => kt c ls H locs h1 h2 h3 h4) (fun c => kf c ls H locs h1 h2 h3 h4)
theorem jv_icmp_ge (pc : Nat) (X : CX E K cc nL own rm) {x y : Int32} {off : Int} (d : decode cc pc = .ok (.if_icmp .ge off, 3)) (tgt : Nat) (ht : (pc : Int) + off = (tgt : Int)) (kt : y ≤ x → JV E K cells slots ws lv tgt rest) (kf : ¬ y ≤ x → JV E K cells slots ws lv (pc + 3) rest) : JV E K cells slots ws lv pc (.int y :: .int x :: rest) := fun ls H locs h1 h2 h3 h4 => lv_icmp_ge X.1 X.2.1 d ht (fun c => kt c ls H locs h1 h2 h3 h4) (fun c => kf c ls H locs h1 h2 h3 h4)
theorem jv_if_gt (pc : Nat) (X : CX E K cc nL own rm) {x : Int32} {off : Int} (d : decode cc pc = .ok (.ifCond .gt off, 3)) (tgt : Nat) (ht : (pc : Int) + off = (tgt : Int)) (kt : 0 < x → JV E K cells slots ws lv tgt rest) (kf : ¬ 0 < x → JV E K cells slots ws lv (pc + 3) rest) : JV E K cells slots ws lv pc (.int x :: rest) := fun ls H locs h1 h2 h3 h4 => lv_if_gt X.1 X.2.1 d ht (fun c => kt c ls H locs h1 h2 h3 h4) (fun c => kf c ls H locs h1 h2 h3 h4)
theorem jv_icmp_gt (pc : Nat) (X : CX E K cc nL own rm) {x y : Int32} {off : Int} (d : decode cc pc = .ok (.if_icmp .gt off, 3)) (tgt : Nat) (ht : (pc : Int) + off = (tgt : Int)) (kt : y < x → JV E K cells slots ws lv tgt rest) (kf : ¬ y < x → JV E K cells slots ws lv (pc + 3) rest) : JV E K cells slots ws lv pc (.int y :: .int x :: rest) := fun ls H locs h1 h2 h3 h4 => lv_icmp_gt X.1 X.2.1 d ht (fun c => kt c ls H locs h1 h2 h3 h4) (fun c => kf c ls H locs h1 h2 h3 h4)
theorem jv_if_le (pc : Nat) (X : CX E K cc nL own rm) {x : Int32} {off : Int} (d : decode cc pc = .ok (.ifCond .le off, 3)) (tgt : Nat) (ht : (pc : Int) + off = (tgt : Int)) (kt : x ≤ 0 → JV E K cells slots ws lv tgt rest) (kf : ¬ x ≤ 0 → JV E K cells slots ws lv (pc + 3) rest) : JV E K cells slots ws lv pc (.int x :: rest) := fun ls H locs h1 h2 h3 h4 => lv_if_le X.1 X.2.1 d ht (fun c => kt c ls H locs h1 h2 h3 h4) (fun c => kf c ls H locs h1 h2 h3 h4)
theorem jv_icmp_le (pc : Nat) (X : CX E K cc nL own rm) {x y : Int32} {off : Int} (d : decode cc pc = .ok (.if_icmp .le off, 3)) (tgt : Nat) (ht : (pc : Int) + off = (tgt : Int)) (kt : x ≤ y → JV E K cells slots ws lv tgt rest) (kf : ¬ x ≤ y → JV E K cells slots ws lv (pc + 3) rest) : JV E K cells slots ws lv pc (.int y :: .int x :: rest) := fun ls H locs h1 h2 h3 h4 => lv_icmp_le X.1 X.2.1 d ht (fun c => kt c ls H locs h1 h2 h3 h4) (fun c => kf c ls H locs h1 h2 h3 h4)
def zI (P : Prop) [Decidable P] : Int32 := if P then 1 else 0
theorem zI_0 {P : Prop} [Decidable P] : zI P = 0 ↔ ¬ P := by unfold zI; split <;> simp [*]
theorem jv_z_eq (pc : Nat) (X : CX E K cc nL own rm) {P : Prop} {iP : Decidable P} {off : Int} (d : decode cc pc = .ok (.ifCond .eq off, 3)) (tgt : Nat) (ht : (pc : Int) + off = (tgt : Int)) (kt : ¬ P → JV E K cells slots ws lv tgt rest) (kf : P → JV E K cells slots ws lv (pc + 3) rest) : JV E K cells slots ws lv pc (.int (zI P) :: rest) := jv_if_eq pc X d tgt ht (fun c => kt (zI_0.mp c)) (fun c => kf (Classical.byContradiction fun z => c (zI_0.mpr z)))
theorem jv_z_ne (pc : Nat) (X : CX E K cc nL own rm) {P : Prop} {iP : Decidable P} {off : Int} (d : decode cc pc = .ok (.ifCond .ne off, 3)) (tgt : Nat) (ht : (pc : Int) + off = (tgt : Int)) (kt : P → JV E K cells slots ws lv tgt rest) (kf : ¬ P → JV E K cells slots ws lv (pc + 3) rest) : JV E K cells slots ws lv pc (.int (zI P) :: rest) := jv_if_ne pc X d tgt ht (fun c => kt (Classical.byContradiction fun z => c (zI_0.mpr z))) (fun c => kf (zI_0.mp c))
theorem jv_goto (pc : Nat) (X : CX E K cc nL own rm) {off : Int} (d : decode cc pc = .ok (.goto off, 3)) (tgt : Nat) (ht : (pc : Int) + off = (tgt : Int)) (k : JV E K cells slots ws lv tgt rest) : JV E K cells slots ws lv pc rest := fun ls H locs h1 h2 h3 h4 => lv_goto X.1 X.2.1 d ht (k ls H locs h1 h2 h3 h4)
theorem jv_tabIn (pc : Nat) (X : CX E K cc nL own rm) {dflt lo hi : Int} {offs : Array Int} {len : Nat} {x : Int32} {off : Int} (d : decode cc pc = .ok (.tableswitch dflt lo hi offs, len)) (tgt : Nat) (h5 : ¬ x.toInt < lo) (h6 : ¬ hi < x.toInt) (ho : offs[(x.toInt - lo).toNat]? = some off) (ht : (pc : Int) + off = (tgt : Int)) (k : JV E K cells slots ws lv tgt rest) : JV E K cells slots ws lv pc (.int x :: rest) := fun ls H locs h1 h2 h3 h4 => lv_tableIn X.1 X.2.1 d h5 h6 ho ht (k ls H locs h1 h2 h3 h4)
theorem jv_tabOut (pc : Nat) (X : CX E K cc nL own rm) {dflt lo hi : Int} {offs : Array Int} {len : Nat} {x : Int32} (d : decode cc pc = .ok (.tableswitch dflt lo hi offs, len)) (tgt : Nat) (h : x.toInt < lo ∨ hi < x.toInt) (ht : (pc : Int) + dflt = (tgt : Int)) (k : JV E K cells slots ws lv tgt rest) : JV E K cells slots ws lv pc (.int x :: rest) := fun ls H locs h1 h2 h3 h4 => lv_tableOut X.1 X.2.1 d h ht (k ls H locs h1 h2 h3 h4)
theorem jv_look (pc : Nat) (X : CX E K cc nL own rm) {dflt : Int} {ps : Array (Int × Int)} {len : Nat} {x : Int32} {off : Int} (d : decode cc pc = .ok (.lookupswitch dflt ps, len)) (tgt : Nat) (hp : (ps.toList.zip (ps.toList.drop 1)).all (fun (a, next) => a.1 < next.1) = true) (ho : Op.lookupswitch.offset ps.toList dflt x.toInt = off) (ht : (pc : Int) + off = (tgt : Int)) (k : JV E K cells slots ws lv tgt rest) : JV E K cells slots ws lv pc (.int x :: rest) := fun ls H locs h1 h2 h3 h4 => lv_lookup X.1 X.2.1 d hp ho ht (k ls H locs h1 h2 h3 h4)
theorem jv_iret {S : Type} {r0 : S → Option Value} {wo : S → va_W} (pc : Nat) (X : CX E K cc nL own rm) {v : Int32} {ret : Option FieldType} (Y : RX E K cells slots ret r0 wo) (hr : ret = some .int) (d : decode cc pc = .ok (.ireturn, 1)) (u : S) (hv : some (.int v) = r0 u) (hw : ws = wo u) : JV E K cells slots ws lv pc [.int v] := by
  intro ls H locs h1 h2 h3 h4
  rw [Y.2]
  exact W.iret X.1 X.2.1 (Y.1.trans hr) (fun t ht hW => ⟨⟨u, by rw [hv], by rw [ht, ← hw]; exact h2, by rw [← hw]; exact h3⟩, h4.F ht⟩) h4.2.2 d (hlocks := X.2.2.2.2.2.2.2.2.2)
theorem jv_zret {S : Type} {r0 : S → Option Value} {wo : S → va_W} (pc : Nat) (X : CX E K cc nL own rm) {v : Int32} {ret : Option FieldType} (Y : RX E K cells slots ret r0 wo) (hr : ret = some .boolean) (hn : narrow .boolean (.int v) = .int v) (d : decode cc pc = .ok (.ireturn, 1)) (u : S) (hv : some (.int v) = r0 u) (hw : ws = wo u) : JV E K cells slots ws lv pc [.int v] := by
  intro ls H locs h1 h2 h3 h4
  rw [Y.2]
  exact W.zret X.1 X.2.1 (Y.1.trans hr) hn (fun t ht hW => ⟨⟨u, by rw [hv], by rw [ht, ← hw]; exact h2, by rw [← hw]; exact h3⟩, h4.F ht⟩) h4.2.2 d (hlocks := X.2.2.2.2.2.2.2.2.2)
theorem jv_lret {S : Type} {r0 : S → Option Value} {wo : S → va_W} (pc : Nat) (X : CX E K cc nL own rm) {v : Int64} {ret : Option FieldType} (Y : RX E K cells slots ret r0 wo) (hr : ret = some .long) (d : decode cc pc = .ok (.lreturn, 1)) (u : S) (hv : some (.long v) = r0 u) (hw : ws = wo u) : JV E K cells slots ws lv pc [.long v] := by
  intro ls H locs h1 h2 h3 h4
  rw [Y.2]
  exact W.lret X.1 X.2.1 (Y.1.trans hr) (fun t ht hW => ⟨⟨u, by rw [hv], by rw [ht, ← hw]; exact h2, by rw [← hw]; exact h3⟩, h4.F ht⟩) h4.2.2 d (hlocks := X.2.2.2.2.2.2.2.2.2)
theorem jv_vret {S : Type} {r0 : S → Option Value} {wo : S → va_W} (pc : Nat) (X : CX E K cc nL own rm)  {ret : Option FieldType} (Y : RX E K cells slots ret r0 wo) (hr : ret = none) (d : decode cc pc = .ok (.return_, 1)) (u : S) (hv : none = r0 u) (hw : ws = wo u) : JV E K cells slots ws lv pc [] := by
  intro ls H locs h1 h2 h3 h4
  rw [Y.2]
  exact W.vret X.1 X.2.1 (Y.1.trans hr) (fun t ht hW => ⟨⟨u, by rw [hv], by rw [ht, ← hw]; exact h2, by rw [← hw]; exact h3⟩, h4.F ht⟩) h4.2.2 d (hlocks := X.2.2.2.2.2.2.2.2.2)
theorem jv_aret {S : Type} {r0 : S → Option Value} {wo : S → va_W} (pc : Nat) (X : CX E K cc nL own rm) {v : Nat} {cn : String} {ret : Option FieldType} (Y : RX E K cells slots ret r0 wo) (hr : ret = some (.object cn)) (d : decode cc pc = .ok (.areturn, 1)) (u : S) (hv : some (.ref v) = r0 u) (hw : ws = wo u) : JV E K cells slots ws lv pc [.ref v] := by
  intro ls H locs h1 h2 h3 h4
  rw [Y.2]
  exact W.aret X.1 X.2.1 (Y.1.trans hr) (Or.inl ⟨_, rfl⟩) (Or.inr ⟨_, rfl⟩) (fun t ht hW => ⟨⟨u, by rw [hv], by rw [ht, ← hw]; exact h2, by rw [← hw]; exact h3⟩, h4.F ht⟩) h4.2.2 d (hlocks := X.2.2.2.2.2.2.2.2.2)
end RowsA
end
section
section RowsB
variable {E : EE} {K : Ctx} {cc : ByteArray} {nL : Nat} {own : String} {rm : Room} {cells slots : Nat} {ws ws2 : va_W} {lv : List (Nat × Value)} {rest : List Value}
def GW (own : String) (index ci : Nat) (C : String) (T : u_T) (N k : Nat) : Prop := vwCl[ci]? = some (C, T, N) ∧ (∀ w ∈ u_ws C T N, w ∈ TB) ∧ k < N ∧ Cond.fieldLink own index (T k).1 (T k).2.1 (T k).2.2.1 ∈ TB
theorem jv_get (pc : Nat) (X : CX E K cc nL own rm) {index ci : Nat} {C : String} {T : u_T} {N k : Nat} (g : GW own index ci C T N k) (d : decode cc pc = .ok (.getfield index, 3)) (q0 : Nat) {a : Nat} {fs : List Value} {v : Value} (he : ws[q0]? = some (a, .inr (ci, fs))) (hv : fs[k]? = some v) (kk : JV E K cells slots ws lv (pc + 3) (v :: rest)) : JV E K cells slots ws lv pc (.ref a :: rest) := fun ls H locs h1 h2 h3 h4 => va_get X.1 X.2.1 X.2.2.2.2.2.2.1 g.2.1 X.2.2.2.2.2.1 X.2.2.2.2.2.2.2.1.1 h2 q0 he g.1 k g.2.2.1 (X.2.2.2.2.2.2.1 _ g.2.2.2) (fun _ h => h) hv d (kk ls H locs h1 h2 h3 h4)
theorem jv_put (pc : Nat) (X : CX E K cc nL own rm) {index ci : Nat} {C : String} {T : u_T} {N k : Nat} (g : GW own index ci C T N k) {ty0 : Nat → FieldType} (hty : ∀ j, j < N → parseFieldDescriptor (T j).2.2.1 = some (ty0 j)) (hnm : ∀ a, a < N → ∀ b, b < N → a ≠ b → (T a).2.1 ≠ (T b).2.1) (hfin : (T k).2.2.2 = false) (d : decode cc pc = .ok (.putfield index, 3)) (q0 : Nat) {a : Nat} {fs : List Value} {v : Value} (he : ws[q0]? = some (a, .inr (ci, fs))) (hn : narrow (ty0 k) v = v) (hfit : fits (ty0 k) v = true) (hl : k < fs.length) (hw : ws.set q0 (a, .inr (ci, fs.set k v)) = ws2) (kk : JV E K cells slots ws2 lv (pc + 3) rest) : JV E K cells slots ws lv pc (v :: .ref a :: rest) := by
  subst hw
  exact fun ls H locs h1 h2 h3 h4 => va_put X.1 X.2.1 X.2.2.2.2.2.2.1 g.2.1 ty0 hty hnm X.2.2.2.2.2.1 X.2.2.2.2.2.2.2.1.1 h2 h3 h4 q0 he g.1 k g.2.2.1 (X.2.2.2.2.2.2.1 _ g.2.2.2) (fun _ h => h) hfin (hty k g.2.2.1) hn hfit hl d (fun H1 locs1 p1 d1 s1 => kk ls H1 locs1 h1 p1 d1 s1)
theorem jv_puti (pc : Nat) (X : CX E K cc nL own rm) {index ci : Nat} {C : String} {T : u_T} {N k : Nat} (g : GW own index ci C T N k) {ty0 : Nat → FieldType} (hty : ∀ j, j < N → parseFieldDescriptor (T j).2.2.1 = some (ty0 j)) (hnm : ∀ a, a < N → ∀ b, b < N → a ≠ b → (T a).2.1 ≠ (T b).2.1) (hfin : (T k).2.2.2 = false) (h0 : ty0 k = .int) (d : decode cc pc = .ok (.putfield index, 3)) (q0 : Nat) {a : Nat} {fs : List Value} {x : Int32} (he : ws[q0]? = some (a, .inr (ci, fs))) (hl : k < fs.length) (hw : ws.set q0 (a, .inr (ci, fs.set k (.int x))) = ws2) (kk : JV E K cells slots ws2 lv (pc + 3) rest) : JV E K cells slots ws lv pc (.int x :: .ref a :: rest) := jv_put pc X g hty hnm hfin d q0 he (by rw [h0]; rfl) (by rw [h0]; rfl) hl hw kk
theorem jv_putF (pc : Nat) (X : CX E K cc nL own rm) (hin : (kMe K).name = "<init>") {index ci : Nat} {C : String} {T : u_T} {N k : Nat} (g : GW own index ci C T N k) {ty0 : Nat → FieldType} (hty : ∀ j, j < N → parseFieldDescriptor (T j).2.2.1 = some (ty0 j)) (hnm : ∀ a, a < N → ∀ b, b < N → a ≠ b → (T a).2.1 ≠ (T b).2.1) (hfin : (T k).2.2.2 = true) (hdecl : (T k).1 = own) (d : decode cc pc = .ok (.putfield index, 3)) (q0 : Nat) {a : Nat} {fs : List Value} {v : Value} (he : ws[q0]? = some (a, .inr (ci, fs))) (hn : narrow (ty0 k) v = v) (hfit : fits (ty0 k) v = true) (hl : k < fs.length) (hw : ws.set q0 (a, .inr (ci, fs.set k v)) = ws2) (kk : JV E K cells slots ws2 lv (pc + 3) rest) : JV E K cells slots ws lv pc (v :: .ref a :: rest) := by
  subst hw
  exact fun ls H locs h1 h2 h3 h4 => va_putF X.1 X.2.1 X.2.2.2.2.2.2.1 g.2.1 ty0 hty hnm X.2.2.2.2.2.1 X.2.2.2.2.2.2.2.1.1 h2 h3 h4 q0 he g.1 k g.2.2.1 (X.2.2.2.2.2.2.1 _ g.2.2.2) (fun _ h => h) hfin hin hdecl (hty k g.2.2.1) hn hfit hl d (fun H1 locs1 p1 d1 s1 => kk ls H1 locs1 h1 p1 d1 s1)
-- arrays
theorem nI_vp {i : Int32} {j n : Nat} (hi : i = nI j) (hj : j < n) (hn : n < 2147483648) : vp_in i n := by rw [hi]; exact vp_in_nI hj hn
theorem nI_cl {i : Int32} {j n : Nat} (hi : i = nI j) (hj : j < n) (hn : n < 2147483648) : i.toNatClampNeg = j := by rw [hi]; exact nI_clamp (Nat.lt_trans hj hn)
theorem jv_iald (pc : Nat) (X : CX E K cc nL own rm) (d : decode cc pc = .ok (.iaload, 1)) (q0 : Nat) {a n : Nat} {f : Nat → Int32} (he : ws[q0]? = some (a, .inl (E.2.1, n, .inl f))) (hn : n < 2147483648) {i : Int32} (j : Nat) (hi : i = nI j) (hj : j < n) (kk : JV E K cells slots ws lv (pc + 1) (.int (f j) :: rest)) : JV E K cells slots ws lv pc (.int i :: .ref a :: rest) := fun ls H locs h1 h2 h3 h4 => va_iald X.1 X.2.1 X.2.2.2.2.2.2.2.1.1 h2 q0 0 he rfl (nI_vp hi hj hn) d (by rw [nI_cl hi hj hn]; exact kk ls H locs h1 h2 h3 h4)
theorem jv_zald (pc : Nat) (X : CX E K cc nL own rm) (d : decode cc pc = .ok (.baload, 1)) (q0 : Nat) {a n : Nat} {f : Nat → Int32} (he : ws[q0]? = some (a, .inl (E.2.2.2, n, .inl f))) (hn : n < 2147483648) {i : Int32} (j : Nat) (hi : i = nI j) (hj : j < n) (kk : JV E K cells slots ws lv (pc + 1) (.int (f j) :: rest)) : JV E K cells slots ws lv pc (.int i :: .ref a :: rest) := fun ls H locs h1 h2 h3 h4 => va_zald X.1 X.2.1 X.2.2.2.2.2.2.2.1.1 h2 q0 2 he rfl (nI_vp hi hj hn) d (by rw [nI_cl hi hj hn]; exact kk ls H locs h1 h2 h3 h4)
theorem jv_lald (pc : Nat) (X : CX E K cc nL own rm) (d : decode cc pc = .ok (.laload, 1)) (q0 : Nat) {a n : Nat} {f : Nat → Int64} (he : ws[q0]? = some (a, .inl (E.2.2.1, n, .inr (.inl f)))) (hn : n < 2147483648) {i : Int32} (j : Nat) (hi : i = nI j) (hj : j < n) (kk : JV E K cells slots ws lv (pc + 1) (.long (f j) :: rest)) : JV E K cells slots ws lv pc (.int i :: .ref a :: rest) := fun ls H locs h1 h2 h3 h4 => va_lald X.1 X.2.1 X.2.2.2.2.2.2.2.1.1 h2 q0 1 he rfl (nI_vp hi hj hn) d (by rw [nI_cl hi hj hn]; exact kk ls H locs h1 h2 h3 h4)
theorem jv_iast (pc : Nat) (X : CX E K cc nL own rm) (d : decode cc pc = .ok (.iastore, 1)) (q0 : Nat) {a n : Nat} {f : Nat → Int32} (he : ws[q0]? = some (a, .inl (E.2.1, n, .inl f))) (hn : n < 2147483648) {i x : Int32} (j : Nat) (hi : i = nI j) (hj : j < n) (hw : ws.set q0 (a, .inl (E.2.1, n, .inl (upd f j x))) = ws2) (kk : JV E K cells slots ws2 lv (pc + 1) rest) : JV E K cells slots ws lv pc (.int x :: .int i :: .ref a :: rest) := by
  subst hw
  intro ls H locs h1 h2 h3 h4
  refine va_iast X.1 X.2.1 X.2.2.2.2.2.2.2.1.1 h2 h3 h4 q0 0 he rfl (nI_vp hi hj hn) d (fun H1 locs1 p1 d1 s1 => ?_)
  rw [nI_cl hi hj hn] at p1 d1
  exact kk ls H1 locs1 h1 p1 d1 s1
theorem jv_zast (pc : Nat) (X : CX E K cc nL own rm) (d : decode cc pc = .ok (.bastore, 1)) (q0 : Nat) {a n : Nat} {f : Nat → Int32} (he : ws[q0]? = some (a, .inl (E.2.2.2, n, .inl f))) (hn : n < 2147483648) {i x : Int32} (j : Nat) (hi : i = nI j) (hj : j < n) (hx : vp_nar .boolean x = x) (hw : ws.set q0 (a, .inl (E.2.2.2, n, .inl (upd f j x))) = ws2) (kk : JV E K cells slots ws2 lv (pc + 1) rest) : JV E K cells slots ws lv pc (.int x :: .int i :: .ref a :: rest) := by
  subst hw
  intro ls H locs h1 h2 h3 h4
  refine va_zast X.1 X.2.1 X.2.2.2.2.2.2.2.1.1 h2 h3 h4 q0 2 he rfl (nI_vp hi hj hn) d (fun H1 locs1 p1 d1 s1 => ?_)
  rw [nI_cl hi hj hn, hx] at p1 d1
  exact kk ls H1 locs1 h1 p1 d1 s1
theorem jv_last (pc : Nat) (X : CX E K cc nL own rm) (d : decode cc pc = .ok (.lastore, 1)) (q0 : Nat) {a n : Nat} {f : Nat → Int64} (he : ws[q0]? = some (a, .inl (E.2.2.1, n, .inr (.inl f)))) (hn : n < 2147483648) {i : Int32} {x : Int64} (j : Nat) (hi : i = nI j) (hj : j < n) (hw : ws.set q0 (a, .inl (E.2.2.1, n, .inr (.inl (vp_updL f j x)))) = ws2) (kk : JV E K cells slots ws2 lv (pc + 1) rest) : JV E K cells slots ws lv pc (.long x :: .int i :: .ref a :: rest) := by
  subst hw
  intro ls H locs h1 h2 h3 h4
  refine va_last X.1 X.2.1 X.2.2.2.2.2.2.2.1.1 h2 h3 h4 q0 1 he rfl (nI_vp hi hj hn) d (fun H1 locs1 p1 d1 s1 => ?_)
  rw [nI_cl hi hj hn] at p1 d1
  exact kk ls H1 locs1 h1 p1 d1 s1
theorem jv_alen (pc : Nat) (X : CX E K cc nL own rm) (d : decode cc pc = .ok (.arraylength, 1)) (q0 t0 : Nat) {a : Nat} {cA : ClassId} {x : vp_A} {ty : FieldType} (he : ws[q0]? = some (a, .inl (cA, x))) (ht : (eT E)[t0]? = some (cA, ty)) {v : Int32} (hv : Int32.ofNat x.1 = v) (kk : JV E K cells slots ws lv (pc + 1) (.int v :: rest)) : JV E K cells slots ws lv pc (.ref a :: rest) := fun ls H locs h1 h2 h3 h4 => va_alen X.1 X.2.1 X.2.2.2.2.2.2.2.1.1 h2 q0 t0 he ht hv d (kk ls H locs h1 h2 h3 h4)
/-- an array holds what it holds at its own places alone -/
theorem arrV_ext {cA : ClassId} {n : Nat} {f g : Nat → Value} (h : ∀ j, j < n → f j = g j) : arrV cA n f = arrV cA n g := by
  unfold arrV
  congr 1
  apply Array.ext
  · simp
  · intro i h1 h2
    simp at h1 ⊢
    exact h i h1
theorem cell_exti {cA : ClassId} {n : Nat} {f g : Nat → Int32} (h : ∀ j, j < n → f j = g j) : vp_cell cA (n, .inl f) = vp_cell cA (n, .inl g) := arrV_ext (cA := cA) (n := n) (f := fun j => .int (f j)) (g := fun j => .int (g j)) (fun j hj => by rw [h j hj])
theorem cell_extl {cA : ClassId} {n : Nat} {f g : Nat → Int64} (h : ∀ j, j < n → f j = g j) : vp_cell cA (n, .inr (.inl f)) = vp_cell cA (n, .inr (.inl g)) := arrV_ext (cA := cA) (n := n) (f := fun j => .long (f j)) (g := fun j => .long (g j)) (fun j hj => by rw [h j hj])
theorem va_P_arr {D : va_G} {cl : List vw_C} {q0 a : Nat} {e e2 : va_E} {H : Heap} (he : ws[q0]? = some (a, e)) (hx : va_at D cl (a, e) H → va_at D cl (a, e2) H) (h : va_P D cl ws H) : va_P D cl (ws.set q0 (a, e2)) H := by
  intro k q hk
  rw [List.getElem?_set] at hk
  split at hk
  · split at hk
    · cases hk
      exact hx (h q0 _ he)
    · cases hk
  · exact h k q hk
theorem jv_ext {pc : Nat} {st : List Value} (q0 : Nat) {a n : Nat} {cA : ClassId} {f : Nat → Int32} (g : Nat → Int32) (he : ws[q0]? = some (a, .inl (cA, n, .inl f))) (hfg : ∀ j, j < n → f j = g j) (hw : ws.set q0 (a, .inl (cA, n, .inl g)) = ws2) (kk : JV E K cells slots ws2 lv pc st) : JV E K cells slots ws lv pc st := by
  subst hw
  intro ls H locs h1 h2 h3 h4
  exact kk ls H locs h1 (va_P_arr he (fun h => h.trans (congrArg some (cell_exti hfg))) h2) (h3.set he) h4
theorem jv_extl {pc : Nat} {st : List Value} (q0 : Nat) {a n : Nat} {cA : ClassId} {f : Nat → Int64} (g : Nat → Int64) (he : ws[q0]? = some (a, .inl (cA, n, .inr (.inl f)))) (hfg : ∀ j, j < n → f j = g j) (hw : ws.set q0 (a, .inl (cA, n, .inr (.inl g))) = ws2) (kk : JV E K cells slots ws2 lv pc st) : JV E K cells slots ws lv pc st := by
  subst hw
  intro ls H locs h1 h2 h3 h4
  exact kk ls H locs h1 (va_P_arr he (fun h => h.trans (congrArg some (cell_extl hfg))) h2) (h3.set he) h4
-- the library's own
def WM (own : String) (index : Nat) (y : MethodName) (cy : ByteArray) (n : Nat) (ret : Option FieldType) : Prop := Cond.methodLink own index y ∈ TB ∧ Cond.static y ∈ TB ∧ Cond.initialized "java/lang/Math" ∈ TB ∧ Cond.code y cy n ret ∈ TB
theorem jv_mmax (pc : Nat) (X : CX E K cc nL own rm) {index : Nat} (hw : WM own index Lib.Math.max.name Lib.Math.max.code 2 (some .int)) (d : decode cc pc = .ok (.invokestatic index, 3)) (hf : 1 ≤ rm.frames) (hlo : (rest.map fun v => v.category).sum + 13 ≤ rm.locals) (hc : cells ≤ rm.cells ∧ slots ≤ rm.slots) {x y : Int32} (kk : JV E K cells slots ws lv (pc + 3) (.int (if x < y then y else x) :: rest)) : JV E K cells slots ws lv pc (.int y :: .int x :: rest) := fun ls H locs h1 h2 h3 h4 => va_mmax X.1 X.2.1 (X.2.2.1.trans (X.2.2.2.1.symm.trans h1.1.symm)) X.2.2.2.2.2.1 (X.2.2.2.2.2.2.1 _ hw.1) (X.2.2.2.2.2.2.1 _ hw.2.1) (X.2.2.2.2.2.2.1 _ hw.2.2.1) (X.2.2.2.2.2.2.1 _ hw.2.2.2) (by rw [X.2.2.2.2.1]; exact hf) (by rw [X.2.2.2.2.1]; exact hlo) (by rw [X.2.2.2.2.1]; exact hc.1) (by rw [X.2.2.2.2.1]; exact hc.2) d (kk ls H locs h1 h2 h3 h4)
theorem jv_mmin (pc : Nat) (X : CX E K cc nL own rm) {index : Nat} (hw : WM own index Lib.Math.min.name Lib.Math.min.code 2 (some .int)) (d : decode cc pc = .ok (.invokestatic index, 3)) (hf : 1 ≤ rm.frames) (hlo : (rest.map fun v => v.category).sum + 13 ≤ rm.locals) (hc : cells ≤ rm.cells ∧ slots ≤ rm.slots) {x y : Int32} (kk : JV E K cells slots ws lv (pc + 3) (.int (if y < x then y else x) :: rest)) : JV E K cells slots ws lv pc (.int y :: .int x :: rest) := fun ls H locs h1 h2 h3 h4 => va_mmin X.1 X.2.1 (X.2.2.1.trans (X.2.2.2.1.symm.trans h1.1.symm)) X.2.2.2.2.2.1 (X.2.2.2.2.2.2.1 _ hw.1) (X.2.2.2.2.2.2.1 _ hw.2.1) (X.2.2.2.2.2.2.1 _ hw.2.2.1) (X.2.2.2.2.2.2.1 _ hw.2.2.2) (by rw [X.2.2.2.2.1]; exact hf) (by rw [X.2.2.2.2.1]; exact hlo) (by rw [X.2.2.2.2.1]; exact hc.1) (by rw [X.2.2.2.2.1]; exact hc.2) d (kk ls H locs h1 h2 h3 h4)
theorem jv_mabs (pc : Nat) (X : CX E K cc nL own rm) {index : Nat} (hw : WM own index Lib.Math.abs.name Lib.Math.abs.code 1 (some .int)) (d : decode cc pc = .ok (.invokestatic index, 3)) (hf : 1 ≤ rm.frames) (hlo : (rest.map fun v => v.category).sum + 13 ≤ rm.locals) (hc : cells ≤ rm.cells ∧ slots ≤ rm.slots) {x : Int32} (kk : JV E K cells slots ws lv (pc + 3) (.int (if 0 ≤ x then x else 0 - x) :: rest)) : JV E K cells slots ws lv pc (.int x :: rest) := fun ls H locs h1 h2 h3 h4 => va_mabs X.1 X.2.1 (X.2.2.1.trans (X.2.2.2.1.symm.trans h1.1.symm)) X.2.2.2.2.2.1 (X.2.2.2.2.2.2.1 _ hw.1) (X.2.2.2.2.2.2.1 _ hw.2.1) (X.2.2.2.2.2.2.1 _ hw.2.2.1) (X.2.2.2.2.2.2.1 _ hw.2.2.2) (by rw [X.2.2.2.2.1]; exact hf) (by rw [X.2.2.2.2.1]; exact hlo) (by rw [X.2.2.2.2.1]; exact hc.1) (by rw [X.2.2.2.2.1]; exact hc.2) d (kk ls H locs h1 h2 h3 h4)
theorem jv_mmaxl (pc : Nat) (X : CX E K cc nL own rm) {index : Nat} (hw : WM own index Lib.MathLoose.max_long.x Lib.MathLoose.max_long.code 4 (some .long)) (d : decode cc pc = .ok (.invokestatic index, 3)) (hf : 1 ≤ rm.frames) (hlo : (rest.map fun v => v.category).sum + 15 ≤ rm.locals) (hc : cells ≤ rm.cells ∧ slots ≤ rm.slots) {x y : Int64} (kk : JV E K cells slots ws lv (pc + 3) (.long (if y < x then x else y) :: rest)) : JV E K cells slots ws lv pc (.long y :: .long x :: rest) := fun ls H locs h1 h2 h3 h4 => va_mmax_long X.1 X.2.1 (X.2.2.1.trans (X.2.2.2.1.symm.trans h1.1.symm)) X.2.2.2.2.2.1 (X.2.2.2.2.2.2.1 _ hw.1) (X.2.2.2.2.2.2.1 _ hw.2.1) (X.2.2.2.2.2.2.1 _ hw.2.2.1) (X.2.2.2.2.2.2.1 _ hw.2.2.2) (by rw [X.2.2.2.2.1]; exact hf) (by rw [X.2.2.2.2.1]; exact hlo) (by rw [X.2.2.2.2.1]; exact hc.1) (by rw [X.2.2.2.2.1]; exact hc.2) d (kk ls H locs h1 h2 h3 h4)
theorem cpy_all {α : Type} (f g : Nat → α) (n j : Nat) (h : j < n) : va_cpy f g 0 0 n j = f j := by
  unfold va_cpy
  rw [if_pos ⟨Nat.zero_le j, by omega⟩]
  simp
def WA (own : String) (index : Nat) : Prop := Cond.methodLink own index arraycopyName ∈ TB ∧ Cond.native arraycopyName ∈ TB ∧ Cond.static arraycopyName ∈ TB ∧ Cond.initialized "java/lang/System" ∈ TB
abbrev va_E_cpy (E : EE) (n : Nat) (f g : Nat → Int32) : va_E := .inl (E.2.1, n, .inl (va_cpy f g 0 0 n))
abbrev va_E_cpl (E : EE) (n : Nat) (f g : Nat → Int64) : va_E := .inl (E.2.2.1, n, .inr (.inl (va_cpy f g 0 0 n)))
/-- a whole int array over another of its length -/
theorem jv_copyi (pc : Nat) (X : CX E K cc nL own rm) {index : Nat} (hwa : WA own index) (d : decode cc pc = .ok (.invokestatic index, 3)) (q0 q1 : Nat) {a0 a1 n : Nat} {f g : Nat → Int32} (he0 : ws[q0]? = some (a0, .inl (E.2.1, n, .inl f))) (he1 : ws[q1]? = some (a1, .inl (E.2.1, n, .inl g))) {i : Int32} (hi : i = nI n) (hn : n < 2147483648) (hf : 1 ≤ rm.frames) (hlo : (rest.map fun v => v.category).sum + (nativeFrameWords "java/lang/System" "arraycopy" 5 + 11) ≤ rm.locals) (hw : ws.set q1 (a1, .inl (E.2.1, n, .inl f)) = ws2) (kk : JV E K cells slots ws2 lv (pc + 3) rest) : JV E K cells slots ws lv pc (.int i :: .int 0 :: .ref a1 :: .int 0 :: .ref a0 :: rest) := by
  subst hw
  intro ls H locs h1 h2 h3 h4
  have e0 : (0 : Int32).toNatClampNeg = 0 := by decide
  have en : i.toNatClampNeg = n := by rw [hi]; exact nI_clamp hn
  refine va_copyi X.1 X.2.1 (X.2.2.1.trans (X.2.2.2.1.symm.trans h1.1.symm)) X.2.2.2.2.2.1 (X.2.2.2.2.2.2.1 _ hwa.1) (X.2.2.2.2.2.2.1 _ hwa.2.1) (X.2.2.2.2.2.2.1 _ hwa.2.2.1) (X.2.2.2.2.2.2.1 _ hwa.2.2.2) X.2.2.2.2.2.2.2.1.1 h2 h3 h4 q0 q1 0 0 he0 he1 rfl rfl rfl (by decide) (by decide) (by rw [hi]; exact nI_pos hn) (by rw [e0, en]; omega) (by rw [e0, en]; omega) (fun _ _ => rfl) (by rw [X.2.2.2.2.1]; exact hf) (by rw [X.2.2.2.2.1]; exact hlo) d (fun H1 locs1 p1 d1 s1 => ?_)
  rw [e0, en] at p1 d1
  have hq1 : (ws.set q1 (a1, va_E_cpy E n f g))[q1]? = some (a1, va_E_cpy E n f g) := by
    rw [List.getElem?_set_self (List.getElem?_eq_some_iff.mp he1).1]
  have p2 := va_P_arr (e2 := .inl (E.2.1, n, .inl f)) hq1 (fun h => h.trans (congrArg some (cell_exti (fun j hj => cpy_all f g n j hj)))) p1
  have d2 := d1.set (e := .inl (E.2.1, n, .inl f)) hq1
  rw [show (ws.set q1 (a1, va_E_cpy E n f g)).set q1 (a1, .inl (E.2.1, n, .inl f)) = ws.set q1 (a1, .inl (E.2.1, n, .inl f)) from List.set_set ..] at p2 d2
  exact kk ls H1 locs1 h1 p2 d2 s1
/-- a whole long array over another of its length -/
theorem jv_copyl (pc : Nat) (X : CX E K cc nL own rm) {index : Nat} (hwa : WA own index) (d : decode cc pc = .ok (.invokestatic index, 3)) (q0 q1 : Nat) {a0 a1 n : Nat} {f g : Nat → Int64} (he0 : ws[q0]? = some (a0, .inl (E.2.2.1, n, .inr (.inl f)))) (he1 : ws[q1]? = some (a1, .inl (E.2.2.1, n, .inr (.inl g)))) {i : Int32} (hi : i = nI n) (hn : n < 2147483648) (hf : 1 ≤ rm.frames) (hlo : (rest.map fun v => v.category).sum + (nativeFrameWords "java/lang/System" "arraycopy" 5 + 11) ≤ rm.locals) (hw : ws.set q1 (a1, .inl (E.2.2.1, n, .inr (.inl f))) = ws2) (kk : JV E K cells slots ws2 lv (pc + 3) rest) : JV E K cells slots ws lv pc (.int i :: .int 0 :: .ref a1 :: .int 0 :: .ref a0 :: rest) := by
  subst hw
  intro ls H locs h1 h2 h3 h4
  have e0 : (0 : Int32).toNatClampNeg = 0 := by decide
  have en : i.toNatClampNeg = n := by rw [hi]; exact nI_clamp hn
  refine va_copyl X.1 X.2.1 (X.2.2.1.trans (X.2.2.2.1.symm.trans h1.1.symm)) X.2.2.2.2.2.1 (X.2.2.2.2.2.2.1 _ hwa.1) (X.2.2.2.2.2.2.1 _ hwa.2.1) (X.2.2.2.2.2.2.1 _ hwa.2.2.1) (X.2.2.2.2.2.2.1 _ hwa.2.2.2) X.2.2.2.2.2.2.2.1.1 h2 h3 h4 q0 q1 1 1 he0 he1 rfl rfl rfl (by decide) (by decide) (by rw [hi]; exact nI_pos hn) (by rw [e0, en]; omega) (by rw [e0, en]; omega) (fun _ _ => rfl) (by rw [X.2.2.2.2.1]; exact hf) (by rw [X.2.2.2.2.1]; exact hlo) d (fun H1 locs1 p1 d1 s1 => ?_)
  rw [e0, en] at p1 d1
  have hq1 : (ws.set q1 (a1, va_E_cpl E n f g))[q1]? = some (a1, va_E_cpl E n f g) := by
    rw [List.getElem?_set_self (List.getElem?_eq_some_iff.mp he1).1]
  have p2 := va_P_arr (e2 := .inl (E.2.2.1, n, .inr (.inl f))) hq1 (fun h => h.trans (congrArg some (cell_extl (fun j hj => cpy_all f g n j hj)))) p1
  have d2 := d1.set (e := .inl (E.2.2.1, n, .inr (.inl f))) hq1
  rw [show (ws.set q1 (a1, va_E_cpl E n f g)).set q1 (a1, .inl (E.2.2.1, n, .inr (.inl f))) = ws.set q1 (a1, .inl (E.2.2.1, n, .inr (.inl f))) from List.set_set ..] at p2 d2
  exact kk ls H1 locs1 h1 p2 d2 s1
end RowsB
end
section
def WV (own : String) (index : Nat) (y : MethodName) (cy : ByteArray) (n : Nat) (ret : Option FieldType) (k : Nat) : Prop := Cond.methodLink own index y ∈ TB ∧ Cond.instanceMethod y ∈ TB ∧ Cond.selects y.cls y y ∈ TB ∧ Cond.initialized y.cls ∈ TB ∧ Cond.code y cy n ret ∈ TB ∧ y.cls ≠ "java/lang/invoke/MethodHandle" ∧ y.cls ≠ "java/lang/invoke/VarHandle" ∧ (parseMethodDescriptor y.desc).map (fun d => d.parameters.length) = some k
def WS (own : String) (index : Nat) (y : MethodName) (cy : ByteArray) (n : Nat) (ret : Option FieldType) (k : Nat) : Prop := Cond.methodLink own index y ∈ TB ∧ Cond.static y ∈ TB ∧ Cond.initialized y.cls ∈ TB ∧ Cond.code y cy n ret ∈ TB ∧ y.cls ≠ "java/lang/invoke/MethodHandle" ∧ y.cls ≠ "java/lang/invoke/VarHandle" ∧ (parseMethodDescriptor y.desc).map (fun d => d.parameters.length) = some k
def WI (own : String) (index : Nat) (y : MethodName) (cy : ByteArray) (n : Nat) (k : Nat) : Prop := Cond.methodLink own index y ∈ TB ∧ Cond.instanceMethod y ∈ TB ∧ Cond.initialized y.cls ∈ TB ∧ Cond.code y cy n none ∈ TB ∧ y.name = "<init>" ∧ y.cls ≠ "java/lang/invoke/MethodHandle" ∧ y.cls ≠ "java/lang/invoke/VarHandle" ∧ (parseMethodDescriptor y.desc).map (fun d => d.parameters.length) = some k
def WN (own : String) (index : Nat) (y : MethodName) (host : String) (cy : ByteArray) (n : Nat) (ret : Option FieldType) (k : Nat) : Prop := Cond.static y ∈ TB ∧ Cond.initialized y.cls ∈ TB ∧ Cond.code y cy n ret ∈ TB ∧ y.cls ≠ "java/lang/invoke/MethodHandle" ∧ y.cls ≠ "java/lang/invoke/VarHandle" ∧ (parseMethodDescriptor y.desc).map (fun d => d.parameters.length) = some k ∧ ∀ (E : EE) (U : State), EV E U → va_Nw (.methodLinkNest own index y host) U
section CallG
variable {p : Program} {l : Launch} {e : Env} {R : Room} {s : State} {m : MethodId} {args : Array Value} {below : List Frame} {meth : Method} {c : Code} {H : Heap} {locs : List Loc} {cells slots : Nat} {Q : State → Prop}
variable {pc : Nat} {ls : Array Slot} {rest st0 : List Value} {a : Array Value} {A0 A1 : Nat → Prop} {H0 : Heap} {mc ms : Nat} {free : Addr → Prop}
theorem vg_call {S : Type} {E : EE} {r0 : S → Option Value} {wo : S → va_W} (hr : va_Run p l e R s m args below meth c H locs cells slots mc ms (F0 m pc ls st0) rest (QG E r0 wo A1 a) free) (hS : va_S A0 H0 H locs) (hA : ∀ q, q < H.size → A1 q → A0 q) (hf : ∀ q, free q → A0 q)
    (kk : ∀ (u : S) (H1 : Heap) (locs1 : List Loc), va_P E.1 vwCl (wo u) H1 → va_D A1 (wo u) → H.size ≤ H1.size → (∀ q : Nat, q < H.size → ¬ A1 q → H1[q]? = H[q]?) → va_S A0 H0 H1 locs1 → W p l e R s m args below meth c H1 locs1 (cells + mc) (slots + ms) Q (F0 m (pc + 3) ls ((r0 u).toList ++ rest))) : W p l e R s m args below meth c H locs cells slots Q (F0 m pc ls st0) := by
  intro T hT X
  obtain ⟨v, st₀, t, T', L, h0, X', hL, e1, e2, ⟨⟨u, hv, hp, hb⟩, hz, hk⟩, st⟩ := hr T hT X
  cases hv
  rw [h0] at hz hk
  obtain ⟨t2, a1, b1⟩ := kk u T'.heap (locs ++ L) (by rw [e1]; exact hp) hb (by rw [e1]; exact hz) (fun q h1 h2 => by rw [e1]; exact hk q h1 h2)
    ⟨Nat.le_trans hS.1 (by rw [e1]; exact hz), fun q h1 h2 => by rw [e1, hk q (Nat.lt_of_lt_of_le h1 hS.1) (fun z => h2 (hA q (Nat.lt_of_lt_of_le h1 hS.1) z))]; exact hS.2.1 q h1 h2, fun q hq => by
      rcases List.mem_append.mp hq with h | h
      · exact hS.2.2 q h
      · exact hf _ (hL q h)⟩ T' rfl X'
  exact ⟨t2, st t2 a1, b1⟩
end CallG
def stA : va_W → List Nat → va_W → va_W
  | ws, i :: is, e :: es => stA (ws.set i e) is es
  | ws, _, _ => ws
theorem stA_get : ∀ (is : List Nat) (es ws : va_W) (k : Nat) (q : Nat × va_E), is.length = es.length → (stA ws is es)[k]? = some q → (∃ j : Nat, es[j]? = some q) ∨ (ws[k]? = some q ∧ k ∉ is)
  | [], [], ws, k, q, _, h => Or.inr ⟨h, List.not_mem_nil⟩
  | [], e :: es, ws, k, q, hl, h => by simp at hl
  | i :: is, [], ws, k, q, hl, h => by simp at hl
  | i :: is, e :: es, ws, k, q, hl, h => by
    have hl2 : is.length = es.length := by simpa using hl
    rcases stA_get is es (ws.set i e) k q hl2 h with ⟨j, hj⟩ | ⟨h1, h2⟩
    · exact Or.inl ⟨j + 1, by simpa using hj⟩
    · rw [List.getElem?_set] at h1
      split at h1
      · split at h1
        · cases h1
          exact Or.inl ⟨0, rfl⟩
        · cases h1
      · rename_i hne
        exact Or.inr ⟨h1, fun hm => (List.mem_cons.mp hm).elim (fun e => hne e.symm) h2⟩
theorem stA_ad : ∀ (is : List Nat) (es ws : va_W) (k : Nat), (is.map fun i => (ws[i]?).map (fun q => q.1)) = es.map (fun q => some q.1) → ((stA ws is es)[k]?).map (fun q => q.1) = (ws[k]?).map (fun q => q.1)
  | [], es, ws, k, _ => by cases es <;> rfl
  | i :: is, [], ws, k, _ => rfl
  | i :: is, e :: es, ws, k, h => by
    have h0 : (ws[i]?).map (fun q => q.1) = some e.1 := (List.cons.inj h).1
    have h1 : (is.map fun i => (ws[i]?).map (fun q => q.1)) = es.map (fun q => some q.1) := (List.cons.inj h).2
    have hs : ∀ j : Nat, ((ws.set i e)[j]?).map (fun q => q.1) = (ws[j]?).map (fun q => q.1) := by
      intro j
      rw [List.getElem?_set]
      split
      · rename_i hij
        subst hij
        split
        · exact h0.symm
        · rename_i hlt
          rw [List.getElem?_eq_none (Nat.le_of_not_lt hlt)]
      · rfl
    show ((stA (ws.set i e) is es)[k]?).map (fun q => q.1) = (ws[k]?).map (fun q => q.1)
    rw [stA_ad is es (ws.set i e) k (by rw [← h1]; exact List.map_congr_left fun j _ => hs j)]
    exact hs k
theorem cal_at {is : List Nat} {ws w : va_W} (hs : is.map (fun i => ws[i]?) = w.map some) (k : Nat) (q : Nat × va_E) (hq : w[k]? = some q) : ∃ i, is[k]? = some i ∧ ws[i]? = some q := by
  have h1 : (is.map (fun i => ws[i]?))[k]? = some (some q) := by rw [hs, List.getElem?_map, hq]; rfl
  rw [List.getElem?_map] at h1
  cases hi : is[k]? with
  | none => rw [hi] at h1; cases h1
  | some i => rw [hi] at h1; exact ⟨i, rfl, Option.some.inj h1⟩
theorem cal_P {D : va_G} {cl : List vw_C} {is : List Nat} {ws w : va_W} {H : Heap} (hs : is.map (fun i => ws[i]?) = w.map some) (h : va_P D cl ws H) : va_P D cl w H := by
  intro k q hk
  obtain ⟨i, -, h2⟩ := cal_at hs k q hk
  exact h i q h2
theorem stA_P {D : va_G} {cl : List vw_C} {A0 : Nat → Prop} {is : List Nat} {ws wc w1 : va_W} {H H1 : Heap} (hP : va_P D cl ws H) (hD : va_D A0 ws) (hC : is.map (fun i => ws[i]?) = wc.map some) (hw : w1.map (fun q => q.1) = wc.map (fun q => q.1)) (hk : ∀ q : Nat, q < H.size → ¬ va_A wc H.size q → H1[q]? = H[q]?) (hP1 : va_P D cl w1 H1) : va_P D cl (stA ws is w1) H1 ∧ va_D A0 (stA ws is w1) := by
  have hl1 : w1.length = wc.length := by have := congrArg List.length hw; simpa using this
  have hl2 : is.length = wc.length := by have := congrArg List.length hC; simpa using this
  constructor
  · intro k q hq
    rcases stA_get is w1 ws k q (hl2.trans hl1.symm) hq with ⟨j, hj⟩ | ⟨h1, h2⟩
    · exact hP1 j q hj
    · refine (hP k q h1).kept (hk q.1 (hP k q h1).lt ?_)
      rintro (⟨j, e, hj⟩ | hge)
      · obtain ⟨i, hi1, hi2⟩ := cal_at hC j _ hj
        have : k = i := hD.1 k i q _ h1 hi2 rfl
        subst this
        exact h2 (List.mem_of_getElem? hi1)
      · exact absurd (hP k q h1).lt (Nat.not_lt.mpr hge)
  · have had : ∀ k : Nat, ((stA ws is w1)[k]?).map (fun q => q.1) = (ws[k]?).map (fun q => q.1) := by
      intro k
      apply stA_ad
      have h1 := congrArg (List.map (fun o : Option (Nat × va_E) => o.map (fun q => q.1))) hC
      have h2 := congrArg (List.map some) hw
      simp only [List.map_map] at h1 h2
      rw [show (is.map fun i => (ws[i]?).map (fun q => q.1)) = is.map ((fun o : Option (Nat × va_E) => o.map (fun q => q.1)) ∘ fun i => ws[i]?) from rfl, h1]
      exact h2.symm
    have got : ∀ (k : Nat) (q : Nat × va_E), (stA ws is w1)[k]? = some q → ∃ q' : Nat × va_E, ws[k]? = some q' ∧ q'.1 = q.1 := by
      intro k q hq
      have := had k
      rw [hq] at this
      cases hw : ws[k]? with
      | none => rw [hw] at this; cases this
      | some q' => rw [hw] at this; exact ⟨q', rfl, (Option.some.inj this).symm⟩
    refine ⟨fun i j p q hp hq hpq => ?_, fun k q hq => ?_⟩
    · obtain ⟨p', h1, h2⟩ := got i p hp
      obtain ⟨q', h3, h4⟩ := got j q hq
      exact hD.1 i j p' q' h1 h3 (h2.trans (hpq.trans h4.symm))
    · obtain ⟨q', h1, h2⟩ := got k q hq
      exact h2 ▸ hD.2 k q' h1
section RowsC
variable {E : EE} {K : Ctx} {cc : ByteArray} {nL : Nat} {own : String} {rm : Room} {cells slots : Nat} {ws ws2 : va_W} {lv : List (Nat × Value)}
theorem pc_blind {E : EE} {av : List Value} {w : va_W} {sz : Nat} {B : Nat → State → Prop} (hB : ∀ (U : State) (g : JFrame) (mk : MethodId) (a : Array Value), B sz U → B sz (U.calling g mk a)) : FrameBlind (va_Pc av (fun U => U.heap.size = sz ∧ va_P E.1 vwCl w U.heap ∧ EV E U ∧ va_D (fun _ => True) w ∧ B sz U)) := by
  intro a U g mk q
  obtain ⟨e1, e2, e3, e4, e5, e6⟩ := q
  exact ⟨e1, e2, e3, e4.calling g mk a, e5, hB U g mk a e6⟩
/-- an instance method on cells of the world, in their places -/
theorem jv_callG {S : Type} (pc : Nat) (X : CX E K cc nL own rm) {index : Nat} {y : MethodName} {cy : ByteArray} {n k : Nat} {ret : Option FieldType} {rmy : Room} {b : Nat} {As : List Value} {w : va_W} {B : Nat → State → Prop} {r0 : S → Option Value} {wo : S → va_W} (hM : CG E (kLa K) y cy n ret rmy (.ref b :: As) w B r0 wo) (hw : WV own index y cy n ret k)
    (hBl : ∀ (sz : Nat) (U : State) (g : JFrame) (mk : MethodId) (a : Array Value), B sz U → B sz (U.calling g mk a)) (hBp : ∀ (H : Heap) (locs : List Loc) (U : State), va_S (kA K) (kS K).heap H locs → (∀ q, va_A w H.size q → kA K q) → U.heap = H → (kS K).WarmedH U.vm → B H.size U)
    (hR : rmy.frames + 1 ≤ rm.frames ∧ 8 + (n + 11) + rmy.locals ≤ rm.locals) (h0 : rmy.cells = 0 ∧ rmy.slots = 0) (hc : cells ≤ rm.cells ∧ slots ≤ rm.slots) (d : decode cc pc = .ok (.invokevirtual index, 3)) (hn : As.length = k) (rest : List Value) {st : List Value} (hst : st = As.reverse ++ .ref b :: rest) (hW : (rest.map fun v => v.category).sum ≤ 8)
    (is : List Nat) (hnd : va_nd is = true) (hC : is.map (fun i => ws[i]?) = w.map some) (hA1 : ∀ u, (wo u).map (fun q => q.1) = w.map (fun q => q.1)) (q0 : Nat) {ci N : Nat} {fs : List Value} {T : u_T} (hq : ws[q0]? = some (b, .inr (ci, fs))) (hci : vwCl[ci]? = some (y.cls, T, N)) (kk : ∀ u : S, JV E K cells slots (stA ws is (wo u)) lv (pc + 3) ((r0 u).toList ++ rest)) : JV E K cells slots ws lv pc st := by
  intro ls H locs h1 h2 h3 h4
  obtain ⟨hx, hb, hml, hkl, hkr, hown, hts, hE, hA, hlk⟩ := id X
  have hDc := h3.sub is hnd hC
  have hPc := cal_P hC h2
  have hFc := va_free h3 h4 hA is hC
  obtain ⟨w1, w2, w3, w4, w5, w6, w7, w8⟩ := hw
  refine vg_call (E := E) (A1 := va_A w H.size) (va_runV (nL := nL) (As := As) (rest := rest) (n := k) ⟨hx, hb, hml, hown, hts⟩ (hM H.size) ⟨callB_of (bytes := cy) (maxL := n) (ret := ret) k hts (TB_wc w5) rfl rfl rfl (hts _ w4) (hts _ w1) ⟨w6, w7, w8⟩ (by rw [hkr]; exact hR), hts _ w2, hts _ w3⟩
    ⟨pc_blind (hBl H.size), va_recv hE.1 h2 hci hq, fun U hU hW => ⟨rfl, by rw [hU], by rw [hU]; exact hPc, hE.warm hW, hDc.weaken (fun _ _ _ _ => trivial), hBp H locs U h4 hFc hU hW⟩⟩ rfl hn (h1.1.trans hkl) hst (lv_room hW) d (by rw [hkr, h0.1, h0.2]; exact hc)) h4 (fun q _ h => hFc q h) hFc (fun u H1 locs1 p1 d1 z1 k1 s1 => ?_)
  rw [h0.1, h0.2]
  obtain ⟨p2, d2⟩ := stA_P h2 h3 hC (hA1 u) k1 p1
  exact kk u ls H1 locs1 h1 p2 d2 s1
theorem jv_callV (pc : Nat) (X : CX E K cc nL own rm) {index : Nat} {y : MethodName} {cy : ByteArray} {n k : Nat} {ret : Option FieldType} {rmy : Room} {b : Nat} {As : List Value} {w w1 : va_W} {r0 : Option Value} (hM : CT E (kLa K) y cy n ret rmy (.ref b :: As) w r0 w1) (hw : WV own index y cy n ret k)
    (hR : rmy.frames + 1 ≤ rm.frames ∧ 8 + (n + 11) + rmy.locals ≤ rm.locals) (h0 : rmy.cells = 0 ∧ rmy.slots = 0) (hc : cells ≤ rm.cells ∧ slots ≤ rm.slots) (d : decode cc pc = .ok (.invokevirtual index, 3)) (hn : As.length = k) (rest : List Value) {st : List Value} (hst : st = As.reverse ++ .ref b :: rest) (hW : (rest.map fun v => v.category).sum ≤ 8)
    (is : List Nat) (hnd : va_nd is = true) (hC : is.map (fun i => ws[i]?) = w.map some) (hA1 : w1.map (fun q => q.1) = w.map (fun q => q.1)) (q0 : Nat) {ci N : Nat} {fs : List Value} {T : u_T} (hq : ws[q0]? = some (b, .inr (ci, fs))) (hci : vwCl[ci]? = some (y.cls, T, N)) (hws : stA ws is w1 = ws2) (kk : JV E K cells slots ws2 lv (pc + 3) (r0.toList ++ rest)) : JV E K cells slots ws lv pc st := by
  subst hws
  exact jv_callG pc X hM hw (fun _ _ _ _ _ _ => trivial) (fun _ _ _ _ _ _ _ => trivial) hR h0 hc d hn rest hst hW is hnd hC (fun _ => hA1) q0 hq hci (fun _ => kk)
/-- the same where the method's world is the whole world -/
theorem jv_callW (pc : Nat) (X : CX E K cc nL own rm) {index : Nat} {y : MethodName} {cy : ByteArray} {n k : Nat} {ret : Option FieldType} {rmy : Room} {b : Nat} {As : List Value} {w1 : va_W} {r0 : Option Value} (hM : CT E (kLa K) y cy n ret rmy (.ref b :: As) ws r0 w1) (hw : WV own index y cy n ret k)
    (hR : rmy.frames + 1 ≤ rm.frames ∧ 8 + (n + 11) + rmy.locals ≤ rm.locals) (h0 : rmy.cells = 0 ∧ rmy.slots = 0) (hc : cells ≤ rm.cells ∧ slots ≤ rm.slots) (d : decode cc pc = .ok (.invokevirtual index, 3)) (hn : As.length = k) (rest : List Value) {st : List Value} (hst : st = As.reverse ++ .ref b :: rest) (hW : (rest.map fun v => v.category).sum ≤ 8)
    (q0 : Nat) {ci N : Nat} {fs : List Value} {T : u_T} (hq : ws[q0]? = some (b, .inr (ci, fs))) (hci : vwCl[ci]? = some (y.cls, T, N)) (kk : JV E K cells slots w1 lv (pc + 3) (r0.toList ++ rest)) : JV E K cells slots ws lv pc st := by
  intro ls H locs h1 h2 h3 h4
  obtain ⟨hx, hb, hml, hkl, hkr, hown, hts, hE, hA, hlk⟩ := id X
  have hFc : ∀ q, va_A ws H.size q → kA K q := by
    rintro q (⟨j, e, hj⟩ | hq)
    · exact h3.2 j _ hj
    · exact hA q (Nat.le_trans h4.1 hq)
  obtain ⟨w1, w2, w3, w4, w5, w6, w7, w8⟩ := hw
  refine vg_call (E := E) (A1 := va_A ws H.size) (va_runV (nL := nL) (As := As) (rest := rest) (n := k) ⟨hx, hb, hml, hown, hts⟩ (hM H.size) ⟨callB_of (bytes := cy) (maxL := n) (ret := ret) k hts (TB_wc w5) rfl rfl rfl (hts _ w4) (hts _ w1) ⟨w6, w7, w8⟩ (by rw [hkr]; exact hR), hts _ w2, hts _ w3⟩
    ⟨pc_blind (fun _ _ _ _ _ => trivial), va_recv hE.1 h2 hci hq, fun U hU hW => ⟨rfl, by rw [hU], by rw [hU]; exact h2, hE.warm hW, h3.weaken (fun _ _ _ _ => trivial), trivial⟩⟩ rfl hn (h1.1.trans hkl) hst (lv_room hW) d (by rw [hkr, h0.1, h0.2]; exact hc)) h4 (fun q _ h => hFc q h) hFc (fun u H1 locs1 p1 d1 z1 k1 s1 => ?_)
  rw [h0.1, h0.2]
  exact kk ls H1 locs1 h1 p1 (d1.weaken (fun k q _ h => hFc _ h)) s1
/-- a static method on cells of the world -/
theorem jv_callS (pc : Nat) (X : CX E K cc nL own rm) {index : Nat} {y : MethodName} {cy : ByteArray} {n k : Nat} {ret : Option FieldType} {rmy : Room} {As : List Value} {w w1 : va_W} {r0 : Option Value} (hM : CT E (kLa K) y cy n ret rmy As w r0 w1) (hw : WS own index y cy n ret k)
    (hR : rmy.frames + 1 ≤ rm.frames ∧ 8 + (n + 11) + rmy.locals ≤ rm.locals) (h0 : rmy.cells = 0 ∧ rmy.slots = 0) (hc : cells ≤ rm.cells ∧ slots ≤ rm.slots) (d : decode cc pc = .ok (.invokestatic index, 3)) (hn : As.length = k) (rest : List Value) {st : List Value} (hst : st = As.reverse ++ rest) (hW : (rest.map fun v => v.category).sum ≤ 8)
    (is : List Nat) (hnd : va_nd is = true) (hC : is.map (fun i => ws[i]?) = w.map some) (hA1 : w1.map (fun q => q.1) = w.map (fun q => q.1)) (hws : stA ws is w1 = ws2) (kk : JV E K cells slots ws2 lv (pc + 3) (r0.toList ++ rest)) : JV E K cells slots ws lv pc st := by
  subst hws
  intro ls H locs h1 h2 h3 h4
  obtain ⟨hx, hb, hml, hkl, hkr, hown, hts, hE, hA, hlk⟩ := id X
  have hDc := h3.sub is hnd hC
  have hPc := cal_P hC h2
  have hFc := va_free h3 h4 hA is hC
  obtain ⟨w1, w2, w4, w5, w6, w7, w8⟩ := hw
  refine vg_call (E := E) (A1 := va_A w H.size) (va_runS (nL := nL) (As := As) (rest := rest) (n := k) ⟨hx, hb, hml, hown, hts⟩ (hM H.size) ⟨callB_of (bytes := cy) (maxL := n) (ret := ret) k hts (TB_wc w5) rfl rfl rfl (hts _ w4) (hts _ w1) ⟨w6, w7, w8⟩ (by rw [hkr]; exact hR), hts _ w2⟩
    ⟨pc_blind (fun _ _ _ _ _ => trivial), fun U hU hW => ⟨rfl, by rw [hU], by rw [hU]; exact hPc, hE.warm hW, hDc.weaken (fun _ _ _ _ => trivial), trivial⟩⟩ rfl hn (h1.1.trans hkl) hst (lv_room hW) d (by rw [hkr, h0.1, h0.2]; exact hc)) h4 (fun q _ h => hFc q h) hFc (fun u H1 locs1 p1 d1 z1 k1 s1 => ?_)
  rw [h0.1, h0.2]
  obtain ⟨p2, d2⟩ := stA_P h2 h3 hC hA1 k1 p1
  exact kk ls H1 locs1 h1 p2 d2 s1
/-- a static function of numbers alone -/
theorem jv_fun (pc : Nat) (X : CX E K cc nL own rm) {index : Nat} {y : MethodName} {cy : ByteArray} {n k : Nat} {ret : Option FieldType} {rmy : Room} {As : List Value} {r0 : Option Value} (hM : CT E (kLa K) y cy n ret rmy As [] r0 []) (hw : WS own index y cy n ret k)
    (hR : rmy.frames + 1 ≤ rm.frames ∧ 8 + (n + 11) + rmy.locals ≤ rm.locals) (h0 : rmy.cells = 0 ∧ rmy.slots = 0) (hc : cells ≤ rm.cells ∧ slots ≤ rm.slots) (d : decode cc pc = .ok (.invokestatic index, 3)) (hn : As.length = k) (rest : List Value) {st : List Value} (hst : st = As.reverse ++ rest) (hW : (rest.map fun v => v.category).sum ≤ 8)
    (kk : JV E K cells slots ws lv (pc + 3) (r0.toList ++ rest)) : JV E K cells slots ws lv pc st := jv_callS pc X hM hw hR h0 hc d hn rest hst hW [] rfl rfl rfl rfl kk
/-- the same, a private one of the host -/
theorem jv_funN (pc : Nat) (X : CX E K cc nL own rm) {index : Nat} {y : MethodName} {host : String} {cy : ByteArray} {n k : Nat} {ret : Option FieldType} {rmy : Room} {As : List Value} {r0 : Option Value} (hM : CT E (kLa K) y cy n ret rmy As [] r0 []) (hw : WN own index y host cy n ret k)
    (hR : rmy.frames + 1 ≤ rm.frames ∧ 8 + (n + 11) + rmy.locals ≤ rm.locals) (h0 : rmy.cells = 0 ∧ rmy.slots = 0) (hc : cells ≤ rm.cells ∧ slots ≤ rm.slots) (d : decode cc pc = .ok (.invokestatic index, 3)) (hn : As.length = k) (rest : List Value) {st : List Value} (hst : st = As.reverse ++ rest) (hW : (rest.map fun v => v.category).sum ≤ 8)
    (kk : JV E K cells slots ws lv (pc + 3) (r0.toList ++ rest)) : JV E K cells slots ws lv pc st := by
  intro ls H locs h1 h2 h3 h4
  obtain ⟨hx, hb, hml, hkl, hkr, hown, hts, hE, hA, hlk⟩ := id X
  have hC : ([] : List Nat).map (fun i => ws[i]?) = ([] : va_W).map some := rfl
  have hDc := h3.sub (ws' := []) [] rfl hC
  have hPc : va_P E.1 vwCl [] H := cal_P hC h2
  have hFc := va_free (wc := []) h3 h4 hA [] hC
  obtain ⟨w1, w2, w3, w4, w5, w6, w7⟩ := hw
  refine vg_call (E := E) (A1 := va_A [] H.size) (va_runSN (nL := nL) (As := As) (rest := rest) (n := k) ⟨hx, hb, hml, hown, hts⟩ (hM H.size) ⟨va_cnB (bytes := cy) (maxL := n) (ret := ret) k hts (TB_wc w3) rfl rfl rfl (w7 E _ hE) (hts _ w2) ⟨w4, w5, w6⟩ (by rw [hkr]; exact hR), hts _ w1, trivial⟩
    ⟨pc_blind (fun _ _ _ _ _ => trivial), fun U hU hW => ⟨rfl, by rw [hU], by rw [hU]; exact hPc, hE.warm hW, hDc.weaken (fun _ _ _ _ => trivial), trivial⟩⟩ rfl hn (h1.1.trans hkl) hst (lv_room hW) d (by rw [hkr, h0.1, h0.2]; exact hc)) h4 (fun q _ h => hFc q h) hFc (fun u H1 locs1 p1 d1 z1 k1 s1 => ?_)
  rw [h0.1, h0.2]
  obtain ⟨p2, d2⟩ := stA_P h2 h3 hC rfl k1 p1
  exact kk ls H1 locs1 h1 p2 d2 s1
-- making
theorem jv_objInit (pc : Nat) (X : CX E K cc nL own rm) {index : Nat} (hl : Cond.methodLink own index objectInit ∈ TB) (d : decode cc pc = .ok (.invokespecial index, 3)) (hf : 1 ≤ rm.frames) {rest : List Value} {a : Nat} (hlo : (rest.map fun v => v.category).sum + 12 ≤ rm.locals) (kk : JV E K cells slots ws lv (pc + 3) rest) : JV E K cells slots ws lv pc (.ref a :: rest) := fun ls H locs h1 h2 h3 h4 => W.objInit X.1 X.2.1 X.2.2.2.2.2.1 (X.2.2.2.2.2.2.1 _ hl) (X.2.2.2.2.2.2.1 _ tm_im_obj) (X.2.2.2.2.2.2.1 _ tm_code_obj) rfl (h1.1.trans (X.2.2.2.1.trans X.2.2.1.symm)) rfl d (by rw [X.2.2.2.2.1]; exact hf) (by rw [X.2.2.2.2.1]; simpa [JFrame.monitorRoom] using hlo) (kk ls H locs h1 h2 h3 h4)
theorem arr_same {U : State} {c1 c2 : ClassId} {ty : FieldType} (hp : ∀ C, ty ≠ .object C) (h1 : va_RA U c1 ty) (h2 : va_RA U c2 ty) : c1 = c2 := by
  cases ty <;> first | exact absurd rfl (hp _) | exact Option.some.inj (h1.symm.trans h2)
theorem jv_newi (pc : Nat) (X : CX E K cc nL own rm) (d : decode cc pc = .ok (.newarray .int, 2)) {i : Int32} {n : Nat} (hi : i = nI n) (hn : n < 100000) (hc : cells + 1 ≤ rm.cells ∧ slots + n ≤ rm.slots) {rest : List Value} (kk : ∀ q : Nat, JV E K (cells + 1) (slots + n) (ws ++ [(q, .inl (E.2.1, n, .inl (fun _ => 0)))]) lv (pc + 2) (.ref q :: rest)) : JV E K cells slots ws lv pc (.int i :: rest) := by
  intro ls H locs h1 h2 h3 h4
  obtain ⟨hx, hb, hml, hkl, hkr, hown, hts, hE, hA, hlk⟩ := id X
  refine va_newa (atype := .int) (ty := .int) (a0 := (n, .inl (fun _ => 0))) hx hb (hts _ tm_arr_int) rfl hE.1 h2 h3 h4 hA (fun _ => rfl) (by rw [hi]; exact nI_pos (by omega)) (by rw [hi]; exact nI_clamp (by omega)) (by show n * 4 ≤ 536870912; omega) (by rw [hkr]; exact hc.1) (by rw [hkr]; exact hc.2) d (fun q cA H1 k1 p1 d1 s1 => ?_)
  have hcA : cA = E.2.1 := arr_same (ty := .int) (fun _ h => by cases h) (k1.2 3 (cA, .int) rfl).2 (k1.2 0 (E.2.1, .int) rfl).2
  subst hcA
  exact kk q ls H1 locs h1 p1 d1 s1
theorem jv_newl (pc : Nat) (X : CX E K cc nL own rm) (d : decode cc pc = .ok (.newarray .long, 2)) {i : Int32} {n : Nat} (hi : i = nI n) (hn : n < 100000) (hc : cells + 1 ≤ rm.cells ∧ slots + n ≤ rm.slots) {rest : List Value} (kk : ∀ q : Nat, JV E K (cells + 1) (slots + n) (ws ++ [(q, .inl (E.2.2.1, n, .inr (.inl (fun _ => 0))))]) lv (pc + 2) (.ref q :: rest)) : JV E K cells slots ws lv pc (.int i :: rest) := by
  intro ls H locs h1 h2 h3 h4
  obtain ⟨hx, hb, hml, hkl, hkr, hown, hts, hE, hA, hlk⟩ := id X
  refine va_newa (atype := .long) (ty := .long) (a0 := (n, .inr (.inl (fun _ => 0)))) hx hb (hts _ tm_arr_long) rfl hE.1 h2 h3 h4 hA (fun _ => rfl) (by rw [hi]; exact nI_pos (by omega)) (by rw [hi]; exact nI_clamp (by omega)) (by show n * 8 ≤ 536870912; omega) (by rw [hkr]; exact hc.1) (by rw [hkr]; exact hc.2) d (fun q cA H1 k1 p1 d1 s1 => ?_)
  have hcA : cA = E.2.2.1 := arr_same (ty := .long) (fun _ h => by cases h) (k1.2 3 (cA, .long) rfl).2 (k1.2 1 (E.2.2.1, .long) rfl).2
  subst hcA
  exact kk q ls H1 locs h1 p1 d1 s1
theorem jv_newz (pc : Nat) (X : CX E K cc nL own rm) (d : decode cc pc = .ok (.newarray .boolean, 2)) {i : Int32} {n : Nat} (hi : i = nI n) (hn : n < 100000) (hc : cells + 1 ≤ rm.cells ∧ slots + n ≤ rm.slots) {rest : List Value} (kk : ∀ q : Nat, JV E K (cells + 1) (slots + n) (ws ++ [(q, .inl (E.2.2.2, n, .inl (fun _ => 0)))]) lv (pc + 2) (.ref q :: rest)) : JV E K cells slots ws lv pc (.int i :: rest) := by
  intro ls H locs h1 h2 h3 h4
  obtain ⟨hx, hb, hml, hkl, hkr, hown, hts, hE, hA, hlk⟩ := id X
  refine va_newa (atype := .boolean) (ty := .boolean) (a0 := (n, .inl (fun _ => 0))) hx hb (hts _ tm_arr_boolean) rfl hE.1 h2 h3 h4 hA (fun _ => rfl) (by rw [hi]; exact nI_pos (by omega)) (by rw [hi]; exact nI_clamp (by omega)) (by show n * 1 ≤ 536870912; omega) (by rw [hkr]; exact hc.1) (by rw [hkr]; exact hc.2) d (fun q cA H1 k1 p1 d1 s1 => ?_)
  have hcA : cA = E.2.2.2 := arr_same (ty := .boolean) (fun _ h => by cases h) (k1.2 3 (cA, .boolean) rfl).2 (k1.2 2 (E.2.2.2, .boolean) rfl).2
  subst hcA
  exact kk q ls H1 locs h1 p1 d1 s1
def WC (own : String) (index ci : Nat) (C : String) (T : u_T) (N : Nat) : Prop := vwCl[ci]? = some (C, T, N) ∧ (∀ w ∈ u_ws C T N, w ∈ TB) ∧ Cond.classLink own index C ∈ TB ∧ Cond.instantiable C N ∈ TB ∧ Cond.initialized C ∈ TB
theorem jv_new (pc : Nat) (X : CX E K cc nL own rm) {index ci : Nat} {C : String} {T : u_T} {N : Nat} (g : WC own index ci C T N) {ty : Nat → FieldType} (hty : ∀ k, k < N → parseFieldDescriptor (T k).2.2.1 = some (ty k)) (d : decode cc pc = .ok (.new index, 3)) {fs : List Value} (hfs : ∀ j, j < N → defaultValue (ty j) = vp_V fs j) (hc : cells + 1 ≤ rm.cells ∧ slots + N ≤ rm.slots) {rest : List Value} (kk : ∀ q : Nat, JV E K (cells + 1) (slots + N) (ws ++ [(q, .inr (ci, fs))]) lv (pc + 3) (.ref q :: rest)) : JV E K cells slots ws lv pc rest := by
  intro ls H locs h1 h2 h3 h4
  obtain ⟨hx, hb, hml, hkl, hkr, hown, hts, hE, hA, hlk⟩ := id X
  exact va_new hx hb hts g.2.1 ty hty hown (hts _ g.2.2.1) (hts _ g.2.2.2.1) (hts _ g.2.2.2.2) hE.1 h2 h3 h4 hA g.1 hfs (by rw [hkr]; exact hc.1) (by rw [hkr]; exact hc.2) d (fun q H1 p1 d1 s1 => kk q ls H1 locs h1 p1 d1 s1)
/-- a constructor on the last cell of the world -/
theorem jv_callI {S : Type} (pc : Nat) (X : CX E K cc nL own rm) {index : Nat} {y : MethodName} {cy : ByteArray} {n : Nat} {rmy : Room} {b : Nat} {ce : va_E} {wo : S → va_W} (hM : CG E (kLa K) y cy n none rmy [.ref b] [(b, ce)] noB (fun _ : S => none) wo) (hw : WI own index y cy n 0)
    (hR : rmy.frames + 1 ≤ rm.frames ∧ 8 + (n + 11) + rmy.locals ≤ rm.locals) (hc : cells + rmy.cells ≤ rm.cells ∧ slots + rmy.slots ≤ rm.slots) (d : decode cc pc = .ok (.invokespecial index, 3)) {rest : List Value} (hW : (rest.map fun v => v.category).sum ≤ 8)
    (kk : ∀ u : S, JV E K (cells + rmy.cells) (slots + rmy.slots) (ws ++ wo u) lv (pc + 3) rest) : JV E K cells slots (ws ++ [(b, ce)]) lv pc (.ref b :: rest) := by
  intro ls H locs h1 h2 h3 h4
  obtain ⟨hx, hb, hml, hkl, hkr, hown, hts, hE, hA, hlk⟩ := id X
  have hlast : (ws ++ [(b, ce)])[ws.length]? = some (b, ce) := by rw [List.getElem?_append_right (Nat.le_refl _)]; simp
  have hC : [ws.length].map (fun i => (ws ++ [(b, ce)])[i]?) = [(b, ce)].map some := by rw [List.map_singleton, hlast]; rfl
  have hDc := h3.sub (ws' := [(b, ce)]) [ws.length] (by simp [va_nd]) hC
  have hPc := cal_P hC h2
  have hFc := va_free h3 h4 hA [ws.length] hC
  obtain ⟨w1, w2, w4, w5, w6, w7, w8, w9⟩ := hw
  refine vg_call (E := E) (A1 := va_A [(b, ce)] H.size) (va_runI (nL := nL) (As := []) (rest := rest) (n := 0) ⟨hx, hb, hml, hown, hts⟩ (hM H.size) ⟨callB_of (bytes := cy) (maxL := n) (ret := none) 0 hts (TB_wc w5) rfl rfl rfl (hts _ w4) (hts _ w1) ⟨w7, w8, w9⟩ (by rw [hkr]; exact hR), w6, hts _ w2⟩
    ⟨pc_blind (fun _ _ _ _ _ => trivial), fun U hU hW => ⟨rfl, by rw [hU], by rw [hU]; exact hPc, hE.warm hW, hDc.weaken (fun _ _ _ _ => trivial), trivial⟩⟩ rfl rfl (h1.1.trans hkl) rfl (lv_room hW) d (by rw [hkr]; exact hc)) h4 (fun q _ h => hFc q h) hFc (fun u H1 locs1 p1 d1 z1 k1 s1 => ?_)
  have inl : ∀ (k : Nat) (q : Nat × va_E), ws[k]? = some q → (ws ++ [(b, ce)])[k]? = some q := fun k q hq => by rw [List.getElem?_append_left (List.getElem?_eq_some_iff.mp hq).1]; exact hq
  have apart : ∀ (k : Nat) (q : Nat × va_E), ws[k]? = some q → ¬ va_A [(b, ce)] H.size q.1 := by
    rintro k q hq (⟨j, e, hj⟩ | hge)
    · have h5 := h3.1 k ws.length q (b, ce) (inl k q hq) hlast (by
        match j, hj with
        | 0, hj => exact (congrArg (fun o : Nat × va_E => o.1) (Option.some.inj hj)).symm
        | j + 1, hj => simp at hj)
      exact absurd (List.getElem?_eq_some_iff.mp hq).1 (by rw [h5]; exact Nat.lt_irrefl _)
    · exact absurd (h2 k q (inl k q hq)).lt (Nat.not_lt.mpr hge)
  have hPr : va_P E.1 vwCl ws H1 := fun k q hq => (h2 k q (inl k q hq)).kept (k1 q.1 (h2 k q (inl k q hq)).lt (apart k q hq))
  have hDr : va_D (kA K) ws := ⟨fun i j p q hp hq e => h3.1 i j p q (inl i p hp) (inl j q hq) e, fun k q hq => h3.2 k q (inl k q hq)⟩
  exact kk u ls H1 locs1 h1 (hPr.app p1) (hDr.app (d1.weaken (fun k q _ h => hFc _ h)) (fun i j p q hp hq e => apart i p hp (e ▸ d1.2 j q hq))) s1
end RowsC
end
section
-- numbers: Int32 terms that are naturals
theorem nx_add {x y : Int32} {a b : Nat} (hx : x = nI a) (hy : y = nI b) : x + y = nI (a + b) := by rw [hx, hy]; exact nI_add a b
theorem nx_sub {x y : Int32} {a b : Nat} (hx : x = nI a) (hy : y = nI b) (h : b ≤ a) : x - y = nI (a - b) := by rw [hx, hy]; exact pk_sub h
theorem nx_mul {x y : Int32} {a b : Nat} (hx : x = nI a) (hy : y = nI b) : x * y = nI (a * b) := by rw [hx, hy]; exact pk_mul a b
theorem nx_div {x y : Int32} {a b : Nat} (hx : x = nI a) (hy : y = nI b) (ha : a < 2147483648) (h0 : 0 < b) (hb : b < 2147483648) : x / y = nI (a / b) := by rw [hx, hy]; exact pk_div ha h0 hb
theorem nx_rem {x y : Int32} {a b : Nat} (hx : x = nI a) (hy : y = nI b) (ha : a < 2147483648) (h0 : 0 < b) (hb : b < 2147483648) : x - x / y * y = nI (a % b) := by rw [hx, hy]; exact pk_rem ha h0 hb
theorem nx_le {x y : Int32} {a b : Nat} (hx : x = nI a) (hy : y = nI b) (ha : a < 2147483648) (hb : b < 2147483648) : x ≤ y ↔ a ≤ b := by rw [hx, hy]; exact nI_leI ha hb
theorem nx_lt {x y : Int32} {a b : Nat} (hx : x = nI a) (hy : y = nI b) (ha : a < 2147483648) (hb : b < 2147483648) : x < y ↔ a < b := by rw [hx, hy]; exact nI_ltI ha hb
theorem nx_eq {x y : Int32} {a b : Nat} (hx : x = nI a) (hy : y = nI b) (ha : a < 2147483648) (hb : b < 2147483648) : x = y ↔ a = b := by rw [hx, hy]; exact nI_eq ha hb
theorem nx_inc (a : Nat) : nI a + Int32.ofInt 1 = nI (a + 1) := nI_1 a
theorem nx_dec (a : Nat) : nI (a + 1) + Int32.ofInt (-1) = nI a := pk_m1 a
theorem nx_in {v lo hi : Int32} {a b : Nat} (hlo : lo = nI a) (hhi : hi = nI b) (ha : a < 2147483648) (hb : b < 2147483648) (h : lo ≤ v ∧ v ≤ hi) : ∃ j : Nat, a ≤ j ∧ j ≤ b ∧ v = nI j := by
  have h1 := h.1
  have h2 := h.2
  rw [Int32.le_iff_toInt_le, hlo, nI_toInt ha] at h1
  rw [Int32.le_iff_toInt_le, hhi, nI_toInt hb] at h2
  refine ⟨v.toInt.toNat, by omega, by omega, ?_⟩
  apply Int32.toInt_inj.mp
  rw [nI_toInt (by omega)]
  omega
theorem tab_out {x : Int32} (n : Nat) (h : ∀ j : Nat, j ≤ n → ¬ x = nI j) : x.toInt < 0 ∨ (n : Int) < x.toInt := by
  rcases Int.lt_or_le x.toInt 0 with q | q
  · exact Or.inl q
  · rcases Int.lt_or_le (n : Int) x.toInt with r | r
    · exact Or.inr r
    · have hx := Int32.toInt_lt x
      exact absurd (Int32.toInt_inj.mp (by rw [nI_toInt (by omega)]; omega)) (h x.toInt.toNat (by omega))
theorem zI_n {P : Prop} [Decidable P] : narrow .boolean (.int (zI P)) = .int (zI P) := by unfold zI; split <;> rfl
theorem zI_v {P : Prop} [Decidable P] : vp_nar .boolean (zI P) = zI P := by unfold zI; split <;> rfl
theorem zI_t {P : Prop} [Decidable P] (h : P) : zI P = 1 := if_pos h
theorem zI_f {P : Prop} [Decidable P] (h : ¬ P) : zI P = 0 := if_neg h
theorem zI_c {P Q : Prop} [Decidable P] [Decidable Q] (h : P ↔ Q) : zI P = zI Q := by unfold zI; simp [h]
-- loops
def itr {σ : Type} (f : Nat → σ → σ) : Nat → σ → σ
  | 0, s => s
  | n + 1, s => f n (itr f n s)
theorem itr_s {σ : Type} (f : Nat → σ → σ) (n : Nat) (s : σ) : itr f (n + 1) s = f n (itr f n s) := rfl
theorem itr_0 {σ : Type} (f : Nat → σ → σ) (s : σ) : itr f 0 s = s := rfl
def itE {σ ρ : Type} (f : Nat → σ → ρ ⊕ σ) : Nat → Nat → σ → ρ ⊕ σ
  | 0, _, s => .inr s
  | n + 1, i, s => match f i s with
    | .inl r => .inl r
    | .inr s2 => itE f n (i + 1) s2
theorem itE_0 {σ ρ : Type} (f : Nat → σ → ρ ⊕ σ) (i : Nat) (s : σ) : itE f 0 i s = .inr s := rfl
theorem itE_l {σ ρ : Type} {f : Nat → σ → ρ ⊕ σ} {n i : Nat} {s : σ} {r : ρ} (h : f i s = .inl r) : itE f (n + 1) i s = .inl r := by
  show (match f i s with | .inl r => Sum.inl r | .inr s2 => itE f n (i + 1) s2) = _
  rw [h]
theorem itE_r {σ ρ : Type} {f : Nat → σ → ρ ⊕ σ} {n i : Nat} {s s2 : σ} (h : f i s = .inr s2) : itE f (n + 1) i s = itE f n (i + 1) s2 := by
  show (match f i s with | .inl r => Sum.inl r | .inr s2 => itE f n (i + 1) s2) = _
  rw [h]
end
section
theorem gf_X5_9 : GW RX5 9 5 RX5 TX5 13 0 := ⟨rfl, tm_lay_X5, by decide, tm_fl_X5_9⟩
theorem gf_X0_18 : GW RX0 18 5 RX5 TX5 13 0 := ⟨rfl, tm_lay_X5, by decide, tm_fl_X0_18⟩
theorem gf_X9_79 : GW RX9 79 5 RX5 TX5 13 0 := ⟨rfl, tm_lay_X5, by decide, tm_fl_X9_79⟩
theorem gf_X5_52 : GW RX5 52 5 RX5 TX5 13 1 := ⟨rfl, tm_lay_X5, by decide, tm_fl_X5_52⟩
theorem gf_X0_24 : GW RX0 24 5 RX5 TX5 13 1 := ⟨rfl, tm_lay_X5, by decide, tm_fl_X0_24⟩
theorem gf_X9_164 : GW RX9 164 5 RX5 TX5 13 1 := ⟨rfl, tm_lay_X5, by decide, tm_fl_X9_164⟩
theorem gf_X5_55 : GW RX5 55 5 RX5 TX5 13 2 := ⟨rfl, tm_lay_X5, by decide, tm_fl_X5_55⟩
theorem gf_X3_21 : GW RX3 21 5 RX5 TX5 13 2 := ⟨rfl, tm_lay_X5, by decide, tm_fl_X3_21⟩
theorem gf_X9_219 : GW RX9 219 5 RX5 TX5 13 2 := ⟨rfl, tm_lay_X5, by decide, tm_fl_X9_219⟩
theorem gf_X5_15 : GW RX5 15 5 RX5 TX5 13 3 := ⟨rfl, tm_lay_X5, by decide, tm_fl_X5_15⟩
theorem gf_X9_83 : GW RX9 83 5 RX5 TX5 13 3 := ⟨rfl, tm_lay_X5, by decide, tm_fl_X9_83⟩
theorem gf_X5_19 : GW RX5 19 5 RX5 TX5 13 4 := ⟨rfl, tm_lay_X5, by decide, tm_fl_X5_19⟩
theorem gf_X9_92 : GW RX9 92 5 RX5 TX5 13 4 := ⟨rfl, tm_lay_X5, by decide, tm_fl_X9_92⟩
theorem gf_X5_22 : GW RX5 22 5 RX5 TX5 13 5 := ⟨rfl, tm_lay_X5, by decide, tm_fl_X5_22⟩
theorem gf_X9_95 : GW RX9 95 5 RX5 TX5 13 5 := ⟨rfl, tm_lay_X5, by decide, tm_fl_X9_95⟩
theorem gf_X5_25 : GW RX5 25 5 RX5 TX5 13 6 := ⟨rfl, tm_lay_X5, by decide, tm_fl_X5_25⟩
theorem gf_X9_98 : GW RX9 98 5 RX5 TX5 13 6 := ⟨rfl, tm_lay_X5, by decide, tm_fl_X9_98⟩
theorem gf_X5_28 : GW RX5 28 5 RX5 TX5 13 7 := ⟨rfl, tm_lay_X5, by decide, tm_fl_X5_28⟩
theorem gf_X9_104 : GW RX9 104 5 RX5 TX5 13 7 := ⟨rfl, tm_lay_X5, by decide, tm_fl_X9_104⟩
theorem gf_X5_31 : GW RX5 31 5 RX5 TX5 13 8 := ⟨rfl, tm_lay_X5, by decide, tm_fl_X5_31⟩
theorem gf_X9_110 : GW RX9 110 5 RX5 TX5 13 8 := ⟨rfl, tm_lay_X5, by decide, tm_fl_X9_110⟩
theorem gf_X5_34 : GW RX5 34 5 RX5 TX5 13 9 := ⟨rfl, tm_lay_X5, by decide, tm_fl_X5_34⟩
theorem gf_X9_113 : GW RX9 113 5 RX5 TX5 13 9 := ⟨rfl, tm_lay_X5, by decide, tm_fl_X9_113⟩
theorem gf_X5_37 : GW RX5 37 5 RX5 TX5 13 10 := ⟨rfl, tm_lay_X5, by decide, tm_fl_X5_37⟩
theorem gf_X9_116 : GW RX9 116 5 RX5 TX5 13 10 := ⟨rfl, tm_lay_X5, by decide, tm_fl_X9_116⟩
theorem gf_X5_40 : GW RX5 40 5 RX5 TX5 13 11 := ⟨rfl, tm_lay_X5, by decide, tm_fl_X5_40⟩
theorem gf_X3_27 : GW RX3 27 5 RX5 TX5 13 11 := ⟨rfl, tm_lay_X5, by decide, tm_fl_X3_27⟩
theorem gf_X9_222 : GW RX9 222 5 RX5 TX5 13 11 := ⟨rfl, tm_lay_X5, by decide, tm_fl_X9_222⟩
theorem gf_X5_43 : GW RX5 43 5 RX5 TX5 13 12 := ⟨rfl, tm_lay_X5, by decide, tm_fl_X5_43⟩
theorem gf_X3_30 : GW RX3 30 5 RX5 TX5 13 12 := ⟨rfl, tm_lay_X5, by decide, tm_fl_X3_30⟩
theorem gf_X9_225 : GW RX9 225 5 RX5 TX5 13 12 := ⟨rfl, tm_lay_X5, by decide, tm_fl_X9_225⟩
theorem gf_X2_10 : GW RX2 10 2 RX2 TX2 2 0 := ⟨rfl, tm_lay_X2, by decide, tm_fl_X2_10⟩
theorem gf_X9_283 : GW RX9 283 2 RX2 TX2 2 0 := ⟨rfl, tm_lay_X2, by decide, tm_fl_X9_283⟩
theorem gf_X9_284 : GW RX9 284 2 RX2 TX2 2 1 := ⟨rfl, tm_lay_X2, by decide, tm_fl_X9_284⟩
theorem gf_X4_27 : GW RX4 27 4 RX4 TX4 7 0 := ⟨rfl, tm_lay_X4, by decide, tm_fl_X4_27⟩
theorem gf_X9_122 : GW RX9 122 4 RX4 TX4 7 0 := ⟨rfl, tm_lay_X4, by decide, tm_fl_X9_122⟩
theorem gf_X8_41 : GW RX8 41 4 RX4 TX4 7 1 := ⟨rfl, tm_lay_X4, by decide, tm_fl_X8_41⟩
theorem gf_X4_31 : GW RX4 31 4 RX4 TX4 7 1 := ⟨rfl, tm_lay_X4, by decide, tm_fl_X4_31⟩
theorem gf_X4_9 : GW RX4 9 4 RX4 TX4 7 2 := ⟨rfl, tm_lay_X4, by decide, tm_fl_X4_9⟩
theorem gf_X4_15 : GW RX4 15 4 RX4 TX4 7 3 := ⟨rfl, tm_lay_X4, by decide, tm_fl_X4_15⟩
theorem gf_X8_49 : GW RX8 49 4 RX4 TX4 7 3 := ⟨rfl, tm_lay_X4, by decide, tm_fl_X8_49⟩
theorem gf_X4_18 : GW RX4 18 4 RX4 TX4 7 4 := ⟨rfl, tm_lay_X4, by decide, tm_fl_X4_18⟩
theorem gf_X8_56 : GW RX8 56 4 RX4 TX4 7 4 := ⟨rfl, tm_lay_X4, by decide, tm_fl_X8_56⟩
theorem gf_X4_21 : GW RX4 21 4 RX4 TX4 7 5 := ⟨rfl, tm_lay_X4, by decide, tm_fl_X4_21⟩
theorem gf_X8_53 : GW RX8 53 4 RX4 TX4 7 5 := ⟨rfl, tm_lay_X4, by decide, tm_fl_X8_53⟩
theorem gf_X4_24 : GW RX4 24 4 RX4 TX4 7 6 := ⟨rfl, tm_lay_X4, by decide, tm_fl_X4_24⟩
theorem gf_X8_59 : GW RX8 59 4 RX4 TX4 7 6 := ⟨rfl, tm_lay_X4, by decide, tm_fl_X8_59⟩
theorem gf_X8_12 : GW RX8 12 8 RX8 TX8 6 0 := ⟨rfl, tm_lay_X8, by decide, tm_fl_X8_12⟩
theorem gf_X9_146 : GW RX9 146 8 RX8 TX8 6 0 := ⟨rfl, tm_lay_X8, by decide, tm_fl_X9_146⟩
theorem gf_X8_44 : GW RX8 44 8 RX8 TX8 6 1 := ⟨rfl, tm_lay_X8, by decide, tm_fl_X8_44⟩
theorem gf_X9_153 : GW RX9 153 8 RX8 TX8 6 1 := ⟨rfl, tm_lay_X8, by decide, tm_fl_X9_153⟩
theorem gf_X8_18 : GW RX8 18 8 RX8 TX8 6 2 := ⟨rfl, tm_lay_X8, by decide, tm_fl_X8_18⟩
theorem gf_X9_136 : GW RX9 136 8 RX8 TX8 6 2 := ⟨rfl, tm_lay_X8, by decide, tm_fl_X9_136⟩
theorem gf_X8_22 : GW RX8 22 8 RX8 TX8 6 3 := ⟨rfl, tm_lay_X8, by decide, tm_fl_X8_22⟩
theorem gf_X9_139 : GW RX9 139 8 RX8 TX8 6 3 := ⟨rfl, tm_lay_X8, by decide, tm_fl_X9_139⟩
theorem gf_X8_25 : GW RX8 25 8 RX8 TX8 6 4 := ⟨rfl, tm_lay_X8, by decide, tm_fl_X8_25⟩
theorem gf_X9_167 : GW RX9 167 8 RX8 TX8 6 4 := ⟨rfl, tm_lay_X8, by decide, tm_fl_X9_167⟩
theorem gf_X8_28 : GW RX8 28 8 RX8 TX8 6 5 := ⟨rfl, tm_lay_X8, by decide, tm_fl_X8_28⟩
theorem gf_X9_170 : GW RX9 170 8 RX8 TX8 6 5 := ⟨rfl, tm_lay_X8, by decide, tm_fl_X9_170⟩
theorem gf_X0_9 : GW RX0 9 0 RX0 TX0 4 0 := ⟨rfl, tm_lay_X0, by decide, tm_fl_X0_9⟩
theorem gf_X9_188 : GW RX9 188 0 RX0 TX0 4 0 := ⟨rfl, tm_lay_X0, by decide, tm_fl_X9_188⟩
theorem gf_X0_15 : GW RX0 15 0 RX0 TX0 4 1 := ⟨rfl, tm_lay_X0, by decide, tm_fl_X0_15⟩
theorem gf_X0_31 : GW RX0 31 0 RX0 TX0 4 2 := ⟨rfl, tm_lay_X0, by decide, tm_fl_X0_31⟩
theorem gf_X9_195 : GW RX9 195 0 RX0 TX0 4 2 := ⟨rfl, tm_lay_X0, by decide, tm_fl_X9_195⟩
theorem gf_X0_34 : GW RX0 34 0 RX0 TX0 4 3 := ⟨rfl, tm_lay_X0, by decide, tm_fl_X0_34⟩
theorem gf_X9_198 : GW RX9 198 0 RX0 TX0 4 3 := ⟨rfl, tm_lay_X0, by decide, tm_fl_X9_198⟩
theorem gf_X3_11 : GW RX3 11 3 RX3 TX3 3 0 := ⟨rfl, tm_lay_X3, by decide, tm_fl_X3_11⟩
theorem gf_X3_15 : GW RX3 15 3 RX3 TX3 3 1 := ⟨rfl, tm_lay_X3, by decide, tm_fl_X3_15⟩
theorem gf_X3_18 : GW RX3 18 3 RX3 TX3 3 2 := ⟨rfl, tm_lay_X3, by decide, tm_fl_X3_18⟩
theorem gf_X6_9 : GW RX6 9 6 RX6 TX6 2 0 := ⟨rfl, tm_lay_X6, by decide, tm_fl_X6_9⟩
theorem gf_X9_249 : GW RX9 249 6 RX6 TX6 2 0 := ⟨rfl, tm_lay_X6, by decide, tm_fl_X9_249⟩
theorem gf_X6_15 : GW RX6 15 6 RX6 TX6 2 1 := ⟨rfl, tm_lay_X6, by decide, tm_fl_X6_15⟩
theorem gf_X7_9 : GW RX7 9 7 RX7 TX7 1 0 := ⟨rfl, tm_lay_X7, by decide, tm_fl_X7_9⟩
theorem gf_X1_11 : GW RX1 11 1 RX1 TX1 2 0 := ⟨rfl, tm_lay_X1, by decide, tm_fl_X1_11⟩
theorem gf_X1_15 : GW RX1 15 1 RX1 TX1 2 1 := ⟨rfl, tm_lay_X1, by decide, tm_fl_X1_15⟩
theorem gf_X9_10 : GW RX9 10 9 RX9 TX9 10 0 := ⟨rfl, tm_lay_X9, by decide, tm_fl_X9_10⟩
theorem gf_X9_19 : GW RX9 19 9 RX9 TX9 10 1 := ⟨rfl, tm_lay_X9, by decide, tm_fl_X9_19⟩
theorem gf_X9_23 : GW RX9 23 9 RX9 TX9 10 2 := ⟨rfl, tm_lay_X9, by decide, tm_fl_X9_23⟩
theorem gf_X9_29 : GW RX9 29 9 RX9 TX9 10 3 := ⟨rfl, tm_lay_X9, by decide, tm_fl_X9_29⟩
theorem gf_X9_36 : GW RX9 36 9 RX9 TX9 10 4 := ⟨rfl, tm_lay_X9, by decide, tm_fl_X9_36⟩
theorem gf_X9_43 : GW RX9 43 9 RX9 TX9 10 5 := ⟨rfl, tm_lay_X9, by decide, tm_fl_X9_43⟩
theorem gf_X9_50 : GW RX9 50 9 RX9 TX9 10 6 := ⟨rfl, tm_lay_X9, by decide, tm_fl_X9_50⟩
theorem gf_X9_57 : GW RX9 57 9 RX9 TX9 10 7 := ⟨rfl, tm_lay_X9, by decide, tm_fl_X9_57⟩
theorem gf_X9_64 : GW RX9 64 9 RX9 TX9 10 8 := ⟨rfl, tm_lay_X9, by decide, tm_fl_X9_64⟩
theorem gf_X9_71 : GW RX9 71 9 RX9 TX9 10 9 := ⟨rfl, tm_lay_X9, by decide, tm_fl_X9_71⟩
theorem gf_X10_7 : GW RX10 7 10 RX10 TX10 22 0 := ⟨rfl, tm_lay_X10, by decide, tm_fl_X10_7⟩
theorem gf_X10_13 : GW RX10 13 10 RX10 TX10 22 1 := ⟨rfl, tm_lay_X10, by decide, tm_fl_X10_13⟩
theorem gf_X10_16 : GW RX10 16 10 RX10 TX10 22 2 := ⟨rfl, tm_lay_X10, by decide, tm_fl_X10_16⟩
theorem gf_X10_167 : GW RX10 167 10 RX10 TX10 22 3 := ⟨rfl, tm_lay_X10, by decide, tm_fl_X10_167⟩
theorem gf_X10_19 : GW RX10 19 10 RX10 TX10 22 4 := ⟨rfl, tm_lay_X10, by decide, tm_fl_X10_19⟩
theorem gf_X10_72 : GW RX10 72 10 RX10 TX10 22 5 := ⟨rfl, tm_lay_X10, by decide, tm_fl_X10_72⟩
theorem gf_X10_22 : GW RX10 22 10 RX10 TX10 22 6 := ⟨rfl, tm_lay_X10, by decide, tm_fl_X10_22⟩
theorem gf_X10_84 : GW RX10 84 10 RX10 TX10 22 7 := ⟨rfl, tm_lay_X10, by decide, tm_fl_X10_84⟩
theorem gf_X10_87 : GW RX10 87 10 RX10 TX10 22 8 := ⟨rfl, tm_lay_X10, by decide, tm_fl_X10_87⟩
theorem gf_X10_134 : GW RX10 134 10 RX10 TX10 22 9 := ⟨rfl, tm_lay_X10, by decide, tm_fl_X10_134⟩
theorem gf_X10_125 : GW RX10 125 10 RX10 TX10 22 10 := ⟨rfl, tm_lay_X10, by decide, tm_fl_X10_125⟩
theorem gf_X10_100 : GW RX10 100 10 RX10 TX10 22 11 := ⟨rfl, tm_lay_X10, by decide, tm_fl_X10_100⟩
theorem gf_X10_25 : GW RX10 25 10 RX10 TX10 22 12 := ⟨rfl, tm_lay_X10, by decide, tm_fl_X10_25⟩
theorem gf_X10_28 : GW RX10 28 10 RX10 TX10 22 13 := ⟨rfl, tm_lay_X10, by decide, tm_fl_X10_28⟩
theorem gf_X10_31 : GW RX10 31 10 RX10 TX10 22 14 := ⟨rfl, tm_lay_X10, by decide, tm_fl_X10_31⟩
theorem gf_X10_34 : GW RX10 34 10 RX10 TX10 22 15 := ⟨rfl, tm_lay_X10, by decide, tm_fl_X10_34⟩
theorem gf_X10_37 : GW RX10 37 10 RX10 TX10 22 16 := ⟨rfl, tm_lay_X10, by decide, tm_fl_X10_37⟩
theorem gf_X10_40 : GW RX10 40 10 RX10 TX10 22 17 := ⟨rfl, tm_lay_X10, by decide, tm_fl_X10_40⟩
theorem gf_X10_44 : GW RX10 44 10 RX10 TX10 22 18 := ⟨rfl, tm_lay_X10, by decide, tm_fl_X10_44⟩
theorem gf_X10_48 : GW RX10 48 10 RX10 TX10 22 19 := ⟨rfl, tm_lay_X10, by decide, tm_fl_X10_48⟩
theorem gf_X10_51 : GW RX10 51 10 RX10 TX10 22 20 := ⟨rfl, tm_lay_X10, by decide, tm_fl_X10_51⟩
theorem gf_X10_54 : GW RX10 54 10 RX10 TX10 22 21 := ⟨rfl, tm_lay_X10, by decide, tm_fl_X10_54⟩
theorem wi_L_9 : WI RL 9 yX9_init cX9_init 1 0 := ⟨tm_ml_L_9, tm_im_X9_init, tm_ini_X9, tm_code_X9_init, rfl, by decide +kernel, by decide +kernel, by decide +kernel⟩
theorem wi_X9_9 : WI RX9 9 yX5_init cX5_init 1 0 := ⟨tm_ml_X9_9, tm_im_X5_init, tm_ini_X5, tm_code_X5_init, rfl, by decide +kernel, by decide +kernel, by decide +kernel⟩
theorem ws_X5_46 : WS RX5 46 yJ7_fill_53178 cJ7_fill_53178 4 none 2 := ⟨tm_ml_X5_46, tm_st_J7_fill_53178, tm_ini_J7, tm_code_J7_fill_53178, by decide +kernel, by decide +kernel, by decide +kernel⟩
theorem wi_X9_18 : WI RX9 18 yX2_init cX2_init 1 0 := ⟨tm_ml_X9_18, tm_im_X2_init, tm_ini_X2, tm_code_X2_init, rfl, by decide +kernel, by decide +kernel, by decide +kernel⟩
theorem wi_X2_9 : WI RX2 9 yX5_init cX5_init 1 0 := ⟨tm_ml_X2_9, tm_im_X5_init, tm_ini_X5, tm_code_X5_init, rfl, by decide +kernel, by decide +kernel, by decide +kernel⟩
theorem wi_X9_28 : WI RX9 28 yX4_init cX4_init 1 0 := ⟨tm_ml_X9_28, tm_im_X4_init, tm_ini_X4, tm_code_X4_init, rfl, by decide +kernel, by decide +kernel, by decide +kernel⟩
theorem wi_X9_35 : WI RX9 35 yX8_init cX8_init 1 0 := ⟨tm_ml_X9_35, tm_im_X8_init, tm_ini_X8, tm_code_X8_init, rfl, by decide +kernel, by decide +kernel, by decide +kernel⟩
theorem wi_X8_11 : WI RX8 11 yX5_init cX5_init 1 0 := ⟨tm_ml_X8_11, tm_im_X5_init, tm_ini_X5, tm_code_X5_init, rfl, by decide +kernel, by decide +kernel, by decide +kernel⟩
theorem wi_X9_42 : WI RX9 42 yX0_init cX0_init 1 0 := ⟨tm_ml_X9_42, tm_im_X0_init, tm_ini_X0, tm_code_X0_init, rfl, by decide +kernel, by decide +kernel, by decide +kernel⟩
theorem wi_X9_49 : WI RX9 49 yX3_init cX3_init 1 0 := ⟨tm_ml_X9_49, tm_im_X3_init, tm_ini_X3, tm_code_X3_init, rfl, by decide +kernel, by decide +kernel, by decide +kernel⟩
theorem wi_X9_56 : WI RX9 56 yX6_init cX6_init 1 0 := ⟨tm_ml_X9_56, tm_im_X6_init, tm_ini_X6, tm_code_X6_init, rfl, by decide +kernel, by decide +kernel, by decide +kernel⟩
theorem wi_X9_63 : WI RX9 63 yX7_init cX7_init 1 0 := ⟨tm_ml_X9_63, tm_im_X7_init, tm_ini_X7, tm_code_X7_init, rfl, by decide +kernel, by decide +kernel, by decide +kernel⟩
theorem wi_X9_70 : WI RX9 70 yX1_init cX1_init 1 0 := ⟨tm_ml_X9_70, tm_im_X1_init, tm_ini_X1, tm_code_X1_init, rfl, by decide +kernel, by decide +kernel, by decide +kernel⟩
theorem wv_L_13 : WV RL 13 yX9_inch cX9_inch 3 (some .int) 1 := ⟨tm_ml_L_13, tm_im_X9_inch, tm_sel_X9_inch, tm_ini_X9, tm_code_X9_inch, by decide +kernel, by decide +kernel, by decide +kernel⟩
theorem ws_X9_75 : WS RX9 75 yX9_within cX9_within 3 (some .boolean) 3 := ⟨tm_ml_X9_75, tm_st_X9_within, tm_ini_X9, tm_code_X9_within, by decide +kernel, by decide +kernel, by decide +kernel⟩
theorem wv_L_18 : WV RL 18 yX9_week cX9_week 4 (some .int) 2 := ⟨tm_ml_L_18, tm_im_X9_week, tm_sel_X9_week, tm_ini_X9, tm_code_X9_week, by decide +kernel, by decide +kernel, by decide +kernel⟩
theorem wv_L_23 : WV RL 23 yX9_one cX9_one 6 (some .int) 4 := ⟨tm_ml_L_23, tm_im_X9_one, tm_sel_X9_one, tm_ini_X9, tm_code_X9_one, by decide +kernel, by decide +kernel, by decide +kernel⟩
theorem ws_X9_87 : WS RX9 87 yX9_isOne cX9_isOne 1 (some .boolean) 1 := ⟨tm_ml_X9_87, tm_st_X9_isOne, tm_ini_X9, tm_code_X9_isOne, by decide +kernel, by decide +kernel, by decide +kernel⟩
theorem wv_L_28 : WV RL 28 yX9_stick cX9_stick 4 (some .int) 2 := ⟨tm_ml_L_28, tm_im_X9_stick, tm_sel_X9_stick, tm_ini_X9, tm_code_X9_stick, by decide +kernel, by decide +kernel, by decide +kernel⟩
theorem ws_X9_101 : WS RX9 101 yX9_isStick cX9_isStick 1 (some .boolean) 1 := ⟨tm_ml_X9_101, tm_st_X9_isStick, tm_ini_X9, tm_code_X9_isStick, by decide +kernel, by decide +kernel, by decide +kernel⟩
theorem wv_L_32 : WV RL 32 yX9_bridge cX9_bridge 4 (some .int) 2 := ⟨tm_ml_L_32, tm_im_X9_bridge, tm_sel_X9_bridge, tm_ini_X9, tm_code_X9_bridge, by decide +kernel, by decide +kernel, by decide +kernel⟩
theorem ws_X9_107 : WS RX9 107 yX9_isBridge cX9_isBridge 1 (some .boolean) 1 := ⟨tm_ml_X9_107, tm_st_X9_isBridge, tm_ini_X9, tm_code_X9_isBridge, by decide +kernel, by decide +kernel, by decide +kernel⟩
theorem wv_L_36 : WV RL 36 yX9_say cX9_say 2 (some .int) 1 := ⟨tm_ml_L_36, tm_im_X9_say, tm_sel_X9_say, tm_ini_X9, tm_code_X9_say, by decide +kernel, by decide +kernel, by decide +kernel⟩
theorem wv_X9_119 : WV RX9 119 yX4_write cX4_write 2 (some .boolean) 1 := ⟨tm_ml_X9_119, tm_im_X4_write, tm_sel_X4_write, tm_ini_X4, tm_code_X4_write, by decide +kernel, by decide +kernel, by decide +kernel⟩
theorem wv_L_40 : WV RL 40 yX9_wipe cX9_wipe 1 (some .int) 0 := ⟨tm_ml_L_40, tm_im_X9_wipe, tm_sel_X9_wipe, tm_ini_X9, tm_code_X9_wipe, by decide +kernel, by decide +kernel, by decide +kernel⟩
theorem wv_X9_125 : WV RX9 125 yX4_clear cX4_clear 2 (some .int) 0 := ⟨tm_ml_X9_125, tm_im_X4_clear, tm_sel_X4_clear, tm_ini_X4, tm_code_X4_clear, by decide +kernel, by decide +kernel, by decide +kernel⟩
theorem wv_L_45 : WV RL 45 yX9_fault cX9_fault 1 (some .int) 0 := ⟨tm_ml_L_45, tm_im_X9_fault, tm_sel_X9_fault, tm_ini_X9, tm_code_X9_fault, by decide +kernel, by decide +kernel, by decide +kernel⟩
theorem wv_X9_129 : WV RX9 129 yX4_read cX4_read 3 (some .int) 0 := ⟨tm_ml_X9_129, tm_im_X4_read, tm_sel_X4_read, tm_ini_X4, tm_code_X4_read, by decide +kernel, by decide +kernel, by decide +kernel⟩
theorem wv_X4_34 : WV RX4 34 yX4_afterSign cX4_afterSign 3 (some .int) 2 := ⟨tm_ml_X4_34, tm_im_X4_afterSign, tm_sel_X4_afterSign, tm_ini_X4, tm_code_X4_afterSign, by decide +kernel, by decide +kernel, by decide +kernel⟩
theorem wv_X4_38 : WV RX4 38 yX4_begin cX4_begin 2 (some .int) 1 := ⟨tm_ml_X4_38, tm_im_X4_begin, tm_sel_X4_begin, tm_ini_X4, tm_code_X4_begin, by decide +kernel, by decide +kernel, by decide +kernel⟩
theorem wv_X4_55 : WV RX4 55 yX4_end cX4_end 1 (some .int) 0 := ⟨tm_ml_X4_55, tm_im_X4_end, tm_sel_X4_end, tm_ini_X4, tm_code_X4_end, by decide +kernel, by decide +kernel, by decide +kernel⟩
theorem wv_X4_42 : WV RX4 42 yX4_readVerb cX4_readVerb 2 (some .int) 1 := ⟨tm_ml_X4_42, tm_im_X4_readVerb, tm_sel_X4_readVerb, tm_ini_X4, tm_code_X4_readVerb, by decide +kernel, by decide +kernel, by decide +kernel⟩
theorem wv_X4_45 : WV RX4 45 yX4_readPlace cX4_readPlace 3 (some .int) 1 := ⟨tm_ml_X4_45, tm_im_X4_readPlace, tm_sel_X4_readPlace, tm_ini_X4, tm_code_X4_readPlace, by decide +kernel, by decide +kernel, by decide +kernel⟩
theorem wv_X4_48 : WV RX4 48 yX4_readNumber cX4_readNumber 2 (some .int) 1 := ⟨tm_ml_X4_48, tm_im_X4_readNumber, tm_sel_X4_readNumber, tm_ini_X4, tm_code_X4_readNumber, by decide +kernel, by decide +kernel, by decide +kernel⟩
theorem wv_L_49 : WV RL 49 yX9_judge cX9_judge 2 (some .int) 1 := ⟨tm_ml_L_49, tm_im_X9_judge, tm_sel_X9_judge, tm_ini_X9, tm_code_X9_judge, by decide +kernel, by decide +kernel, by decide +kernel⟩
theorem wv_X9_132 : WV RX9 132 yX8_tryOut cX8_tryOut 4 (some .boolean) 2 := ⟨tm_ml_X9_132, tm_im_X8_tryOut, tm_sel_X8_tryOut, tm_ini_X8, tm_code_X8_tryOut, by decide +kernel, by decide +kernel, by decide +kernel⟩
theorem wv_X8_31 : WV RX8 31 yX4_read cX4_read 3 (some .int) 0 := ⟨tm_ml_X8_31, tm_im_X4_read, tm_sel_X4_read, tm_ini_X4, tm_code_X4_read, by decide +kernel, by decide +kernel, by decide +kernel⟩
theorem wv_X8_37 : WV RX8 37 yX5_become cX5_become 2 none 1 := ⟨tm_ml_X8_37, tm_im_X5_become, tm_sel_X5_become, tm_ini_X5, tm_code_X5_become, by decide +kernel, by decide +kernel, by decide +kernel⟩
theorem wa_X5_58 : WA RX5 58 := ⟨tm_ml_X5_58, tm_nat_acopy, tm_st_acopy, tm_ini_J10⟩
theorem wv_X8_45 : WV RX8 45 yX8_tryAct cX8_tryAct 7 none 2 := ⟨tm_ml_X8_45, tm_im_X8_tryAct, tm_sel_X8_tryAct, tm_ini_X8, tm_code_X8_tryAct, by decide +kernel, by decide +kernel, by decide +kernel⟩
theorem wv_X8_62 : WV RX8 62 yX5_hindrance cX5_hindrance 5 (some .int) 4 := ⟨tm_ml_X8_62, tm_im_X5_hindrance, tm_sel_X5_hindrance, tm_ini_X5, tm_code_X5_hindrance, by decide +kernel, by decide +kernel, by decide +kernel⟩
theorem ws_X5_82 : WS RX5 82 yX5_firstOf cX5_firstOf 2 (some .int) 2 := ⟨tm_ml_X5_82, tm_st_X5_firstOf, tm_ini_X5, tm_code_X5_firstOf, by decide +kernel, by decide +kernel, by decide +kernel⟩
theorem wv_X5_68 : WV RX5 68 yX5_measure cX5_measure 2 (some .int) 1 := ⟨tm_ml_X5_68, tm_im_X5_measure, tm_sel_X5_measure, tm_ini_X5, tm_code_X5_measure, by decide +kernel, by decide +kernel, by decide +kernel⟩
theorem wv_X5_64 : WV RX5 64 yX5_hasMet cX5_hasMet 2 (some .boolean) 1 := ⟨tm_ml_X5_64, tm_im_X5_hasMet, tm_sel_X5_hasMet, tm_ini_X5, tm_code_X5_hasMet, by decide +kernel, by decide +kernel, by decide +kernel⟩
theorem wv_X8_66 : WV RX8 66 yX5_act cX5_act 5 none 4 := ⟨tm_ml_X8_66, tm_im_X5_act, tm_sel_X5_act, tm_ini_X5, tm_code_X5_act, by decide +kernel, by decide +kernel, by decide +kernel⟩
theorem wm_X9_208 : WM RX9 208 Lib.Math.min.name Lib.Math.min.code 2 (some .int) := ⟨tm_ml_X9_208, tm_st_J9_min_7cf53, tm_ini_J9, tm_code_J9_min_7cf53⟩
theorem wm_X9_294 : WM RX9 294 Lib.Math.max.name Lib.Math.max.code 2 (some .int) := ⟨tm_ml_X9_294, tm_st_J9_max_7cf53, tm_ini_J9, tm_code_J9_max_7cf53⟩
theorem wv_X5_86 : WV RX5 86 yX5_nextInch cX5_nextInch 3 (some .int) 2 := ⟨tm_ml_X5_86, tm_im_X5_nextInch, tm_sel_X5_nextInch, tm_ini_X5, tm_code_X5_nextInch, by decide +kernel, by decide +kernel, by decide +kernel⟩
theorem ws_X5_72 : WS RX5 72 yJ9_floorMod_7cf53 cJ9_floorMod_7cf53 3 (some .int) 2 := ⟨tm_ml_X5_72, tm_st_J9_floorMod_7cf53, tm_ini_J9, tm_code_J9_floorMod_7cf53, by decide +kernel, by decide +kernel, by decide +kernel⟩
theorem wv_X8_70 : WV RX8 70 yX5_hasMet cX5_hasMet 2 (some .boolean) 1 := ⟨tm_ml_X8_70, tm_im_X5_hasMet, tm_sel_X5_hasMet, tm_ini_X5, tm_code_X5_hasMet, by decide +kernel, by decide +kernel, by decide +kernel⟩
theorem wv_L_53 : WV RL 53 yX9_done cX9_done 1 (some .int) 0 := ⟨tm_ml_L_53, tm_im_X9_done, tm_sel_X9_done, tm_ini_X9, tm_code_X9_done, by decide +kernel, by decide +kernel, by decide +kernel⟩
theorem wv_X9_142 : WV RX9 142 yX9_allCanBe cX9_allCanBe 1 (some .boolean) 0 := ⟨tm_ml_X9_142, tm_im_X9_allCanBe, tm_sel_X9_allCanBe, tm_ini_X9, tm_code_X9_allCanBe, by decide +kernel, by decide +kernel, by decide +kernel⟩
theorem wv_X9_149 : WV RX9 149 yX5_become cX5_become 2 none 1 := ⟨tm_ml_X9_149, tm_im_X5_become, tm_sel_X5_become, tm_ini_X5, tm_code_X5_become, by decide +kernel, by decide +kernel, by decide +kernel⟩
theorem wv_L_57 : WV RL 57 yX9_behind cX9_behind 3 (some .int) 2 := ⟨tm_ml_L_57, tm_im_X9_behind, tm_sel_X9_behind, tm_ini_X9, tm_code_X9_behind, by decide +kernel, by decide +kernel, by decide +kernel⟩
theorem wv_X9_156 : WV RX9 156 yX5_ofOne cX5_ofOne 3 (some .int) 2 := ⟨tm_ml_X9_156, tm_im_X5_ofOne, tm_sel_X5_ofOne, tm_ini_X5, tm_code_X5_ofOne, by decide +kernel, by decide +kernel, by decide +kernel⟩
theorem wv_L_61 : WV RL 61 yX9_lies cX9_lies 2 (some .int) 1 := ⟨tm_ml_L_61, tm_im_X9_lies, tm_sel_X9_lies, tm_ini_X9, tm_code_X9_lies, by decide +kernel, by decide +kernel, by decide +kernel⟩
theorem wv_L_65 : WV RL 65 yX9_built cX9_built 3 (some .int) 2 := ⟨tm_ml_L_65, tm_im_X9_built, tm_sel_X9_built, tm_ini_X9, tm_code_X9_built, by decide +kernel, by decide +kernel, by decide +kernel⟩
theorem wv_X9_160 : WV RX9 160 yX5_overlap cX5_overlap 2 (some .int) 1 := ⟨tm_ml_X9_160, tm_im_X5_overlap, tm_sel_X5_overlap, tm_ini_X5, tm_code_X5_overlap, by decide +kernel, by decide +kernel, by decide +kernel⟩
theorem wv_L_69 : WV RL 69 yX9_then cX9_then 2 (some .int) 1 := ⟨tm_ml_L_69, tm_im_X9_then, tm_sel_X9_then, tm_ini_X9, tm_code_X9_then, by decide +kernel, by decide +kernel, by decide +kernel⟩
theorem wv_L_73 : WV RL 73 yX9_inches cX9_inches 4 (some .long) 3 := ⟨tm_ml_L_73, tm_im_X9_inches, tm_sel_X9_inches, tm_ini_X9, tm_code_X9_inches, by decide +kernel, by decide +kernel, by decide +kernel⟩
theorem wv_X9_177 : WV RX9 177 yX5_measure cX5_measure 2 (some .int) 1 := ⟨tm_ml_X9_177, tm_im_X5_measure, tm_sel_X5_measure, tm_ini_X5, tm_code_X5_measure, by decide +kernel, by decide +kernel, by decide +kernel⟩
theorem ws_X9_180 : WS RX9 180 yX9_lowest cX9_lowest 7 (some .long) 3 := ⟨tm_ml_X9_180, tm_st_X9_lowest, tm_ini_X9, tm_code_X9_lowest, by decide +kernel, by decide +kernel, by decide +kernel⟩
theorem ws_X9_297 : WS RX9 297 yX9_sharedDivisor cX9_sharedDivisor 11 (some .long) 2 := ⟨tm_ml_X9_297, tm_st_X9_sharedDivisor, tm_ini_X9, tm_code_X9_sharedDivisor, by decide +kernel, by decide +kernel, by decide +kernel⟩
theorem wm_X9_301 : WM RX9 301 Lib.MathLoose.max_long.x Lib.MathLoose.max_long.code 4 (some .long) := ⟨tm_ml_X9_301, tm_st_J9_max_f86c9, tm_ini_J9, tm_code_J9_max_f86c9⟩
theorem wv_L_78 : WV RL 78 yX9_will cX9_will 2 (some .int) 1 := ⟨tm_ml_L_78, tm_im_X9_will, tm_sel_X9_will, tm_ini_X9, tm_code_X9_will, by decide +kernel, by decide +kernel, by decide +kernel⟩
theorem wv_X9_184 : WV RX9 184 yX0_look cX0_look 4 none 2 := ⟨tm_ml_X9_184, tm_im_X0_look, tm_sel_X0_look, tm_ini_X0, tm_code_X0_look, by decide +kernel, by decide +kernel, by decide +kernel⟩
theorem wv_X0_27 : WV RX0 27 yX5_nextInch cX5_nextInch 3 (some .int) 2 := ⟨tm_ml_X0_27, tm_im_X5_nextInch, tm_sel_X5_nextInch, tm_ini_X5, tm_code_X5_nextInch, by decide +kernel, by decide +kernel, by decide +kernel⟩
theorem wv_L_82 : WV RL 82 yX9_sure cX9_sure 3 (some .long) 2 := ⟨tm_ml_L_82, tm_im_X9_sure, tm_sel_X9_sure, tm_ini_X9, tm_code_X9_sure, by decide +kernel, by decide +kernel, by decide +kernel⟩
theorem wv_X9_191 : WV RX9 191 yX0_trade cX0_trade 4 none 1 := ⟨tm_ml_X9_191, tm_im_X0_trade, tm_sel_X0_trade, tm_ini_X0, tm_code_X0_trade, by decide +kernel, by decide +kernel, by decide +kernel⟩
theorem wv_L_87 : WV RL 87 yX9_when cX9_when 2 (some .int) 1 := ⟨tm_ml_L_87, tm_im_X9_when, tm_sel_X9_when, tm_ini_X9, tm_code_X9_when, by decide +kernel, by decide +kernel, by decide +kernel⟩
theorem wv_L_91 : WV RL 91 yX9_meet cX9_meet 8 (some .int) 5 := ⟨tm_ml_L_91, tm_im_X9_meet, tm_sel_X9_meet, tm_ini_X9, tm_code_X9_meet, by decide +kernel, by decide +kernel, by decide +kernel⟩
theorem wv_L_96 : WV RL 96 yX9_waste cX9_waste 9 (some .int) 4 := ⟨tm_ml_L_96, tm_im_X9_waste, tm_sel_X9_waste, tm_ini_X9, tm_code_X9_waste, by decide +kernel, by decide +kernel, by decide +kernel⟩
theorem ws_X9_201 : WS RX9 201 yX9_fewestForLeastRest cX9_fewestForLeastRest 7 (some .int) 3 := ⟨tm_ml_X9_201, tm_st_X9_fewestForLeastRest, tm_ini_X9, tm_code_X9_fewestForLeastRest, by decide +kernel, by decide +kernel, by decide +kernel⟩
theorem ws_X9_205 : WS RX9 205 yX9_restBy cX9_restBy 2 (some .int) 2 := ⟨tm_ml_X9_205, tm_st_X9_restBy, tm_ini_X9, tm_code_X9_restBy, by decide +kernel, by decide +kernel, by decide +kernel⟩
theorem wv_L_100 : WV RL 100 yX9_days cX9_days 5 (some .int) 3 := ⟨tm_ml_L_100, tm_im_X9_days, tm_sel_X9_days, tm_ini_X9, tm_code_X9_days, by decide +kernel, by decide +kernel, by decide +kernel⟩
theorem wv_X9_213 : WV RX9 213 yX0_leastSpread cX0_leastSpread 5 (some .int) 2 := ⟨tm_ml_X9_213, tm_im_X0_leastSpread, tm_sel_X0_leastSpread, tm_ini_X0, tm_code_X0_leastSpread, by decide +kernel, by decide +kernel, by decide +kernel⟩
theorem wv_X0_37 : WV RX0 37 yX0_sort cX0_sort 4 none 1 := ⟨tm_ml_X0_37, tm_im_X0_sort, tm_sel_X0_sort, tm_ini_X0, tm_code_X0_sort, by decide +kernel, by decide +kernel, by decide +kernel⟩
theorem wm_X0_41 : WM RX0 41 Lib.Math.min.name Lib.Math.min.code 2 (some .int) := ⟨tm_ml_X0_41, tm_st_J9_min_7cf53, tm_ini_J9, tm_code_J9_min_7cf53⟩
theorem wv_X9_216 : WV RX9 216 yX0_firstDay cX0_firstDay 5 (some .int) 3 := ⟨tm_ml_X9_216, tm_im_X0_firstDay, tm_sel_X0_firstDay, tm_ini_X0, tm_code_X0_firstDay, by decide +kernel, by decide +kernel, by decide +kernel⟩
theorem wv_X0_46 : WV RX0 46 yX0_begins cX0_begins 7 (some .boolean) 4 := ⟨tm_ml_X0_46, tm_im_X0_begins, tm_sel_X0_begins, tm_ini_X0, tm_code_X0_begins, by decide +kernel, by decide +kernel, by decide +kernel⟩
theorem wv_X0_54 : WV RX0 54 yX0_daysWithin cX0_daysWithin 7 (some .int) 4 := ⟨tm_ml_X0_54, tm_im_X0_daysWithin, tm_sel_X0_daysWithin, tm_ini_X0, tm_code_X0_daysWithin, by decide +kernel, by decide +kernel, by decide +kernel⟩
theorem wv_L_105 : WV RL 105 yX9_seen cX9_seen 3 (some .int) 2 := ⟨tm_ml_L_105, tm_im_X9_seen, tm_sel_X9_seen, tm_ini_X9, tm_code_X9_seen, by decide +kernel, by decide +kernel, by decide +kernel⟩
theorem wv_L_109 : WV RL 109 yX9_forget cX9_forget 2 (some .int) 0 := ⟨tm_ml_L_109, tm_im_X9_forget, tm_sel_X9_forget, tm_ini_X9, tm_code_X9_forget, by decide +kernel, by decide +kernel, by decide +kernel⟩
theorem wv_L_113 : WV RL 113 yX9_fits cX9_fits 2 (some .int) 1 := ⟨tm_ml_L_113, tm_im_X9_fits, tm_sel_X9_fits, tm_ini_X9, tm_code_X9_fits, by decide +kernel, by decide +kernel, by decide +kernel⟩
theorem wv_X9_228 : WV RX9 228 yX3_fit cX3_fit 4 none 1 := ⟨tm_ml_X9_228, tm_im_X3_fit, tm_sel_X3_fit, tm_ini_X3, tm_code_X3_fit, by decide +kernel, by decide +kernel, by decide +kernel⟩
theorem wv_X3_33 : WV RX3 33 yX3_narrow cX3_narrow 5 none 3 := ⟨tm_ml_X3_33, tm_im_X3_narrow, tm_sel_X3_narrow, tm_ini_X3, tm_code_X3_narrow, by decide +kernel, by decide +kernel, by decide +kernel⟩
theorem wm_X3_37 : WM RX3 37 Lib.Math.max.name Lib.Math.max.code 2 (some .int) := ⟨tm_ml_X3_37, tm_st_J9_max_7cf53, tm_ini_J9, tm_code_J9_max_7cf53⟩
theorem wm_X3_43 : WM RX3 43 Lib.Math.min.name Lib.Math.min.code 2 (some .int) := ⟨tm_ml_X3_43, tm_st_J9_min_7cf53, tm_ini_J9, tm_code_J9_min_7cf53⟩
theorem wv_X9_231 : WV RX9 231 yX3_howMany cX3_howMany 3 (some .int) 0 := ⟨tm_ml_X9_231, tm_im_X3_howMany, tm_sel_X3_howMany, tm_ini_X3, tm_code_X3_howMany, by decide +kernel, by decide +kernel, by decide +kernel⟩
theorem wv_X9_234 : WV RX9 234 yX3_lawAt cX3_lawAt 5 (some .int) 1 := ⟨tm_ml_X9_234, tm_im_X3_lawAt, tm_sel_X3_lawAt, tm_ini_X3, tm_code_X3_lawAt, by decide +kernel, by decide +kernel, by decide +kernel⟩
theorem wv_L_117 : WV RL 117 yX9_ask cX9_ask 3 (some .int) 1 := ⟨tm_ml_L_117, tm_im_X9_ask, tm_sel_X9_ask, tm_ini_X9, tm_code_X9_ask, by decide +kernel, by decide +kernel, by decide +kernel⟩
theorem wv_X9_237 : WV RX9 237 yX3_bestDay cX3_bestDay 5 (some .int) 0 := ⟨tm_ml_X9_237, tm_im_X3_bestDay, tm_sel_X3_bestDay, tm_ini_X3, tm_code_X3_bestDay, by decide +kernel, by decide +kernel, by decide +kernel⟩
theorem wv_X3_50 : WV RX3 50 yX3_mostLeft cX3_mostLeft 7 (some .int) 1 := ⟨tm_ml_X3_50, tm_im_X3_mostLeft, tm_sel_X3_mostLeft, tm_ini_X3, tm_code_X3_mostLeft, by decide +kernel, by decide +kernel, by decide +kernel⟩
theorem ws_X3_54 : WS RX3 54 yJ7_fill_53178 cJ7_fill_53178 4 none 2 := ⟨tm_ml_X3_54, tm_st_J7_fill_53178, tm_ini_J7, tm_code_J7_fill_53178, by decide +kernel, by decide +kernel, by decide +kernel⟩
theorem wv_X3_60 : WV RX3 60 yX3_raise cX3_raise 3 none 2 := ⟨tm_ml_X3_60, tm_im_X3_raise, tm_sel_X3_raise, tm_ini_X3, tm_code_X3_raise, by decide +kernel, by decide +kernel, by decide +kernel⟩
theorem wv_X3_64 : WV RX3 64 yX3_highestRise cX3_highestRise 4 (some .int) 0 := ⟨tm_ml_X3_64, tm_im_X3_highestRise, tm_sel_X3_highestRise, tm_ini_X3, tm_code_X3_highestRise, by decide +kernel, by decide +kernel, by decide +kernel⟩
theorem wv_X9_240 : WV RX9 240 yX3_mostLeft cX3_mostLeft 7 (some .int) 1 := ⟨tm_ml_X9_240, tm_im_X3_mostLeft, tm_sel_X3_mostLeft, tm_ini_X3, tm_code_X3_mostLeft, by decide +kernel, by decide +kernel, by decide +kernel⟩
theorem wv_L_121 : WV RL 121 yX9_settle cX9_settle 4 (some .int) 2 := ⟨tm_ml_L_121, tm_im_X9_settle, tm_sel_X9_settle, tm_ini_X9, tm_code_X9_settle, by decide +kernel, by decide +kernel, by decide +kernel⟩
theorem wv_X9_243 : WV RX9 243 yX6_stand cX6_stand 3 none 1 := ⟨tm_ml_X9_243, tm_im_X6_stand, tm_sel_X6_stand, tm_ini_X6, tm_code_X6_stand, by decide +kernel, by decide +kernel, by decide +kernel⟩
theorem wv_X6_18 : WV RX6 18 yX5_measure cX5_measure 2 (some .int) 1 := ⟨tm_ml_X6_18, tm_im_X5_measure, tm_sel_X5_measure, tm_ini_X5, tm_code_X5_measure, by decide +kernel, by decide +kernel, by decide +kernel⟩
theorem wv_X9_246 : WV RX9 246 yX6_takeMeans cX6_takeMeans 3 (some .boolean) 0 := ⟨tm_ml_X9_246, tm_im_X6_takeMeans, tm_sel_X6_takeMeans, tm_ini_X6, tm_code_X6_takeMeans, by decide +kernel, by decide +kernel, by decide +kernel⟩
theorem wa_X6_24 : WA RX6 24 := ⟨tm_ml_X6_24, tm_nat_acopy, tm_st_acopy, tm_ini_J10⟩
theorem wv_L_125 : WV RL 125 yX9_settled cX9_settled 1 (some .int) 0 := ⟨tm_ml_L_125, tm_im_X9_settled, tm_sel_X9_settled, tm_ini_X9, tm_code_X9_settled, by decide +kernel, by decide +kernel, by decide +kernel⟩
theorem wv_X9_252 : WV RX9 252 yX6_timesTillStill cX6_timesTillStill 2 (some .int) 0 := ⟨tm_ml_X9_252, tm_im_X6_timesTillStill, tm_sel_X6_timesTillStill, tm_ini_X6, tm_code_X6_timesTillStill, by decide +kernel, by decide +kernel, by decide +kernel⟩
theorem wv_X6_31 : WV RX6 31 yX6_takeMeans cX6_takeMeans 3 (some .boolean) 0 := ⟨tm_ml_X6_31, tm_im_X6_takeMeans, tm_sel_X6_takeMeans, tm_ini_X6, tm_code_X6_takeMeans, by decide +kernel, by decide +kernel, by decide +kernel⟩
theorem wv_L_129 : WV RL 129 yX9_halves cX9_halves 5 (some .int) 3 := ⟨tm_ml_L_129, tm_im_X9_halves, tm_sel_X9_halves, tm_ini_X9, tm_code_X9_halves, by decide +kernel, by decide +kernel, by decide +kernel⟩
theorem wv_X9_255 : WV RX9 255 yX7_firstMove cX7_firstMove 4 (some .int) 2 := ⟨tm_ml_X9_255, tm_im_X7_firstMove, tm_sel_X7_firstMove, tm_ini_X7, tm_code_X7_firstMove, by decide +kernel, by decide +kernel, by decide +kernel⟩
theorem wv_X7_15 : WV RX7 15 yX7_winningMove cX7_winningMove 4 (some .int) 2 := ⟨tm_ml_X7_15, tm_im_X7_winningMove, tm_sel_X7_winningMove, tm_ini_X7, tm_code_X7_winningMove, by decide +kernel, by decide +kernel, by decide +kernel⟩
theorem wv_L_133 : WV RL 133 yX9_shake cX9_shake 6 (some .long) 5 := ⟨tm_ml_L_133, tm_im_X9_shake, tm_sel_X9_shake, tm_ini_X9, tm_code_X9_shake, by decide +kernel, by decide +kernel, by decide +kernel⟩
theorem wv_X9_258 : WV RX9 258 yX1_spread cX1_spread 6 none 3 := ⟨tm_ml_X9_258, tm_im_X1_spread, tm_sel_X1_spread, tm_ini_X1, tm_code_X1_spread, by decide +kernel, by decide +kernel, by decide +kernel⟩
theorem ws_X1_18 : WS RX1 18 yJ7_fill_d0a16 cJ7_fill_d0a16 5 none 2 := ⟨tm_ml_X1_18, tm_st_J7_fill_d0a16, tm_ini_J7, tm_code_J7_fill_d0a16, by decide +kernel, by decide +kernel, by decide +kernel⟩
theorem wv_X1_24 : WV RX1 24 yX1_waysAt cX1_waysAt 2 (some .long) 1 := ⟨tm_ml_X1_24, tm_im_X1_waysAt, tm_sel_X1_waysAt, tm_ini_X1, tm_code_X1_waysAt, by decide +kernel, by decide +kernel, by decide +kernel⟩
theorem wa_X1_28 : WA RX1 28 := ⟨tm_ml_X1_28, tm_nat_acopy, tm_st_acopy, tm_ini_J10⟩
theorem wv_X9_262 : WV RX9 262 yX1_waysOff cX1_waysOff 5 (some .long) 1 := ⟨tm_ml_X9_262, tm_im_X1_waysOff, tm_sel_X1_waysOff, tm_ini_X1, tm_code_X1_waysOff, by decide +kernel, by decide +kernel, by decide +kernel⟩
theorem wm_X1_38 : WM RX1 38 Lib.Math.abs.name Lib.Math.abs.code 1 (some .int) := ⟨tm_ml_X1_38, tm_st_J9_abs_0f7a4, tm_ini_J9, tm_code_J9_abs_0f7a4⟩
theorem wv_X9_266 : WV RX9 266 yX1_allWays cX1_allWays 5 (some .long) 1 := ⟨tm_ml_X9_266, tm_im_X1_allWays, tm_sel_X1_allWays, tm_ini_X1, tm_code_X1_allWays, by decide +kernel, by decide +kernel, by decide +kernel⟩
theorem wv_L_138 : WV RL 138 yX9_year cX9_year 4 (some .int) 3 := ⟨tm_ml_L_138, tm_im_X9_year, tm_sel_X9_year, tm_ini_X9, tm_code_X9_year, by decide +kernel, by decide +kernel, by decide +kernel⟩
theorem wv_X9_269 : WV RX9 269 yX8_drawYear cX8_drawYear 9 none 3 := ⟨tm_ml_X9_269, tm_im_X8_drawYear, tm_sel_X8_drawYear, tm_ini_X8, tm_code_X8_drawYear, by decide +kernel, by decide +kernel, by decide +kernel⟩
theorem wv_X9_273 : WV RX9 273 yX5_coins cX5_coins 3 (some .int) 0 := ⟨tm_ml_X9_273, tm_im_X5_coins, tm_sel_X5_coins, tm_ini_X5, tm_code_X5_coins, by decide +kernel, by decide +kernel, by decide +kernel⟩
theorem wv_X9_276 : WV RX9 276 yX5_metBridges cX5_metBridges 3 (some .int) 0 := ⟨tm_ml_X9_276, tm_im_X5_metBridges, tm_sel_X5_metBridges, tm_ini_X5, tm_code_X5_metBridges, by decide +kernel, by decide +kernel, by decide +kernel⟩
theorem wv_L_142 : WV RL 142 yX9_image cX9_image 3 (some .int) 1 := ⟨tm_ml_L_142, tm_im_X9_image, tm_sel_X9_image, tm_ini_X9, tm_code_X9_image, by decide +kernel, by decide +kernel, by decide +kernel⟩
theorem wv_X9_279 : WV RX9 279 yX9_imageOf cX9_imageOf 2 (some (.object "LentRulers$Image")) 1 := ⟨tm_ml_X9_279, tm_im_X9_imageOf, tm_sel_X9_imageOf, tm_ini_X9, tm_code_X9_imageOf, by decide +kernel, by decide +kernel, by decide +kernel⟩
theorem wv_L_146 : WV RL 146 yX9_restore cX9_restore 3 (some .int) 1 := ⟨tm_ml_L_146, tm_im_X9_restore, tm_sel_X9_restore, tm_ini_X9, tm_code_X9_restore, by decide +kernel, by decide +kernel, by decide +kernel⟩
theorem wv_L_150 : WV RL 150 yX9_told cX9_told 2 (some .int) 1 := ⟨tm_ml_L_150, tm_im_X9_told, tm_sel_X9_told, tm_ini_X9, tm_code_X9_told, by decide +kernel, by decide +kernel, by decide +kernel⟩
theorem wv_X9_288 : WV RX9 288 yX9_toldOfAll cX9_toldOfAll 2 (some .int) 1 := ⟨tm_ml_X9_288, tm_im_X9_toldOfAll, tm_sel_X9_toldOfAll, tm_ini_X9, tm_code_X9_toldOfAll, by decide +kernel, by decide +kernel, by decide +kernel⟩
theorem wv_X9_291 : WV RX9 291 yX5_ofBridge cX5_ofBridge 3 (some .int) 2 := ⟨tm_ml_X9_291, tm_im_X5_ofBridge, tm_sel_X5_ofBridge, tm_ini_X5, tm_code_X5_ofBridge, by decide +kernel, by decide +kernel, by decide +kernel⟩
theorem wi_L_12 : WI RL 12 yX10_init cX10_init 2 0 := ⟨tm_ml_L_12, tm_im_X10_init, tm_ini_X10, tm_code_X10_init, rfl, by decide +kernel, by decide +kernel, by decide +kernel⟩
theorem wv_L_17 : WV RL 17 yX10_inch cX10_inch 3 (some .int) 1 := ⟨tm_ml_L_17, tm_im_X10_inch, tm_sel_X10_inch, tm_ini_X10, tm_code_X10_inch, by decide +kernel, by decide +kernel, by decide +kernel⟩
theorem ws_X10_57 : WS RX10 57 yX10_in cX10_in 3 (some .boolean) 3 := ⟨tm_ml_X10_57, tm_st_X10_in, tm_ini_X10, tm_code_X10_in, by decide +kernel, by decide +kernel, by decide +kernel⟩
theorem wv_L_22 : WV RL 22 yX10_week cX10_week 4 (some .int) 2 := ⟨tm_ml_L_22, tm_im_X10_week, tm_sel_X10_week, tm_ini_X10, tm_code_X10_week, by decide +kernel, by decide +kernel, by decide +kernel⟩
theorem wv_L_27 : WV RL 27 yX10_one cX10_one 6 (some .int) 4 := ⟨tm_ml_L_27, tm_im_X10_one, tm_sel_X10_one, tm_ini_X10, tm_code_X10_one, by decide +kernel, by decide +kernel, by decide +kernel⟩
theorem ws_X10_61 : WS RX10 61 yX10_isOne cX10_isOne 1 (some .boolean) 1 := ⟨tm_ml_X10_61, tm_st_X10_isOne, tm_ini_X10, tm_code_X10_isOne, by decide +kernel, by decide +kernel, by decide +kernel⟩
theorem wv_L_31 : WV RL 31 yX10_stick cX10_stick 4 (some .int) 2 := ⟨tm_ml_L_31, tm_im_X10_stick, tm_sel_X10_stick, tm_ini_X10, tm_code_X10_stick, by decide +kernel, by decide +kernel, by decide +kernel⟩
theorem ws_X10_66 : WS RX10 66 yX10_isStick cX10_isStick 1 (some .boolean) 1 := ⟨tm_ml_X10_66, tm_st_X10_isStick, tm_ini_X10, tm_code_X10_isStick, by decide +kernel, by decide +kernel, by decide +kernel⟩
theorem wv_L_35 : WV RL 35 yX10_bridge cX10_bridge 4 (some .int) 2 := ⟨tm_ml_L_35, tm_im_X10_bridge, tm_sel_X10_bridge, tm_ini_X10, tm_code_X10_bridge, by decide +kernel, by decide +kernel, by decide +kernel⟩
theorem ws_X10_69 : WS RX10 69 yX10_isBridge cX10_isBridge 1 (some .boolean) 1 := ⟨tm_ml_X10_69, tm_st_X10_isBridge, tm_ini_X10, tm_code_X10_isBridge, by decide +kernel, by decide +kernel, by decide +kernel⟩
theorem wv_L_39 : WV RL 39 yX10_say cX10_say 2 (some .int) 1 := ⟨tm_ml_L_39, tm_im_X10_say, tm_sel_X10_say, tm_ini_X10, tm_code_X10_say, by decide +kernel, by decide +kernel, by decide +kernel⟩
theorem wv_L_44 : WV RL 44 yX10_wipe cX10_wipe 2 (some .int) 0 := ⟨tm_ml_L_44, tm_im_X10_wipe, tm_sel_X10_wipe, tm_ini_X10, tm_code_X10_wipe, by decide +kernel, by decide +kernel, by decide +kernel⟩
theorem wv_L_48 : WV RL 48 yX10_fault cX10_fault 1 (some .int) 0 := ⟨tm_ml_L_48, tm_im_X10_fault, tm_sel_X10_fault, tm_ini_X10, tm_code_X10_fault, by decide +kernel, by decide +kernel, by decide +kernel⟩
theorem wv_X10_80 : WV RX10 80 yX10_faultOf cX10_faultOf 3 (some .int) 0 := ⟨tm_ml_X10_80, tm_im_X10_faultOf, tm_sel_X10_faultOf, tm_ini_X10, tm_code_X10_faultOf, by decide +kernel, by decide +kernel, by decide +kernel⟩
theorem ws_X10_76 : WS RX10 76 yX10_step cX10_step 2 (some .int) 2 := ⟨tm_ml_X10_76, tm_st_X10_step, tm_ini_X10, tm_code_X10_step, by decide +kernel, by decide +kernel, by decide +kernel⟩
theorem wv_L_52 : WV RL 52 yX10_judge cX10_judge 3 (some .int) 1 := ⟨tm_ml_L_52, tm_im_X10_judge, tm_sel_X10_judge, tm_ini_X10, tm_code_X10_judge, by decide +kernel, by decide +kernel, by decide +kernel⟩
theorem wv_X10_143 : WV RX10 143 yX10_goWeeks cX10_goWeeks 5 (some .int) 0 := ⟨tm_ml_X10_143, tm_im_X10_goWeeks, tm_sel_X10_goWeeks, tm_ini_X10, tm_code_X10_goWeeks, by decide +kernel, by decide +kernel, by decide +kernel⟩
theorem wv_X10_122 : WV RX10 122 yX10_asNow cX10_asNow 2 none 0 := ⟨tm_ml_X10_122, tm_im_X10_asNow, tm_sel_X10_asNow, tm_ini_X10, tm_code_X10_asNow, by decide +kernel, by decide +kernel, by decide +kernel⟩
theorem wv_X10_128 : WV RX10 128 yX10_met cX10_met 3 (some .int) 0 := ⟨tm_ml_X10_128, tm_im_X10_met, tm_sel_X10_met, tm_ini_X10, tm_code_X10_met, by decide +kernel, by decide +kernel, by decide +kernel⟩
theorem wv_X10_94 : WV RX10 94 yX10_hasMet cX10_hasMet 2 (some .boolean) 1 := ⟨tm_ml_X10_94, tm_im_X10_hasMet, tm_sel_X10_hasMet, tm_ini_X10, tm_code_X10_hasMet, by decide +kernel, by decide +kernel, by decide +kernel⟩
theorem wv_X10_131 : WV RX10 131 yX10_endDay cX10_endDay 1 (some .int) 0 := ⟨tm_ml_X10_131, tm_im_X10_endDay, tm_sel_X10_endDay, tm_ini_X10, tm_code_X10_endDay, by decide +kernel, by decide +kernel, by decide +kernel⟩
theorem ws_X10_97 : WS RX10 97 yX10_clamp cX10_clamp 1 (some .int) 1 := ⟨tm_ml_X10_97, tm_st_X10_clamp, tm_ini_X10, tm_code_X10_clamp, by decide +kernel, by decide +kernel, by decide +kernel⟩
theorem wv_X10_109 : WV RX10 109 yX10_numberAt cX10_numberAt 2 (some .int) 1 := ⟨tm_ml_X10_109, tm_im_X10_numberAt, tm_sel_X10_numberAt, tm_ini_X10, tm_code_X10_numberAt, by decide +kernel, by decide +kernel, by decide +kernel⟩
theorem wv_X10_137 : WV RX10 137 yX10_change cX10_change 2 (some .int) 1 := ⟨tm_ml_X10_137, tm_im_X10_change, tm_sel_X10_change, tm_ini_X10, tm_code_X10_change, by decide +kernel, by decide +kernel, by decide +kernel⟩
theorem wv_X10_140 : WV RX10 140 yX10_oneAct cX10_oneAct 3 (some .int) 1 := ⟨tm_ml_X10_140, tm_im_X10_oneAct, tm_sel_X10_oneAct, tm_ini_X10, tm_code_X10_oneAct, by decide +kernel, by decide +kernel, by decide +kernel⟩
theorem wv_X10_103 : WV RX10 103 yX10_copy cX10_copy 2 (some .int) 1 := ⟨tm_ml_X10_103, tm_im_X10_copy, tm_sel_X10_copy, tm_ini_X10, tm_code_X10_copy, by decide +kernel, by decide +kernel, by decide +kernel⟩
theorem wv_X10_106 : WV RX10 106 yX10_lay cX10_lay 2 (some .int) 1 := ⟨tm_ml_X10_106, tm_im_X10_lay, tm_sel_X10_lay, tm_ini_X10, tm_code_X10_lay, by decide +kernel, by decide +kernel, by decide +kernel⟩
theorem wv_X10_112 : WV RX10 112 yX10_buy cX10_buy 3 (some .int) 2 := ⟨tm_ml_X10_112, tm_im_X10_buy, tm_sel_X10_buy, tm_ini_X10, tm_code_X10_buy, by decide +kernel, by decide +kernel, by decide +kernel⟩
theorem wv_X10_115 : WV RX10 115 yX10_sell cX10_sell 3 (some .int) 2 := ⟨tm_ml_X10_115, tm_im_X10_sell, tm_sel_X10_sell, tm_ini_X10, tm_code_X10_sell, by decide +kernel, by decide +kernel, by decide +kernel⟩
theorem wv_X10_90 : WV RX10 90 yX10_measureOf cX10_measureOf 2 (some .int) 1 := ⟨tm_ml_X10_90, tm_im_X10_measureOf, tm_sel_X10_measureOf, tm_ini_X10, tm_code_X10_measureOf, by decide +kernel, by decide +kernel, by decide +kernel⟩
theorem wv_X10_118 : WV RX10 118 yX10_build cX10_build 5 (some .int) 4 := ⟨tm_ml_X10_118, tm_im_X10_build, tm_sel_X10_build, tm_ini_X10, tm_code_X10_build, by decide +kernel, by decide +kernel, by decide +kernel⟩
theorem wv_L_56 : WV RL 56 yX10_done cX10_done 2 (some .int) 0 := ⟨tm_ml_L_56, tm_im_X10_done, tm_sel_X10_done, tm_ini_X10, tm_code_X10_done, by decide +kernel, by decide +kernel, by decide +kernel⟩
theorem wv_X10_146 : WV RX10 146 yX10_barOfWeeks cX10_barOfWeeks 1 (some .int) 0 := ⟨tm_ml_X10_146, tm_im_X10_barOfWeeks, tm_sel_X10_barOfWeeks, tm_ini_X10, tm_code_X10_barOfWeeks, by decide +kernel, by decide +kernel, by decide +kernel⟩
theorem wv_L_60 : WV RL 60 yX10_behind cX10_behind 3 (some .int) 2 := ⟨tm_ml_L_60, tm_im_X10_behind, tm_sel_X10_behind, tm_ini_X10, tm_code_X10_behind, by decide +kernel, by decide +kernel, by decide +kernel⟩
theorem wv_L_64 : WV RL 64 yX10_lies cX10_lies 2 (some .int) 1 := ⟨tm_ml_L_64, tm_im_X10_lies, tm_sel_X10_lies, tm_ini_X10, tm_code_X10_lies, by decide +kernel, by decide +kernel, by decide +kernel⟩
theorem wv_L_68 : WV RL 68 yX10_built cX10_built 3 (some .int) 2 := ⟨tm_ml_L_68, tm_im_X10_built, tm_sel_X10_built, tm_ini_X10, tm_code_X10_built, by decide +kernel, by decide +kernel, by decide +kernel⟩
theorem wv_L_72 : WV RL 72 yX10_then cX10_then 2 (some .int) 1 := ⟨tm_ml_L_72, tm_im_X10_then, tm_sel_X10_then, tm_ini_X10, tm_code_X10_then, by decide +kernel, by decide +kernel, by decide +kernel⟩
theorem wv_L_77 : WV RL 77 yX10_inches cX10_inches 4 (some .long) 3 := ⟨tm_ml_L_77, tm_im_X10_inches, tm_sel_X10_inches, tm_ini_X10, tm_code_X10_inches, by decide +kernel, by decide +kernel, by decide +kernel⟩
theorem ws_X10_153 : WS RX10 153 yX10_lowest cX10_lowest 11 (some .long) 3 := ⟨tm_ml_X10_153, tm_st_X10_lowest, tm_ini_X10, tm_code_X10_lowest, by decide +kernel, by decide +kernel, by decide +kernel⟩
theorem wv_L_81 : WV RL 81 yX10_will cX10_will 2 (some .int) 1 := ⟨tm_ml_L_81, tm_im_X10_will, tm_sel_X10_will, tm_ini_X10, tm_code_X10_will, by decide +kernel, by decide +kernel, by decide +kernel⟩
theorem wv_X10_157 : WV RX10 157 yX10_layWill cX10_layWill 2 none 0 := ⟨tm_ml_X10_157, tm_im_X10_layWill, tm_sel_X10_layWill, tm_ini_X10, tm_code_X10_layWill, by decide +kernel, by decide +kernel, by decide +kernel⟩
theorem wv_L_86 : WV RL 86 yX10_sure cX10_sure 4 (some .long) 2 := ⟨tm_ml_L_86, tm_im_X10_sure, tm_sel_X10_sure, tm_ini_X10, tm_code_X10_sure, by decide +kernel, by decide +kernel, by decide +kernel⟩
theorem wv_X10_160 : WV RX10 160 yX10_best cX10_best 6 (some .int) 1 := ⟨tm_ml_X10_160, tm_im_X10_best, tm_sel_X10_best, tm_ini_X10, tm_code_X10_best, by decide +kernel, by decide +kernel, by decide +kernel⟩
theorem wv_L_90 : WV RL 90 yX10_when cX10_when 2 (some .int) 1 := ⟨tm_ml_L_90, tm_im_X10_when, tm_sel_X10_when, tm_ini_X10, tm_code_X10_when, by decide +kernel, by decide +kernel, by decide +kernel⟩
theorem wv_L_95 : WV RL 95 yX10_meet cX10_meet 8 (some .int) 5 := ⟨tm_ml_L_95, tm_im_X10_meet, tm_sel_X10_meet, tm_ini_X10, tm_code_X10_meet, by decide +kernel, by decide +kernel, by decide +kernel⟩
theorem wv_L_99 : WV RL 99 yX10_waste cX10_waste 10 (some .int) 4 := ⟨tm_ml_L_99, tm_im_X10_waste, tm_sel_X10_waste, tm_ini_X10, tm_code_X10_waste, by decide +kernel, by decide +kernel, by decide +kernel⟩
theorem wv_L_104 : WV RL 104 yX10_days cX10_days 8 (some .int) 3 := ⟨tm_ml_L_104, tm_im_X10_days, tm_sel_X10_days, tm_ini_X10, tm_code_X10_days, by decide +kernel, by decide +kernel, by decide +kernel⟩
theorem wv_X10_164 : WV RX10 164 yX10_countDays cX10_countDays 7 (some .int) 4 := ⟨tm_ml_X10_164, tm_im_X10_countDays, tm_sel_X10_countDays, tm_ini_X10, tm_code_X10_countDays, by decide +kernel, by decide +kernel, by decide +kernel⟩
theorem wv_L_108 : WV RL 108 yX10_seen cX10_seen 3 (some .int) 2 := ⟨tm_ml_L_108, tm_im_X10_seen, tm_sel_X10_seen, tm_ini_X10, tm_code_X10_seen, by decide +kernel, by decide +kernel, by decide +kernel⟩
theorem wv_L_112 : WV RL 112 yX10_forget cX10_forget 2 (some .int) 0 := ⟨tm_ml_L_112, tm_im_X10_forget, tm_sel_X10_forget, tm_ini_X10, tm_code_X10_forget, by decide +kernel, by decide +kernel, by decide +kernel⟩
theorem wv_L_116 : WV RL 116 yX10_fits cX10_fits 4 (some .int) 1 := ⟨tm_ml_L_116, tm_im_X10_fits, tm_sel_X10_fits, tm_ini_X10, tm_code_X10_fits, by decide +kernel, by decide +kernel, by decide +kernel⟩
theorem wv_X10_173 : WV RX10 173 yX10_isLaw cX10_isLaw 4 (some .boolean) 1 := ⟨tm_ml_X10_173, tm_im_X10_isLaw, tm_sel_X10_isLaw, tm_ini_X10, tm_code_X10_isLaw, by decide +kernel, by decide +kernel, by decide +kernel⟩
theorem ws_X10_170 : WS RX10 170 yX10_byLaw cX10_byLaw 2 (some .int) 2 := ⟨tm_ml_X10_170, tm_st_X10_byLaw, tm_ini_X10, tm_code_X10_byLaw, by decide +kernel, by decide +kernel, by decide +kernel⟩
theorem wv_L_120 : WV RL 120 yX10_ask cX10_ask 9 (some .int) 1 := ⟨tm_ml_L_120, tm_im_X10_ask, tm_sel_X10_ask, tm_ini_X10, tm_code_X10_ask, by decide +kernel, by decide +kernel, by decide +kernel⟩
theorem wv_L_124 : WV RL 124 yX10_settle cX10_settle 4 (some .int) 2 := ⟨tm_ml_L_124, tm_im_X10_settle, tm_sel_X10_settle, tm_ini_X10, tm_code_X10_settle, by decide +kernel, by decide +kernel, by decide +kernel⟩
theorem wv_X10_176 : WV RX10 176 yX10_layRing cX10_layRing 2 none 0 := ⟨tm_ml_X10_176, tm_im_X10_layRing, tm_sel_X10_layRing, tm_ini_X10, tm_code_X10_layRing, by decide +kernel, by decide +kernel, by decide +kernel⟩
theorem wv_X10_179 : WV RX10 179 yX10_takeMeans cX10_takeMeans 3 (some .boolean) 0 := ⟨tm_ml_X10_179, tm_im_X10_takeMeans, tm_sel_X10_takeMeans, tm_ini_X10, tm_code_X10_takeMeans, by decide +kernel, by decide +kernel, by decide +kernel⟩
theorem wv_L_128 : WV RL 128 yX10_settled cX10_settled 2 (some .int) 0 := ⟨tm_ml_L_128, tm_im_X10_settled, tm_sel_X10_settled, tm_ini_X10, tm_code_X10_settled, by decide +kernel, by decide +kernel, by decide +kernel⟩
theorem wv_L_132 : WV RL 132 yX10_halves cX10_halves 7 (some .int) 3 := ⟨tm_ml_L_132, tm_im_X10_halves, tm_sel_X10_halves, tm_ini_X10, tm_code_X10_halves, by decide +kernel, by decide +kernel, by decide +kernel⟩
theorem wv_L_137 : WV RL 137 yX10_shake cX10_shake 12 (some .long) 5 := ⟨tm_ml_L_137, tm_im_X10_shake, tm_sel_X10_shake, tm_ini_X10, tm_code_X10_shake, by decide +kernel, by decide +kernel, by decide +kernel⟩
theorem wv_L_141 : WV RL 141 yX10_year cX10_year 9 (some .int) 3 := ⟨tm_ml_L_141, tm_im_X10_year, tm_sel_X10_year, tm_ini_X10, tm_code_X10_year, by decide +kernel, by decide +kernel, by decide +kernel⟩
theorem wv_L_145 : WV RL 145 yX10_image cX10_image 4 (some .int) 1 := ⟨tm_ml_L_145, tm_im_X10_image, tm_sel_X10_image, tm_ini_X10, tm_code_X10_image, by decide +kernel, by decide +kernel, by decide +kernel⟩
theorem wv_L_149 : WV RL 149 yX10_restore cX10_restore 4 (some .int) 1 := ⟨tm_ml_L_149, tm_im_X10_restore, tm_sel_X10_restore, tm_ini_X10, tm_code_X10_restore, by decide +kernel, by decide +kernel, by decide +kernel⟩
theorem wv_L_153 : WV RL 153 yX10_told cX10_told 4 (some .int) 1 := ⟨tm_ml_L_153, tm_im_X10_told, tm_sel_X10_told, tm_ini_X10, tm_code_X10_told, by decide +kernel, by decide +kernel, by decide +kernel⟩
theorem wn_X4_51 : WN RX4 51 yX9_within RX9 cX9_within 3 (some .boolean) 3 := ⟨tm_st_X9_within, tm_ini_X9, tm_code_X9_within, by decide +kernel, by decide +kernel, by decide +kernel, fun _ _ h => h.2.2.2.2.1⟩
theorem wn_X5_78 : WN RX5 78 yX9_limited RX9 cX9_limited 1 (some .int) 1 := ⟨tm_st_X9_limited, tm_ini_X9, tm_code_X9_limited, by decide +kernel, by decide +kernel, by decide +kernel, fun _ _ h => h.2.2.2.2.2.1⟩
theorem wn_X0_50 : WN RX0 50 yX9_within RX9 cX9_within 3 (some .boolean) 3 := ⟨tm_st_X9_within, tm_ini_X9, tm_code_X9_within, by decide +kernel, by decide +kernel, by decide +kernel, fun _ _ h => h.2.1⟩
theorem wn_X3_46 : WN RX3 46 yX9_within RX9 cX9_within 3 (some .boolean) 3 := ⟨tm_st_X9_within, tm_ini_X9, tm_code_X9_within, by decide +kernel, by decide +kernel, by decide +kernel, fun _ _ h => h.2.2.2.1⟩
theorem wn_X1_34 : WN RX1 34 yX9_within RX9 cX9_within 3 (some .boolean) 3 := ⟨tm_st_X9_within, tm_ini_X9, tm_code_X9_within, by decide +kernel, by decide +kernel, by decide +kernel, fun _ _ h => h.2.2.1⟩
theorem wk_L_7 : WC RL 7 9 RX9 TX9 10 := ⟨rfl, tm_lay_X9, tm_cl_L_7, tm_inst_X9, tm_ini_X9⟩
theorem wk_X9_7 : WC RX9 7 5 RX5 TX5 13 := ⟨rfl, tm_lay_X5, tm_cl_X9_7, tm_inst_X5, tm_ini_X5⟩
theorem wk_X9_16 : WC RX9 16 2 RX2 TX2 2 := ⟨rfl, tm_lay_X2, tm_cl_X9_16, tm_inst_X2, tm_ini_X2⟩
theorem wk_X2_7 : WC RX2 7 5 RX5 TX5 13 := ⟨rfl, tm_lay_X5, tm_cl_X2_7, tm_inst_X5, tm_ini_X5⟩
theorem wk_X9_26 : WC RX9 26 4 RX4 TX4 7 := ⟨rfl, tm_lay_X4, tm_cl_X9_26, tm_inst_X4, tm_ini_X4⟩
theorem wk_X9_33 : WC RX9 33 8 RX8 TX8 6 := ⟨rfl, tm_lay_X8, tm_cl_X9_33, tm_inst_X8, tm_ini_X8⟩
theorem wk_X8_9 : WC RX8 9 5 RX5 TX5 13 := ⟨rfl, tm_lay_X5, tm_cl_X8_9, tm_inst_X5, tm_ini_X5⟩
theorem wk_X9_40 : WC RX9 40 0 RX0 TX0 4 := ⟨rfl, tm_lay_X0, tm_cl_X9_40, tm_inst_X0, tm_ini_X0⟩
theorem wk_X9_47 : WC RX9 47 3 RX3 TX3 3 := ⟨rfl, tm_lay_X3, tm_cl_X9_47, tm_inst_X3, tm_ini_X3⟩
theorem wk_X9_54 : WC RX9 54 6 RX6 TX6 2 := ⟨rfl, tm_lay_X6, tm_cl_X9_54, tm_inst_X6, tm_ini_X6⟩
theorem wk_X9_61 : WC RX9 61 7 RX7 TX7 1 := ⟨rfl, tm_lay_X7, tm_cl_X9_61, tm_inst_X7, tm_ini_X7⟩
theorem wk_X9_68 : WC RX9 68 1 RX1 TX1 2 := ⟨rfl, tm_lay_X1, tm_cl_X9_68, tm_inst_X1, tm_ini_X1⟩
theorem wk_L_10 : WC RL 10 10 RX10 TX10 22 := ⟨rfl, tm_lay_X10, tm_cl_L_10, tm_inst_X10, tm_ini_X10⟩
abbrev Ah : Type := (Nat → Int32) × (Nat → Int32) × Int32 × Int32
def bAh (E : EE) (a : Nat → Nat) (r : Ah) : va_W := [(a 0, .inr (0, [.ref (a 1), .ref (a 2), .int r.2.2.1, .int r.2.2.2])), (a 1, .inl (E.2.1, 100, .inl r.1)), (a 2, .inl (E.2.1, 61, .inl r.2.1))]
abbrev Hd : Type := (Nat → Int64) × (Nat → Int64)
def bHd (E : EE) (a : Nat → Nat) (r : Hd) : va_W := [(a 0, .inr (1, [.ref (a 1), .ref (a 2)])), (a 1, .inl (E.2.2.1, 25, .inr (.inl r.1))), (a 2, .inl (E.2.2.1, 25, .inr (.inl r.2)))]
abbrev Lw : Type := (Nat → Int32) × (Nat → Int32) × (Nat → Int32)
def bLw (E : EE) (a : Nat → Nat) (r : Lw) : va_W := [(a 0, .inr (3, [.ref (a 1), .ref (a 2), .ref (a 3)])), (a 1, .inl (E.2.1, 19, .inl r.1)), (a 2, .inl (E.2.1, 19, .inl r.2.1)), (a 3, .inl (E.2.1, 201, .inl r.2.2))]
abbrev Pd : Type := Int32 × Int32 × (Nat → Int32) × (Nat → Int32) × (Nat → Int32) × (Nat → Int32) × (Nat → Int32)
def bPd (E : EE) (a : Nat → Nat) (r : Pd) : va_W := [(a 0, .inr (4, [.int r.1, .int r.2.1, .ref (a 1), .ref (a 2), .ref (a 3), .ref (a 4), .ref (a 5)])), (a 1, .inl (E.2.1, 60, .inl r.2.2.1)), (a 2, .inl (E.2.1, 60, .inl r.2.2.2.1)), (a 3, .inl (E.2.1, 60, .inl r.2.2.2.2.1)), (a 4, .inl (E.2.1, 60, .inl r.2.2.2.2.2.1)), (a 5, .inl (E.2.1, 60, .inl r.2.2.2.2.2.2))]
abbrev Rl : Type := Int32 × Int32 × Int32 × (Nat → Int32) × (Nat → Int32) × (Nat → Int32) × (Nat → Int32) × (Nat → Int32) × (Nat → Int32) × (Nat → Int32) × (Nat → Int32) × (Nat → Int32) × (Nat → Int32)
def bRl (E : EE) (a : Nat → Nat) (r : Rl) : va_W := [(a 0, .inr (5, [.int r.1, .int r.2.1, .int r.2.2.1, .ref (a 1), .ref (a 2), .ref (a 3), .ref (a 4), .ref (a 5), .ref (a 6), .ref (a 7), .ref (a 8), .ref (a 9), .ref (a 10)])), (a 1, .inl (E.2.1, 7, .inl r.2.2.2.1)), (a 2, .inl (E.2.1, 6, .inl r.2.2.2.2.1)), (a 3, .inl (E.2.1, 6, .inl r.2.2.2.2.2.1)), (a 4, .inl (E.2.1, 6, .inl r.2.2.2.2.2.2.1)), (a 5, .inl (E.2.1, 8, .inl r.2.2.2.2.2.2.2.1)), (a 6, .inl (E.2.1, 4, .inl r.2.2.2.2.2.2.2.2.1)), (a 7, .inl (E.2.1, 4, .inl r.2.2.2.2.2.2.2.2.2.1)), (a 8, .inl (E.2.1, 4, .inl r.2.2.2.2.2.2.2.2.2.2.1)), (a 9, .inl (E.2.1, 8, .inl r.2.2.2.2.2.2.2.2.2.2.2.1)), (a 10, .inl (E.2.1, 8, .inl r.2.2.2.2.2.2.2.2.2.2.2.2))]
abbrev Rg : Type := (Nat → Int32) × (Nat → Int32)
def bRg (E : EE) (a : Nat → Nat) (r : Rg) : va_W := [(a 0, .inr (6, [.ref (a 1), .ref (a 2)])), (a 1, .inl (E.2.1, 6, .inl r.1)), (a 2, .inl (E.2.1, 6, .inl r.2))]
abbrev Tu : Type := (Nat → Int32)
def bTu (E : EE) (a : Nat → Nat) (r : Tu) : va_W := [(a 0, .inr (7, [.ref (a 1)])), (a 1, .inl (E.2.1, 201, .inl r))]
abbrev Md : Type := (Nat → Int32) × (Nat → Int32) × (Nat → Int32) × Int32 × (Nat → Int32) × Int32 × (Nat → Int32) × Int32 × Int32 × Int32 × Int32 × Int32 × (Nat → Int32) × (Nat → Int32) × (Nat → Int32) × (Nat → Int32) × (Nat → Int32) × (Nat → Int32) × (Nat → Int64) × (Nat → Int64) × (Nat → Int32) × (Nat → Int32)
def bMd (E : EE) (a : Nat → Nat) (r : Md) : va_W := [(a 0, .inr (10, [.ref (a 1), .ref (a 2), .ref (a 3), .int r.2.2.2.1, .ref (a 4), .int r.2.2.2.2.2.1, .ref (a 5), .int r.2.2.2.2.2.2.2.1, .int r.2.2.2.2.2.2.2.2.1, .int r.2.2.2.2.2.2.2.2.2.1, .int r.2.2.2.2.2.2.2.2.2.2.1, .int r.2.2.2.2.2.2.2.2.2.2.2.1, .ref (a 6), .ref (a 7), .ref (a 8), .ref (a 9), .ref (a 10), .ref (a 11), .ref (a 12), .ref (a 13), .ref (a 14), .ref (a 15)])), (a 1, .inl (E.2.1, 40, .inl r.1)), (a 2, .inl (E.2.1, 40, .inl r.2.1)), (a 3, .inl (E.2.1, 7, .inl r.2.2.1)), (a 4, .inl (E.2.1, 16, .inl r.2.2.2.2.1)), (a 5, .inl (E.2.1, 60, .inl r.2.2.2.2.2.2.1)), (a 6, .inl (E.2.1, 100, .inl r.2.2.2.2.2.2.2.2.2.2.2.2.1)), (a 7, .inl (E.2.1, 3800, .inl r.2.2.2.2.2.2.2.2.2.2.2.2.2.1)), (a 8, .inl (E.2.1, 201, .inl r.2.2.2.2.2.2.2.2.2.2.2.2.2.2.1)), (a 9, .inl (E.2.1, 6, .inl r.2.2.2.2.2.2.2.2.2.2.2.2.2.2.2.1)), (a 10, .inl (E.2.1, 6, .inl r.2.2.2.2.2.2.2.2.2.2.2.2.2.2.2.2.1)), (a 11, .inl (E.2.2.2, 201, .inl r.2.2.2.2.2.2.2.2.2.2.2.2.2.2.2.2.2.1)), (a 12, .inl (E.2.2.1, 27, .inr (.inl r.2.2.2.2.2.2.2.2.2.2.2.2.2.2.2.2.2.2.1))), (a 13, .inl (E.2.2.1, 27, .inr (.inl r.2.2.2.2.2.2.2.2.2.2.2.2.2.2.2.2.2.2.2.1))), (a 14, .inl (E.2.1, 140, .inl r.2.2.2.2.2.2.2.2.2.2.2.2.2.2.2.2.2.2.2.2.1)), (a 15, .inl (E.2.2.2, 2, .inl r.2.2.2.2.2.2.2.2.2.2.2.2.2.2.2.2.2.2.2.2.2))]
abbrev Wk : Type := Int32 × Int32 × Int32 × Int32 × Int32
def bWk (a t : Nat) (r : Wk) : va_W := [(a, .inr (8, [.ref t, .int r.1, .int r.2.1, .int r.2.2.1, .int r.2.2.2.1, .int r.2.2.2.2]))]
def bIm (a t : Nat) (r : Int32) : va_W := [(a, .inr (2, [.ref t, .int r]))]
def bLR (g : Nat → Nat → Nat) : va_W := [(g 0 0, .inr (9, [.ref (g 1 0), .ref (g 2 0), .ref (g 4 0), .ref (g 6 0), .ref (g 7 0), .ref (g 9 0), .ref (g 10 0), .ref (g 11 0), .ref (g 12 0), .ref (g 13 0)]))]
end
section
section Norm
variable {E : EE} {K : Ctx} {cells slots : Nat} {ws : va_W} {lv : List (Nat × Value)} {rest : List Value} {cc : ByteArray} {nL : Nat} {own : String} {rm : Room}
theorem jv_norm {pc : Nat} {x x2 : Int32} (h : x = x2) (k : JV E K cells slots ws lv pc (.int x2 :: rest)) : JV E K cells slots ws lv pc (.int x :: rest) := h ▸ k
theorem jv_norml {pc : Nat} {x x2 : Int64} (h : x = x2) (k : JV E K cells slots ws lv pc (.long x2 :: rest)) : JV E K cells slots ws lv pc (.long x :: rest) := h ▸ k
theorem jn_if_lt (pc : Nat) (X : CX E K cc nL own rm) {x : Int32} {off : Int} (d : decode cc pc = .ok (.ifCond .lt off, 3)) (tgt : Nat) (ht : (pc : Int) + off = (tgt : Int)) (kt : ¬ 0 ≤ x → JV E K cells slots ws lv tgt rest) (kf : 0 ≤ x → JV E K cells slots ws lv (pc + 3) rest) : JV E K cells slots ws lv pc (.int x :: rest) := jv_if_lt pc X d tgt ht (fun c => kt (Int32.not_le.mpr c)) (fun c => kf (Int32.not_lt.mp c))
theorem jn_icmp_lt (pc : Nat) (X : CX E K cc nL own rm) {x y : Int32} {off : Int} (d : decode cc pc = .ok (.if_icmp .lt off, 3)) (tgt : Nat) (ht : (pc : Int) + off = (tgt : Int)) (kt : ¬ y ≤ x → JV E K cells slots ws lv tgt rest) (kf : y ≤ x → JV E K cells slots ws lv (pc + 3) rest) : JV E K cells slots ws lv pc (.int y :: .int x :: rest) := jv_icmp_lt pc X d tgt ht (fun c => kt (Int32.not_le.mpr c)) (fun c => kf (Int32.not_lt.mp c))
theorem jn_if_gt (pc : Nat) (X : CX E K cc nL own rm) {x : Int32} {off : Int} (d : decode cc pc = .ok (.ifCond .gt off, 3)) (tgt : Nat) (ht : (pc : Int) + off = (tgt : Int)) (kt : ¬ x ≤ 0 → JV E K cells slots ws lv tgt rest) (kf : x ≤ 0 → JV E K cells slots ws lv (pc + 3) rest) : JV E K cells slots ws lv pc (.int x :: rest) := jv_if_gt pc X d tgt ht (fun c => kt (Int32.not_le.mpr c)) (fun c => kf (Int32.not_lt.mp c))
theorem jn_icmp_gt (pc : Nat) (X : CX E K cc nL own rm) {x y : Int32} {off : Int} (d : decode cc pc = .ok (.if_icmp .gt off, 3)) (tgt : Nat) (ht : (pc : Int) + off = (tgt : Int)) (kt : ¬ x ≤ y → JV E K cells slots ws lv tgt rest) (kf : x ≤ y → JV E K cells slots ws lv (pc + 3) rest) : JV E K cells slots ws lv pc (.int y :: .int x :: rest) := jv_icmp_gt pc X d tgt ht (fun c => kt (Int32.not_le.mpr c)) (fun c => kf (Int32.not_lt.mp c))
theorem jn_if_eq (pc : Nat) (X : CX E K cc nL own rm) {x : Int32} {off : Int} (d : decode cc pc = .ok (.ifCond .eq off, 3)) (tgt : Nat) (ht : (pc : Int) + off = (tgt : Int)) (kt : x = 0 → JV E K cells slots ws lv tgt rest) (kf : ¬ x = 0 → JV E K cells slots ws lv (pc + 3) rest) : JV E K cells slots ws lv pc (.int x :: rest) := jv_if_eq pc X d tgt ht kt kf
theorem jn_icmp_eq (pc : Nat) (X : CX E K cc nL own rm) {x y : Int32} {off : Int} (d : decode cc pc = .ok (.if_icmp .eq off, 3)) (tgt : Nat) (ht : (pc : Int) + off = (tgt : Int)) (kt : x = y → JV E K cells slots ws lv tgt rest) (kf : ¬ x = y → JV E K cells slots ws lv (pc + 3) rest) : JV E K cells slots ws lv pc (.int y :: .int x :: rest) := jv_icmp_eq pc X d tgt ht kt kf
theorem jn_if_ne (pc : Nat) (X : CX E K cc nL own rm) {x : Int32} {off : Int} (d : decode cc pc = .ok (.ifCond .ne off, 3)) (tgt : Nat) (ht : (pc : Int) + off = (tgt : Int)) (kt : ¬ x = 0 → JV E K cells slots ws lv tgt rest) (kf : x = 0 → JV E K cells slots ws lv (pc + 3) rest) : JV E K cells slots ws lv pc (.int x :: rest) := jv_if_ne pc X d tgt ht kt kf
theorem jn_icmp_ne (pc : Nat) (X : CX E K cc nL own rm) {x y : Int32} {off : Int} (d : decode cc pc = .ok (.if_icmp .ne off, 3)) (tgt : Nat) (ht : (pc : Int) + off = (tgt : Int)) (kt : ¬ x = y → JV E K cells slots ws lv tgt rest) (kf : x = y → JV E K cells slots ws lv (pc + 3) rest) : JV E K cells slots ws lv pc (.int y :: .int x :: rest) := jv_icmp_ne pc X d tgt ht kt kf
theorem jn_if_ge (pc : Nat) (X : CX E K cc nL own rm) {x : Int32} {off : Int} (d : decode cc pc = .ok (.ifCond .ge off, 3)) (tgt : Nat) (ht : (pc : Int) + off = (tgt : Int)) (kt : 0 ≤ x → JV E K cells slots ws lv tgt rest) (kf : ¬ 0 ≤ x → JV E K cells slots ws lv (pc + 3) rest) : JV E K cells slots ws lv pc (.int x :: rest) := jv_if_ge pc X d tgt ht kt kf
theorem jn_icmp_ge (pc : Nat) (X : CX E K cc nL own rm) {x y : Int32} {off : Int} (d : decode cc pc = .ok (.if_icmp .ge off, 3)) (tgt : Nat) (ht : (pc : Int) + off = (tgt : Int)) (kt : y ≤ x → JV E K cells slots ws lv tgt rest) (kf : ¬ y ≤ x → JV E K cells slots ws lv (pc + 3) rest) : JV E K cells slots ws lv pc (.int y :: .int x :: rest) := jv_icmp_ge pc X d tgt ht kt kf
theorem jn_if_le (pc : Nat) (X : CX E K cc nL own rm) {x : Int32} {off : Int} (d : decode cc pc = .ok (.ifCond .le off, 3)) (tgt : Nat) (ht : (pc : Int) + off = (tgt : Int)) (kt : x ≤ 0 → JV E K cells slots ws lv tgt rest) (kf : ¬ x ≤ 0 → JV E K cells slots ws lv (pc + 3) rest) : JV E K cells slots ws lv pc (.int x :: rest) := jv_if_le pc X d tgt ht kt kf
theorem jn_icmp_le (pc : Nat) (X : CX E K cc nL own rm) {x y : Int32} {off : Int} (d : decode cc pc = .ok (.if_icmp .le off, 3)) (tgt : Nat) (ht : (pc : Int) + off = (tgt : Int)) (kt : x ≤ y → JV E K cells slots ws lv tgt rest) (kf : ¬ x ≤ y → JV E K cells slots ws lv (pc + 3) rest) : JV E K cells slots ws lv pc (.int y :: .int x :: rest) := jv_icmp_le pc X d tgt ht kt kf
end Norm
theorem lt_nle {a b : Int32} : a < b ↔ ¬ b ≤ a := Int32.not_le.symm
def clampI (v : Int32) : Int32 := if v < 1 then 1 else if 200 < v then 200 else v
theorem c_X10_in (E : EE) (l : Launch) (v : Int32) (lo : Int32) (hi : Int32) : CT E l yX10_in cX10_in 3 (some .boolean) { frames := 0, cells := 0, slots := 0, locals := 0 } [.int v, .int lo, .int hi] ([]) (some (.int (zI (lo ≤ v ∧ v ≤ hi)))) ([]) := by
  refine CT.intro (by decide) (Nat.le_of_ble_eq_true rfl) (fun K X Y => ?_)
  refine jv_iload_n 0 X dX10_in_0 0 rfl ?_
  refine jv_iload_n 1 X dX10_in_1 1 rfl ?_
  refine jn_icmp_lt 2 X dX10_in_2 14 (by decide) (fun c_1 => ?_) (fun c_1 => ?_)
  · refine jv_iconst (v := 0) 14 X dX10_in_14 rfl ?_
    exact jv_zret 15 X Y rfl rfl dX10_in_15 () (by simp [zI, lt_nle, -Int32.not_le, c_1]) rfl
  · refine jv_iload_n 5 X dX10_in_5 0 rfl ?_
    refine jv_iload_n 6 X dX10_in_6 2 rfl ?_
    refine jn_icmp_gt 7 X dX10_in_7 14 (by decide) (fun c_2 => ?_) (fun c_2 => ?_)
    · refine jv_iconst (v := 0) 14 X dX10_in_14 rfl ?_
      exact jv_zret 15 X Y rfl rfl dX10_in_15 () (by simp [zI, lt_nle, -Int32.not_le, c_1, c_2]) rfl
    · refine jv_iconst (v := 1) 10 X dX10_in_10 rfl ?_
      refine jv_goto 11 X dX10_in_11 15 (by decide) ?_
      exact jv_zret 15 X Y rfl rfl dX10_in_15 () (by simp [zI, lt_nle, -Int32.not_le, c_1, c_2]) rfl
theorem c_X10_clamp (E : EE) (l : Launch) (v : Int32) : CT E l yX10_clamp cX10_clamp 1 (some .int) { frames := 0, cells := 0, slots := 0, locals := 0 } [.int v] ([]) (some (.int (clampI v))) ([]) := by
  refine CT.intro (by decide) (Nat.le_of_ble_eq_true rfl) (fun K X Y => ?_)
  refine jv_iload_n 0 X dX10_clamp_0 0 rfl ?_
  refine jv_iconst (v := 1) 1 X dX10_clamp_1 rfl ?_
  refine jn_icmp_ge 2 X dX10_clamp_2 9 (by decide) (fun c_1 => ?_) (fun c_1 => ?_)
  · refine jv_iload_n 9 X dX10_clamp_9 0 rfl ?_
    refine jv_sipush (v := 200) 10 X dX10_clamp_10 (by decide) ?_
    refine jn_icmp_le 13 X dX10_clamp_13 22 (by decide) (fun c_2 => ?_) (fun c_2 => ?_)
    · refine jv_iload_n 22 X dX10_clamp_22 0 rfl ?_
      exact jv_iret 23 X Y rfl dX10_clamp_23 () (by simp [clampI, lt_nle, -Int32.not_le, c_1, c_2]) rfl
    · refine jv_sipush (v := 200) 16 X dX10_clamp_16 (by decide) ?_
      refine jv_goto 19 X dX10_clamp_19 23 (by decide) ?_
      exact jv_iret 23 X Y rfl dX10_clamp_23 () (by simp [clampI, lt_nle, -Int32.not_le, c_1, c_2]) rfl
  · refine jv_iconst (v := 1) 5 X dX10_clamp_5 rfl ?_
    refine jv_goto 6 X dX10_clamp_6 23 (by decide) ?_
    exact jv_iret 23 X Y rfl dX10_clamp_23 () (by simp [clampI, lt_nle, -Int32.not_le, c_1]) rfl
theorem c_X10_isOne (E : EE) (l : Launch) (k : Int32) : CT E l yX10_isOne cX10_isOne 1 (some .boolean) { frames := 1, cells := 0, slots := 0, locals := 22 } [.int k] ([]) (some (.int (zI (0 ≤ k ∧ k ≤ 5)))) ([]) := by
  refine CT.intro (by decide) (Nat.le_of_ble_eq_true rfl) (fun K X Y => ?_)
  refine jv_iload_n 0 X dX10_isOne_0 0 rfl ?_
  refine jv_iconst (v := 0) 1 X dX10_isOne_1 rfl ?_
  refine jv_iconst (v := 5) 2 X dX10_isOne_2 rfl ?_
  refine jv_fun 3 X (c_X10_in E _ k 0 5) ws_X10_57 ⟨Nat.le_of_ble_eq_true rfl, Nat.le_of_ble_eq_true rfl⟩ ⟨rfl, rfl⟩ ⟨Nat.zero_le _, Nat.zero_le _⟩ dX10_isOne_3 rfl [] rfl (Nat.le_of_ble_eq_true rfl) ?_
  exact jv_zret 6 X Y rfl zI_n dX10_isOne_6 () rfl rfl
theorem c_X10_isStick (E : EE) (l : Launch) (k : Int32) : CT E l yX10_isStick cX10_isStick 1 (some .boolean) { frames := 1, cells := 0, slots := 0, locals := 22 } [.int k] ([]) (some (.int (zI (0 ≤ k ∧ k ≤ 7)))) ([]) := by
  refine CT.intro (by decide) (Nat.le_of_ble_eq_true rfl) (fun K X Y => ?_)
  refine jv_iload_n 0 X dX10_isStick_0 0 rfl ?_
  refine jv_iconst (v := 0) 1 X dX10_isStick_1 rfl ?_
  refine jv_bipush (v := 7) 2 X dX10_isStick_2 (by decide) ?_
  refine jv_fun 4 X (c_X10_in E _ k 0 7) ws_X10_57 ⟨Nat.le_of_ble_eq_true rfl, Nat.le_of_ble_eq_true rfl⟩ ⟨rfl, rfl⟩ ⟨Nat.zero_le _, Nat.zero_le _⟩ dX10_isStick_4 rfl [] rfl (Nat.le_of_ble_eq_true rfl) ?_
  exact jv_zret 7 X Y rfl zI_n dX10_isStick_7 () rfl rfl
theorem c_X10_isBridge (E : EE) (l : Launch) (k : Int32) : CT E l yX10_isBridge cX10_isBridge 1 (some .boolean) { frames := 1, cells := 0, slots := 0, locals := 22 } [.int k] ([]) (some (.int (zI (0 ≤ k ∧ k ≤ 3)))) ([]) := by
  refine CT.intro (by decide) (Nat.le_of_ble_eq_true rfl) (fun K X Y => ?_)
  refine jv_iload_n 0 X dX10_isBridge_0 0 rfl ?_
  refine jv_iconst (v := 0) 1 X dX10_isBridge_1 rfl ?_
  refine jv_iconst (v := 3) 2 X dX10_isBridge_2 rfl ?_
  refine jv_fun 3 X (c_X10_in E _ k 0 3) ws_X10_57 ⟨Nat.le_of_ble_eq_true rfl, Nat.le_of_ble_eq_true rfl⟩ ⟨rfl, rfl⟩ ⟨Nat.zero_le _, Nat.zero_le _⟩ dX10_isBridge_3 rfl [] rfl (Nat.le_of_ble_eq_true rfl) ?_
  exact jv_zret 6 X Y rfl zI_n dX10_isBridge_6 () rfl rfl
end
section
def f_inch (book : Nat → Int32) (v : Int32) : Int32 × (Nat → Int32) := if 1 ≤ v ∧ v ≤ 200 then (book 38, upd book 38 v) else (-2, book)
def f_week (week : Nat → Int32) (day more : Int32) : Int32 × (Nat → Int32) := if (0 ≤ day ∧ day ≤ 6) ∧ (-9 ≤ more ∧ more ≤ 9) then (week day.toNatClampNeg + 9, upd week day.toNatClampNeg more) else (-2, week)
def f_one (book : Nat → Int32) (k purse cloth ruler : Int32) : Int32 × (Nat → Int32) := if ¬ (0 ≤ k ∧ k ≤ 5) then (-1, book) else if (0 ≤ purse ∧ purse ≤ 9999) ∧ (0 ≤ cloth ∧ cloth ≤ 99999) ∧ (0 ≤ ruler ∧ ruler ≤ 200) then (book k.toNatClampNeg, upd (upd (upd book k.toNatClampNeg purse) (6 + k.toNatClampNeg) cloth) (12 + k.toNatClampNeg) ruler) else (-2, book)
def f_stick (book : Nat → Int32) (k v : Int32) : Int32 × (Nat → Int32) := if ¬ (0 ≤ k ∧ k ≤ 7) then (-1, book) else if 0 ≤ v ∧ v ≤ 1800 then (book (18 + k.toNatClampNeg), upd book (18 + k.toNatClampNeg) v) else (-2, book)
def f_bridge (book : Nat → Int32) (k v : Int32) : Int32 × (Nat → Int32) := if ¬ (0 ≤ k ∧ k ≤ 3) then (-1, book) else if 1 ≤ v ∧ v ≤ 99999 then (book (34 + k.toNatClampNeg), upd (upd (upd book (34 + k.toNatClampNeg) v) (26 + k.toNatClampNeg) 0) (30 + k.toNatClampNeg) 0) else (-2, book)
def f_say (n : Nat) (pad : Nat → Int32) (v : Int32) : Int32 × Nat × (Nat → Int32) := if ¬ (33 ≤ v ∧ v ≤ 126) then (-2, n, pad) else if n = 60 then (-4, n, pad) else (nI (n + 1), n + 1, upd pad n v)
def f_seen (n : Nat) (sight : Nat → Int32) (day v : Int32) : Int32 × Nat × (Nat → Int32) := if ¬ ((0 ≤ day ∧ day ≤ 60) ∧ (1 ≤ v ∧ v ≤ 200)) then (-2, n, sight) else if n = 8 then (-4, n, sight) else (nI (n + 1), n + 1, upd (upd sight (2 * n) day) (2 * n + 1) v)
theorem c_X10_inch (E : EE) (l : Launch) (a : Nat → Nat) (book : Nat → Int32) (now : Nat → Int32) (week : Nat → Int32) (sights : Int32) (sight : Nat → Int32) (signs : Int32) (pad : Nat → Int32) (metAt : Int32) (metWho : Int32) (reason : Int32) (acts : Int32) (atp : Int32) (will : Nat → Int32) (fitting : Nat → Int32) (counts : Nat → Int32) (ring : Nat → Int32) (nxt : Nat → Int32) (wins : Nat → Int32) (ways : Nat → Int64) (nextWays : Nat → Int64) (image : Nat → Int32) (isKept : Nat → Int32) (v : Int32) : CT E l yX10_inch cX10_inch 3 (some .int) { frames := 1, cells := 0, slots := 0, locals := 22 } [.ref (a 0), .int v] (bMd E a (book, now, week, sights, sight, signs, pad, metAt, metWho, reason, acts, atp, will, fitting, counts, ring, nxt, wins, ways, nextWays, image, isKept)) (some (.int ((f_inch book v).1))) (bMd E a ((f_inch book v).2, now, week, sights, sight, signs, pad, metAt, metWho, reason, acts, atp, will, fitting, counts, ring, nxt, wins, ways, nextWays, image, isKept)) := by
  refine CT.intro (by decide) (Nat.le_of_ble_eq_true rfl) (fun K X Y => ?_)
  refine jv_iload_n 0 X dX10_inch_0 1 rfl ?_
  refine jv_iconst (v := 1) 1 X dX10_inch_1 rfl ?_
  refine jv_sipush (v := 200) 2 X dX10_inch_2 (by decide) ?_
  refine jv_fun 5 X (c_X10_in E _ v 1 200) ws_X10_57 ⟨Nat.le_of_ble_eq_true rfl, Nat.le_of_ble_eq_true rfl⟩ ⟨rfl, rfl⟩ ⟨Nat.zero_le _, Nat.zero_le _⟩ dX10_inch_5 rfl [] rfl (Nat.le_of_ble_eq_true rfl) ?_
  refine jv_z_ne 8 X dX10_inch_8 14 (by decide) (fun c_1 => ?_) (fun c_1 => ?_)
  · refine jv_aload_n 14 X dX10_inch_14 0 rfl ?_
    refine jv_get (v := .ref (a 1)) 15 X gf_X10_7 dX10_inch_15 0 rfl rfl ?_
    refine jv_bipush (v := 38) 18 X dX10_inch_18 (by decide) ?_
    refine jv_iald (f := book) 20 X dX10_inch_20 1 rfl (by decide) 38 rfl (by omega) ?_
    refine jv_istore_n (lv2 := [(2, .int (book 38)), (0, .ref (a 0)), (1, .int v)]) 21 X dX10_inch_21 (by decide) rfl ?_
    refine jv_aload_n 22 X dX10_inch_22 1 rfl ?_
    refine jv_get (v := .ref (a 1)) 23 X gf_X10_7 dX10_inch_23 0 rfl rfl ?_
    refine jv_bipush (v := 38) 26 X dX10_inch_26 (by decide) ?_
    refine jv_iload_n 28 X dX10_inch_28 2 rfl ?_
    refine jv_iast (ws2 := bMd E a ((upd book 38 v), now, week, sights, sight, signs, pad, metAt, metWho, reason, acts, atp, will, fitting, counts, ring, nxt, wins, ways, nextWays, image, isKept)) (f := book) 29 X dX10_inch_29 1 rfl (by decide) 38 rfl (by omega) rfl ?_
    refine jv_iload_n 30 X dX10_inch_30 0 rfl ?_
    have hq : f_inch book v = ((book 38), (upd book 38 v)) := by simp [f_inch, lt_nle, -Int32.not_le, c_1]
    exact jv_iret 31 X Y rfl dX10_inch_31 () (by rw [hq]; try rfl) (by rw [hq]; try rfl)
  · refine jv_bipush (v := (-2)) 11 X dX10_inch_11 (by decide) ?_
    have hq : f_inch book v = ((-2), book) := by simp [f_inch, lt_nle, -Int32.not_le, c_1]
    exact jv_iret 13 X Y rfl dX10_inch_13 () (by rw [hq]; try rfl) (by rw [hq]; try rfl)
theorem c_X10_week (E : EE) (l : Launch) (a : Nat → Nat) (book : Nat → Int32) (now : Nat → Int32) (week : Nat → Int32) (sights : Int32) (sight : Nat → Int32) (signs : Int32) (pad : Nat → Int32) (metAt : Int32) (metWho : Int32) (reason : Int32) (acts : Int32) (atp : Int32) (will : Nat → Int32) (fitting : Nat → Int32) (counts : Nat → Int32) (ring : Nat → Int32) (nxt : Nat → Int32) (wins : Nat → Int32) (ways : Nat → Int64) (nextWays : Nat → Int64) (image : Nat → Int32) (isKept : Nat → Int32) (day : Int32) (more : Int32) : CT E l yX10_week cX10_week 4 (some .int) { frames := 1, cells := 0, slots := 0, locals := 22 } [.ref (a 0), .int day, .int more] (bMd E a (book, now, week, sights, sight, signs, pad, metAt, metWho, reason, acts, atp, will, fitting, counts, ring, nxt, wins, ways, nextWays, image, isKept)) (some (.int ((f_week week day more).1))) (bMd E a (book, now, (f_week week day more).2, sights, sight, signs, pad, metAt, metWho, reason, acts, atp, will, fitting, counts, ring, nxt, wins, ways, nextWays, image, isKept)) := by
  refine CT.intro (by decide) (Nat.le_of_ble_eq_true rfl) (fun K X Y => ?_)
  refine jv_iload_n 0 X dX10_week_0 1 rfl ?_
  refine jv_iconst (v := 0) 1 X dX10_week_1 rfl ?_
  refine jv_bipush (v := 6) 2 X dX10_week_2 (by decide) ?_
  refine jv_fun 4 X (c_X10_in E _ day 0 6) ws_X10_57 ⟨Nat.le_of_ble_eq_true rfl, Nat.le_of_ble_eq_true rfl⟩ ⟨rfl, rfl⟩ ⟨Nat.zero_le _, Nat.zero_le _⟩ dX10_week_4 rfl [] rfl (Nat.le_of_ble_eq_true rfl) ?_
  refine jv_z_eq 7 X dX10_week_7 21 (by decide) (fun c_1 => ?_) (fun c_1 => ?_)
  · refine jv_bipush (v := (-2)) 21 X dX10_week_21 (by decide) ?_
    have hq : f_week week day more = ((-2), week) := by simp [f_week, lt_nle, -Int32.not_le, c_1]
    exact jv_iret 23 X Y rfl dX10_week_23 () (by rw [hq]; try rfl) (by rw [hq]; try rfl)
  · obtain ⟨jday, h1jday, h2jday, rfl⟩ := nx_in (a := 0) (b := 6) rfl rfl (by decide) (by decide) c_1
    have hcjday : (nI jday).toNatClampNeg = jday := nI_clamp (by omega)
    refine jv_iload_n 10 X dX10_week_10 2 rfl ?_
    refine jv_bipush (v := (-9)) 11 X dX10_week_11 (by decide) ?_
    refine jv_bipush (v := 9) 13 X dX10_week_13 (by decide) ?_
    refine jv_fun 15 X (c_X10_in E _ more (-9) 9) ws_X10_57 ⟨Nat.le_of_ble_eq_true rfl, Nat.le_of_ble_eq_true rfl⟩ ⟨rfl, rfl⟩ ⟨Nat.zero_le _, Nat.zero_le _⟩ dX10_week_15 rfl [] rfl (Nat.le_of_ble_eq_true rfl) ?_
    refine jv_z_ne 18 X dX10_week_18 24 (by decide) (fun c_2 => ?_) (fun c_2 => ?_)
    · refine jv_aload_n 24 X dX10_week_24 0 rfl ?_
      refine jv_get (v := .ref (a 3)) 25 X gf_X10_16 dX10_week_25 0 rfl rfl ?_
      refine jv_iload_n 28 X dX10_week_28 1 rfl ?_
      refine jv_iald (f := week) 29 X dX10_week_29 3 rfl (by decide) jday rfl (by omega) ?_
      refine jv_istore_n (lv2 := [(3, .int (week jday)), (0, .ref (a 0)), (1, .int (nI jday)), (2, .int more)]) 30 X dX10_week_30 (by decide) rfl ?_
      refine jv_aload_n 31 X dX10_week_31 1 rfl ?_
      refine jv_get (v := .ref (a 3)) 32 X gf_X10_16 dX10_week_32 0 rfl rfl ?_
      refine jv_iload_n 35 X dX10_week_35 2 rfl ?_
      refine jv_iload_n 36 X dX10_week_36 3 rfl ?_
      refine jv_iast (ws2 := bMd E a (book, now, (upd week jday more), sights, sight, signs, pad, metAt, metWho, reason, acts, atp, will, fitting, counts, ring, nxt, wins, ways, nextWays, image, isKept)) (f := week) 37 X dX10_week_37 3 rfl (by decide) jday rfl (by omega) rfl ?_
      refine jv_iload_n 38 X dX10_week_38 0 rfl ?_
      refine jv_bipush (v := 9) 39 X dX10_week_39 (by decide) ?_
      refine jv_iadd 41 X dX10_week_41 ?_
      have hq : f_week week (nI jday) more = (((week jday) + 9), (upd week jday more)) := by simp [f_week, lt_nle, -Int32.not_le, c_1, hcjday, c_2]
      exact jv_iret 42 X Y rfl dX10_week_42 () (by rw [hq]; try rfl) (by rw [hq]; try rfl)
    · refine jv_bipush (v := (-2)) 21 X dX10_week_21 (by decide) ?_
      have hq : f_week week (nI jday) more = ((-2), week) := by simp [f_week, lt_nle, -Int32.not_le, c_1, hcjday, c_2]
      exact jv_iret 23 X Y rfl dX10_week_23 () (by rw [hq]; try rfl) (by rw [hq]; try rfl)
theorem c_X10_one (E : EE) (l : Launch) (a : Nat → Nat) (book : Nat → Int32) (now : Nat → Int32) (week : Nat → Int32) (sights : Int32) (sight : Nat → Int32) (signs : Int32) (pad : Nat → Int32) (metAt : Int32) (metWho : Int32) (reason : Int32) (acts : Int32) (atp : Int32) (will : Nat → Int32) (fitting : Nat → Int32) (counts : Nat → Int32) (ring : Nat → Int32) (nxt : Nat → Int32) (wins : Nat → Int32) (ways : Nat → Int64) (nextWays : Nat → Int64) (image : Nat → Int32) (isKept : Nat → Int32) (k : Int32) (purse : Int32) (cloth : Int32) (ruler : Int32) : CT E l yX10_one cX10_one 6 (some .int) { frames := 2, cells := 0, slots := 0, locals := 42 } [.ref (a 0), .int k, .int purse, .int cloth, .int ruler] (bMd E a (book, now, week, sights, sight, signs, pad, metAt, metWho, reason, acts, atp, will, fitting, counts, ring, nxt, wins, ways, nextWays, image, isKept)) (some (.int ((f_one book k purse cloth ruler).1))) (bMd E a ((f_one book k purse cloth ruler).2, now, week, sights, sight, signs, pad, metAt, metWho, reason, acts, atp, will, fitting, counts, ring, nxt, wins, ways, nextWays, image, isKept)) := by
  refine CT.intro (by decide) (Nat.le_of_ble_eq_true rfl) (fun K X Y => ?_)
  refine jv_iload_n 0 X dX10_one_0 1 rfl ?_
  refine jv_fun 1 X (c_X10_isOne E _ k) ws_X10_61 ⟨Nat.le_of_ble_eq_true rfl, Nat.le_of_ble_eq_true rfl⟩ ⟨rfl, rfl⟩ ⟨Nat.zero_le _, Nat.zero_le _⟩ dX10_one_1 rfl [] rfl (Nat.le_of_ble_eq_true rfl) ?_
  refine jv_z_ne 4 X dX10_one_4 9 (by decide) (fun c_1 => ?_) (fun c_1 => ?_)
  · obtain ⟨jk, h1jk, h2jk, rfl⟩ := nx_in (a := 0) (b := 5) rfl rfl (by decide) (by decide) c_1
    have hcjk : (nI jk).toNatClampNeg = jk := nI_clamp (by omega)
    refine jv_iload_n 9 X dX10_one_9 2 rfl ?_
    refine jv_iconst (v := 0) 10 X dX10_one_10 rfl ?_
    refine jv_sipush (v := 9999) 11 X dX10_one_11 (by decide) ?_
    refine jv_fun 14 X (c_X10_in E _ purse 0 9999) ws_X10_57 ⟨Nat.le_of_ble_eq_true rfl, Nat.le_of_ble_eq_true rfl⟩ ⟨rfl, rfl⟩ ⟨Nat.zero_le _, Nat.zero_le _⟩ dX10_one_14 rfl [] rfl (Nat.le_of_ble_eq_true rfl) ?_
    refine jv_z_eq 17 X dX10_one_17 42 (by decide) (fun c_2 => ?_) (fun c_2 => ?_)
    · refine jv_bipush (v := (-2)) 42 X dX10_one_42 (by decide) ?_
      have hq : f_one book (nI jk) purse cloth ruler = ((-2), book) := by simp [f_one, lt_nle, -Int32.not_le, c_1, hcjk, c_2]
      exact jv_iret 44 X Y rfl dX10_one_44 () (by rw [hq]; try rfl) (by rw [hq]; try rfl)
    · refine jv_iload_n 20 X dX10_one_20 3 rfl ?_
      refine jv_iconst (v := 0) 21 X dX10_one_21 rfl ?_
      refine jv_ldc (v := 99999) 22 X tm_k_X10_65 dX10_one_22 ?_
      refine jv_fun 24 X (c_X10_in E _ cloth 0 99999) ws_X10_57 ⟨Nat.le_of_ble_eq_true rfl, Nat.le_of_ble_eq_true rfl⟩ ⟨rfl, rfl⟩ ⟨Nat.zero_le _, Nat.zero_le _⟩ dX10_one_24 rfl [] rfl (Nat.le_of_ble_eq_true rfl) ?_
      refine jv_z_eq 27 X dX10_one_27 42 (by decide) (fun c_3 => ?_) (fun c_3 => ?_)
      · refine jv_bipush (v := (-2)) 42 X dX10_one_42 (by decide) ?_
        have hq : f_one book (nI jk) purse cloth ruler = ((-2), book) := by simp [f_one, lt_nle, -Int32.not_le, c_1, hcjk, c_2, c_3]
        exact jv_iret 44 X Y rfl dX10_one_44 () (by rw [hq]; try rfl) (by rw [hq]; try rfl)
      · refine jv_iload 30 X dX10_one_30 4 rfl ?_
        refine jv_iconst (v := 0) 32 X dX10_one_32 rfl ?_
        refine jv_sipush (v := 200) 33 X dX10_one_33 (by decide) ?_
        refine jv_fun 36 X (c_X10_in E _ ruler 0 200) ws_X10_57 ⟨Nat.le_of_ble_eq_true rfl, Nat.le_of_ble_eq_true rfl⟩ ⟨rfl, rfl⟩ ⟨Nat.zero_le _, Nat.zero_le _⟩ dX10_one_36 rfl [] rfl (Nat.le_of_ble_eq_true rfl) ?_
        refine jv_z_ne 39 X dX10_one_39 45 (by decide) (fun c_4 => ?_) (fun c_4 => ?_)
        · refine jv_aload_n 45 X dX10_one_45 0 rfl ?_
          refine jv_get (v := .ref (a 1)) 46 X gf_X10_7 dX10_one_46 0 rfl rfl ?_
          refine jv_iload_n 49 X dX10_one_49 1 rfl ?_
          refine jv_iald (f := book) 50 X dX10_one_50 1 rfl (by decide) jk rfl (by omega) ?_
          refine jv_istore (lv2 := [(5, .int (book jk)), (0, .ref (a 0)), (1, .int (nI jk)), (2, .int purse), (3, .int cloth), (4, .int ruler)]) 51 X dX10_one_51 (by decide) rfl ?_
          refine jv_aload_n 53 X dX10_one_53 1 rfl ?_
          refine jv_get (v := .ref (a 1)) 54 X gf_X10_7 dX10_one_54 0 rfl rfl ?_
          refine jv_iload_n 57 X dX10_one_57 2 rfl ?_
          refine jv_iload_n 58 X dX10_one_58 3 rfl ?_
          refine jv_iast (ws2 := bMd E a ((upd book jk purse), now, week, sights, sight, signs, pad, metAt, metWho, reason, acts, atp, will, fitting, counts, ring, nxt, wins, ways, nextWays, image, isKept)) (f := book) 59 X dX10_one_59 1 rfl (by decide) jk rfl (by omega) rfl ?_
          refine jv_aload_n 60 X dX10_one_60 1 rfl ?_
          refine jv_get (v := .ref (a 1)) 61 X gf_X10_7 dX10_one_61 0 rfl rfl ?_
          refine jv_bipush (v := 6) 64 X dX10_one_64 (by decide) ?_
          refine jv_iload_n 66 X dX10_one_66 2 rfl ?_
          refine jv_iadd 67 X dX10_one_67 ?_
          refine jv_norm (x2 := nI (6 + jk)) (nx_add rfl rfl) ?_
          refine jv_iload_n 68 X dX10_one_68 4 rfl ?_
          refine jv_iast (ws2 := bMd E a ((upd (upd book jk purse) (6 + jk) cloth), now, week, sights, sight, signs, pad, metAt, metWho, reason, acts, atp, will, fitting, counts, ring, nxt, wins, ways, nextWays, image, isKept)) (f := (upd book jk purse)) 69 X dX10_one_69 1 rfl (by decide) (6 + jk) rfl (by omega) rfl ?_
          refine jv_aload_n 70 X dX10_one_70 1 rfl ?_
          refine jv_get (v := .ref (a 1)) 71 X gf_X10_7 dX10_one_71 0 rfl rfl ?_
          refine jv_bipush (v := 12) 74 X dX10_one_74 (by decide) ?_
          refine jv_iload_n 76 X dX10_one_76 2 rfl ?_
          refine jv_iadd 77 X dX10_one_77 ?_
          refine jv_norm (x2 := nI (12 + jk)) (nx_add rfl rfl) ?_
          refine jv_iload 78 X dX10_one_78 5 rfl ?_
          refine jv_iast (ws2 := bMd E a ((upd (upd (upd book jk purse) (6 + jk) cloth) (12 + jk) ruler), now, week, sights, sight, signs, pad, metAt, metWho, reason, acts, atp, will, fitting, counts, ring, nxt, wins, ways, nextWays, image, isKept)) (f := (upd (upd book jk purse) (6 + jk) cloth)) 80 X dX10_one_80 1 rfl (by decide) (12 + jk) rfl (by omega) rfl ?_
          refine jv_iload 81 X dX10_one_81 0 rfl ?_
          have hq : f_one book (nI jk) purse cloth ruler = ((book jk), (upd (upd (upd book jk purse) (6 + jk) cloth) (12 + jk) ruler)) := by simp [f_one, lt_nle, -Int32.not_le, c_1, hcjk, c_2, c_3, c_4]
          exact jv_iret 83 X Y rfl dX10_one_83 () (by rw [hq]; try rfl) (by rw [hq]; try rfl)
        · refine jv_bipush (v := (-2)) 42 X dX10_one_42 (by decide) ?_
          have hq : f_one book (nI jk) purse cloth ruler = ((-2), book) := by simp [f_one, lt_nle, -Int32.not_le, c_1, hcjk, c_2, c_3, c_4]
          exact jv_iret 44 X Y rfl dX10_one_44 () (by rw [hq]; try rfl) (by rw [hq]; try rfl)
  · refine jv_iconst (v := (-1)) 7 X dX10_one_7 rfl ?_
    have hq : f_one book k purse cloth ruler = ((-1), book) := by simp [f_one, lt_nle, -Int32.not_le, c_1]
    exact jv_iret 8 X Y rfl dX10_one_8 () (by rw [hq]; try rfl) (by rw [hq]; try rfl)
theorem c_X10_stick (E : EE) (l : Launch) (a : Nat → Nat) (book : Nat → Int32) (now : Nat → Int32) (week : Nat → Int32) (sights : Int32) (sight : Nat → Int32) (signs : Int32) (pad : Nat → Int32) (metAt : Int32) (metWho : Int32) (reason : Int32) (acts : Int32) (atp : Int32) (will : Nat → Int32) (fitting : Nat → Int32) (counts : Nat → Int32) (ring : Nat → Int32) (nxt : Nat → Int32) (wins : Nat → Int32) (ways : Nat → Int64) (nextWays : Nat → Int64) (image : Nat → Int32) (isKept : Nat → Int32) (k : Int32) (v : Int32) : CT E l yX10_stick cX10_stick 4 (some .int) { frames := 2, cells := 0, slots := 0, locals := 42 } [.ref (a 0), .int k, .int v] (bMd E a (book, now, week, sights, sight, signs, pad, metAt, metWho, reason, acts, atp, will, fitting, counts, ring, nxt, wins, ways, nextWays, image, isKept)) (some (.int ((f_stick book k v).1))) (bMd E a ((f_stick book k v).2, now, week, sights, sight, signs, pad, metAt, metWho, reason, acts, atp, will, fitting, counts, ring, nxt, wins, ways, nextWays, image, isKept)) := by
  refine CT.intro (by decide) (Nat.le_of_ble_eq_true rfl) (fun K X Y => ?_)
  refine jv_iload_n 0 X dX10_stick_0 1 rfl ?_
  refine jv_fun 1 X (c_X10_isStick E _ k) ws_X10_66 ⟨Nat.le_of_ble_eq_true rfl, Nat.le_of_ble_eq_true rfl⟩ ⟨rfl, rfl⟩ ⟨Nat.zero_le _, Nat.zero_le _⟩ dX10_stick_1 rfl [] rfl (Nat.le_of_ble_eq_true rfl) ?_
  refine jv_z_ne 4 X dX10_stick_4 9 (by decide) (fun c_1 => ?_) (fun c_1 => ?_)
  · obtain ⟨jk, h1jk, h2jk, rfl⟩ := nx_in (a := 0) (b := 7) rfl rfl (by decide) (by decide) c_1
    have hcjk : (nI jk).toNatClampNeg = jk := nI_clamp (by omega)
    refine jv_iload_n 9 X dX10_stick_9 2 rfl ?_
    refine jv_iconst (v := 0) 10 X dX10_stick_10 rfl ?_
    refine jv_sipush (v := 1800) 11 X dX10_stick_11 (by decide) ?_
    refine jv_fun 14 X (c_X10_in E _ v 0 1800) ws_X10_57 ⟨Nat.le_of_ble_eq_true rfl, Nat.le_of_ble_eq_true rfl⟩ ⟨rfl, rfl⟩ ⟨Nat.zero_le _, Nat.zero_le _⟩ dX10_stick_14 rfl [] rfl (Nat.le_of_ble_eq_true rfl) ?_
    refine jv_z_ne 17 X dX10_stick_17 23 (by decide) (fun c_2 => ?_) (fun c_2 => ?_)
    · refine jv_aload_n 23 X dX10_stick_23 0 rfl ?_
      refine jv_get (v := .ref (a 1)) 24 X gf_X10_7 dX10_stick_24 0 rfl rfl ?_
      refine jv_bipush (v := 18) 27 X dX10_stick_27 (by decide) ?_
      refine jv_iload_n 29 X dX10_stick_29 1 rfl ?_
      refine jv_iadd 30 X dX10_stick_30 ?_
      refine jv_norm (x2 := nI (18 + jk)) (nx_add rfl rfl) ?_
      refine jv_iald (f := book) 31 X dX10_stick_31 1 rfl (by decide) (18 + jk) rfl (by omega) ?_
      refine jv_istore_n (lv2 := [(3, .int (book (18 + jk))), (0, .ref (a 0)), (1, .int (nI jk)), (2, .int v)]) 32 X dX10_stick_32 (by decide) rfl ?_
      refine jv_aload_n 33 X dX10_stick_33 1 rfl ?_
      refine jv_get (v := .ref (a 1)) 34 X gf_X10_7 dX10_stick_34 0 rfl rfl ?_
      refine jv_bipush (v := 18) 37 X dX10_stick_37 (by decide) ?_
      refine jv_iload_n 39 X dX10_stick_39 2 rfl ?_
      refine jv_iadd 40 X dX10_stick_40 ?_
      refine jv_norm (x2 := nI (18 + jk)) (nx_add rfl rfl) ?_
      refine jv_iload_n 41 X dX10_stick_41 3 rfl ?_
      refine jv_iast (ws2 := bMd E a ((upd book (18 + jk) v), now, week, sights, sight, signs, pad, metAt, metWho, reason, acts, atp, will, fitting, counts, ring, nxt, wins, ways, nextWays, image, isKept)) (f := book) 42 X dX10_stick_42 1 rfl (by decide) (18 + jk) rfl (by omega) rfl ?_
      refine jv_iload_n 43 X dX10_stick_43 0 rfl ?_
      have hq : f_stick book (nI jk) v = ((book (18 + jk)), (upd book (18 + jk) v)) := by simp [f_stick, lt_nle, -Int32.not_le, c_1, hcjk, c_2]
      exact jv_iret 44 X Y rfl dX10_stick_44 () (by rw [hq]; try rfl) (by rw [hq]; try rfl)
    · refine jv_bipush (v := (-2)) 20 X dX10_stick_20 (by decide) ?_
      have hq : f_stick book (nI jk) v = ((-2), book) := by simp [f_stick, lt_nle, -Int32.not_le, c_1, hcjk, c_2]
      exact jv_iret 22 X Y rfl dX10_stick_22 () (by rw [hq]; try rfl) (by rw [hq]; try rfl)
  · refine jv_iconst (v := (-1)) 7 X dX10_stick_7 rfl ?_
    have hq : f_stick book k v = ((-1), book) := by simp [f_stick, lt_nle, -Int32.not_le, c_1]
    exact jv_iret 8 X Y rfl dX10_stick_8 () (by rw [hq]; try rfl) (by rw [hq]; try rfl)
theorem c_X10_bridge (E : EE) (l : Launch) (a : Nat → Nat) (book : Nat → Int32) (now : Nat → Int32) (week : Nat → Int32) (sights : Int32) (sight : Nat → Int32) (signs : Int32) (pad : Nat → Int32) (metAt : Int32) (metWho : Int32) (reason : Int32) (acts : Int32) (atp : Int32) (will : Nat → Int32) (fitting : Nat → Int32) (counts : Nat → Int32) (ring : Nat → Int32) (nxt : Nat → Int32) (wins : Nat → Int32) (ways : Nat → Int64) (nextWays : Nat → Int64) (image : Nat → Int32) (isKept : Nat → Int32) (k : Int32) (v : Int32) : CT E l yX10_bridge cX10_bridge 4 (some .int) { frames := 2, cells := 0, slots := 0, locals := 42 } [.ref (a 0), .int k, .int v] (bMd E a (book, now, week, sights, sight, signs, pad, metAt, metWho, reason, acts, atp, will, fitting, counts, ring, nxt, wins, ways, nextWays, image, isKept)) (some (.int ((f_bridge book k v).1))) (bMd E a ((f_bridge book k v).2, now, week, sights, sight, signs, pad, metAt, metWho, reason, acts, atp, will, fitting, counts, ring, nxt, wins, ways, nextWays, image, isKept)) := by
  refine CT.intro (by decide) (Nat.le_of_ble_eq_true rfl) (fun K X Y => ?_)
  refine jv_iload_n 0 X dX10_bridge_0 1 rfl ?_
  refine jv_fun 1 X (c_X10_isBridge E _ k) ws_X10_69 ⟨Nat.le_of_ble_eq_true rfl, Nat.le_of_ble_eq_true rfl⟩ ⟨rfl, rfl⟩ ⟨Nat.zero_le _, Nat.zero_le _⟩ dX10_bridge_1 rfl [] rfl (Nat.le_of_ble_eq_true rfl) ?_
  refine jv_z_ne 4 X dX10_bridge_4 9 (by decide) (fun c_1 => ?_) (fun c_1 => ?_)
  · obtain ⟨jk, h1jk, h2jk, rfl⟩ := nx_in (a := 0) (b := 3) rfl rfl (by decide) (by decide) c_1
    have hcjk : (nI jk).toNatClampNeg = jk := nI_clamp (by omega)
    refine jv_iload_n 9 X dX10_bridge_9 2 rfl ?_
    refine jv_iconst (v := 1) 10 X dX10_bridge_10 rfl ?_
    refine jv_ldc (v := 99999) 11 X tm_k_X10_65 dX10_bridge_11 ?_
    refine jv_fun 13 X (c_X10_in E _ v 1 99999) ws_X10_57 ⟨Nat.le_of_ble_eq_true rfl, Nat.le_of_ble_eq_true rfl⟩ ⟨rfl, rfl⟩ ⟨Nat.zero_le _, Nat.zero_le _⟩ dX10_bridge_13 rfl [] rfl (Nat.le_of_ble_eq_true rfl) ?_
    refine jv_z_ne 16 X dX10_bridge_16 22 (by decide) (fun c_2 => ?_) (fun c_2 => ?_)
    · refine jv_aload_n 22 X dX10_bridge_22 0 rfl ?_
      refine jv_get (v := .ref (a 1)) 23 X gf_X10_7 dX10_bridge_23 0 rfl rfl ?_
      refine jv_bipush (v := 34) 26 X dX10_bridge_26 (by decide) ?_
      refine jv_iload_n 28 X dX10_bridge_28 1 rfl ?_
      refine jv_iadd 29 X dX10_bridge_29 ?_
      refine jv_norm (x2 := nI (34 + jk)) (nx_add rfl rfl) ?_
      refine jv_iald (f := book) 30 X dX10_bridge_30 1 rfl (by decide) (34 + jk) rfl (by omega) ?_
      refine jv_istore_n (lv2 := [(3, .int (book (34 + jk))), (0, .ref (a 0)), (1, .int (nI jk)), (2, .int v)]) 31 X dX10_bridge_31 (by decide) rfl ?_
      refine jv_aload_n 32 X dX10_bridge_32 1 rfl ?_
      refine jv_get (v := .ref (a 1)) 33 X gf_X10_7 dX10_bridge_33 0 rfl rfl ?_
      refine jv_bipush (v := 34) 36 X dX10_bridge_36 (by decide) ?_
      refine jv_iload_n 38 X dX10_bridge_38 2 rfl ?_
      refine jv_iadd 39 X dX10_bridge_39 ?_
      refine jv_norm (x2 := nI (34 + jk)) (nx_add rfl rfl) ?_
      refine jv_iload_n 40 X dX10_bridge_40 3 rfl ?_
      refine jv_iast (ws2 := bMd E a ((upd book (34 + jk) v), now, week, sights, sight, signs, pad, metAt, metWho, reason, acts, atp, will, fitting, counts, ring, nxt, wins, ways, nextWays, image, isKept)) (f := book) 41 X dX10_bridge_41 1 rfl (by decide) (34 + jk) rfl (by omega) rfl ?_
      refine jv_aload_n 42 X dX10_bridge_42 1 rfl ?_
      refine jv_get (v := .ref (a 1)) 43 X gf_X10_7 dX10_bridge_43 0 rfl rfl ?_
      refine jv_bipush (v := 26) 46 X dX10_bridge_46 (by decide) ?_
      refine jv_iload_n 48 X dX10_bridge_48 2 rfl ?_
      refine jv_iadd 49 X dX10_bridge_49 ?_
      refine jv_norm (x2 := nI (26 + jk)) (nx_add rfl rfl) ?_
      refine jv_iconst (v := 0) 50 X dX10_bridge_50 rfl ?_
      refine jv_iast (ws2 := bMd E a ((upd (upd book (34 + jk) v) (26 + jk) 0), now, week, sights, sight, signs, pad, metAt, metWho, reason, acts, atp, will, fitting, counts, ring, nxt, wins, ways, nextWays, image, isKept)) (f := (upd book (34 + jk) v)) 51 X dX10_bridge_51 1 rfl (by decide) (26 + jk) rfl (by omega) rfl ?_
      refine jv_aload_n 52 X dX10_bridge_52 1 rfl ?_
      refine jv_get (v := .ref (a 1)) 53 X gf_X10_7 dX10_bridge_53 0 rfl rfl ?_
      refine jv_bipush (v := 30) 56 X dX10_bridge_56 (by decide) ?_
      refine jv_iload_n 58 X dX10_bridge_58 2 rfl ?_
      refine jv_iadd 59 X dX10_bridge_59 ?_
      refine jv_norm (x2 := nI (30 + jk)) (nx_add rfl rfl) ?_
      refine jv_iconst (v := 0) 60 X dX10_bridge_60 rfl ?_
      refine jv_iast (ws2 := bMd E a ((upd (upd (upd book (34 + jk) v) (26 + jk) 0) (30 + jk) 0), now, week, sights, sight, signs, pad, metAt, metWho, reason, acts, atp, will, fitting, counts, ring, nxt, wins, ways, nextWays, image, isKept)) (f := (upd (upd book (34 + jk) v) (26 + jk) 0)) 61 X dX10_bridge_61 1 rfl (by decide) (30 + jk) rfl (by omega) rfl ?_
      refine jv_iload_n 62 X dX10_bridge_62 0 rfl ?_
      have hq : f_bridge book (nI jk) v = ((book (34 + jk)), (upd (upd (upd book (34 + jk) v) (26 + jk) 0) (30 + jk) 0)) := by simp [f_bridge, lt_nle, -Int32.not_le, c_1, hcjk, c_2]
      exact jv_iret 63 X Y rfl dX10_bridge_63 () (by rw [hq]; try rfl) (by rw [hq]; try rfl)
    · refine jv_bipush (v := (-2)) 19 X dX10_bridge_19 (by decide) ?_
      have hq : f_bridge book (nI jk) v = ((-2), book) := by simp [f_bridge, lt_nle, -Int32.not_le, c_1, hcjk, c_2]
      exact jv_iret 21 X Y rfl dX10_bridge_21 () (by rw [hq]; try rfl) (by rw [hq]; try rfl)
  · refine jv_iconst (v := (-1)) 7 X dX10_bridge_7 rfl ?_
    have hq : f_bridge book k v = ((-1), book) := by simp [f_bridge, lt_nle, -Int32.not_le, c_1]
    exact jv_iret 8 X Y rfl dX10_bridge_8 () (by rw [hq]; try rfl) (by rw [hq]; try rfl)
theorem c_X10_wipe (E : EE) (l : Launch) (a : Nat → Nat) (book : Nat → Int32) (now : Nat → Int32) (week : Nat → Int32) (sights : Int32) (sight : Nat → Int32) (signs : Int32) (pad : Nat → Int32) (metAt : Int32) (metWho : Int32) (reason : Int32) (acts : Int32) (atp : Int32) (will : Nat → Int32) (fitting : Nat → Int32) (counts : Nat → Int32) (ring : Nat → Int32) (nxt : Nat → Int32) (wins : Nat → Int32) (ways : Nat → Int64) (nextWays : Nat → Int64) (image : Nat → Int32) (isKept : Nat → Int32) : CT E l yX10_wipe cX10_wipe 2 (some .int) { frames := 0, cells := 0, slots := 0, locals := 0 } [.ref (a 0)] (bMd E a (book, now, week, sights, sight, signs, pad, metAt, metWho, reason, acts, atp, will, fitting, counts, ring, nxt, wins, ways, nextWays, image, isKept)) (some (.int signs)) (bMd E a (book, now, week, sights, sight, 0, pad, metAt, metWho, reason, acts, atp, will, fitting, counts, ring, nxt, wins, ways, nextWays, image, isKept)) := by
  refine CT.intro (by decide) (Nat.le_of_ble_eq_true rfl) (fun K X Y => ?_)
  refine jv_aload_n 0 X dX10_wipe_0 0 rfl ?_
  refine jv_get (v := .int signs) 1 X gf_X10_72 dX10_wipe_1 0 rfl rfl ?_
  refine jv_istore_n (lv2 := [(1, .int signs), (0, .ref (a 0))]) 4 X dX10_wipe_4 (by decide) rfl ?_
  refine jv_aload_n 5 X dX10_wipe_5 1 rfl ?_
  refine jv_iconst (v := 0) 6 X dX10_wipe_6 rfl ?_
  refine jv_puti (ws2 := bMd E a (book, now, week, sights, sight, 0, pad, metAt, metWho, reason, acts, atp, will, fitting, counts, ring, nxt, wins, ways, nextWays, image, isKept)) 7 X gf_X10_72 tyX10_ok nmX10 rfl rfl dX10_wipe_7 0 rfl (Nat.le_of_ble_eq_true rfl) rfl ?_
  refine jv_iload_n 10 X dX10_wipe_10 0 rfl ?_
  exact jv_iret 11 X Y rfl dX10_wipe_11 () rfl rfl
theorem c_X10_forget (E : EE) (l : Launch) (a : Nat → Nat) (book : Nat → Int32) (now : Nat → Int32) (week : Nat → Int32) (sights : Int32) (sight : Nat → Int32) (signs : Int32) (pad : Nat → Int32) (metAt : Int32) (metWho : Int32) (reason : Int32) (acts : Int32) (atp : Int32) (will : Nat → Int32) (fitting : Nat → Int32) (counts : Nat → Int32) (ring : Nat → Int32) (nxt : Nat → Int32) (wins : Nat → Int32) (ways : Nat → Int64) (nextWays : Nat → Int64) (image : Nat → Int32) (isKept : Nat → Int32) : CT E l yX10_forget cX10_forget 2 (some .int) { frames := 0, cells := 0, slots := 0, locals := 0 } [.ref (a 0)] (bMd E a (book, now, week, sights, sight, signs, pad, metAt, metWho, reason, acts, atp, will, fitting, counts, ring, nxt, wins, ways, nextWays, image, isKept)) (some (.int sights)) (bMd E a (book, now, week, 0, sight, signs, pad, metAt, metWho, reason, acts, atp, will, fitting, counts, ring, nxt, wins, ways, nextWays, image, isKept)) := by
  refine CT.intro (by decide) (Nat.le_of_ble_eq_true rfl) (fun K X Y => ?_)
  refine jv_aload_n 0 X dX10_forget_0 0 rfl ?_
  refine jv_get (v := .int sights) 1 X gf_X10_167 dX10_forget_1 0 rfl rfl ?_
  refine jv_istore_n (lv2 := [(1, .int sights), (0, .ref (a 0))]) 4 X dX10_forget_4 (by decide) rfl ?_
  refine jv_aload_n 5 X dX10_forget_5 1 rfl ?_
  refine jv_iconst (v := 0) 6 X dX10_forget_6 rfl ?_
  refine jv_puti (ws2 := bMd E a (book, now, week, 0, sight, signs, pad, metAt, metWho, reason, acts, atp, will, fitting, counts, ring, nxt, wins, ways, nextWays, image, isKept)) 7 X gf_X10_167 tyX10_ok nmX10 rfl rfl dX10_forget_7 0 rfl (Nat.le_of_ble_eq_true rfl) rfl ?_
  refine jv_iload_n 10 X dX10_forget_10 0 rfl ?_
  exact jv_iret 11 X Y rfl dX10_forget_11 () rfl rfl
end
section
theorem nI_n0 : nI 0 = 0 := rfl
theorem nI_n1 : nI 1 = 1 := rfl
theorem nI_n2 : nI 2 = 2 := rfl
theorem nI_n3 : nI 3 = 3 := rfl
theorem nI_n4 : nI 4 = 4 := rfl
def stN (q : Nat) (s : Int32) : Nat := if q = 0 then (if 65 ≤ s ∧ s ≤ 70 then 1 else if s = 60 ∨ s = 62 then 2 else if s = 46 then 0 else 5) else if q = 1 then (if s = 43 ∨ s = 45 then 2 else if s = 47 then 3 else if s = 40 ∨ s = 41 then 4 else if s = 61 ∨ s = 120 then 0 else 5) else if q = 2 then (if 49 ≤ s ∧ s ≤ 57 then 0 else 5) else if q = 3 then (if 48 ≤ s ∧ s ≤ 55 then 2 else 5) else (if 48 ≤ s ∧ s ≤ 51 then 2 else 5)
def stI (q : Nat) : Int32 := if q = 5 then -6 else nI q
theorem stN_le (q : Nat) (s : Int32) : stN q s ≤ 5 := by unfold stN; (repeat' split) <;> omega
def ftS (pad : Nat → Int32) (k q : Nat) : Int32 ⊕ Nat := if stN q (pad k) = 5 then .inl (nI k) else .inr (stN q (pad k))
def ftR (n : Nat) (x : Int32 ⊕ Nat) : Int32 := match x with
  | .inl r => r
  | .inr q => if q = 0 then -6 else nI n
def ftM (pad : Nat → Int32) (n : Nat) : Int32 := ftR n (itE (ftS pad) n 0 0)
def msM (now : Nat → Int32) (k : Nat) : Int32 := if now (12 + k) = 0 then now 38 else now (12 + k)
theorem c_X10_say (E : EE) (l : Launch) (a : Nat → Nat) (book : Nat → Int32) (now : Nat → Int32) (week : Nat → Int32) (sights : Int32) (sight : Nat → Int32) (sg : Nat) (pad : Nat → Int32) (metAt : Int32) (metWho : Int32) (reason : Int32) (acts : Int32) (atp : Int32) (will : Nat → Int32) (fitting : Nat → Int32) (counts : Nat → Int32) (ring : Nat → Int32) (nxt : Nat → Int32) (wins : Nat → Int32) (ways : Nat → Int64) (nextWays : Nat → Int64) (image : Nat → Int32) (isKept : Nat → Int32) (v : Int32) (hs : sg ≤ 60) : CT E l yX10_say cX10_say 2 (some .int) { frames := 1, cells := 0, slots := 0, locals := 22 } [.ref (a 0), .int v] (bMd E a (book, now, week, sights, sight, (nI sg), pad, metAt, metWho, reason, acts, atp, will, fitting, counts, ring, nxt, wins, ways, nextWays, image, isKept)) (some (.int ((f_say sg pad v).1))) (bMd E a (book, now, week, sights, sight, (nI (f_say sg pad v).2.1), (f_say sg pad v).2.2, metAt, metWho, reason, acts, atp, will, fitting, counts, ring, nxt, wins, ways, nextWays, image, isKept)) := by
  refine CT.intro (by decide) (Nat.le_of_ble_eq_true rfl) (fun K X Y => ?_)
  refine jv_iload_n 0 X dX10_say_0 1 rfl ?_
  refine jv_bipush (v := 33) 1 X dX10_say_1 (by decide) ?_
  refine jv_bipush (v := 126) 3 X dX10_say_3 (by decide) ?_
  refine jv_fun 5 X (c_X10_in E _ v 33 126) ws_X10_57 ⟨Nat.le_of_ble_eq_true rfl, Nat.le_of_ble_eq_true rfl⟩ ⟨rfl, rfl⟩ ⟨Nat.zero_le _, Nat.zero_le _⟩ dX10_say_5 rfl [] rfl (Nat.le_of_ble_eq_true rfl) ?_
  refine jv_z_ne 8 X dX10_say_8 14 (by decide) (fun c_1 => ?_) (fun c_1 => ?_)
  · refine jv_aload_n 14 X dX10_say_14 0 rfl ?_
    refine jv_get (v := .int (nI sg)) 15 X gf_X10_72 dX10_say_15 0 rfl rfl ?_
    refine jv_bipush (v := 60) 18 X dX10_say_18 (by decide) ?_
    refine jn_icmp_ne 20 X dX10_say_20 26 (by decide) (fun c_2 => ?_) (fun c_2 => ?_)
    · have n_2 : ¬ sg = 60 := fun zq => c_2 ((nx_eq (a := sg) (b := 60) rfl rfl (by omega) (by omega)).mpr zq)
      refine jv_aload_n 26 X dX10_say_26 0 rfl ?_
      refine jv_get (v := .ref (a 5)) 27 X gf_X10_22 dX10_say_27 0 rfl rfl ?_
      refine jv_aload_n 30 X dX10_say_30 0 rfl ?_
      refine jv_get (v := .int (nI sg)) 31 X gf_X10_72 dX10_say_31 0 rfl rfl ?_
      refine jv_iload_n 34 X dX10_say_34 1 rfl ?_
      refine jv_iast (ws2 := bMd E a (book, now, week, sights, sight, (nI sg), (upd pad sg v), metAt, metWho, reason, acts, atp, will, fitting, counts, ring, nxt, wins, ways, nextWays, image, isKept)) (f := pad) 35 X dX10_say_35 5 rfl (by decide) sg rfl (by omega) rfl ?_
      refine jv_aload_n 36 X dX10_say_36 0 rfl ?_
      refine jv_dup 37 X dX10_say_37 rfl ?_
      refine jv_get (v := .int (nI sg)) 38 X gf_X10_72 dX10_say_38 0 rfl rfl ?_
      refine jv_iconst (v := 1) 41 X dX10_say_41 rfl ?_
      refine jv_iadd 42 X dX10_say_42 ?_
      refine jv_norm (x2 := nI (sg + 1)) (nx_add rfl rfl) ?_
      refine jv_puti (ws2 := bMd E a (book, now, week, sights, sight, (nI (sg + 1)), (upd pad sg v), metAt, metWho, reason, acts, atp, will, fitting, counts, ring, nxt, wins, ways, nextWays, image, isKept)) 43 X gf_X10_72 tyX10_ok nmX10 rfl rfl dX10_say_43 0 rfl (Nat.le_of_ble_eq_true rfl) rfl ?_
      refine jv_aload_n 46 X dX10_say_46 0 rfl ?_
      refine jv_get (v := .int (nI (sg + 1))) 47 X gf_X10_72 dX10_say_47 0 rfl rfl ?_
      have hq : f_say sg pad v = ((nI (sg + 1)), (sg + 1), (upd pad sg v)) := by simp [f_say, lt_nle, -Int32.not_le, c_1, c_2, n_2]
      exact jv_iret 50 X Y rfl dX10_say_50 () (by rw [hq]; try rfl) (by rw [hq]; try rfl)
    · have n_2 : sg = 60 := (nx_eq (a := sg) (b := 60) rfl rfl (by omega) (by omega)).mp c_2
      refine jv_bipush (v := (-4)) 23 X dX10_say_23 (by decide) ?_
      have hq : f_say sg pad v = ((-4), sg, pad) := by simp [f_say, lt_nle, -Int32.not_le, c_1, c_2, n_2]
      exact jv_iret 25 X Y rfl dX10_say_25 () (by rw [hq]; try rfl) (by rw [hq]; try rfl)
  · refine jv_bipush (v := (-2)) 11 X dX10_say_11 (by decide) ?_
    have hq : f_say sg pad v = ((-2), sg, pad) := by simp [f_say, lt_nle, -Int32.not_le, c_1]
    exact jv_iret 13 X Y rfl dX10_say_13 () (by rw [hq]; try rfl) (by rw [hq]; try rfl)
theorem c_X10_seen (E : EE) (l : Launch) (a : Nat → Nat) (book : Nat → Int32) (now : Nat → Int32) (week : Nat → Int32) (sk : Nat) (sight : Nat → Int32) (signs : Int32) (pad : Nat → Int32) (metAt : Int32) (metWho : Int32) (reason : Int32) (acts : Int32) (atp : Int32) (will : Nat → Int32) (fitting : Nat → Int32) (counts : Nat → Int32) (ring : Nat → Int32) (nxt : Nat → Int32) (wins : Nat → Int32) (ways : Nat → Int64) (nextWays : Nat → Int64) (image : Nat → Int32) (isKept : Nat → Int32) (day : Int32) (v : Int32) (hs : sk ≤ 8) : CT E l yX10_seen cX10_seen 3 (some .int) { frames := 1, cells := 0, slots := 0, locals := 22 } [.ref (a 0), .int day, .int v] (bMd E a (book, now, week, (nI sk), sight, signs, pad, metAt, metWho, reason, acts, atp, will, fitting, counts, ring, nxt, wins, ways, nextWays, image, isKept)) (some (.int ((f_seen sk sight day v).1))) (bMd E a (book, now, week, (nI (f_seen sk sight day v).2.1), (f_seen sk sight day v).2.2, signs, pad, metAt, metWho, reason, acts, atp, will, fitting, counts, ring, nxt, wins, ways, nextWays, image, isKept)) := by
  refine CT.intro (by decide) (Nat.le_of_ble_eq_true rfl) (fun K X Y => ?_)
  refine jv_iload_n 0 X dX10_seen_0 1 rfl ?_
  refine jv_iconst (v := 0) 1 X dX10_seen_1 rfl ?_
  refine jv_bipush (v := 60) 2 X dX10_seen_2 (by decide) ?_
  refine jv_fun 4 X (c_X10_in E _ day 0 60) ws_X10_57 ⟨Nat.le_of_ble_eq_true rfl, Nat.le_of_ble_eq_true rfl⟩ ⟨rfl, rfl⟩ ⟨Nat.zero_le _, Nat.zero_le _⟩ dX10_seen_4 rfl [] rfl (Nat.le_of_ble_eq_true rfl) ?_
  refine jv_z_eq 7 X dX10_seen_7 21 (by decide) (fun c_1 => ?_) (fun c_1 => ?_)
  · refine jv_bipush (v := (-2)) 21 X dX10_seen_21 (by decide) ?_
    have hq : f_seen sk sight day v = ((-2), sk, sight) := by simp [f_seen, lt_nle, -Int32.not_le, c_1]
    exact jv_iret 23 X Y rfl dX10_seen_23 () (by rw [hq]; try rfl) (by rw [hq]; try rfl)
  · refine jv_iload_n 10 X dX10_seen_10 2 rfl ?_
    refine jv_iconst (v := 1) 11 X dX10_seen_11 rfl ?_
    refine jv_sipush (v := 200) 12 X dX10_seen_12 (by decide) ?_
    refine jv_fun 15 X (c_X10_in E _ v 1 200) ws_X10_57 ⟨Nat.le_of_ble_eq_true rfl, Nat.le_of_ble_eq_true rfl⟩ ⟨rfl, rfl⟩ ⟨Nat.zero_le _, Nat.zero_le _⟩ dX10_seen_15 rfl [] rfl (Nat.le_of_ble_eq_true rfl) ?_
    refine jv_z_ne 18 X dX10_seen_18 24 (by decide) (fun c_2 => ?_) (fun c_2 => ?_)
    · refine jv_aload_n 24 X dX10_seen_24 0 rfl ?_
      refine jv_get (v := .int (nI sk)) 25 X gf_X10_167 dX10_seen_25 0 rfl rfl ?_
      refine jv_bipush (v := 8) 28 X dX10_seen_28 (by decide) ?_
      refine jn_icmp_ne 30 X dX10_seen_30 36 (by decide) (fun c_3 => ?_) (fun c_3 => ?_)
      · have n_3 : ¬ sk = 8 := fun zq => c_3 ((nx_eq (a := sk) (b := 8) rfl rfl (by omega) (by omega)).mpr zq)
        refine jv_aload_n 36 X dX10_seen_36 0 rfl ?_
        refine jv_get (v := .ref (a 4)) 37 X gf_X10_19 dX10_seen_37 0 rfl rfl ?_
        refine jv_iconst (v := 2) 40 X dX10_seen_40 rfl ?_
        refine jv_aload_n 41 X dX10_seen_41 0 rfl ?_
        refine jv_get (v := .int (nI sk)) 42 X gf_X10_167 dX10_seen_42 0 rfl rfl ?_
        refine jv_imul 45 X dX10_seen_45 ?_
        refine jv_norm (x2 := nI (2 * sk)) (nx_mul rfl rfl) ?_
        refine jv_iload_n 46 X dX10_seen_46 1 rfl ?_
        refine jv_iast (ws2 := bMd E a (book, now, week, (nI sk), (upd sight (2 * sk) day), signs, pad, metAt, metWho, reason, acts, atp, will, fitting, counts, ring, nxt, wins, ways, nextWays, image, isKept)) (f := sight) 47 X dX10_seen_47 4 rfl (by decide) (2 * sk) rfl (by omega) rfl ?_
        refine jv_aload_n 48 X dX10_seen_48 0 rfl ?_
        refine jv_get (v := .ref (a 4)) 49 X gf_X10_19 dX10_seen_49 0 rfl rfl ?_
        refine jv_iconst (v := 2) 52 X dX10_seen_52 rfl ?_
        refine jv_aload_n 53 X dX10_seen_53 0 rfl ?_
        refine jv_get (v := .int (nI sk)) 54 X gf_X10_167 dX10_seen_54 0 rfl rfl ?_
        refine jv_imul 57 X dX10_seen_57 ?_
        refine jv_norm (x2 := nI (2 * sk)) (nx_mul rfl rfl) ?_
        refine jv_iconst (v := 1) 58 X dX10_seen_58 rfl ?_
        refine jv_iadd 59 X dX10_seen_59 ?_
        refine jv_norm (x2 := nI ((2 * sk) + 1)) (nx_add rfl rfl) ?_
        refine jv_iload_n 60 X dX10_seen_60 2 rfl ?_
        refine jv_iast (ws2 := bMd E a (book, now, week, (nI sk), (upd (upd sight (2 * sk) day) ((2 * sk) + 1) v), signs, pad, metAt, metWho, reason, acts, atp, will, fitting, counts, ring, nxt, wins, ways, nextWays, image, isKept)) (f := (upd sight (2 * sk) day)) 61 X dX10_seen_61 4 rfl (by decide) ((2 * sk) + 1) rfl (by omega) rfl ?_
        refine jv_aload_n 62 X dX10_seen_62 0 rfl ?_
        refine jv_dup 63 X dX10_seen_63 rfl ?_
        refine jv_get (v := .int (nI sk)) 64 X gf_X10_167 dX10_seen_64 0 rfl rfl ?_
        refine jv_iconst (v := 1) 67 X dX10_seen_67 rfl ?_
        refine jv_iadd 68 X dX10_seen_68 ?_
        refine jv_norm (x2 := nI (sk + 1)) (nx_add rfl rfl) ?_
        refine jv_puti (ws2 := bMd E a (book, now, week, (nI (sk + 1)), (upd (upd sight (2 * sk) day) ((2 * sk) + 1) v), signs, pad, metAt, metWho, reason, acts, atp, will, fitting, counts, ring, nxt, wins, ways, nextWays, image, isKept)) 69 X gf_X10_167 tyX10_ok nmX10 rfl rfl dX10_seen_69 0 rfl (Nat.le_of_ble_eq_true rfl) rfl ?_
        refine jv_aload_n 72 X dX10_seen_72 0 rfl ?_
        refine jv_get (v := .int (nI (sk + 1))) 73 X gf_X10_167 dX10_seen_73 0 rfl rfl ?_
        have hq : f_seen sk sight day v = ((nI (sk + 1)), (sk + 1), (upd (upd sight (2 * sk) day) ((2 * sk) + 1) v)) := by simp [f_seen, lt_nle, -Int32.not_le, c_1, c_2, c_3, n_3]
        exact jv_iret 76 X Y rfl dX10_seen_76 () (by rw [hq]; try rfl) (by rw [hq]; try rfl)
      · have n_3 : sk = 8 := (nx_eq (a := sk) (b := 8) rfl rfl (by omega) (by omega)).mp c_3
        refine jv_bipush (v := (-4)) 33 X dX10_seen_33 (by decide) ?_
        have hq : f_seen sk sight day v = ((-4), sk, sight) := by simp [f_seen, lt_nle, -Int32.not_le, c_1, c_2, c_3, n_3]
        exact jv_iret 35 X Y rfl dX10_seen_35 () (by rw [hq]; try rfl) (by rw [hq]; try rfl)
    · refine jv_bipush (v := (-2)) 21 X dX10_seen_21 (by decide) ?_
      have hq : f_seen sk sight day v = ((-2), sk, sight) := by simp [f_seen, lt_nle, -Int32.not_le, c_1, c_2]
      exact jv_iret 23 X Y rfl dX10_seen_23 () (by rw [hq]; try rfl) (by rw [hq]; try rfl)
theorem c_X10_step (E : EE) (l : Launch) (q : Nat) (s : Int32) (hq : q < 5) : CT E l yX10_step cX10_step 2 (some .int) { frames := 1, cells := 0, slots := 0, locals := 22 } [.int (nI q), .int s] ([]) (some (.int (stI (stN q s)))) ([]) := by
  refine CT.intro (by decide) (Nat.le_of_ble_eq_true rfl) (fun K X Y => ?_)
  rcases (show q = 0 ∨ q = 1 ∨ q = 2 ∨ q = 3 ∨ q = 4 by omega) with rfl | rfl | rfl | rfl | rfl
  · refine jv_iload_n 0 X dX10_step_0 0 rfl ?_
    refine jv_tabIn 1 X dX10_step_1 32 (by decide) (by decide) rfl (by decide) ?_
    refine jv_iload_n 32 X dX10_step_32 1 rfl ?_
    refine jv_bipush (v := 65) 33 X dX10_step_33 (by decide) ?_
    refine jv_bipush (v := 70) 35 X dX10_step_35 (by decide) ?_
    refine jv_fun 37 X (c_X10_in E _ s 65 70) ws_X10_57 ⟨Nat.le_of_ble_eq_true rfl, Nat.le_of_ble_eq_true rfl⟩ ⟨rfl, rfl⟩ ⟨Nat.zero_le _, Nat.zero_le _⟩ dX10_step_37 rfl [] rfl (Nat.le_of_ble_eq_true rfl) ?_
    refine jv_z_eq 40 X dX10_step_40 47 (by decide) (fun c_1 => ?_) (fun c_1 => ?_)
    · refine jv_iload_n 47 X dX10_step_47 1 rfl ?_
      refine jv_bipush (v := 60) 48 X dX10_step_48 (by decide) ?_
      refine jn_icmp_eq 50 X dX10_step_50 59 (by decide) (fun c_2 => ?_) (fun c_2 => ?_)
      · refine jv_iconst (v := 2) 59 X dX10_step_59 rfl ?_
        refine jv_goto 60 X dX10_step_60 75 (by decide) ?_
        exact jv_iret 75 X Y rfl dX10_step_75 () (by simp [stI, stN, nI_n0, nI_n1, nI_n2, nI_n3, nI_n4, lt_nle, -Int32.not_le, c_1, c_2]) rfl
      · refine jv_iload_n 53 X dX10_step_53 1 rfl ?_
        refine jv_bipush (v := 62) 54 X dX10_step_54 (by decide) ?_
        refine jn_icmp_ne 56 X dX10_step_56 63 (by decide) (fun c_3 => ?_) (fun c_3 => ?_)
        · refine jv_iload_n 63 X dX10_step_63 1 rfl ?_
          refine jv_bipush (v := 46) 64 X dX10_step_64 (by decide) ?_
          refine jn_icmp_ne 66 X dX10_step_66 73 (by decide) (fun c_4 => ?_) (fun c_4 => ?_)
          · refine jv_bipush (v := (-6)) 73 X dX10_step_73 (by decide) ?_
            exact jv_iret 75 X Y rfl dX10_step_75 () (by simp [stI, stN, nI_n0, nI_n1, nI_n2, nI_n3, nI_n4, lt_nle, -Int32.not_le, c_1, c_2, c_3, c_4]) rfl
          · refine jv_iconst (v := 0) 69 X dX10_step_69 rfl ?_
            refine jv_goto 70 X dX10_step_70 75 (by decide) ?_
            exact jv_iret 75 X Y rfl dX10_step_75 () (by simp [stI, stN, nI_n0, nI_n1, nI_n2, nI_n3, nI_n4, lt_nle, -Int32.not_le, c_1, c_2, c_3, c_4]) rfl
        · refine jv_iconst (v := 2) 59 X dX10_step_59 rfl ?_
          refine jv_goto 60 X dX10_step_60 75 (by decide) ?_
          exact jv_iret 75 X Y rfl dX10_step_75 () (by simp [stI, stN, nI_n0, nI_n1, nI_n2, nI_n3, nI_n4, lt_nle, -Int32.not_le, c_1, c_2, c_3]) rfl
    · refine jv_iconst (v := 1) 43 X dX10_step_43 rfl ?_
      refine jv_goto 44 X dX10_step_44 75 (by decide) ?_
      exact jv_iret 75 X Y rfl dX10_step_75 () (by simp [stI, stN, nI_n0, nI_n1, nI_n2, nI_n3, nI_n4, lt_nle, -Int32.not_le, c_1]) rfl
  · refine jv_iload_n 0 X dX10_step_0 0 rfl ?_
    refine jv_tabIn 1 X dX10_step_1 76 (by decide) (by decide) rfl (by decide) ?_
    refine jv_iload_n 76 X dX10_step_76 1 rfl ?_
    refine jv_bipush (v := 43) 77 X dX10_step_77 (by decide) ?_
    refine jn_icmp_eq 79 X dX10_step_79 88 (by decide) (fun c_5 => ?_) (fun c_5 => ?_)
    · refine jv_iconst (v := 2) 88 X dX10_step_88 rfl ?_
      refine jv_goto 89 X dX10_step_89 136 (by decide) ?_
      exact jv_iret 136 X Y rfl dX10_step_136 () (by simp [stI, stN, nI_n0, nI_n1, nI_n2, nI_n3, nI_n4, lt_nle, -Int32.not_le, c_5]) rfl
    · refine jv_iload_n 82 X dX10_step_82 1 rfl ?_
      refine jv_bipush (v := 45) 83 X dX10_step_83 (by decide) ?_
      refine jn_icmp_ne 85 X dX10_step_85 92 (by decide) (fun c_6 => ?_) (fun c_6 => ?_)
      · refine jv_iload_n 92 X dX10_step_92 1 rfl ?_
        refine jv_bipush (v := 47) 93 X dX10_step_93 (by decide) ?_
        refine jn_icmp_ne 95 X dX10_step_95 102 (by decide) (fun c_7 => ?_) (fun c_7 => ?_)
        · refine jv_iload_n 102 X dX10_step_102 1 rfl ?_
          refine jv_bipush (v := 40) 103 X dX10_step_103 (by decide) ?_
          refine jn_icmp_eq 105 X dX10_step_105 114 (by decide) (fun c_8 => ?_) (fun c_8 => ?_)
          · refine jv_iconst (v := 4) 114 X dX10_step_114 rfl ?_
            refine jv_goto 115 X dX10_step_115 136 (by decide) ?_
            exact jv_iret 136 X Y rfl dX10_step_136 () (by simp [stI, stN, nI_n0, nI_n1, nI_n2, nI_n3, nI_n4, lt_nle, -Int32.not_le, c_5, c_6, c_7, c_8]) rfl
          · refine jv_iload_n 108 X dX10_step_108 1 rfl ?_
            refine jv_bipush (v := 41) 109 X dX10_step_109 (by decide) ?_
            refine jn_icmp_ne 111 X dX10_step_111 118 (by decide) (fun c_9 => ?_) (fun c_9 => ?_)
            · refine jv_iload_n 118 X dX10_step_118 1 rfl ?_
              refine jv_bipush (v := 61) 119 X dX10_step_119 (by decide) ?_
              refine jn_icmp_eq 121 X dX10_step_121 130 (by decide) (fun c_10 => ?_) (fun c_10 => ?_)
              · refine jv_iconst (v := 0) 130 X dX10_step_130 rfl ?_
                refine jv_goto 131 X dX10_step_131 136 (by decide) ?_
                exact jv_iret 136 X Y rfl dX10_step_136 () (by simp [stI, stN, nI_n0, nI_n1, nI_n2, nI_n3, nI_n4, lt_nle, -Int32.not_le, c_5, c_6, c_7, c_8, c_9, c_10]) rfl
              · refine jv_iload_n 124 X dX10_step_124 1 rfl ?_
                refine jv_bipush (v := 120) 125 X dX10_step_125 (by decide) ?_
                refine jn_icmp_ne 127 X dX10_step_127 134 (by decide) (fun c_11 => ?_) (fun c_11 => ?_)
                · refine jv_bipush (v := (-6)) 134 X dX10_step_134 (by decide) ?_
                  exact jv_iret 136 X Y rfl dX10_step_136 () (by simp [stI, stN, nI_n0, nI_n1, nI_n2, nI_n3, nI_n4, lt_nle, -Int32.not_le, c_5, c_6, c_7, c_8, c_9, c_10, c_11]) rfl
                · refine jv_iconst (v := 0) 130 X dX10_step_130 rfl ?_
                  refine jv_goto 131 X dX10_step_131 136 (by decide) ?_
                  exact jv_iret 136 X Y rfl dX10_step_136 () (by simp [stI, stN, nI_n0, nI_n1, nI_n2, nI_n3, nI_n4, lt_nle, -Int32.not_le, c_5, c_6, c_7, c_8, c_9, c_10, c_11]) rfl
            · refine jv_iconst (v := 4) 114 X dX10_step_114 rfl ?_
              refine jv_goto 115 X dX10_step_115 136 (by decide) ?_
              exact jv_iret 136 X Y rfl dX10_step_136 () (by simp [stI, stN, nI_n0, nI_n1, nI_n2, nI_n3, nI_n4, lt_nle, -Int32.not_le, c_5, c_6, c_7, c_8, c_9]) rfl
        · refine jv_iconst (v := 3) 98 X dX10_step_98 rfl ?_
          refine jv_goto 99 X dX10_step_99 136 (by decide) ?_
          exact jv_iret 136 X Y rfl dX10_step_136 () (by simp [stI, stN, nI_n0, nI_n1, nI_n2, nI_n3, nI_n4, lt_nle, -Int32.not_le, c_5, c_6, c_7]) rfl
      · refine jv_iconst (v := 2) 88 X dX10_step_88 rfl ?_
        refine jv_goto 89 X dX10_step_89 136 (by decide) ?_
        exact jv_iret 136 X Y rfl dX10_step_136 () (by simp [stI, stN, nI_n0, nI_n1, nI_n2, nI_n3, nI_n4, lt_nle, -Int32.not_le, c_5, c_6]) rfl
  · refine jv_iload_n 0 X dX10_step_0 0 rfl ?_
    refine jv_tabIn 1 X dX10_step_1 137 (by decide) (by decide) rfl (by decide) ?_
    refine jv_iload_n 137 X dX10_step_137 1 rfl ?_
    refine jv_bipush (v := 49) 138 X dX10_step_138 (by decide) ?_
    refine jv_bipush (v := 57) 140 X dX10_step_140 (by decide) ?_
    refine jv_fun 142 X (c_X10_in E _ s 49 57) ws_X10_57 ⟨Nat.le_of_ble_eq_true rfl, Nat.le_of_ble_eq_true rfl⟩ ⟨rfl, rfl⟩ ⟨Nat.zero_le _, Nat.zero_le _⟩ dX10_step_142 rfl [] rfl (Nat.le_of_ble_eq_true rfl) ?_
    refine jv_z_eq 145 X dX10_step_145 152 (by decide) (fun c_12 => ?_) (fun c_12 => ?_)
    · refine jv_bipush (v := (-6)) 152 X dX10_step_152 (by decide) ?_
      exact jv_iret 154 X Y rfl dX10_step_154 () (by simp [stI, stN, nI_n0, nI_n1, nI_n2, nI_n3, nI_n4, lt_nle, -Int32.not_le, c_12]) rfl
    · refine jv_iconst (v := 0) 148 X dX10_step_148 rfl ?_
      refine jv_goto 149 X dX10_step_149 154 (by decide) ?_
      exact jv_iret 154 X Y rfl dX10_step_154 () (by simp [stI, stN, nI_n0, nI_n1, nI_n2, nI_n3, nI_n4, lt_nle, -Int32.not_le, c_12]) rfl
  · refine jv_iload_n 0 X dX10_step_0 0 rfl ?_
    refine jv_tabIn 1 X dX10_step_1 155 (by decide) (by decide) rfl (by decide) ?_
    refine jv_iload_n 155 X dX10_step_155 1 rfl ?_
    refine jv_bipush (v := 48) 156 X dX10_step_156 (by decide) ?_
    refine jv_bipush (v := 55) 158 X dX10_step_158 (by decide) ?_
    refine jv_fun 160 X (c_X10_in E _ s 48 55) ws_X10_57 ⟨Nat.le_of_ble_eq_true rfl, Nat.le_of_ble_eq_true rfl⟩ ⟨rfl, rfl⟩ ⟨Nat.zero_le _, Nat.zero_le _⟩ dX10_step_160 rfl [] rfl (Nat.le_of_ble_eq_true rfl) ?_
    refine jv_z_eq 163 X dX10_step_163 170 (by decide) (fun c_13 => ?_) (fun c_13 => ?_)
    · refine jv_bipush (v := (-6)) 170 X dX10_step_170 (by decide) ?_
      exact jv_iret 172 X Y rfl dX10_step_172 () (by simp [stI, stN, nI_n0, nI_n1, nI_n2, nI_n3, nI_n4, lt_nle, -Int32.not_le, c_13]) rfl
    · refine jv_iconst (v := 2) 166 X dX10_step_166 rfl ?_
      refine jv_goto 167 X dX10_step_167 172 (by decide) ?_
      exact jv_iret 172 X Y rfl dX10_step_172 () (by simp [stI, stN, nI_n0, nI_n1, nI_n2, nI_n3, nI_n4, lt_nle, -Int32.not_le, c_13]) rfl
  · refine jv_iload_n 0 X dX10_step_0 0 rfl ?_
    refine jv_tabOut 1 X dX10_step_1 173 (by decide) (by decide) ?_
    refine jv_iload_n 173 X dX10_step_173 1 rfl ?_
    refine jv_bipush (v := 48) 174 X dX10_step_174 (by decide) ?_
    refine jv_bipush (v := 51) 176 X dX10_step_176 (by decide) ?_
    refine jv_fun 178 X (c_X10_in E _ s 48 51) ws_X10_57 ⟨Nat.le_of_ble_eq_true rfl, Nat.le_of_ble_eq_true rfl⟩ ⟨rfl, rfl⟩ ⟨Nat.zero_le _, Nat.zero_le _⟩ dX10_step_178 rfl [] rfl (Nat.le_of_ble_eq_true rfl) ?_
    refine jv_z_eq 181 X dX10_step_181 188 (by decide) (fun c_14 => ?_) (fun c_14 => ?_)
    · refine jv_bipush (v := (-6)) 188 X dX10_step_188 (by decide) ?_
      exact jv_iret 190 X Y rfl dX10_step_190 () (by simp [stI, stN, nI_n0, nI_n1, nI_n2, nI_n3, nI_n4, lt_nle, -Int32.not_le, c_14]) rfl
    · refine jv_iconst (v := 2) 184 X dX10_step_184 rfl ?_
      refine jv_goto 185 X dX10_step_185 190 (by decide) ?_
      exact jv_iret 190 X Y rfl dX10_step_190 () (by simp [stI, stN, nI_n0, nI_n1, nI_n2, nI_n3, nI_n4, lt_nle, -Int32.not_le, c_14]) rfl
theorem c_X10_faultOf (E : EE) (l : Launch) (a : Nat → Nat) (book : Nat → Int32) (now : Nat → Int32) (week : Nat → Int32) (sights : Int32) (sight : Nat → Int32) (sg : Nat) (pad : Nat → Int32) (metAt : Int32) (metWho : Int32) (reason : Int32) (acts : Int32) (atp : Int32) (will : Nat → Int32) (fitting : Nat → Int32) (counts : Nat → Int32) (ring : Nat → Int32) (nxt : Nat → Int32) (wins : Nat → Int32) (ways : Nat → Int64) (nextWays : Nat → Int64) (image : Nat → Int32) (isKept : Nat → Int32) (hs : sg ≤ 60) : CT E l yX10_faultOf cX10_faultOf 3 (some .int) { frames := 2, cells := 0, slots := 0, locals := 43 } [.ref (a 0)] (bMd E a (book, now, week, sights, sight, (nI sg), pad, metAt, metWho, reason, acts, atp, will, fitting, counts, ring, nxt, wins, ways, nextWays, image, isKept)) (some (.int (ftM pad sg))) (bMd E a (book, now, week, sights, sight, (nI sg), pad, metAt, metWho, reason, acts, atp, will, fitting, counts, ring, nxt, wins, ways, nextWays, image, isKept)) := by
  refine CT.intro (by decide) (Nat.le_of_ble_eq_true rfl) (fun K X Y => ?_)
  refine jv_iconst (v := 0) 0 X dX10_faultOf_0 rfl ?_
  refine jv_istore_n (lv2 := [(1, .int 0), (0, .ref (a 0))]) 1 X dX10_faultOf_1 (by decide) rfl ?_
  refine jv_iconst (v := 0) 2 X dX10_faultOf_2 rfl ?_
  refine jv_istore_n (lv2 := [(2, .int 0), (1, .int 0), (0, .ref (a 0))]) 3 X dX10_faultOf_3 (by decide) rfl ?_
  have lp4 : ∀ (n4 : Nat) (k q : Nat), (k ≤ sg) → (q < 5) → (itE (ftS pad) sg 0 0 = itE (ftS pad) (sg - k) k q) → sg - k < n4 → JV E K 0 0 (bMd E a (book, now, week, sights, sight, (nI sg), pad, metAt, metWho, reason, acts, atp, will, fitting, counts, ring, nxt, wins, ways, nextWays, image, isKept)) [(0, .ref (a 0)), (1, .int (nI q)), (2, .int (nI k))] 4 [] := by
    intro n4
    induction n4 with
    | zero => intro k q hk hq hI hm; exact absurd hm (Nat.not_lt_zero _)
    | succ n4 ih4 =>
      intro k q hk hq hI hm
      refine jv_iload_n 4 X dX10_faultOf_4 2 rfl ?_
      refine jv_aload_n 5 X dX10_faultOf_5 0 rfl ?_
      refine jv_get (v := .int (nI sg)) 6 X gf_X10_72 dX10_faultOf_6 0 rfl rfl ?_
      refine jn_icmp_ge 9 X dX10_faultOf_9 35 (by decide) (fun c_1 => ?_) (fun c_1 => ?_)
      · have n_1 : sg ≤ k := (nx_le (a := sg) (b := k) rfl rfl (by omega) (by omega)).mp c_1
        refine jv_iload_n 35 X dX10_faultOf_35 1 rfl ?_
        refine jn_if_ne 36 X dX10_faultOf_36 44 (by decide) (fun c_2 => ?_) (fun c_2 => ?_)
        · have n_2 : ¬ q = 0 := fun zq => c_2 ((nx_eq (a := q) (b := 0) rfl rfl (by omega) (by omega)).mpr zq)
          refine jv_aload_n 44 X dX10_faultOf_44 0 rfl ?_
          refine jv_get (v := .int (nI sg)) 45 X gf_X10_72 dX10_faultOf_45 0 rfl rfl ?_
          exact jv_iret 48 X Y rfl dX10_faultOf_48 () (congrArg (fun z => some (Value.int z)) (by show _ = ftR sg _; rw [hI, show sg - k = 0 by omega]; simp [itE, ftR, n_1, n_2])) rfl
        · have n_2 : q = 0 := (nx_eq (a := q) (b := 0) rfl rfl (by omega) (by omega)).mp c_2
          refine jv_bipush (v := (-6)) 39 X dX10_faultOf_39 (by decide) ?_
          refine jv_goto 41 X dX10_faultOf_41 48 (by decide) ?_
          exact jv_iret 48 X Y rfl dX10_faultOf_48 () (congrArg (fun z => some (Value.int z)) (by show _ = ftR sg _; rw [hI, show sg - k = 0 by omega]; simp [itE, ftR, n_1, n_2])) rfl
      · have n_1 : ¬ sg ≤ k := fun zq => c_1 ((nx_le (a := sg) (b := k) rfl rfl (by omega) (by omega)).mpr zq)
        refine jv_iload_n 12 X dX10_faultOf_12 1 rfl ?_
        refine jv_aload_n 13 X dX10_faultOf_13 0 rfl ?_
        refine jv_get (v := .ref (a 5)) 14 X gf_X10_22 dX10_faultOf_14 0 rfl rfl ?_
        refine jv_iload_n 17 X dX10_faultOf_17 2 rfl ?_
        refine jv_iald (f := pad) 18 X dX10_faultOf_18 5 rfl (by decide) k rfl (by omega) ?_
        refine jv_fun 19 X (c_X10_step E _ q (pad k) hq) ws_X10_76 ⟨Nat.le_of_ble_eq_true rfl, Nat.le_of_ble_eq_true rfl⟩ ⟨rfl, rfl⟩ ⟨Nat.zero_le _, Nat.zero_le _⟩ dX10_faultOf_19 rfl [] rfl (Nat.le_of_ble_eq_true rfl) ?_
        by_cases hs5 : (stN q (pad k)) = 5
        · refine jv_norm (x2 := -6) (if_pos hs5) ?_
          refine jv_istore_n (lv2 := [(1, .int (-6)), (0, .ref (a 0)), (2, .int (nI k))]) 22 X dX10_faultOf_22 (by decide) rfl ?_
          refine jv_iload_n 23 X dX10_faultOf_23 0 rfl ?_
          refine jn_if_ge 24 X dX10_faultOf_24 29 (by decide) (fun c_3 => absurd c_3 (by decide)) (fun _ => ?_)
          refine jv_iload_n 27 X dX10_faultOf_27 2 rfl ?_
          exact jv_iret 28 X Y rfl dX10_faultOf_28 () (congrArg (fun z => some (Value.int z)) (by show _ = ftR sg _; rw [hI, show sg - k = (sg - (k + 1)) + 1 by omega, itE_l (if_pos hs5)]; rfl)) rfl
        · refine jv_norm (x2 := nI (stN q (pad k))) (if_neg hs5) ?_
          have hs6 := stN_le q (pad k)
          refine jv_istore_n (lv2 := [(1, .int (nI (stN q (pad k)))), (0, .ref (a 0)), (2, .int (nI k))]) 22 X dX10_faultOf_22 (by decide) rfl ?_
          refine jv_iload_n 23 X dX10_faultOf_23 0 rfl ?_
          refine jn_if_ge 24 X dX10_faultOf_24 29 (by decide) (fun c_4 => ?_) (fun c_4 => absurd (nI_pos' (by omega)) c_4)
          have n_4 : 0 ≤ (stN q (pad k)) := (nx_le (a := 0) (b := (stN q (pad k))) rfl rfl (by omega) (by omega)).mp c_4
          refine jv_iinc (v := (nI (k + 1))) (lv2 := [(2, .int (nI (k + 1))), (1, .int (nI (stN q (pad k)))), (0, .ref (a 0))]) 29 X dX10_faultOf_29 2 rfl (nx_inc _) (by decide) rfl ?_
          refine jv_goto 32 X dX10_faultOf_32 4 (by decide) ?_
          exact jv_lv [2, 1, 0] rfl (ih4 (k + 1) (stN q (pad k)) (by omega) (by omega) (by rw [hI, show sg - k = (sg - (k + 1)) + 1 by omega]; exact itE_r (if_neg hs5)) (by omega))
  exact jv_lv [2, 1, 0] rfl (lp4 _ 0 0 (by omega) (by omega) rfl (Nat.lt_succ_self _))
theorem c_X10_fault (E : EE) (l : Launch) (a : Nat → Nat) (book : Nat → Int32) (now : Nat → Int32) (week : Nat → Int32) (sights : Int32) (sight : Nat → Int32) (sg : Nat) (pad : Nat → Int32) (metAt : Int32) (metWho : Int32) (reason : Int32) (acts : Int32) (atp : Int32) (will : Nat → Int32) (fitting : Nat → Int32) (counts : Nat → Int32) (ring : Nat → Int32) (nxt : Nat → Int32) (wins : Nat → Int32) (ways : Nat → Int64) (nextWays : Nat → Int64) (image : Nat → Int32) (isKept : Nat → Int32) (hs : sg ≤ 60) : CT E l yX10_fault cX10_fault 1 (some .int) { frames := 3, cells := 0, slots := 0, locals := 65 } [.ref (a 0)] (bMd E a (book, now, week, sights, sight, (nI sg), pad, metAt, metWho, reason, acts, atp, will, fitting, counts, ring, nxt, wins, ways, nextWays, image, isKept)) (some (.int (ftM pad sg))) (bMd E a (book, now, week, sights, sight, (nI sg), pad, metAt, metWho, reason, acts, atp, will, fitting, counts, ring, nxt, wins, ways, nextWays, image, isKept)) := by
  refine CT.intro (by decide) (Nat.le_of_ble_eq_true rfl) (fun K X Y => ?_)
  refine jv_aload_n 0 X dX10_fault_0 0 rfl ?_
  refine jv_callW (w1 := bMd E a (book, now, week, sights, sight, (nI sg), pad, metAt, metWho, reason, acts, atp, will, fitting, counts, ring, nxt, wins, ways, nextWays, image, isKept)) 1 X (c_X10_faultOf E _ a book now week sights sight sg pad metAt metWho reason acts atp will fitting counts ring nxt wins ways nextWays image isKept (by omega)) wv_X10_80 ⟨Nat.le_of_ble_eq_true rfl, Nat.le_of_ble_eq_true rfl⟩ ⟨rfl, rfl⟩ ⟨Nat.zero_le _, Nat.zero_le _⟩ dX10_fault_1 rfl [] rfl (Nat.le_of_ble_eq_true rfl) 0 rfl rfl ?_
  exact jv_iret 4 X Y rfl dX10_fault_4 () rfl rfl
theorem c_X10_asNow (E : EE) (l : Launch) (a : Nat → Nat) (book : Nat → Int32) (now : Nat → Int32) (week : Nat → Int32) (sights : Int32) (sight : Nat → Int32) (signs : Int32) (pad : Nat → Int32) (metAt : Int32) (metWho : Int32) (reason : Int32) (acts : Int32) (atp : Int32) (will : Nat → Int32) (fitting : Nat → Int32) (counts : Nat → Int32) (ring : Nat → Int32) (nxt : Nat → Int32) (wins : Nat → Int32) (ways : Nat → Int64) (nextWays : Nat → Int64) (image : Nat → Int32) (isKept : Nat → Int32) : CT E l yX10_asNow cX10_asNow 2 none { frames := 0, cells := 0, slots := 0, locals := 0 } [.ref (a 0)] (bMd E a (book, now, week, sights, sight, signs, pad, metAt, metWho, reason, acts, atp, will, fitting, counts, ring, nxt, wins, ways, nextWays, image, isKept)) (none) (bMd E a (book, book, week, sights, sight, signs, pad, (-6), (-6), reason, acts, atp, will, fitting, counts, ring, nxt, wins, ways, nextWays, image, isKept)) := by
  refine CT.intro (by decide) (Nat.le_of_ble_eq_true rfl) (fun K X Y => ?_)
  refine jv_iconst (v := 0) 0 X dX10_asNow_0 rfl ?_
  refine jv_istore_n (lv2 := [(1, .int 0), (0, .ref (a 0))]) 1 X dX10_asNow_1 (by decide) rfl ?_
  have lp2 : ∀ (n2 : Nat) (k : Nat) (nw : Nat → Int32), (k ≤ 40) → (∀ j, j < k → nw j = book j) → 40 - k < n2 → JV E K 0 0 (bMd E a (book, nw, week, sights, sight, signs, pad, metAt, metWho, reason, acts, atp, will, fitting, counts, ring, nxt, wins, ways, nextWays, image, isKept)) [(0, .ref (a 0)), (1, .int (nI k))] 2 [] := by
    intro n2
    induction n2 with
    | zero => intro k nw hk hI hm; exact absurd hm (Nat.not_lt_zero _)
    | succ n2 ih2 =>
      intro k nw hk hI hm
      refine jv_iload_n 2 X dX10_asNow_2 1 rfl ?_
      refine jv_bipush (v := 40) 3 X dX10_asNow_3 (by decide) ?_
      refine jn_icmp_ge 5 X dX10_asNow_5 26 (by decide) (fun c_1 => ?_) (fun c_1 => ?_)
      · have n_1 : 40 ≤ k := (nx_le (a := 40) (b := k) rfl rfl (by omega) (by omega)).mp c_1
        refine jv_ext (ws2 := bMd E a (book, book, week, sights, sight, signs, pad, metAt, metWho, reason, acts, atp, will, fitting, counts, ring, nxt, wins, ways, nextWays, image, isKept)) 2 book rfl (fun j hj => hI j (by omega)) rfl ?_
        refine jv_aload_n 26 X dX10_asNow_26 0 rfl ?_
        refine jv_bipush (v := (-6)) 27 X dX10_asNow_27 (by decide) ?_
        refine jv_puti (ws2 := bMd E a (book, book, week, sights, sight, signs, pad, (-6), metWho, reason, acts, atp, will, fitting, counts, ring, nxt, wins, ways, nextWays, image, isKept)) 29 X gf_X10_84 tyX10_ok nmX10 rfl rfl dX10_asNow_29 0 rfl (Nat.le_of_ble_eq_true rfl) rfl ?_
        refine jv_aload_n 32 X dX10_asNow_32 0 rfl ?_
        refine jv_bipush (v := (-6)) 33 X dX10_asNow_33 (by decide) ?_
        refine jv_puti (ws2 := bMd E a (book, book, week, sights, sight, signs, pad, (-6), (-6), reason, acts, atp, will, fitting, counts, ring, nxt, wins, ways, nextWays, image, isKept)) 35 X gf_X10_87 tyX10_ok nmX10 rfl rfl dX10_asNow_35 0 rfl (Nat.le_of_ble_eq_true rfl) rfl ?_
        exact jv_vret 38 X Y rfl dX10_asNow_38 () rfl rfl
      · have n_1 : ¬ 40 ≤ k := fun zq => c_1 ((nx_le (a := 40) (b := k) rfl rfl (by omega) (by omega)).mpr zq)
        refine jv_aload_n 8 X dX10_asNow_8 0 rfl ?_
        refine jv_get (v := .ref (a 2)) 9 X gf_X10_13 dX10_asNow_9 0 rfl rfl ?_
        refine jv_iload_n 12 X dX10_asNow_12 1 rfl ?_
        refine jv_aload_n 13 X dX10_asNow_13 0 rfl ?_
        refine jv_get (v := .ref (a 1)) 14 X gf_X10_7 dX10_asNow_14 0 rfl rfl ?_
        refine jv_iload_n 17 X dX10_asNow_17 1 rfl ?_
        refine jv_iald (f := book) 18 X dX10_asNow_18 1 rfl (by decide) k rfl (by omega) ?_
        refine jv_iast (ws2 := bMd E a (book, (upd nw k (book k)), week, sights, sight, signs, pad, metAt, metWho, reason, acts, atp, will, fitting, counts, ring, nxt, wins, ways, nextWays, image, isKept)) (f := nw) 19 X dX10_asNow_19 2 rfl (by decide) k rfl (by omega) rfl ?_
        refine jv_iinc (v := (nI (k + 1))) (lv2 := [(1, .int (nI (k + 1))), (0, .ref (a 0))]) 20 X dX10_asNow_20 1 rfl (nx_inc _) (by decide) rfl ?_
        refine jv_goto 23 X dX10_asNow_23 2 (by decide) ?_
        exact jv_lv [1, 0] rfl (ih2 (k + 1) (upd nw k (book k)) (by omega) (fun j hj => by rcases Nat.lt_succ_iff_lt_or_eq.mp hj with h | h; rw [pk_un (by omega)]; exact hI j h; rw [h]; exact pk_us) (by omega))
  exact jv_lv [1, 0] rfl (lp2 _ 0 now (by omega) (fun j hj => absurd hj (Nat.not_lt_zero j)) (Nat.lt_succ_self _))
theorem c_X10_measureOf (E : EE) (l : Launch) (a : Nat → Nat) (book : Nat → Int32) (now : Nat → Int32) (week : Nat → Int32) (sights : Int32) (sight : Nat → Int32) (signs : Int32) (pad : Nat → Int32) (metAt : Int32) (metWho : Int32) (reason : Int32) (acts : Int32) (atp : Int32) (will : Nat → Int32) (fitting : Nat → Int32) (counts : Nat → Int32) (ring : Nat → Int32) (nxt : Nat → Int32) (wins : Nat → Int32) (ways : Nat → Int64) (nextWays : Nat → Int64) (image : Nat → Int32) (isKept : Nat → Int32) (k : Nat) (hk : k < 6) : CT E l yX10_measureOf cX10_measureOf 2 (some .int) { frames := 0, cells := 0, slots := 0, locals := 0 } [.ref (a 0), .int (nI k)] (bMd E a (book, now, week, sights, sight, signs, pad, metAt, metWho, reason, acts, atp, will, fitting, counts, ring, nxt, wins, ways, nextWays, image, isKept)) (some (.int (msM now k))) (bMd E a (book, now, week, sights, sight, signs, pad, metAt, metWho, reason, acts, atp, will, fitting, counts, ring, nxt, wins, ways, nextWays, image, isKept)) := by
  refine CT.intro (by decide) (Nat.le_of_ble_eq_true rfl) (fun K X Y => ?_)
  refine jv_aload_n 0 X dX10_measureOf_0 0 rfl ?_
  refine jv_get (v := .ref (a 2)) 1 X gf_X10_13 dX10_measureOf_1 0 rfl rfl ?_
  refine jv_bipush (v := 12) 4 X dX10_measureOf_4 (by decide) ?_
  refine jv_iload_n 6 X dX10_measureOf_6 1 rfl ?_
  refine jv_iadd 7 X dX10_measureOf_7 ?_
  refine jv_norm (x2 := nI (12 + k)) (nx_add rfl rfl) ?_
  refine jv_iald (f := now) 8 X dX10_measureOf_8 2 rfl (by decide) (12 + k) rfl (by omega) ?_
  refine jn_if_ne 9 X dX10_measureOf_9 22 (by decide) (fun c_1 => ?_) (fun c_1 => ?_)
  · refine jv_aload_n 22 X dX10_measureOf_22 0 rfl ?_
    refine jv_get (v := .ref (a 2)) 23 X gf_X10_13 dX10_measureOf_23 0 rfl rfl ?_
    refine jv_bipush (v := 12) 26 X dX10_measureOf_26 (by decide) ?_
    refine jv_iload_n 28 X dX10_measureOf_28 1 rfl ?_
    refine jv_iadd 29 X dX10_measureOf_29 ?_
    refine jv_norm (x2 := nI (12 + k)) (nx_add rfl rfl) ?_
    refine jv_iald (f := now) 30 X dX10_measureOf_30 2 rfl (by decide) (12 + k) rfl (by omega) ?_
    exact jv_iret 31 X Y rfl dX10_measureOf_31 () (by simp [msM, lt_nle, -Int32.not_le, c_1]) rfl
  · refine jv_aload_n 12 X dX10_measureOf_12 0 rfl ?_
    refine jv_get (v := .ref (a 2)) 13 X gf_X10_13 dX10_measureOf_13 0 rfl rfl ?_
    refine jv_bipush (v := 38) 16 X dX10_measureOf_16 (by decide) ?_
    refine jv_iald (f := now) 18 X dX10_measureOf_18 2 rfl (by decide) 38 rfl (by omega) ?_
    refine jv_goto 19 X dX10_measureOf_19 31 (by decide) ?_
    exact jv_iret 31 X Y rfl dX10_measureOf_31 () (by simp [msM, lt_nle, -Int32.not_le, c_1]) rfl
theorem c_X10_hasMet (E : EE) (l : Launch) (a : Nat → Nat) (book : Nat → Int32) (now : Nat → Int32) (week : Nat → Int32) (sights : Int32) (sight : Nat → Int32) (signs : Int32) (pad : Nat → Int32) (metAt : Int32) (metWho : Int32) (reason : Int32) (acts : Int32) (atp : Int32) (will : Nat → Int32) (fitting : Nat → Int32) (counts : Nat → Int32) (ring : Nat → Int32) (nxt : Nat → Int32) (wins : Nat → Int32) (ways : Nat → Int64) (nextWays : Nat → Int64) (image : Nat → Int32) (isKept : Nat → Int32) (b : Nat) (hb : b < 4) : CT E l yX10_hasMet cX10_hasMet 2 (some .boolean) { frames := 0, cells := 0, slots := 0, locals := 0 } [.ref (a 0), .int (nI b)] (bMd E a (book, now, week, sights, sight, signs, pad, metAt, metWho, reason, acts, atp, will, fitting, counts, ring, nxt, wins, ways, nextWays, image, isKept)) (some (.int (zI (now (34 + b) ≤ now (26 + b) + now (30 + b))))) (bMd E a (book, now, week, sights, sight, signs, pad, metAt, metWho, reason, acts, atp, will, fitting, counts, ring, nxt, wins, ways, nextWays, image, isKept)) := by
  refine CT.intro (by decide) (Nat.le_of_ble_eq_true rfl) (fun K X Y => ?_)
  refine jv_aload_n 0 X dX10_hasMet_0 0 rfl ?_
  refine jv_get (v := .ref (a 2)) 1 X gf_X10_13 dX10_hasMet_1 0 rfl rfl ?_
  refine jv_bipush (v := 26) 4 X dX10_hasMet_4 (by decide) ?_
  refine jv_iload_n 6 X dX10_hasMet_6 1 rfl ?_
  refine jv_iadd 7 X dX10_hasMet_7 ?_
  refine jv_norm (x2 := nI (26 + b)) (nx_add rfl rfl) ?_
  refine jv_iald (f := now) 8 X dX10_hasMet_8 2 rfl (by decide) (26 + b) rfl (by omega) ?_
  refine jv_aload_n 9 X dX10_hasMet_9 0 rfl ?_
  refine jv_get (v := .ref (a 2)) 10 X gf_X10_13 dX10_hasMet_10 0 rfl rfl ?_
  refine jv_bipush (v := 30) 13 X dX10_hasMet_13 (by decide) ?_
  refine jv_iload_n 15 X dX10_hasMet_15 1 rfl ?_
  refine jv_iadd 16 X dX10_hasMet_16 ?_
  refine jv_norm (x2 := nI (30 + b)) (nx_add rfl rfl) ?_
  refine jv_iald (f := now) 17 X dX10_hasMet_17 2 rfl (by decide) (30 + b) rfl (by omega) ?_
  refine jv_iadd 18 X dX10_hasMet_18 ?_
  refine jv_aload_n 19 X dX10_hasMet_19 0 rfl ?_
  refine jv_get (v := .ref (a 2)) 20 X gf_X10_13 dX10_hasMet_20 0 rfl rfl ?_
  refine jv_bipush (v := 34) 23 X dX10_hasMet_23 (by decide) ?_
  refine jv_iload_n 25 X dX10_hasMet_25 1 rfl ?_
  refine jv_iadd 26 X dX10_hasMet_26 ?_
  refine jv_norm (x2 := nI (34 + b)) (nx_add rfl rfl) ?_
  refine jv_iald (f := now) 27 X dX10_hasMet_27 2 rfl (by decide) (34 + b) rfl (by omega) ?_
  refine jn_icmp_lt 28 X dX10_hasMet_28 35 (by decide) (fun c_1 => ?_) (fun c_1 => ?_)
  · refine jv_iconst (v := 0) 35 X dX10_hasMet_35 rfl ?_
    exact jv_zret 36 X Y rfl rfl dX10_hasMet_36 () (by simp [zI, lt_nle, -Int32.not_le, c_1]) rfl
  · refine jv_iconst (v := 1) 31 X dX10_hasMet_31 rfl ?_
    refine jv_goto 32 X dX10_hasMet_32 36 (by decide) ?_
    exact jv_zret 36 X Y rfl rfl dX10_hasMet_36 () (by simp [zI, lt_nle, -Int32.not_le, c_1]) rfl
theorem c_X10_numberAt (E : EE) (l : Launch) (a : Nat → Nat) (book : Nat → Int32) (now : Nat → Int32) (week : Nat → Int32) (sights : Int32) (sight : Nat → Int32) (signs : Int32) (pad : Nat → Int32) (metAt : Int32) (metWho : Int32) (reason : Int32) (acts : Int32) (atp : Int32) (will : Nat → Int32) (fitting : Nat → Int32) (counts : Nat → Int32) (ring : Nat → Int32) (nxt : Nat → Int32) (wins : Nat → Int32) (ways : Nat → Int64) (nextWays : Nat → Int64) (image : Nat → Int32) (isKept : Nat → Int32) (k : Nat) (hk : k < 60) : CT E l yX10_numberAt cX10_numberAt 2 (some .int) { frames := 0, cells := 0, slots := 0, locals := 0 } [.ref (a 0), .int (nI k)] (bMd E a (book, now, week, sights, sight, signs, pad, metAt, metWho, reason, acts, atp, will, fitting, counts, ring, nxt, wins, ways, nextWays, image, isKept)) (some (.int (pad k - 48))) (bMd E a (book, now, week, sights, sight, signs, pad, metAt, metWho, reason, acts, atp, will, fitting, counts, ring, nxt, wins, ways, nextWays, image, isKept)) := by
  refine CT.intro (by decide) (Nat.le_of_ble_eq_true rfl) (fun K X Y => ?_)
  refine jv_aload_n 0 X dX10_numberAt_0 0 rfl ?_
  refine jv_get (v := .ref (a 5)) 1 X gf_X10_22 dX10_numberAt_1 0 rfl rfl ?_
  refine jv_iload_n 4 X dX10_numberAt_4 1 rfl ?_
  refine jv_iald (f := pad) 5 X dX10_numberAt_5 5 rfl (by decide) k rfl (by omega) ?_
  refine jv_bipush (v := 48) 6 X dX10_numberAt_6 (by decide) ?_
  refine jv_isub 8 X dX10_numberAt_8 ?_
  exact jv_iret 9 X Y rfl dX10_numberAt_9 () rfl rfl
end
