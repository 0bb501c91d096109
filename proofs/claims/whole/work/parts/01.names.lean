-- ===== PART A: goes FIRST, ahead of the names: the tables' words, and 'selects' of the private methods out of them =====
/-- a private method of a class that the tables say can be made, by its rows of tables_1 -/
def lw_okq (q : MethodName × Nat) : Prop := (q.1.cls ≠ "java/lang/invoke/MethodHandle" ∧ q.1.cls ≠ "java/lang/invoke/VarHandle") ∧ Cond.instantiable q.1.cls q.2 ∈ tables_1 ∧ Cond.privateMethod q.1 ∈ tables_1 ∧ Cond.instanceMethod q.1 ∈ tables_1
theorem lw_p0 : lw_okq (⟨"NinetyNights$Tape", "put", "(I)V"⟩, 2) := ⟨⟨by decide +kernel, by decide +kernel⟩, List.mem_of_getElem? (i := 32) (by decide +kernel), List.mem_of_getElem? (i := 464) (by decide +kernel), List.mem_of_getElem? (i := 465) (by decide +kernel)⟩
theorem lw_p1 : lw_okq (⟨"NinetyNights$Reader", "begin", "(LNinetyNights$Island;LNinetyNights$Code;I)V"⟩, 9) := ⟨⟨by decide +kernel, by decide +kernel⟩, List.mem_of_getElem? (i := 136) (by decide +kernel), List.mem_of_getElem? (i := 484) (by decide +kernel), List.mem_of_getElem? (i := 485) (by decide +kernel)⟩
theorem lw_p2 : lw_okq (⟨"NinetyNights$Tokens", "skipBlanks", "()V"⟩, 7) := ⟨⟨by decide +kernel, by decide +kernel⟩, List.mem_of_getElem? (i := 142) (by decide +kernel), List.mem_of_getElem? (i := 492) (by decide +kernel), List.mem_of_getElem? (i := 493) (by decide +kernel)⟩
theorem lw_p3 : lw_okq (⟨"NinetyNights$Tokens", "take", "()I"⟩, 7) := ⟨⟨by decide +kernel, by decide +kernel⟩, List.mem_of_getElem? (i := 142) (by decide +kernel), List.mem_of_getElem? (i := 500) (by decide +kernel), List.mem_of_getElem? (i := 501) (by decide +kernel)⟩
theorem lw_p4 : lw_okq (⟨"NinetyNights$Tokens", "takeWord", "()I"⟩, 7) := ⟨⟨by decide +kernel, by decide +kernel⟩, List.mem_of_getElem? (i := 142) (by decide +kernel), List.mem_of_getElem? (i := 507) (by decide +kernel), List.mem_of_getElem? (i := 508) (by decide +kernel)⟩
theorem lw_p5 : lw_okq (⟨"NinetyNights$Tokens", "takeNumber", "()I"⟩, 7) := ⟨⟨by decide +kernel, by decide +kernel⟩, List.mem_of_getElem? (i := 142) (by decide +kernel), List.mem_of_getElem? (i := 514) (by decide +kernel), List.mem_of_getElem? (i := 515) (by decide +kernel)⟩
theorem lw_p6 : lw_okq (⟨"NinetyNights$Reader", "readPerson", "()V"⟩, 9) := ⟨⟨by decide +kernel, by decide +kernel⟩, List.mem_of_getElem? (i := 136) (by decide +kernel), List.mem_of_getElem? (i := 582) (by decide +kernel), List.mem_of_getElem? (i := 583) (by decide +kernel)⟩
theorem lw_p7 : lw_okq (⟨"NinetyNights$Reader", "fail", "(I)V"⟩, 9) := ⟨⟨by decide +kernel, by decide +kernel⟩, List.mem_of_getElem? (i := 136) (by decide +kernel), List.mem_of_getElem? (i := 590) (by decide +kernel), List.mem_of_getElem? (i := 591) (by decide +kernel)⟩
theorem lw_p8 : lw_okq (⟨"NinetyNights$Reader", "advance", "()V"⟩, 9) := ⟨⟨by decide +kernel, by decide +kernel⟩, List.mem_of_getElem? (i := 136) (by decide +kernel), List.mem_of_getElem? (i := 598) (by decide +kernel), List.mem_of_getElem? (i := 599) (by decide +kernel)⟩
theorem lw_p9 : lw_okq (⟨"NinetyNights$Reader", "accept", "(I)Z"⟩, 9) := ⟨⟨by decide +kernel, by decide +kernel⟩, List.mem_of_getElem? (i := 136) (by decide +kernel), List.mem_of_getElem? (i := 614) (by decide +kernel), List.mem_of_getElem? (i := 615) (by decide +kernel)⟩
theorem lw_p10 : lw_okq (⟨"NinetyNights$Reader", "readBlind", "()V"⟩, 9) := ⟨⟨by decide +kernel, by decide +kernel⟩, List.mem_of_getElem? (i := 136) (by decide +kernel), List.mem_of_getElem? (i := 626) (by decide +kernel), List.mem_of_getElem? (i := 627) (by decide +kernel)⟩
theorem lw_p11 : lw_okq (⟨"NinetyNights$Reader", "readName", "()I"⟩, 9) := ⟨⟨by decide +kernel, by decide +kernel⟩, List.mem_of_getElem? (i := 136) (by decide +kernel), List.mem_of_getElem? (i := 630) (by decide +kernel), List.mem_of_getElem? (i := 631) (by decide +kernel)⟩
theorem lw_p12 : lw_okq (⟨"NinetyNights$Reader", "readLaw", "()V"⟩, 9) := ⟨⟨by decide +kernel, by decide +kernel⟩, List.mem_of_getElem? (i := 136) (by decide +kernel), List.mem_of_getElem? (i := 642) (by decide +kernel), List.mem_of_getElem? (i := 643) (by decide +kernel)⟩
theorem lw_p13 : lw_okq (⟨"NinetyNights$Reader", "expect", "(I)V"⟩, 9) := ⟨⟨by decide +kernel, by decide +kernel⟩, List.mem_of_getElem? (i := 136) (by decide +kernel), List.mem_of_getElem? (i := 646) (by decide +kernel), List.mem_of_getElem? (i := 647) (by decide +kernel)⟩
theorem lw_p14 : lw_okq (⟨"NinetyNights$Reader", "readSaying", "()V"⟩, 9) := ⟨⟨by decide +kernel, by decide +kernel⟩, List.mem_of_getElem? (i := 136) (by decide +kernel), List.mem_of_getElem? (i := 650) (by decide +kernel), List.mem_of_getElem? (i := 651) (by decide +kernel)⟩
theorem lw_p15 : lw_okq (⟨"NinetyNights$Reader", "readPart", "(II)V"⟩, 9) := ⟨⟨by decide +kernel, by decide +kernel⟩, List.mem_of_getElem? (i := 136) (by decide +kernel), List.mem_of_getElem? (i := 654) (by decide +kernel), List.mem_of_getElem? (i := 655) (by decide +kernel)⟩
def lw_privs_1 : List (MethodName × Nat) := [(⟨"NinetyNights$Tape", "put", "(I)V"⟩, 2), (⟨"NinetyNights$Reader", "begin", "(LNinetyNights$Island;LNinetyNights$Code;I)V"⟩, 9), (⟨"NinetyNights$Tokens", "skipBlanks", "()V"⟩, 7), (⟨"NinetyNights$Tokens", "take", "()I"⟩, 7), (⟨"NinetyNights$Tokens", "takeWord", "()I"⟩, 7), (⟨"NinetyNights$Tokens", "takeNumber", "()I"⟩, 7), (⟨"NinetyNights$Reader", "readPerson", "()V"⟩, 9), (⟨"NinetyNights$Reader", "fail", "(I)V"⟩, 9), (⟨"NinetyNights$Reader", "advance", "()V"⟩, 9), (⟨"NinetyNights$Reader", "accept", "(I)Z"⟩, 9), (⟨"NinetyNights$Reader", "readBlind", "()V"⟩, 9), (⟨"NinetyNights$Reader", "readName", "()I"⟩, 9), (⟨"NinetyNights$Reader", "readLaw", "()V"⟩, 9), (⟨"NinetyNights$Reader", "expect", "(I)V"⟩, 9), (⟨"NinetyNights$Reader", "readSaying", "()V"⟩, 9), (⟨"NinetyNights$Reader", "readPart", "(II)V"⟩, 9)]
theorem lw_r1 : ∀ q ∈ lw_privs_1, lw_okq q := List.forall_mem_cons.mpr ⟨lw_p0, List.forall_mem_cons.mpr ⟨lw_p1, List.forall_mem_cons.mpr ⟨lw_p2, List.forall_mem_cons.mpr ⟨lw_p3, List.forall_mem_cons.mpr ⟨lw_p4, List.forall_mem_cons.mpr ⟨lw_p5, List.forall_mem_cons.mpr ⟨lw_p6, List.forall_mem_cons.mpr ⟨lw_p7, List.forall_mem_cons.mpr ⟨lw_p8, List.forall_mem_cons.mpr ⟨lw_p9, List.forall_mem_cons.mpr ⟨lw_p10, List.forall_mem_cons.mpr ⟨lw_p11, List.forall_mem_cons.mpr ⟨lw_p12, List.forall_mem_cons.mpr ⟨lw_p13, List.forall_mem_cons.mpr ⟨lw_p14, List.forall_mem_cons.mpr ⟨lw_p15, fun _ h => absurd h List.not_mem_nil⟩⟩⟩⟩⟩⟩⟩⟩⟩⟩⟩⟩⟩⟩⟩⟩
theorem lw_p16 : lw_okq (⟨"NinetyNights$Reader", "readUnit", "(I)V"⟩, 9) := ⟨⟨by decide +kernel, by decide +kernel⟩, List.mem_of_getElem? (i := 136) (by decide +kernel), List.mem_of_getElem? (i := 662) (by decide +kernel), List.mem_of_getElem? (i := 663) (by decide +kernel)⟩
theorem lw_p17 : lw_okq (⟨"NinetyNights$Mind", "markOwn", "(LNinetyNights$Scene;I[I)V"⟩, 6) := ⟨⟨by decide +kernel, by decide +kernel⟩, List.mem_of_getElem? (i := 249) (by decide +kernel), List.mem_of_getElem? (i := 731) (by decide +kernel), List.mem_of_getElem? (i := 732) (by decide +kernel)⟩
theorem lw_p18 : lw_okq (⟨"NinetyNights", "weighTape", "()Z"⟩, 13) := ⟨⟨by decide +kernel, by decide +kernel⟩, List.mem_of_getElem? (i := 24) (by decide +kernel), List.mem_of_getElem? (i := 739) (by decide +kernel), List.mem_of_getElem? (i := 740) (by decide +kernel)⟩
theorem lw_p19 : lw_okq (⟨"NinetyNights$Mind", "pushLeaf", "(LNinetyNights$Scene;II)V"⟩, 6) := ⟨⟨by decide +kernel, by decide +kernel⟩, List.mem_of_getElem? (i := 249) (by decide +kernel), List.mem_of_getElem? (i := 760) (by decide +kernel), List.mem_of_getElem? (i := 761) (by decide +kernel)⟩
theorem lw_p20 : lw_okq (⟨"NinetyNights$Mind", "joinTop", "(LNinetyNights$Scene;I)V"⟩, 6) := ⟨⟨by decide +kernel, by decide +kernel⟩, List.mem_of_getElem? (i := 249) (by decide +kernel), List.mem_of_getElem? (i := 774) (by decide +kernel), List.mem_of_getElem? (i := 775) (by decide +kernel)⟩
theorem lw_p21 : lw_okq (⟨"NinetyNights$Mind", "knowsOne", "(LNinetyNights$Scene;I[I)V"⟩, 6) := ⟨⟨by decide +kernel, by decide +kernel⟩, List.mem_of_getElem? (i := 249) (by decide +kernel), List.mem_of_getElem? (i := 784) (by decide +kernel), List.mem_of_getElem? (i := 785) (by decide +kernel)⟩
theorem lw_p22 : lw_okq (⟨"NinetyNights$Mind", "markKnown", "(LNinetyNights$Scene;[I[I)V"⟩, 6) := ⟨⟨by decide +kernel, by decide +kernel⟩, List.mem_of_getElem? (i := 249) (by decide +kernel), List.mem_of_getElem? (i := 788) (by decide +kernel), List.mem_of_getElem? (i := 789) (by decide +kernel)⟩
theorem lw_p23 : lw_okq (⟨"NinetyNights$Mind", "knowAll", "(LNinetyNights$Scene;[I)V"⟩, 6) := ⟨⟨by decide +kernel, by decide +kernel⟩, List.mem_of_getElem? (i := 249) (by decide +kernel), List.mem_of_getElem? (i := 792) (by decide +kernel), List.mem_of_getElem? (i := 793) (by decide +kernel)⟩
theorem lw_p24 : lw_okq (⟨"NinetyNights$Mind", "knowInCommon", "(LNinetyNights$Scene;[I)V"⟩, 6) := ⟨⟨by decide +kernel, by decide +kernel⟩, List.mem_of_getElem? (i := 249) (by decide +kernel), List.mem_of_getElem? (i := 802) (by decide +kernel), List.mem_of_getElem? (i := 803) (by decide +kernel)⟩
theorem lw_p25 : lw_okq (⟨"NinetyNights$Mind", "linkGroups", "(LNinetyNights$Scene;)V"⟩, 6) := ⟨⟨by decide +kernel, by decide +kernel⟩, List.mem_of_getElem? (i := 249) (by decide +kernel), List.mem_of_getElem? (i := 806) (by decide +kernel), List.mem_of_getElem? (i := 807) (by decide +kernel)⟩
theorem lw_p26 : lw_okq (⟨"NinetyNights$Mind", "rootOf", "(I)I"⟩, 6) := ⟨⟨by decide +kernel, by decide +kernel⟩, List.mem_of_getElem? (i := 249) (by decide +kernel), List.mem_of_getElem? (i := 810) (by decide +kernel), List.mem_of_getElem? (i := 811) (by decide +kernel)⟩
theorem lw_p27 : lw_okq (⟨"NinetyNights", "trySayings", "()J"⟩, 13) := ⟨⟨by decide +kernel, by decide +kernel⟩, List.mem_of_getElem? (i := 24) (by decide +kernel), List.mem_of_getElem? (i := 904) (by decide +kernel), List.mem_of_getElem? (i := 905) (by decide +kernel)⟩
theorem lw_p28 : lw_okq (⟨"NinetyNights", "takeLeft", "(I)V"⟩, 13) := ⟨⟨by decide +kernel, by decide +kernel⟩, List.mem_of_getElem? (i := 24) (by decide +kernel), List.mem_of_getElem? (i := 915) (by decide +kernel), List.mem_of_getElem? (i := 916) (by decide +kernel)⟩
theorem lw_p29 : lw_okq (⟨"NinetyNights", "goJust", "(III)Z"⟩, 13) := ⟨⟨by decide +kernel, by decide +kernel⟩, List.mem_of_getElem? (i := 24) (by decide +kernel), List.mem_of_getElem? (i := 924) (by decide +kernel), List.mem_of_getElem? (i := 925) (by decide +kernel)⟩
theorem lw_p30 : lw_okq (⟨"NinetyNights", "countFits", "(I)I"⟩, 13) := ⟨⟨by decide +kernel, by decide +kernel⟩, List.mem_of_getElem? (i := 24) (by decide +kernel), List.mem_of_getElem? (i := 957) (by decide +kernel), List.mem_of_getElem? (i := 958) (by decide +kernel)⟩
theorem lw_p31 : lw_okq (⟨"NinetyNights$Guesses", "sendOne", "(I[I[II)V"⟩, 7) := ⟨⟨by decide +kernel, by decide +kernel⟩, List.mem_of_getElem? (i := 367) (by decide +kernel), List.mem_of_getElem? (i := 971) (by decide +kernel), List.mem_of_getElem? (i := 972) (by decide +kernel)⟩
def lw_privs_2 : List (MethodName × Nat) := [(⟨"NinetyNights$Reader", "readUnit", "(I)V"⟩, 9), (⟨"NinetyNights$Mind", "markOwn", "(LNinetyNights$Scene;I[I)V"⟩, 6), (⟨"NinetyNights", "weighTape", "()Z"⟩, 13), (⟨"NinetyNights$Mind", "pushLeaf", "(LNinetyNights$Scene;II)V"⟩, 6), (⟨"NinetyNights$Mind", "joinTop", "(LNinetyNights$Scene;I)V"⟩, 6), (⟨"NinetyNights$Mind", "knowsOne", "(LNinetyNights$Scene;I[I)V"⟩, 6), (⟨"NinetyNights$Mind", "markKnown", "(LNinetyNights$Scene;[I[I)V"⟩, 6), (⟨"NinetyNights$Mind", "knowAll", "(LNinetyNights$Scene;[I)V"⟩, 6), (⟨"NinetyNights$Mind", "knowInCommon", "(LNinetyNights$Scene;[I)V"⟩, 6), (⟨"NinetyNights$Mind", "linkGroups", "(LNinetyNights$Scene;)V"⟩, 6), (⟨"NinetyNights$Mind", "rootOf", "(I)I"⟩, 6), (⟨"NinetyNights", "trySayings", "()J"⟩, 13), (⟨"NinetyNights", "takeLeft", "(I)V"⟩, 13), (⟨"NinetyNights", "goJust", "(III)Z"⟩, 13), (⟨"NinetyNights", "countFits", "(I)I"⟩, 13), (⟨"NinetyNights$Guesses", "sendOne", "(I[I[II)V"⟩, 7)]
theorem lw_r2 : ∀ q ∈ lw_privs_2, lw_okq q := List.forall_mem_cons.mpr ⟨lw_p16, List.forall_mem_cons.mpr ⟨lw_p17, List.forall_mem_cons.mpr ⟨lw_p18, List.forall_mem_cons.mpr ⟨lw_p19, List.forall_mem_cons.mpr ⟨lw_p20, List.forall_mem_cons.mpr ⟨lw_p21, List.forall_mem_cons.mpr ⟨lw_p22, List.forall_mem_cons.mpr ⟨lw_p23, List.forall_mem_cons.mpr ⟨lw_p24, List.forall_mem_cons.mpr ⟨lw_p25, List.forall_mem_cons.mpr ⟨lw_p26, List.forall_mem_cons.mpr ⟨lw_p27, List.forall_mem_cons.mpr ⟨lw_p28, List.forall_mem_cons.mpr ⟨lw_p29, List.forall_mem_cons.mpr ⟨lw_p30, List.forall_mem_cons.mpr ⟨lw_p31, fun _ h => absurd h List.not_mem_nil⟩⟩⟩⟩⟩⟩⟩⟩⟩⟩⟩⟩⟩⟩⟩⟩
theorem lw_p32 : lw_okq (⟨"NinetyNights$Sights", "counts", "(II)Z"⟩, 7) := ⟨⟨by decide +kernel, by decide +kernel⟩, List.mem_of_getElem? (i := 336) (by decide +kernel), List.mem_of_getElem? (i := 988) (by decide +kernel), List.mem_of_getElem? (i := 989) (by decide +kernel)⟩
theorem lw_p33 : lw_okq (⟨"NinetyNightsModel", "clearBank", "()V"⟩, 68) := ⟨⟨by decide +kernel, by decide +kernel⟩, List.mem_of_getElem? (i := 1018) (by decide +kernel), List.mem_of_getElem? (i := 1024) (by decide +kernel), List.mem_of_getElem? (i := 1025) (by decide +kernel)⟩
theorem lw_p34 : lw_okq (⟨"NinetyNightsModel", "begin", "()V"⟩, 68) := ⟨⟨by decide +kernel, by decide +kernel⟩, List.mem_of_getElem? (i := 1018) (by decide +kernel), List.mem_of_getElem? (i := 1028) (by decide +kernel), List.mem_of_getElem? (i := 1029) (by decide +kernel)⟩
theorem lw_p35 : lw_okq (⟨"NinetyNightsModel", "worldMany", "()I"⟩, 68) := ⟨⟨by decide +kernel, by decide +kernel⟩, List.mem_of_getElem? (i := 1018) (by decide +kernel), List.mem_of_getElem? (i := 1032) (by decide +kernel), List.mem_of_getElem? (i := 1033) (by decide +kernel)⟩
theorem lw_p36 : lw_okq (⟨"NinetyNightsModel", "manyOf", "()I"⟩, 68) := ⟨⟨by decide +kernel, by decide +kernel⟩, List.mem_of_getElem? (i := 1018) (by decide +kernel), List.mem_of_getElem? (i := 1036) (by decide +kernel), List.mem_of_getElem? (i := 1037) (by decide +kernel)⟩
theorem lw_p37 : lw_okq (⟨"NinetyNightsModel", "beginText", "()V"⟩, 68) := ⟨⟨by decide +kernel, by decide +kernel⟩, List.mem_of_getElem? (i := 1018) (by decide +kernel), List.mem_of_getElem? (i := 1249) (by decide +kernel), List.mem_of_getElem? (i := 1250) (by decide +kernel)⟩
theorem lw_p38 : lw_okq (⟨"NinetyNightsModel", "goOn", "()V"⟩, 68) := ⟨⟨by decide +kernel, by decide +kernel⟩, List.mem_of_getElem? (i := 1018) (by decide +kernel), List.mem_of_getElem? (i := 1253) (by decide +kernel), List.mem_of_getElem? (i := 1254) (by decide +kernel)⟩
theorem lw_p39 : lw_okq (⟨"NinetyNightsModel", "sign", "(I)I"⟩, 68) := ⟨⟨by decide +kernel, by decide +kernel⟩, List.mem_of_getElem? (i := 1018) (by decide +kernel), List.mem_of_getElem? (i := 1257) (by decide +kernel), List.mem_of_getElem? (i := 1258) (by decide +kernel)⟩
theorem lw_p40 : lw_okq (⟨"NinetyNightsModel", "isGood", "()Z"⟩, 68) := ⟨⟨by decide +kernel, by decide +kernel⟩, List.mem_of_getElem? (i := 1018) (by decide +kernel), List.mem_of_getElem? (i := 1290) (by decide +kernel), List.mem_of_getElem? (i := 1291) (by decide +kernel)⟩
theorem lw_p41 : lw_okq (⟨"NinetyNightsModel", "readLine", "()V"⟩, 68) := ⟨⟨by decide +kernel, by decide +kernel⟩, List.mem_of_getElem? (i := 1018) (by decide +kernel), List.mem_of_getElem? (i := 1294) (by decide +kernel), List.mem_of_getElem? (i := 1295) (by decide +kernel)⟩
theorem lw_p42 : lw_okq (⟨"NinetyNightsModel", "isFull", "()Z"⟩, 68) := ⟨⟨by decide +kernel, by decide +kernel⟩, List.mem_of_getElem? (i := 1018) (by decide +kernel), List.mem_of_getElem? (i := 1298) (by decide +kernel), List.mem_of_getElem? (i := 1299) (by decide +kernel)⟩
theorem lw_p43 : lw_okq (⟨"NinetyNightsModel", "isWord", "(J)Z"⟩, 68) := ⟨⟨by decide +kernel, by decide +kernel⟩, List.mem_of_getElem? (i := 1018) (by decide +kernel), List.mem_of_getElem? (i := 1302) (by decide +kernel), List.mem_of_getElem? (i := 1303) (by decide +kernel)⟩
theorem lw_p44 : lw_okq (⟨"NinetyNightsModel", "isBehind", "()Z"⟩, 68) := ⟨⟨by decide +kernel, by decide +kernel⟩, List.mem_of_getElem? (i := 1018) (by decide +kernel), List.mem_of_getElem? (i := 1306) (by decide +kernel), List.mem_of_getElem? (i := 1307) (by decide +kernel)⟩
theorem lw_p45 : lw_okq (⟨"NinetyNightsModel", "misplaced", "()V"⟩, 68) := ⟨⟨by decide +kernel, by decide +kernel⟩, List.mem_of_getElem? (i := 1018) (by decide +kernel), List.mem_of_getElem? (i := 1310) (by decide +kernel), List.mem_of_getElem? (i := 1311) (by decide +kernel)⟩
theorem lw_p46 : lw_okq (⟨"NinetyNightsModel", "fails", "(II)V"⟩, 68) := ⟨⟨by decide +kernel, by decide +kernel⟩, List.mem_of_getElem? (i := 1018) (by decide +kernel), List.mem_of_getElem? (i := 1314) (by decide +kernel), List.mem_of_getElem? (i := 1315) (by decide +kernel)⟩
theorem lw_p47 : lw_okq (⟨"NinetyNightsModel", "readOne", "()V"⟩, 68) := ⟨⟨by decide +kernel, by decide +kernel⟩, List.mem_of_getElem? (i := 1018) (by decide +kernel), List.mem_of_getElem? (i := 1318) (by decide +kernel), List.mem_of_getElem? (i := 1319) (by decide +kernel)⟩
def lw_privs_3 : List (MethodName × Nat) := [(⟨"NinetyNights$Sights", "counts", "(II)Z"⟩, 7), (⟨"NinetyNightsModel", "clearBank", "()V"⟩, 68), (⟨"NinetyNightsModel", "begin", "()V"⟩, 68), (⟨"NinetyNightsModel", "worldMany", "()I"⟩, 68), (⟨"NinetyNightsModel", "manyOf", "()I"⟩, 68), (⟨"NinetyNightsModel", "beginText", "()V"⟩, 68), (⟨"NinetyNightsModel", "goOn", "()V"⟩, 68), (⟨"NinetyNightsModel", "sign", "(I)I"⟩, 68), (⟨"NinetyNightsModel", "isGood", "()Z"⟩, 68), (⟨"NinetyNightsModel", "readLine", "()V"⟩, 68), (⟨"NinetyNightsModel", "isFull", "()Z"⟩, 68), (⟨"NinetyNightsModel", "isWord", "(J)Z"⟩, 68), (⟨"NinetyNightsModel", "isBehind", "()Z"⟩, 68), (⟨"NinetyNightsModel", "misplaced", "()V"⟩, 68), (⟨"NinetyNightsModel", "fails", "(II)V"⟩, 68), (⟨"NinetyNightsModel", "readOne", "()V"⟩, 68)]
theorem lw_r3 : ∀ q ∈ lw_privs_3, lw_okq q := List.forall_mem_cons.mpr ⟨lw_p32, List.forall_mem_cons.mpr ⟨lw_p33, List.forall_mem_cons.mpr ⟨lw_p34, List.forall_mem_cons.mpr ⟨lw_p35, List.forall_mem_cons.mpr ⟨lw_p36, List.forall_mem_cons.mpr ⟨lw_p37, List.forall_mem_cons.mpr ⟨lw_p38, List.forall_mem_cons.mpr ⟨lw_p39, List.forall_mem_cons.mpr ⟨lw_p40, List.forall_mem_cons.mpr ⟨lw_p41, List.forall_mem_cons.mpr ⟨lw_p42, List.forall_mem_cons.mpr ⟨lw_p43, List.forall_mem_cons.mpr ⟨lw_p44, List.forall_mem_cons.mpr ⟨lw_p45, List.forall_mem_cons.mpr ⟨lw_p46, List.forall_mem_cons.mpr ⟨lw_p47, fun _ h => absurd h List.not_mem_nil⟩⟩⟩⟩⟩⟩⟩⟩⟩⟩⟩⟩⟩⟩⟩⟩
theorem lw_p48 : lw_okq (⟨"NinetyNightsModel", "here", "()I"⟩, 68) := ⟨⟨by decide +kernel, by decide +kernel⟩, List.mem_of_getElem? (i := 1018) (by decide +kernel), List.mem_of_getElem? (i := 1322) (by decide +kernel), List.mem_of_getElem? (i := 1323) (by decide +kernel)⟩
theorem lw_p49 : lw_okq (⟨"NinetyNightsModel", "flag", "(J)Z"⟩, 68) := ⟨⟨by decide +kernel, by decide +kernel⟩, List.mem_of_getElem? (i := 1018) (by decide +kernel), List.mem_of_getElem? (i := 1326) (by decide +kernel), List.mem_of_getElem? (i := 1327) (by decide +kernel)⟩
theorem lw_p50 : lw_okq (⟨"NinetyNightsModel", "readBlind", "()V"⟩, 68) := ⟨⟨by decide +kernel, by decide +kernel⟩, List.mem_of_getElem? (i := 1018) (by decide +kernel), List.mem_of_getElem? (i := 1330) (by decide +kernel), List.mem_of_getElem? (i := 1331) (by decide +kernel)⟩
theorem lw_p51 : lw_okq (⟨"NinetyNightsModel", "known", "(I)I"⟩, 68) := ⟨⟨by decide +kernel, by decide +kernel⟩, List.mem_of_getElem? (i := 1018) (by decide +kernel), List.mem_of_getElem? (i := 1334) (by decide +kernel), List.mem_of_getElem? (i := 1335) (by decide +kernel)⟩
theorem lw_p52 : lw_okq (⟨"NinetyNightsModel", "readLaw", "()V"⟩, 68) := ⟨⟨by decide +kernel, by decide +kernel⟩, List.mem_of_getElem? (i := 1018) (by decide +kernel), List.mem_of_getElem? (i := 1338) (by decide +kernel), List.mem_of_getElem? (i := 1339) (by decide +kernel)⟩
theorem lw_p53 : lw_okq (⟨"NinetyNightsModel", "must", "(Z)V"⟩, 68) := ⟨⟨by decide +kernel, by decide +kernel⟩, List.mem_of_getElem? (i := 1018) (by decide +kernel), List.mem_of_getElem? (i := 1342) (by decide +kernel), List.mem_of_getElem? (i := 1343) (by decide +kernel)⟩
theorem lw_p54 : lw_okq (⟨"NinetyNightsModel", "readSaying", "()V"⟩, 68) := ⟨⟨by decide +kernel, by decide +kernel⟩, List.mem_of_getElem? (i := 1018) (by decide +kernel), List.mem_of_getElem? (i := 1346) (by decide +kernel), List.mem_of_getElem? (i := 1347) (by decide +kernel)⟩
theorem lw_p55 : lw_okq (⟨"NinetyNightsModel", "f", "()V"⟩, 68) := ⟨⟨by decide +kernel, by decide +kernel⟩, List.mem_of_getElem? (i := 1018) (by decide +kernel), List.mem_of_getElem? (i := 1350) (by decide +kernel), List.mem_of_getElem? (i := 1351) (by decide +kernel)⟩
theorem lw_p56 : lw_okq (⟨"NinetyNightsModel", "pushE", "(III)V"⟩, 68) := ⟨⟨by decide +kernel, by decide +kernel⟩, List.mem_of_getElem? (i := 1018) (by decide +kernel), List.mem_of_getElem? (i := 1354) (by decide +kernel), List.mem_of_getElem? (i := 1355) (by decide +kernel)⟩
theorem lw_p57 : lw_okq (⟨"NinetyNightsModel", "unit", "()Z"⟩, 68) := ⟨⟨by decide +kernel, by decide +kernel⟩, List.mem_of_getElem? (i := 1018) (by decide +kernel), List.mem_of_getElem? (i := 1358) (by decide +kernel), List.mem_of_getElem? (i := 1359) (by decide +kernel)⟩
theorem lw_p58 : lw_okq (⟨"NinetyNightsModel", "unitHere", "()I"⟩, 68) := ⟨⟨by decide +kernel, by decide +kernel⟩, List.mem_of_getElem? (i := 1018) (by decide +kernel), List.mem_of_getElem? (i := 1362) (by decide +kernel), List.mem_of_getElem? (i := 1363) (by decide +kernel)⟩
theorem lw_p59 : lw_okq (⟨"NinetyNightsModel", "stands", "(I)Z"⟩, 68) := ⟨⟨by decide +kernel, by decide +kernel⟩, List.mem_of_getElem? (i := 1018) (by decide +kernel), List.mem_of_getElem? (i := 1366) (by decide +kernel), List.mem_of_getElem? (i := 1367) (by decide +kernel)⟩
theorem lw_p60 : lw_okq (⟨"NinetyNightsModel", "emit", "(II)V"⟩, 68) := ⟨⟨by decide +kernel, by decide +kernel⟩, List.mem_of_getElem? (i := 1018) (by decide +kernel), List.mem_of_getElem? (i := 1370) (by decide +kernel), List.mem_of_getElem? (i := 1371) (by decide +kernel)⟩
theorem lw_p61 : lw_okq (⟨"NinetyNightsModel", "behindUnit", "()Z"⟩, 68) := ⟨⟨by decide +kernel, by decide +kernel⟩, List.mem_of_getElem? (i := 1018) (by decide +kernel), List.mem_of_getElem? (i := 1374) (by decide +kernel), List.mem_of_getElem? (i := 1375) (by decide +kernel)⟩
theorem lw_p62 : lw_okq (⟨"NinetyNightsModel", "rankHere", "()I"⟩, 68) := ⟨⟨by decide +kernel, by decide +kernel⟩, List.mem_of_getElem? (i := 1018) (by decide +kernel), List.mem_of_getElem? (i := 1378) (by decide +kernel), List.mem_of_getElem? (i := 1379) (by decide +kernel)⟩
theorem lw_p63 : lw_okq (⟨"NinetyNightsModel", "isCompared", "()Z"⟩, 68) := ⟨⟨by decide +kernel, by decide +kernel⟩, List.mem_of_getElem? (i := 1018) (by decide +kernel), List.mem_of_getElem? (i := 1382) (by decide +kernel), List.mem_of_getElem? (i := 1383) (by decide +kernel)⟩
def lw_privs_4 : List (MethodName × Nat) := [(⟨"NinetyNightsModel", "here", "()I"⟩, 68), (⟨"NinetyNightsModel", "flag", "(J)Z"⟩, 68), (⟨"NinetyNightsModel", "readBlind", "()V"⟩, 68), (⟨"NinetyNightsModel", "known", "(I)I"⟩, 68), (⟨"NinetyNightsModel", "readLaw", "()V"⟩, 68), (⟨"NinetyNightsModel", "must", "(Z)V"⟩, 68), (⟨"NinetyNightsModel", "readSaying", "()V"⟩, 68), (⟨"NinetyNightsModel", "f", "()V"⟩, 68), (⟨"NinetyNightsModel", "pushE", "(III)V"⟩, 68), (⟨"NinetyNightsModel", "unit", "()Z"⟩, 68), (⟨"NinetyNightsModel", "unitHere", "()I"⟩, 68), (⟨"NinetyNightsModel", "stands", "(I)Z"⟩, 68), (⟨"NinetyNightsModel", "emit", "(II)V"⟩, 68), (⟨"NinetyNightsModel", "behindUnit", "()Z"⟩, 68), (⟨"NinetyNightsModel", "rankHere", "()I"⟩, 68), (⟨"NinetyNightsModel", "isCompared", "()Z"⟩, 68)]
theorem lw_r4 : ∀ q ∈ lw_privs_4, lw_okq q := List.forall_mem_cons.mpr ⟨lw_p48, List.forall_mem_cons.mpr ⟨lw_p49, List.forall_mem_cons.mpr ⟨lw_p50, List.forall_mem_cons.mpr ⟨lw_p51, List.forall_mem_cons.mpr ⟨lw_p52, List.forall_mem_cons.mpr ⟨lw_p53, List.forall_mem_cons.mpr ⟨lw_p54, List.forall_mem_cons.mpr ⟨lw_p55, List.forall_mem_cons.mpr ⟨lw_p56, List.forall_mem_cons.mpr ⟨lw_p57, List.forall_mem_cons.mpr ⟨lw_p58, List.forall_mem_cons.mpr ⟨lw_p59, List.forall_mem_cons.mpr ⟨lw_p60, List.forall_mem_cons.mpr ⟨lw_p61, List.forall_mem_cons.mpr ⟨lw_p62, List.forall_mem_cons.mpr ⟨lw_p63, fun _ h => absurd h List.not_mem_nil⟩⟩⟩⟩⟩⟩⟩⟩⟩⟩⟩⟩⟩⟩⟩⟩
theorem lw_p64 : lw_okq (⟨"NinetyNightsModel", "isOne", "(I)Z"⟩, 68) := ⟨⟨by decide +kernel, by decide +kernel⟩, List.mem_of_getElem? (i := 1018) (by decide +kernel), List.mem_of_getElem? (i := 1394) (by decide +kernel), List.mem_of_getElem? (i := 1395) (by decide +kernel)⟩
theorem lw_p65 : lw_okq (⟨"NinetyNightsModel", "seesOf", "(I)I"⟩, 68) := ⟨⟨by decide +kernel, by decide +kernel⟩, List.mem_of_getElem? (i := 1018) (by decide +kernel), List.mem_of_getElem? (i := 1401) (by decide +kernel), List.mem_of_getElem? (i := 1402) (by decide +kernel)⟩
theorem lw_p66 : lw_okq (⟨"NinetyNightsModel", "isWorld", "(I)Z"⟩, 68) := ⟨⟨by decide +kernel, by decide +kernel⟩, List.mem_of_getElem? (i := 1018) (by decide +kernel), List.mem_of_getElem? (i := 1413) (by decide +kernel), List.mem_of_getElem? (i := 1414) (by decide +kernel)⟩
theorem lw_p67 : lw_okq (⟨"NinetyNightsModel", "areLike", "(III)Z"⟩, 68) := ⟨⟨by decide +kernel, by decide +kernel⟩, List.mem_of_getElem? (i := 1018) (by decide +kernel), List.mem_of_getElem? (i := 1421) (by decide +kernel), List.mem_of_getElem? (i := 1422) (by decide +kernel)⟩
theorem lw_p68 : lw_okq (⟨"NinetyNightsModel", "readAlone", "()Z"⟩, 68) := ⟨⟨by decide +kernel, by decide +kernel⟩, List.mem_of_getElem? (i := 1018) (by decide +kernel), List.mem_of_getElem? (i := 1429) (by decide +kernel), List.mem_of_getElem? (i := 1430) (by decide +kernel)⟩
theorem lw_p69 : lw_okq (⟨"NinetyNightsModel", "work", "(II)V"⟩, 68) := ⟨⟨by decide +kernel, by decide +kernel⟩, List.mem_of_getElem? (i := 1018) (by decide +kernel), List.mem_of_getElem? (i := 1434) (by decide +kernel), List.mem_of_getElem? (i := 1435) (by decide +kernel)⟩
theorem lw_p70 : lw_okq (⟨"NinetyNightsModel", "plain", "(III)I"⟩, 68) := ⟨⟨by decide +kernel, by decide +kernel⟩, List.mem_of_getElem? (i := 1018) (by decide +kernel), List.mem_of_getElem? (i := 1438) (by decide +kernel), List.mem_of_getElem? (i := 1439) (by decide +kernel)⟩
theorem lw_p71 : lw_okq (⟨"NinetyNightsModel", "knowsOf", "(II)V"⟩, 68) := ⟨⟨by decide +kernel, by decide +kernel⟩, List.mem_of_getElem? (i := 1018) (by decide +kernel), List.mem_of_getElem? (i := 1445) (by decide +kernel), List.mem_of_getElem? (i := 1446) (by decide +kernel)⟩
theorem lw_p72 : lw_okq (⟨"NinetyNightsModel", "doesKnow", "(III)Z"⟩, 68) := ⟨⟨by decide +kernel, by decide +kernel⟩, List.mem_of_getElem? (i := 1018) (by decide +kernel), List.mem_of_getElem? (i := 1449) (by decide +kernel), List.mem_of_getElem? (i := 1450) (by decide +kernel)⟩
theorem lw_p73 : lw_okq (⟨"NinetyNightsModel", "allKnow", "(I)V"⟩, 68) := ⟨⟨by decide +kernel, by decide +kernel⟩, List.mem_of_getElem? (i := 1018) (by decide +kernel), List.mem_of_getElem? (i := 1453) (by decide +kernel), List.mem_of_getElem? (i := 1454) (by decide +kernel)⟩
theorem lw_p74 : lw_okq (⟨"NinetyNightsModel", "commonOf", "(I)V"⟩, 68) := ⟨⟨by decide +kernel, by decide +kernel⟩, List.mem_of_getElem? (i := 1018) (by decide +kernel), List.mem_of_getElem? (i := 1457) (by decide +kernel), List.mem_of_getElem? (i := 1458) (by decide +kernel)⟩
theorem lw_p75 : lw_okq (⟨"NinetyNightsModel", "layParts", "()V"⟩, 68) := ⟨⟨by decide +kernel, by decide +kernel⟩, List.mem_of_getElem? (i := 1018) (by decide +kernel), List.mem_of_getElem? (i := 1461) (by decide +kernel), List.mem_of_getElem? (i := 1462) (by decide +kernel)⟩
theorem lw_p76 : lw_okq (⟨"NinetyNightsModel", "layPart", "(I)V"⟩, 68) := ⟨⟨by decide +kernel, by decide +kernel⟩, List.mem_of_getElem? (i := 1018) (by decide +kernel), List.mem_of_getElem? (i := 1465) (by decide +kernel), List.mem_of_getElem? (i := 1466) (by decide +kernel)⟩
theorem lw_p77 : lw_okq (⟨"NinetyNightsModel", "theTrue", "()I"⟩, 68) := ⟨⟨by decide +kernel, by decide +kernel⟩, List.mem_of_getElem? (i := 1018) (by decide +kernel), List.mem_of_getElem? (i := 1472) (by decide +kernel), List.mem_of_getElem? (i := 1473) (by decide +kernel)⟩
theorem lw_p78 : lw_okq (⟨"NinetyNightsModel", "isCommon", "(I)Z"⟩, 68) := ⟨⟨by decide +kernel, by decide +kernel⟩, List.mem_of_getElem? (i := 1018) (by decide +kernel), List.mem_of_getElem? (i := 1484) (by decide +kernel), List.mem_of_getElem? (i := 1485) (by decide +kernel)⟩
theorem lw_p79 : lw_okq (⟨"NinetyNightsModel", "strike", "()I"⟩, 68) := ⟨⟨by decide +kernel, by decide +kernel⟩, List.mem_of_getElem? (i := 1018) (by decide +kernel), List.mem_of_getElem? (i := 1492) (by decide +kernel), List.mem_of_getElem? (i := 1493) (by decide +kernel)⟩
def lw_privs_5 : List (MethodName × Nat) := [(⟨"NinetyNightsModel", "isOne", "(I)Z"⟩, 68), (⟨"NinetyNightsModel", "seesOf", "(I)I"⟩, 68), (⟨"NinetyNightsModel", "isWorld", "(I)Z"⟩, 68), (⟨"NinetyNightsModel", "areLike", "(III)Z"⟩, 68), (⟨"NinetyNightsModel", "readAlone", "()Z"⟩, 68), (⟨"NinetyNightsModel", "work", "(II)V"⟩, 68), (⟨"NinetyNightsModel", "plain", "(III)I"⟩, 68), (⟨"NinetyNightsModel", "knowsOf", "(II)V"⟩, 68), (⟨"NinetyNightsModel", "doesKnow", "(III)Z"⟩, 68), (⟨"NinetyNightsModel", "allKnow", "(I)V"⟩, 68), (⟨"NinetyNightsModel", "commonOf", "(I)V"⟩, 68), (⟨"NinetyNightsModel", "layParts", "()V"⟩, 68), (⟨"NinetyNightsModel", "layPart", "(I)V"⟩, 68), (⟨"NinetyNightsModel", "theTrue", "()I"⟩, 68), (⟨"NinetyNightsModel", "isCommon", "(I)Z"⟩, 68), (⟨"NinetyNightsModel", "strike", "()I"⟩, 68)]
theorem lw_r5 : ∀ q ∈ lw_privs_5, lw_okq q := List.forall_mem_cons.mpr ⟨lw_p64, List.forall_mem_cons.mpr ⟨lw_p65, List.forall_mem_cons.mpr ⟨lw_p66, List.forall_mem_cons.mpr ⟨lw_p67, List.forall_mem_cons.mpr ⟨lw_p68, List.forall_mem_cons.mpr ⟨lw_p69, List.forall_mem_cons.mpr ⟨lw_p70, List.forall_mem_cons.mpr ⟨lw_p71, List.forall_mem_cons.mpr ⟨lw_p72, List.forall_mem_cons.mpr ⟨lw_p73, List.forall_mem_cons.mpr ⟨lw_p74, List.forall_mem_cons.mpr ⟨lw_p75, List.forall_mem_cons.mpr ⟨lw_p76, List.forall_mem_cons.mpr ⟨lw_p77, List.forall_mem_cons.mpr ⟨lw_p78, List.forall_mem_cons.mpr ⟨lw_p79, fun _ h => absurd h List.not_mem_nil⟩⟩⟩⟩⟩⟩⟩⟩⟩⟩⟩⟩⟩⟩⟩⟩
theorem lw_p80 : lw_okq (⟨"NinetyNightsModel", "oneNight", "()I"⟩, 68) := ⟨⟨by decide +kernel, by decide +kernel⟩, List.mem_of_getElem? (i := 1018) (by decide +kernel), List.mem_of_getElem? (i := 1508) (by decide +kernel), List.mem_of_getElem? (i := 1509) (by decide +kernel)⟩
theorem lw_p81 : lw_okq (⟨"NinetyNightsModel", "goersIn", "(I)I"⟩, 68) := ⟨⟨by decide +kernel, by decide +kernel⟩, List.mem_of_getElem? (i := 1018) (by decide +kernel), List.mem_of_getElem? (i := 1512) (by decide +kernel), List.mem_of_getElem? (i := 1513) (by decide +kernel)⟩
theorem lw_p82 : lw_okq (⟨"NinetyNightsModel", "keep", "(I)V"⟩, 68) := ⟨⟨by decide +kernel, by decide +kernel⟩, List.mem_of_getElem? (i := 1018) (by decide +kernel), List.mem_of_getElem? (i := 1528) (by decide +kernel), List.mem_of_getElem? (i := 1529) (by decide +kernel)⟩
theorem lw_p83 : lw_okq (⟨"NinetyNightsModel", "bring", "(I)V"⟩, 68) := ⟨⟨by decide +kernel, by decide +kernel⟩, List.mem_of_getElem? (i := 1018) (by decide +kernel), List.mem_of_getElem? (i := 1532) (by decide +kernel), List.mem_of_getElem? (i := 1533) (by decide +kernel)⟩
theorem lw_p84 : lw_okq (⟨"NinetyNightsModel", "goBy", "(II)I"⟩, 68) := ⟨⟨by decide +kernel, by decide +kernel⟩, List.mem_of_getElem? (i := 1018) (by decide +kernel), List.mem_of_getElem? (i := 1540) (by decide +kernel), List.mem_of_getElem? (i := 1541) (by decide +kernel)⟩
theorem lw_p85 : lw_okq (⟨"NinetyNightsModel", "fitsOf", "(II)I"⟩, 68) := ⟨⟨by decide +kernel, by decide +kernel⟩, List.mem_of_getElem? (i := 1018) (by decide +kernel), List.mem_of_getElem? (i := 1562) (by decide +kernel), List.mem_of_getElem? (i := 1563) (by decide +kernel)⟩
theorem lw_p86 : lw_okq (⟨"NinetyNightsModel", "fitsBy", "(III)I"⟩, 68) := ⟨⟨by decide +kernel, by decide +kernel⟩, List.mem_of_getElem? (i := 1018) (by decide +kernel), List.mem_of_getElem? (i := 1566) (by decide +kernel), List.mem_of_getElem? (i := 1567) (by decide +kernel)⟩
theorem lw_p87 : lw_okq (⟨"NinetyNightsModel", "nightOfAll", "(II)V"⟩, 68) := ⟨⟨by decide +kernel, by decide +kernel⟩, List.mem_of_getElem? (i := 1018) (by decide +kernel), List.mem_of_getElem? (i := 1570) (by decide +kernel), List.mem_of_getElem? (i := 1571) (by decide +kernel)⟩
theorem lw_p88 : lw_okq (⟨"NinetyNightsModel", "goesIn", "(I)I"⟩, 68) := ⟨⟨by decide +kernel, by decide +kernel⟩, List.mem_of_getElem? (i := 1018) (by decide +kernel), List.mem_of_getElem? (i := 1574) (by decide +kernel), List.mem_of_getElem? (i := 1575) (by decide +kernel)⟩
def lw_privs_6 : List (MethodName × Nat) := [(⟨"NinetyNightsModel", "oneNight", "()I"⟩, 68), (⟨"NinetyNightsModel", "goersIn", "(I)I"⟩, 68), (⟨"NinetyNightsModel", "keep", "(I)V"⟩, 68), (⟨"NinetyNightsModel", "bring", "(I)V"⟩, 68), (⟨"NinetyNightsModel", "goBy", "(II)I"⟩, 68), (⟨"NinetyNightsModel", "fitsOf", "(II)I"⟩, 68), (⟨"NinetyNightsModel", "fitsBy", "(III)I"⟩, 68), (⟨"NinetyNightsModel", "nightOfAll", "(II)V"⟩, 68), (⟨"NinetyNightsModel", "goesIn", "(I)I"⟩, 68)]
theorem lw_r6 : ∀ q ∈ lw_privs_6, lw_okq q := List.forall_mem_cons.mpr ⟨lw_p80, List.forall_mem_cons.mpr ⟨lw_p81, List.forall_mem_cons.mpr ⟨lw_p82, List.forall_mem_cons.mpr ⟨lw_p83, List.forall_mem_cons.mpr ⟨lw_p84, List.forall_mem_cons.mpr ⟨lw_p85, List.forall_mem_cons.mpr ⟨lw_p86, List.forall_mem_cons.mpr ⟨lw_p87, List.forall_mem_cons.mpr ⟨lw_p88, fun _ h => absurd h List.not_mem_nil⟩⟩⟩⟩⟩⟩⟩⟩⟩
def lw_privs : List (MethodName × Nat) := lw_privs_1 ++ (lw_privs_2 ++ (lw_privs_3 ++ (lw_privs_4 ++ (lw_privs_5 ++ (lw_privs_6)))))
def lw_tbl : List Cond := k2_sels lw_privs ++ tables_1
theorem lw_privs_ok : ∀ q ∈ lw_privs, lw_okq q := by
  show ∀ q ∈ lw_privs_1 ++ (lw_privs_2 ++ (lw_privs_3 ++ (lw_privs_4 ++ (lw_privs_5 ++ (lw_privs_6))))), lw_okq q
  exact List.forall_mem_append.mpr ⟨lw_r1, List.forall_mem_append.mpr ⟨lw_r2, List.forall_mem_append.mpr ⟨lw_r3, List.forall_mem_append.mpr ⟨lw_r4, List.forall_mem_append.mpr ⟨lw_r5, lw_r6⟩⟩⟩⟩⟩

def RX0 : String := "NinetyNights$Code"
def TX0 : u_T := fun k => match k with
  | 0 => ("NinetyNights$Code", "steps", "[I", true)
  | _ => ("NinetyNights$Code", "size", "I", false)
def tyX0 : Nat → FieldType := fun k => match k with
  | 0 => .array .int
  | _ => .int
abbrev wsX00 : List Cond := u_ws RX0 TX0 2
theorem nmX0 : ∀ a, a < 2 → ∀ b, b < 2 → a ≠ b → (TX0 a).2.1 ≠ (TX0 b).2.1 := by decide +kernel
theorem tyX0_ok : ∀ k, k < 2 → parseFieldDescriptor (TX0 k).2.2.1 = some (tyX0 k) := by decide +kernel
abbrev cX0_init : ByteArray := prog_2_method_1_code
def yX0_init : MethodName := ⟨RX0, "<init>", "()V"⟩
abbrev cX0_add : ByteArray := prog_2_method_2_code
def yX0_add : MethodName := ⟨RX0, "add", "(II)V"⟩
abbrev cX0_kindAt : ByteArray := prog_2_method_3_code
def yX0_kindAt : MethodName := ⟨RX0, "kindAt", "(I)I"⟩
abbrev cX0_ofAt : ByteArray := prog_2_method_4_code
def yX0_ofAt : MethodName := ⟨RX0, "ofAt", "(I)I"⟩
def RX1 : String := "NinetyNights$Guesses"
def TX1 : u_T := fun k => match k with
  | 0 => ("NinetyNights$Guesses", "wentOn", "[[I", true)
  | 1 => ("NinetyNights$Guesses", "first", "LNinetyNights$Scene;", true)
  | 2 => ("NinetyNights$Guesses", "gone", "[I", true)
  | 3 => ("NinetyNights$Guesses", "wentRow", "[I", true)
  | 4 => ("NinetyNights$Guesses", "fresh", "Z", false)
  | 5 => ("NinetyNights$Guesses", "with", "I", false)
  | _ => ("NinetyNights$Guesses", "without", "I", false)
def tyX1 : Nat → FieldType := fun k => match k with
  | 0 => .array (.array .int)
  | 1 => .object "NinetyNights$Scene"
  | 2 => .array .int
  | 3 => .array .int
  | 4 => .boolean
  | 5 => .int
  | _ => .int
abbrev wsX10 : List Cond := u_ws RX1 TX1 7
theorem nmX1 : ∀ a, a < 7 → ∀ b, b < 7 → a ≠ b → (TX1 a).2.1 ≠ (TX1 b).2.1 := by decide +kernel
theorem tyX1_ok : ∀ k, k < 7 → parseFieldDescriptor (TX1 k).2.2.1 = some (tyX1 k) := by decide +kernel
abbrev cX1_init : ByteArray := prog_3_method_1_code
def yX1_init : MethodName := ⟨RX1, "<init>", "(LNinetyNights$Island;)V"⟩
abbrev cX1_nightOf : ByteArray := prog_3_method_2_code
def yX1_nightOf : MethodName := ⟨RX1, "nightOf", "(II)I"⟩
abbrev cX1_learn : ByteArray := prog_3_method_3_code
def yX1_learn : MethodName := ⟨RX1, "learn", "(LNinetyNights$Island;ILNinetyNights$Mind;)V"⟩
abbrev cX1_sendOne : ByteArray := prog_3_method_4_code
def yX1_sendOne : MethodName := ⟨RX1, "sendOne", "(I[I[II)V"⟩
abbrev cX1_scan : ByteArray := prog_3_method_5_code
def yX1_scan : MethodName := ⟨RX1, "scan", "(LNinetyNights$Island;LNinetyNights$Sights;I)I"⟩
def RX2 : String := "NinetyNights$Island"
def TX2 : u_T := fun k => match k with
  | 0 => ("NinetyNights$Island", "people", "I", false)
  | 1 => ("NinetyNights$Island", "marked", "I", false)
  | 2 => ("NinetyNights$Island", "stayers", "I", false)
  | 3 => ("NinetyNights$Island", "blinds", "I", false)
  | 4 => ("NinetyNights$Island", "sayings", "I", false)
  | 5 => ("NinetyNights$Island", "units", "I", false)
  | 6 => ("NinetyNights$Island", "lawTold", "Z", false)
  | 7 => ("NinetyNights$Island", "ownLaw", "Z", false)
  | 8 => ("NinetyNights$Island", "names", "[J", true)
  | 9 => ("NinetyNights$Island", "seen", "[I", true)
  | 10 => ("NinetyNights$Island", "code", "LNinetyNights$Code;", true)
  | _ => ("NinetyNights$Island", "starts", "[I", true)
def tyX2 : Nat → FieldType := fun k => match k with
  | 0 => .int
  | 1 => .int
  | 2 => .int
  | 3 => .int
  | 4 => .int
  | 5 => .int
  | 6 => .boolean
  | 7 => .boolean
  | 8 => .array .long
  | 9 => .array .int
  | 10 => .object "NinetyNights$Code"
  | _ => .array .int
abbrev wsX20 : List Cond := u_ws RX2 TX2 12
theorem nmX2 : ∀ a, a < 12 → ∀ b, b < 12 → a ≠ b → (TX2 a).2.1 ≠ (TX2 b).2.1 := by decide +kernel
theorem tyX2_ok : ∀ k, k < 12 → parseFieldDescriptor (TX2 k).2.2.1 = some (tyX2 k) := by decide +kernel
abbrev cX2_init : ByteArray := prog_4_method_1_code
def yX2_init : MethodName := ⟨RX2, "<init>", "()V"⟩
abbrev cX2_clear : ByteArray := prog_4_method_2_code
def yX2_clear : MethodName := ⟨RX2, "clear", "()V"⟩
abbrev cX2_isPerson : ByteArray := prog_4_method_3_code
def yX2_isPerson : MethodName := ⟨RX2, "isPerson", "(I)Z"⟩
abbrev cX2_arePeople : ByteArray := prog_4_method_4_code
def yX2_arePeople : MethodName := ⟨RX2, "arePeople", "(I)Z"⟩
abbrev cX2_isWorld : ByteArray := prog_4_method_5_code
def yX2_isWorld : MethodName := ⟨RX2, "isWorld", "(I)Z"⟩
abbrev cX2_worldCount : ByteArray := prog_4_method_6_code
def yX2_worldCount : MethodName := ⟨RX2, "worldCount", "()I"⟩
abbrev cX2_takesPeople : ByteArray := prog_4_method_7_code
def yX2_takesPeople : MethodName := ⟨RX2, "takesPeople", "()Z"⟩
abbrev cX2_addPerson : ByteArray := prog_4_method_8_code
def yX2_addPerson : MethodName := ⟨RX2, "addPerson", "(J)V"⟩
abbrev cX2_find : ByteArray := prog_4_method_9_code
def yX2_find : MethodName := ⟨RX2, "find", "(J)I"⟩
abbrev cX2_giveMirror : ByteArray := prog_4_method_10_code
def yX2_giveMirror : MethodName := ⟨RX2, "giveMirror", "(I)V"⟩
abbrev cX2_canBlind : ByteArray := prog_4_method_11_code
def yX2_canBlind : MethodName := ⟨RX2, "canBlind", "(II)Z"⟩
abbrev cX2_addBlind : ByteArray := prog_4_method_12_code
def yX2_addBlind : MethodName := ⟨RX2, "addBlind", "(II)V"⟩
abbrev cX2_endSaying : ByteArray := prog_4_method_13_code
def yX2_endSaying : MethodName := ⟨RX2, "endSaying", "()V"⟩
def RX3 : String := "NinetyNights$Kind"
def TX3 : u_T := fun k => match k with
  | _ => ("", "", "", false)
def tyX3 : Nat → FieldType := fun k => match k with
  | _ => .int
abbrev wsX30 : List Cond := u_ws RX3 TX3 0
theorem nmX3 : ∀ a, a < 0 → ∀ b, b < 0 → a ≠ b → (TX3 a).2.1 ≠ (TX3 b).2.1 := by decide +kernel
theorem tyX3_ok : ∀ k, k < 0 → parseFieldDescriptor (TX3 k).2.2.1 = some (tyX3 k) := by decide +kernel
abbrev cX3_opens : ByteArray := prog_5_method_2_code
def yX3_opens : MethodName := ⟨RX3, "opens", "(I)Z"⟩
abbrev cX3_isLeaf : ByteArray := prog_5_method_3_code
def yX3_isLeaf : MethodName := ⟨RX3, "isLeaf", "(I)Z"⟩
abbrev cX3_startsUnit : ByteArray := prog_5_method_4_code
def yX3_startsUnit : MethodName := ⟨RX3, "startsUnit", "(I)Z"⟩
abbrev cX3_rankOf : ByteArray := prog_5_method_5_code
def yX3_rankOf : MethodName := ⟨RX3, "rankOf", "(I)I"⟩
def RX4 : String := "NinetyNights$Mind"
def TX4 : u_T := fun k => match k with
  | 0 => ("NinetyNights$Mind", "rows", "[[I", true)
  | 1 => ("NinetyNights$Mind", "spare", "[I", true)
  | 2 => ("NinetyNights$Mind", "known", "[I", true)
  | 3 => ("NinetyNights$Mind", "roots", "[I", true)
  | 4 => ("NinetyNights$Mind", "goers", "[I", true)
  | _ => ("NinetyNights$Mind", "top", "I", false)
def tyX4 : Nat → FieldType := fun k => match k with
  | 0 => .array (.array .int)
  | 1 => .array .int
  | 2 => .array .int
  | 3 => .array .int
  | 4 => .array .int
  | _ => .int
abbrev wsX40 : List Cond := u_ws RX4 TX4 6
theorem nmX4 : ∀ a, a < 6 → ∀ b, b < 6 → a ≠ b → (TX4 a).2.1 ≠ (TX4 b).2.1 := by decide +kernel
theorem tyX4_ok : ∀ k, k < 6 → parseFieldDescriptor (TX4 k).2.2.1 = some (tyX4 k) := by decide +kernel
abbrev cX4_init : ByteArray := prog_6_method_1_code
def yX4_init : MethodName := ⟨RX4, "<init>", "()V"⟩
abbrev cX4_result : ByteArray := prog_6_method_2_code
def yX4_result : MethodName := ⟨RX4, "result", "()[I"⟩
abbrev cX4_weighSaying : ByteArray := prog_6_method_3_code
def yX4_weighSaying : MethodName := ⟨RX4, "weighSaying", "(LNinetyNights$Scene;I)V"⟩
abbrev cX4_weigh : ByteArray := prog_6_method_4_code
def yX4_weigh : MethodName := ⟨RX4, "weigh", "(LNinetyNights$Scene;LNinetyNights$Code;II)V"⟩
abbrev cX4_pushLeaf : ByteArray := prog_6_method_5_code
def yX4_pushLeaf : MethodName := ⟨RX4, "pushLeaf", "(LNinetyNights$Scene;II)V"⟩
abbrev cX4_leaf : ByteArray := prog_6_method_6_code
def yX4_leaf : MethodName := ⟨RX4, "leaf", "(IIII)I"⟩
abbrev cX4_negate : ByteArray := prog_6_method_7_code
def yX4_negate : MethodName := ⟨RX4, "negate", "(LNinetyNights$Scene;[I)V"⟩
abbrev cX4_joinTop : ByteArray := prog_6_method_8_code
def yX4_joinTop : MethodName := ⟨RX4, "joinTop", "(LNinetyNights$Scene;I)V"⟩
abbrev cX4_joined : ByteArray := prog_6_method_9_code
def yX4_joined : MethodName := ⟨RX4, "joined", "(III)I"⟩
abbrev cX4_markKnown : ByteArray := prog_6_method_10_code
def yX4_markKnown : MethodName := ⟨RX4, "markKnown", "(LNinetyNights$Scene;[I[I)V"⟩
abbrev cX4_knowsOne : ByteArray := prog_6_method_11_code
def yX4_knowsOne : MethodName := ⟨RX4, "knowsOne", "(LNinetyNights$Scene;I[I)V"⟩
abbrev cX4_knowAll : ByteArray := prog_6_method_12_code
def yX4_knowAll : MethodName := ⟨RX4, "knowAll", "(LNinetyNights$Scene;[I)V"⟩
abbrev cX4_knowInCommon : ByteArray := prog_6_method_13_code
def yX4_knowInCommon : MethodName := ⟨RX4, "knowInCommon", "(LNinetyNights$Scene;[I)V"⟩
abbrev cX4_linkGroups : ByteArray := prog_6_method_14_code
def yX4_linkGroups : MethodName := ⟨RX4, "linkGroups", "(LNinetyNights$Scene;)V"⟩
abbrev cX4_rootOf : ByteArray := prog_6_method_15_code
def yX4_rootOf : MethodName := ⟨RX4, "rootOf", "(I)I"⟩
abbrev cX4_depth : ByteArray := prog_6_method_16_code
def yX4_depth : MethodName := ⟨RX4, "depth", "(LNinetyNights$Scene;)I"⟩
abbrev cX4_ownMark : ByteArray := prog_6_method_17_code
def yX4_ownMark : MethodName := ⟨RX4, "ownMark", "(LNinetyNights$Scene;I)I"⟩
abbrev cX4_markOwn : ByteArray := prog_6_method_18_code
def yX4_markOwn : MethodName := ⟨RX4, "markOwn", "(LNinetyNights$Scene;I[I)V"⟩
abbrev cX4_findGoers : ByteArray := prog_6_method_19_code
def yX4_findGoers : MethodName := ⟨RX4, "findGoers", "(LNinetyNights$Scene;)[I"⟩
abbrev cX4_pass : ByteArray := prog_6_method_20_code
def yX4_pass : MethodName := ⟨RX4, "pass", "(LNinetyNights$Scene;)I"⟩
def RX5 : String := "NinetyNights$Reader"
def TX5 : u_T := fun k => match k with
  | 0 => ("NinetyNights$Reader", "fault", "I", false)
  | 1 => ("NinetyNights$Reader", "place", "I", false)
  | 2 => ("NinetyNights$Reader", "tokens", "LNinetyNights$Tokens;", true)
  | 3 => ("NinetyNights$Reader", "island", "LNinetyNights$Island;", false)
  | 4 => ("NinetyNights$Reader", "code", "LNinetyNights$Code;", false)
  | 5 => ("NinetyNights$Reader", "unitLimit", "I", false)
  | 6 => ("NinetyNights$Reader", "units", "I", false)
  | 7 => ("NinetyNights$Reader", "at", "I", false)
  | _ => ("NinetyNights$Reader", "kind", "I", false)
def tyX5 : Nat → FieldType := fun k => match k with
  | 0 => .int
  | 1 => .int
  | 2 => .object "NinetyNights$Tokens"
  | 3 => .object "NinetyNights$Island"
  | 4 => .object "NinetyNights$Code"
  | 5 => .int
  | 6 => .int
  | 7 => .int
  | _ => .int
abbrev wsX50 : List Cond := u_ws RX5 TX5 9
theorem nmX5 : ∀ a, a < 9 → ∀ b, b < 9 → a ≠ b → (TX5 a).2.1 ≠ (TX5 b).2.1 := by decide +kernel
theorem tyX5_ok : ∀ k, k < 9 → parseFieldDescriptor (TX5 k).2.2.1 = some (tyX5 k) := by decide +kernel
abbrev cX5_init : ByteArray := prog_7_method_1_code
def yX5_init : MethodName := ⟨RX5, "<init>", "(LNinetyNights$Tape;LNinetyNights$Island;LNinetyNights$Code;)V"⟩
abbrev cX5_readIsland : ByteArray := prog_7_method_2_code
def yX5_readIsland : MethodName := ⟨RX5, "readIsland", "(LNinetyNights$Island;)Z"⟩
abbrev cX5_readFormula : ByteArray := prog_7_method_3_code
def yX5_readFormula : MethodName := ⟨RX5, "readFormula", "(LNinetyNights$Island;LNinetyNights$Code;)Z"⟩
abbrev cX5_begin : ByteArray := prog_7_method_4_code
def yX5_begin : MethodName := ⟨RX5, "begin", "(LNinetyNights$Island;LNinetyNights$Code;I)V"⟩
abbrev cX5_readPerson : ByteArray := prog_7_method_5_code
def yX5_readPerson : MethodName := ⟨RX5, "readPerson", "()V"⟩
abbrev cX5_readBlind : ByteArray := prog_7_method_6_code
def yX5_readBlind : MethodName := ⟨RX5, "readBlind", "()V"⟩
abbrev cX5_readLaw : ByteArray := prog_7_method_7_code
def yX5_readLaw : MethodName := ⟨RX5, "readLaw", "()V"⟩
abbrev cX5_readSaying : ByteArray := prog_7_method_8_code
def yX5_readSaying : MethodName := ⟨RX5, "readSaying", "()V"⟩
abbrev cX5_readPart : ByteArray := prog_7_method_9_code
def yX5_readPart : MethodName := ⟨RX5, "readPart", "(II)V"⟩
abbrev cX5_readUnit : ByteArray := prog_7_method_10_code
def yX5_readUnit : MethodName := ⟨RX5, "readUnit", "(I)V"⟩
abbrev cX5_readName : ByteArray := prog_7_method_11_code
def yX5_readName : MethodName := ⟨RX5, "readName", "()I"⟩
abbrev cX5_accept : ByteArray := prog_7_method_12_code
def yX5_accept : MethodName := ⟨RX5, "accept", "(I)Z"⟩
abbrev cX5_expect : ByteArray := prog_7_method_13_code
def yX5_expect : MethodName := ⟨RX5, "expect", "(I)V"⟩
abbrev cX5_fail : ByteArray := prog_7_method_14_code
def yX5_fail : MethodName := ⟨RX5, "fail", "(I)V"⟩
abbrev cX5_advance : ByteArray := prog_7_method_15_code
def yX5_advance : MethodName := ⟨RX5, "advance", "()V"⟩
def RX6 : String := "NinetyNights$Scene"
def TX6 : u_T := fun k => match k with
  | 0 => ("NinetyNights$Scene", "views", "LNinetyNights$Views;", true)
  | 1 => ("NinetyNights$Scene", "island", "LNinetyNights$Island;", false)
  | 2 => ("NinetyNights$Scene", "list", "[I", true)
  | 3 => ("NinetyNights$Scene", "count", "I", false)
  | 4 => ("NinetyNights$Scene", "gone", "I", false)
  | 5 => ("NinetyNights$Scene", "nights", "I", false)
  | _ => ("NinetyNights$Scene", "whispers", "I", false)
def tyX6 : Nat → FieldType := fun k => match k with
  | 0 => .object "NinetyNights$Views"
  | 1 => .object "NinetyNights$Island"
  | 2 => .array .int
  | 3 => .int
  | 4 => .int
  | 5 => .int
  | _ => .int
abbrev wsX60 : List Cond := u_ws RX6 TX6 7
theorem nmX6 : ∀ a, a < 7 → ∀ b, b < 7 → a ≠ b → (TX6 a).2.1 ≠ (TX6 b).2.1 := by decide +kernel
theorem tyX6_ok : ∀ k, k < 7 → parseFieldDescriptor (TX6 k).2.2.1 = some (tyX6 k) := by decide +kernel
abbrev cX6_init : ByteArray := prog_8_method_1_code
def yX6_init : MethodName := ⟨RX6, "<init>", "(LNinetyNights$Island;LNinetyNights$Views;)V"⟩
abbrev cX6_open : ByteArray := prog_8_method_2_code
def yX6_open : MethodName := ⟨RX6, "open", "(LNinetyNights$Island;)V"⟩
abbrev cX6_copy : ByteArray := prog_8_method_3_code
def yX6_copy : MethodName := ⟨RX6, "copy", "(LNinetyNights$Scene;)V"⟩
abbrev cX6_follow : ByteArray := prog_8_method_4_code
def yX6_follow : MethodName := ⟨RX6, "follow", "(LNinetyNights$Scene;)V"⟩
abbrev cX6_contains : ByteArray := prog_8_method_5_code
def yX6_contains : MethodName := ⟨RX6, "contains", "(I)Z"⟩
abbrev cX6_countSo : ByteArray := prog_8_method_6_code
def yX6_countSo : MethodName := ⟨RX6, "countSo", "([I)I"⟩
abbrev cX6_hear : ByteArray := prog_8_method_7_code
def yX6_hear : MethodName := ⟨RX6, "hear", "([I)I"⟩
abbrev cX6_keepSo : ByteArray := prog_8_method_8_code
def yX6_keepSo : MethodName := ⟨RX6, "keepSo", "([I)I"⟩
abbrev cX6_keepEqual : ByteArray := prog_8_method_9_code
def yX6_keepEqual : MethodName := ⟨RX6, "keepEqual", "([II)V"⟩
abbrev cX6_note : ByteArray := prog_8_method_10_code
def yX6_note : MethodName := ⟨RX6, "note", "([JI)V"⟩
abbrev cX6_keepNoted : ByteArray := prog_8_method_11_code
def yX6_keepNoted : MethodName := ⟨RX6, "keepNoted", "([JI)V"⟩
def RX7 : String := "NinetyNights$Sights"
def TX7 : u_T := fun k => match k with
  | 0 => ("NinetyNights$Sights", "ones", "[I", true)
  | 1 => ("NinetyNights$Sights", "nights", "[I", true)
  | 2 => ("NinetyNights$Sights", "wents", "[Z", true)
  | 3 => ("NinetyNights$Sights", "toldAt", "[I", true)
  | 4 => ("NinetyNights$Sights", "untoldAt", "[I", true)
  | 5 => ("NinetyNights$Sights", "count", "I", false)
  | _ => ("NinetyNights$Sights", "time", "I", false)
def tyX7 : Nat → FieldType := fun k => match k with
  | 0 => .array .int
  | 1 => .array .int
  | 2 => .array .boolean
  | 3 => .array .int
  | 4 => .array .int
  | 5 => .int
  | _ => .int
abbrev wsX70 : List Cond := u_ws RX7 TX7 7
theorem nmX7 : ∀ a, a < 7 → ∀ b, b < 7 → a ≠ b → (TX7 a).2.1 ≠ (TX7 b).2.1 := by decide +kernel
theorem tyX7_ok : ∀ k, k < 7 → parseFieldDescriptor (TX7 k).2.2.1 = some (tyX7 k) := by decide +kernel
abbrev cX7_init : ByteArray := prog_9_method_1_code
def yX7_init : MethodName := ⟨RX7, "<init>", "()V"⟩
abbrev cX7_tell : ByteArray := prog_9_method_2_code
def yX7_tell : MethodName := ⟨RX7, "tell", "(IIZ)I"⟩
abbrev cX7_takeBack : ByteArray := prog_9_method_3_code
def yX7_takeBack : MethodName := ⟨RX7, "takeBack", "(I)Z"⟩
abbrev cX7_goOn : ByteArray := prog_9_method_4_code
def yX7_goOn : MethodName := ⟨RX7, "goOn", "(I)I"⟩
abbrev cX7_counts : ByteArray := prog_9_method_5_code
def yX7_counts : MethodName := ⟨RX7, "counts", "(II)Z"⟩
abbrev cX7_agree : ByteArray := prog_9_method_6_code
def yX7_agree : MethodName := ⟨RX7, "agree", "(II)Z"⟩
def RX8 : String := "NinetyNights$Tape"
def TX8 : u_T := fun k => match k with
  | 0 => ("NinetyNights$Tape", "bytes", "[B", true)
  | _ => ("NinetyNights$Tape", "length", "I", false)
def tyX8 : Nat → FieldType := fun k => match k with
  | 0 => .array .byte
  | _ => .int
abbrev wsX80 : List Cond := u_ws RX8 TX8 2
theorem nmX8 : ∀ a, a < 2 → ∀ b, b < 2 → a ≠ b → (TX8 a).2.1 ≠ (TX8 b).2.1 := by decide +kernel
theorem tyX8_ok : ∀ k, k < 2 → parseFieldDescriptor (TX8 k).2.2.1 = some (tyX8 k) := by decide +kernel
abbrev cX8_init : ByteArray := prog_10_method_1_code
def yX8_init : MethodName := ⟨RX8, "<init>", "()V"⟩
abbrev cX8_take : ByteArray := prog_10_method_2_code
def yX8_take : MethodName := ⟨RX8, "take", "(IIIII)I"⟩
abbrev cX8_put : ByteArray := prog_10_method_3_code
def yX8_put : MethodName := ⟨RX8, "put", "(I)V"⟩
abbrev cX8_at : ByteArray := prog_10_method_4_code
def yX8_at : MethodName := ⟨RX8, "at", "(I)I"⟩
def RX9 : String := "NinetyNights$Tokens"
def TX9 : u_T := fun k => match k with
  | 0 => ("NinetyNights$Tokens", "tape", "LNinetyNights$Tape;", true)
  | 1 => ("NinetyNights$Tokens", "words", "[J", true)
  | 2 => ("NinetyNights$Tokens", "kinds", "[I", true)
  | 3 => ("NinetyNights$Tokens", "places", "[I", true)
  | 4 => ("NinetyNights$Tokens", "values", "[J", true)
  | 5 => ("NinetyNights$Tokens", "count", "I", false)
  | _ => ("NinetyNights$Tokens", "at", "I", false)
def tyX9 : Nat → FieldType := fun k => match k with
  | 0 => .object "NinetyNights$Tape"
  | 1 => .array .long
  | 2 => .array .int
  | 3 => .array .int
  | 4 => .array .long
  | 5 => .int
  | _ => .int
abbrev wsX90 : List Cond := u_ws RX9 TX9 7
theorem nmX9 : ∀ a, a < 7 → ∀ b, b < 7 → a ≠ b → (TX9 a).2.1 ≠ (TX9 b).2.1 := by decide +kernel
theorem tyX9_ok : ∀ k, k < 7 → parseFieldDescriptor (TX9 k).2.2.1 = some (tyX9 k) := by decide +kernel
abbrev cX9_init : ByteArray := prog_11_method_1_code
def yX9_init : MethodName := ⟨RX9, "<init>", "(LNinetyNights$Tape;)V"⟩
abbrev cX9_scan : ByteArray := prog_11_method_2_code
def yX9_scan : MethodName := ⟨RX9, "scan", "()V"⟩
abbrev cX9_kindOf : ByteArray := prog_11_method_3_code
def yX9_kindOf : MethodName := ⟨RX9, "kindOf", "(I)I"⟩
abbrev cX9_placeOf : ByteArray := prog_11_method_4_code
def yX9_placeOf : MethodName := ⟨RX9, "placeOf", "(I)I"⟩
abbrev cX9_valueOf : ByteArray := prog_11_method_5_code
def yX9_valueOf : MethodName := ⟨RX9, "valueOf", "(I)J"⟩
abbrev cX9_skipBlanks : ByteArray := prog_11_method_6_code
def yX9_skipBlanks : MethodName := ⟨RX9, "skipBlanks", "()V"⟩
abbrev cX9_take : ByteArray := prog_11_method_7_code
def yX9_take : MethodName := ⟨RX9, "take", "()I"⟩
abbrev cX9_takeWord : ByteArray := prog_11_method_8_code
def yX9_takeWord : MethodName := ⟨RX9, "takeWord", "()I"⟩
abbrev cX9_takeNumber : ByteArray := prog_11_method_9_code
def yX9_takeNumber : MethodName := ⟨RX9, "takeNumber", "()I"⟩
abbrev cX9_isLetter : ByteArray := prog_11_method_10_code
def yX9_isLetter : MethodName := ⟨RX9, "isLetter", "(I)Z"⟩
abbrev cX9_isDigit : ByteArray := prog_11_method_11_code
def yX9_isDigit : MethodName := ⟨RX9, "isDigit", "(I)Z"⟩
def RX10 : String := "NinetyNights$Views"
def TX10 : u_T := fun k => match k with
  | 0 => ("NinetyNights$Views", "groups", "[[I", true)
  | _ => ("NinetyNights$Views", "firsts", "[I", true)
def tyX10 : Nat → FieldType := fun k => match k with
  | 0 => .array (.array .int)
  | _ => .array .int
abbrev wsX100 : List Cond := u_ws RX10 TX10 2
theorem nmX10 : ∀ a, a < 2 → ∀ b, b < 2 → a ≠ b → (TX10 a).2.1 ≠ (TX10 b).2.1 := by decide +kernel
theorem tyX10_ok : ∀ k, k < 2 → parseFieldDescriptor (TX10 k).2.2.1 = some (tyX10 k) := by decide +kernel
abbrev cX10_init : ByteArray := prog_12_method_1_code
def yX10_init : MethodName := ⟨RX10, "<init>", "()V"⟩
abbrev cX10_open : ByteArray := prog_12_method_2_code
def yX10_open : MethodName := ⟨RX10, "open", "(LNinetyNights$Island;)V"⟩
abbrev cX10_of : ByteArray := prog_12_method_3_code
def yX10_of : MethodName := ⟨RX10, "of", "(I)[I"⟩
abbrev cX10_areAlike : ByteArray := prog_12_method_4_code
def yX10_areAlike : MethodName := ⟨RX10, "areAlike", "(III)Z"⟩
abbrev cX10_split : ByteArray := prog_12_method_5_code
def yX10_split : MethodName := ⟨RX10, "split", "(I[ILNinetyNights$Scene;)V"⟩
abbrev cX10_copy : ByteArray := prog_12_method_6_code
def yX10_copy : MethodName := ⟨RX10, "copy", "(LNinetyNights$Views;)V"⟩
def RX11 : String := "NinetyNights"
def TX11 : u_T := fun k => match k with
  | 0 => ("NinetyNights", "tape", "LNinetyNights$Tape;", true)
  | 1 => ("NinetyNights", "formula", "LNinetyNights$Code;", true)
  | 2 => ("NinetyNights", "told", "LNinetyNights$Island;", false)
  | 3 => ("NinetyNights", "draft", "LNinetyNights$Island;", false)
  | 4 => ("NinetyNights", "reader", "LNinetyNights$Reader;", true)
  | 5 => ("NinetyNights", "mind", "LNinetyNights$Mind;", true)
  | 6 => ("NinetyNights", "now", "LNinetyNights$Scene;", true)
  | 7 => ("NinetyNights", "trial", "LNinetyNights$Scene;", true)
  | 8 => ("NinetyNights", "boxes", "[LNinetyNights$Scene;", true)
  | 9 => ("NinetyNights", "filled", "[Z", true)
  | 10 => ("NinetyNights", "sights", "LNinetyNights$Sights;", true)
  | 11 => ("NinetyNights", "guesses", "LNinetyNights$Guesses;", true)
  | _ => ("NinetyNights", "left", "[J", true)
def tyX11 : Nat → FieldType := fun k => match k with
  | 0 => .object "NinetyNights$Tape"
  | 1 => .object "NinetyNights$Code"
  | 2 => .object "NinetyNights$Island"
  | 3 => .object "NinetyNights$Island"
  | 4 => .object "NinetyNights$Reader"
  | 5 => .object "NinetyNights$Mind"
  | 6 => .object "NinetyNights$Scene"
  | 7 => .object "NinetyNights$Scene"
  | 8 => .array (.object "NinetyNights$Scene")
  | 9 => .array .boolean
  | 10 => .object "NinetyNights$Sights"
  | 11 => .object "NinetyNights$Guesses"
  | _ => .array .long
abbrev wsX110 : List Cond := u_ws RX11 TX11 13
theorem nmX11 : ∀ a, a < 13 → ∀ b, b < 13 → a ≠ b → (TX11 a).2.1 ≠ (TX11 b).2.1 := by decide +kernel
theorem tyX11_ok : ∀ k, k < 13 → parseFieldDescriptor (TX11 k).2.2.1 = some (tyX11 k) := by decide +kernel
abbrev cX11_init : ByteArray := prog_1_method_1_code
def yX11_init : MethodName := ⟨RX11, "<init>", "()V"⟩
abbrev cX11_feed : ByteArray := prog_1_method_2_code
def yX11_feed : MethodName := ⟨RX11, "feed", "(IIIII)I"⟩
abbrev cX11_end : ByteArray := prog_1_method_3_code
def yX11_end : MethodName := ⟨RX11, "end", "(I)I"⟩
abbrev cX11_island : ByteArray := prog_1_method_4_code
def yX11_island : MethodName := ⟨RX11, "island", "()I"⟩
abbrev cX11_fault : ByteArray := prog_1_method_5_code
def yX11_fault : MethodName := ⟨RX11, "fault", "(I)I"⟩
abbrev cX11_sees : ByteArray := prog_1_method_6_code
def yX11_sees : MethodName := ⟨RX11, "sees", "(I)I"⟩
abbrev cX11_worlds : ByteArray := prog_1_method_7_code
def yX11_worlds : MethodName := ⟨RX11, "worlds", "()I"⟩
abbrev cX11_possible : ByteArray := prog_1_method_8_code
def yX11_possible : MethodName := ⟨RX11, "possible", "(I)I"⟩
abbrev cX11_like : ByteArray := prog_1_method_9_code
def yX11_like : MethodName := ⟨RX11, "like", "(III)I"⟩
abbrev cX11_own : ByteArray := prog_1_method_10_code
def yX11_own : MethodName := ⟨RX11, "own", "(I)I"⟩
abbrev cX11_ask : ByteArray := prog_1_method_11_code
def yX11_ask : MethodName := ⟨RX11, "ask", "()I"⟩
abbrev cX11_holds : ByteArray := prog_1_method_12_code
def yX11_holds : MethodName := ⟨RX11, "holds", "()I"⟩
abbrev cX11_deep : ByteArray := prog_1_method_13_code
def yX11_deep : MethodName := ⟨RX11, "deep", "()I"⟩
abbrev cX11_say : ByteArray := prog_1_method_14_code
def yX11_say : MethodName := ⟨RX11, "say", "()I"⟩
abbrev cX11_saying : ByteArray := prog_1_method_15_code
def yX11_saying : MethodName := ⟨RX11, "saying", "(I)I"⟩
abbrev cX11_whisper : ByteArray := prog_1_method_16_code
def yX11_whisper : MethodName := ⟨RX11, "whisper", "(I)I"⟩
abbrev cX11_night : ByteArray := prog_1_method_17_code
def yX11_night : MethodName := ⟨RX11, "night", "()I"⟩
abbrev cX11_gone : ByteArray := prog_1_method_18_code
def yX11_gone : MethodName := ⟨RX11, "gone", "()I"⟩
abbrev cX11_when : ByteArray := prog_1_method_19_code
def yX11_when : MethodName := ⟨RX11, "when", "(I)I"⟩
abbrev cX11_fewest : ByteArray := prog_1_method_20_code
def yX11_fewest : MethodName := ⟨RX11, "fewest", "(II)I"⟩
abbrev cX11_sight : ByteArray := prog_1_method_21_code
def yX11_sight : MethodName := ⟨RX11, "sight", "(IIZ)I"⟩
abbrev cX11_untell : ByteArray := prog_1_method_22_code
def yX11_untell : MethodName := ⟨RX11, "untell", "(I)Z"⟩
abbrev cX11_later : ByteArray := prog_1_method_23_code
def yX11_later : MethodName := ⟨RX11, "later", "(I)I"⟩
abbrev cX11_fits : ByteArray := prog_1_method_24_code
def yX11_fits : MethodName := ⟨RX11, "fits", "(I)I"⟩
abbrev cX11_sure : ByteArray := prog_1_method_25_code
def yX11_sure : MethodName := ⟨RX11, "sure", "(II)I"⟩
abbrev cX11_image : ByteArray := prog_1_method_26_code
def yX11_image : MethodName := ⟨RX11, "image", "(I)I"⟩
abbrev cX11_back : ByteArray := prog_1_method_27_code
def yX11_back : MethodName := ⟨RX11, "back", "(I)I"⟩
abbrev cX11_about : ByteArray := prog_1_method_28_code
def yX11_about : MethodName := ⟨RX11, "about", "(I)I"⟩
abbrev cX11_weighTape : ByteArray := prog_1_method_29_code
def yX11_weighTape : MethodName := ⟨RX11, "weighTape", "()Z"⟩
abbrev cX11_trySayings : ByteArray := prog_1_method_30_code
def yX11_trySayings : MethodName := ⟨RX11, "trySayings", "()J"⟩
abbrev cX11_takeLeft : ByteArray := prog_1_method_31_code
def yX11_takeLeft : MethodName := ⟨RX11, "takeLeft", "(I)V"⟩
abbrev cX11_goJust : ByteArray := prog_1_method_32_code
def yX11_goJust : MethodName := ⟨RX11, "goJust", "(III)Z"⟩
abbrev cX11_countFits : ByteArray := prog_1_method_33_code
def yX11_countFits : MethodName := ⟨RX11, "countFits", "(I)I"⟩
def RX12 : String := "NinetyNightsModel"
def TX12 : u_T := fun k => match k with
  | 0 => ("NinetyNightsModel", "tape", "[B", true)
  | 1 => ("NinetyNightsModel", "text", "[B", true)
  | 2 => ("NinetyNightsModel", "taped", "I", false)
  | 3 => ("NinetyNightsModel", "size", "I", false)
  | 4 => ("NinetyNightsModel", "faultKind", "I", false)
  | 5 => ("NinetyNightsModel", "faultPlace", "I", false)
  | 6 => ("NinetyNightsModel", "at", "I", false)
  | 7 => ("NinetyNightsModel", "end", "I", false)
  | 8 => ("NinetyNightsModel", "token", "I", false)
  | 9 => ("NinetyNightsModel", "number", "I", false)
  | 10 => ("NinetyNightsModel", "name", "J", false)
  | 11 => ("NinetyNightsModel", "people", "[I", true)
  | 12 => ("NinetyNightsModel", "blinds", "[I", true)
  | 13 => ("NinetyNightsModel", "sayings", "[I", true)
  | 14 => ("NinetyNightsModel", "unitsOf", "[I", true)
  | 15 => ("NinetyNightsModel", "trueWorld", "[I", true)
  | 16 => ("NinetyNightsModel", "sees", "[I", true)
  | 17 => ("NinetyNightsModel", "sFrom", "[I", true)
  | 18 => ("NinetyNightsModel", "sTo", "[I", true)
  | 19 => ("NinetyNightsModel", "isOwnLaw", "[Z", true)
  | 20 => ("NinetyNightsModel", "isLaw", "[Z", true)
  | 21 => ("NinetyNightsModel", "stays", "[Z", true)
  | 22 => ("NinetyNightsModel", "pName", "[J", true)
  | 23 => ("NinetyNightsModel", "code", "[I", true)
  | 24 => ("NinetyNightsModel", "codeNumber", "[I", true)
  | 25 => ("NinetyNightsModel", "eWhat", "[I", true)
  | 26 => ("NinetyNightsModel", "eSign", "[I", true)
  | 27 => ("NinetyNightsModel", "eNumber", "[I", true)
  | 28 => ("NinetyNightsModel", "bank", "I", false)
  | 29 => ("NinetyNightsModel", "rb", "I", false)
  | 30 => ("NinetyNightsModel", "unitsAt", "I", false)
  | 31 => ("NinetyNightsModel", "mostUnits", "I", false)
  | 32 => ("NinetyNightsModel", "codes", "I", false)
  | 33 => ("NinetyNightsModel", "within", "I", false)
  | 34 => ("NinetyNightsModel", "piled", "I", false)
  | 35 => ("NinetyNightsModel", "possible", "[Z", true)
  | 36 => ("NinetyNightsModel", "wSo", "[Z", true)
  | 37 => ("NinetyNightsModel", "wTo", "[I", true)
  | 38 => ("NinetyNightsModel", "whispers", "I", false)
  | 39 => ("NinetyNightsModel", "nights", "I", false)
  | 40 => ("NinetyNightsModel", "goneSet", "I", false)
  | 41 => ("NinetyNightsModel", "pile", "[I", true)
  | 42 => ("NinetyNightsModel", "reached", "[I", true)
  | 43 => ("NinetyNightsModel", "nextRow", "[I", true)
  | 44 => ("NinetyNightsModel", "part", "[I", true)
  | 45 => ("NinetyNightsModel", "hasZero", "[Z", true)
  | 46 => ("NinetyNightsModel", "hasParts", "Z", false)
  | 47 => ("NinetyNightsModel", "goers", "[I", true)
  | 48 => ("NinetyNightsModel", "struck", "I", false)
  | 49 => ("NinetyNightsModel", "gPlace", "[I", true)
  | 50 => ("NinetyNightsModel", "gNight", "[I", true)
  | 51 => ("NinetyNightsModel", "gTold", "[I", true)
  | 52 => ("NinetyNightsModel", "gUntold", "[I", true)
  | 53 => ("NinetyNightsModel", "past", "[I", true)
  | 54 => ("NinetyNightsModel", "goneOf", "[I", true)
  | 55 => ("NinetyNightsModel", "goesOf", "[I", true)
  | 56 => ("NinetyNightsModel", "pastThen", "[I", true)
  | 57 => ("NinetyNightsModel", "gWent", "[Z", true)
  | 58 => ("NinetyNightsModel", "fitsYet", "[Z", true)
  | 59 => ("NinetyNightsModel", "sights", "I", false)
  | 60 => ("NinetyNightsModel", "time", "I", false)
  | 61 => ("NinetyNightsModel", "marksMet", "I", false)
  | 62 => ("NinetyNightsModel", "boxNights", "[I", true)
  | 63 => ("NinetyNightsModel", "boxGone", "[I", true)
  | 64 => ("NinetyNightsModel", "boxWhispers", "[I", true)
  | 65 => ("NinetyNightsModel", "boxTo", "[I", true)
  | 66 => ("NinetyNightsModel", "boxPossible", "[Z", true)
  | _ => ("NinetyNightsModel", "boxSo", "[Z", true)
def tyX12 : Nat → FieldType := fun k => match k with
  | 0 => .array .byte
  | 1 => .array .byte
  | 2 => .int
  | 3 => .int
  | 4 => .int
  | 5 => .int
  | 6 => .int
  | 7 => .int
  | 8 => .int
  | 9 => .int
  | 10 => .long
  | 11 => .array .int
  | 12 => .array .int
  | 13 => .array .int
  | 14 => .array .int
  | 15 => .array .int
  | 16 => .array .int
  | 17 => .array .int
  | 18 => .array .int
  | 19 => .array .boolean
  | 20 => .array .boolean
  | 21 => .array .boolean
  | 22 => .array .long
  | 23 => .array .int
  | 24 => .array .int
  | 25 => .array .int
  | 26 => .array .int
  | 27 => .array .int
  | 28 => .int
  | 29 => .int
  | 30 => .int
  | 31 => .int
  | 32 => .int
  | 33 => .int
  | 34 => .int
  | 35 => .array .boolean
  | 36 => .array .boolean
  | 37 => .array .int
  | 38 => .int
  | 39 => .int
  | 40 => .int
  | 41 => .array .int
  | 42 => .array .int
  | 43 => .array .int
  | 44 => .array .int
  | 45 => .array .boolean
  | 46 => .boolean
  | 47 => .array .int
  | 48 => .int
  | 49 => .array .int
  | 50 => .array .int
  | 51 => .array .int
  | 52 => .array .int
  | 53 => .array .int
  | 54 => .array .int
  | 55 => .array .int
  | 56 => .array .int
  | 57 => .array .boolean
  | 58 => .array .boolean
  | 59 => .int
  | 60 => .int
  | 61 => .int
  | 62 => .array .int
  | 63 => .array .int
  | 64 => .array .int
  | 65 => .array .int
  | 66 => .array .boolean
  | _ => .array .boolean
abbrev wsX120 : List Cond := u_ws RX12 TX12 68
theorem nmX12 : ∀ a, a < 68 → ∀ b, b < 68 → a ≠ b → (TX12 a).2.1 ≠ (TX12 b).2.1 := by decide +kernel
theorem tyX12_ok : ∀ k, k < 68 → parseFieldDescriptor (TX12 k).2.2.1 = some (tyX12 k) := by decide +kernel
abbrev cX12_init : ByteArray := prog_14_method_1_code
def yX12_init : MethodName := ⟨RX12, "<init>", "()V"⟩
abbrev cX12_sign : ByteArray := prog_14_method_2_code
def yX12_sign : MethodName := ⟨RX12, "sign", "(I)I"⟩
abbrev cX12_isLetter : ByteArray := prog_14_method_3_code
def yX12_isLetter : MethodName := ⟨RX12, "isLetter", "(I)Z"⟩
abbrev cX12_isDigit : ByteArray := prog_14_method_4_code
def yX12_isDigit : MethodName := ⟨RX12, "isDigit", "(I)Z"⟩
abbrev cX12_fails : ByteArray := prog_14_method_5_code
def yX12_fails : MethodName := ⟨RX12, "fails", "(II)V"⟩
abbrev cX12_isGood : ByteArray := prog_14_method_6_code
def yX12_isGood : MethodName := ⟨RX12, "isGood", "()Z"⟩
abbrev cX12_isKept : ByteArray := prog_14_method_7_code
def yX12_isKept : MethodName := ⟨RX12, "isKept", "(J)Z"⟩
abbrev cX12_isSign : ByteArray := prog_14_method_8_code
def yX12_isSign : MethodName := ⟨RX12, "isSign", "(I)Z"⟩
abbrev cX12_goOn : ByteArray := prog_14_method_9_code
def yX12_goOn : MethodName := ⟨RX12, "goOn", "()V"⟩
abbrev cX12_stands : ByteArray := prog_14_method_10_code
def yX12_stands : MethodName := ⟨RX12, "stands", "(I)Z"⟩
abbrev cX12_isWord : ByteArray := prog_14_method_11_code
def yX12_isWord : MethodName := ⟨RX12, "isWord", "(J)Z"⟩
abbrev cX12_misplaced : ByteArray := prog_14_method_12_code
def yX12_misplaced : MethodName := ⟨RX12, "misplaced", "()V"⟩
abbrev cX12_must : ByteArray := prog_14_method_13_code
def yX12_must : MethodName := ⟨RX12, "must", "(Z)V"⟩
abbrev cX12_clearBank : ByteArray := prog_14_method_14_code
def yX12_clearBank : MethodName := ⟨RX12, "clearBank", "()V"⟩
abbrev cX12_beginText : ByteArray := prog_14_method_15_code
def yX12_beginText : MethodName := ⟨RX12, "beginText", "()V"⟩
abbrev cX12_island : ByteArray := prog_14_method_16_code
def yX12_island : MethodName := ⟨RX12, "island", "()I"⟩
abbrev cX12_isBehind : ByteArray := prog_14_method_17_code
def yX12_isBehind : MethodName := ⟨RX12, "isBehind", "()Z"⟩
abbrev cX12_isFull : ByteArray := prog_14_method_18_code
def yX12_isFull : MethodName := ⟨RX12, "isFull", "()Z"⟩
abbrev cX12_readLine : ByteArray := prog_14_method_19_code
def yX12_readLine : MethodName := ⟨RX12, "readLine", "()V"⟩
abbrev cX12_here : ByteArray := prog_14_method_20_code
def yX12_here : MethodName := ⟨RX12, "here", "()I"⟩
abbrev cX12_known : ByteArray := prog_14_method_21_code
def yX12_known : MethodName := ⟨RX12, "known", "(I)I"⟩
abbrev cX12_flag : ByteArray := prog_14_method_22_code
def yX12_flag : MethodName := ⟨RX12, "flag", "(J)Z"⟩
abbrev cX12_readOne : ByteArray := prog_14_method_23_code
def yX12_readOne : MethodName := ⟨RX12, "readOne", "()V"⟩
abbrev cX12_readBlind : ByteArray := prog_14_method_24_code
def yX12_readBlind : MethodName := ⟨RX12, "readBlind", "()V"⟩
abbrev cX12_readLaw : ByteArray := prog_14_method_25_code
def yX12_readLaw : MethodName := ⟨RX12, "readLaw", "()V"⟩
abbrev cX12_readSaying : ByteArray := prog_14_method_26_code
def yX12_readSaying : MethodName := ⟨RX12, "readSaying", "()V"⟩
abbrev cX12_emit : ByteArray := prog_14_method_27_code
def yX12_emit : MethodName := ⟨RX12, "emit", "(II)V"⟩
abbrev cX12_pushE : ByteArray := prog_14_method_28_code
def yX12_pushE : MethodName := ⟨RX12, "pushE", "(III)V"⟩
abbrev cX12_f : ByteArray := prog_14_method_29_code
def yX12_f : MethodName := ⟨RX12, "f", "()V"⟩
abbrev cX12_unitHere : ByteArray := prog_14_method_30_code
def yX12_unitHere : MethodName := ⟨RX12, "unitHere", "()I"⟩
abbrev cX12_unit : ByteArray := prog_14_method_31_code
def yX12_unit : MethodName := ⟨RX12, "unit", "()Z"⟩
abbrev cX12_rankHere : ByteArray := prog_14_method_32_code
def yX12_rankHere : MethodName := ⟨RX12, "rankHere", "()I"⟩
abbrev cX12_isCompared : ByteArray := prog_14_method_33_code
def yX12_isCompared : MethodName := ⟨RX12, "isCompared", "()Z"⟩
abbrev cX12_behindUnit : ByteArray := prog_14_method_34_code
def yX12_behindUnit : MethodName := ⟨RX12, "behindUnit", "()Z"⟩
abbrev cX12_readAlone : ByteArray := prog_14_method_35_code
def yX12_readAlone : MethodName := ⟨RX12, "readAlone", "()Z"⟩
abbrev cX12_fault : ByteArray := prog_14_method_36_code
def yX12_fault : MethodName := ⟨RX12, "fault", "(I)I"⟩
abbrev cX12_isIn : ByteArray := prog_14_method_37_code
def yX12_isIn : MethodName := ⟨RX12, "isIn", "(III)Z"⟩
abbrev cX12_bitsOf : ByteArray := prog_14_method_38_code
def yX12_bitsOf : MethodName := ⟨RX12, "bitsOf", "(I)I"⟩
abbrev cX12_manyOf : ByteArray := prog_14_method_39_code
def yX12_manyOf : MethodName := ⟨RX12, "manyOf", "()I"⟩
abbrev cX12_worldMany : ByteArray := prog_14_method_40_code
def yX12_worldMany : MethodName := ⟨RX12, "worldMany", "()I"⟩
abbrev cX12_isOne : ByteArray := prog_14_method_41_code
def yX12_isOne : MethodName := ⟨RX12, "isOne", "(I)Z"⟩
abbrev cX12_seesOf : ByteArray := prog_14_method_42_code
def yX12_seesOf : MethodName := ⟨RX12, "seesOf", "(I)I"⟩
abbrev cX12_begin : ByteArray := prog_14_method_43_code
def yX12_begin : MethodName := ⟨RX12, "begin", "()V"⟩
abbrev cX12_areLike : ByteArray := prog_14_method_44_code
def yX12_areLike : MethodName := ⟨RX12, "areLike", "(III)Z"⟩
abbrev cX12_sees : ByteArray := prog_14_method_45_code
def yX12_sees : MethodName := ⟨RX12, "sees", "(I)I"⟩
abbrev cX12_worlds : ByteArray := prog_14_method_46_code
def yX12_worlds : MethodName := ⟨RX12, "worlds", "()I"⟩
abbrev cX12_isWorld : ByteArray := prog_14_method_47_code
def yX12_isWorld : MethodName := ⟨RX12, "isWorld", "(I)Z"⟩
abbrev cX12_possible : ByteArray := prog_14_method_48_code
def yX12_possible : MethodName := ⟨RX12, "possible", "(I)I"⟩
abbrev cX12_like : ByteArray := prog_14_method_49_code
def yX12_like : MethodName := ⟨RX12, "like", "(III)I"⟩
abbrev cX12_doesKnow : ByteArray := prog_14_method_50_code
def yX12_doesKnow : MethodName := ⟨RX12, "doesKnow", "(III)Z"⟩
abbrev cX12_knowsOf : ByteArray := prog_14_method_51_code
def yX12_knowsOf : MethodName := ⟨RX12, "knowsOf", "(II)V"⟩
abbrev cX12_allKnow : ByteArray := prog_14_method_52_code
def yX12_allKnow : MethodName := ⟨RX12, "allKnow", "(I)V"⟩
abbrev cX12_layParts : ByteArray := prog_14_method_53_code
def yX12_layParts : MethodName := ⟨RX12, "layParts", "()V"⟩
abbrev cX12_layPart : ByteArray := prog_14_method_54_code
def yX12_layPart : MethodName := ⟨RX12, "layPart", "(I)V"⟩
abbrev cX12_commonOf : ByteArray := prog_14_method_55_code
def yX12_commonOf : MethodName := ⟨RX12, "commonOf", "(I)V"⟩
abbrev cX12_isCommon : ByteArray := prog_14_method_56_code
def yX12_isCommon : MethodName := ⟨RX12, "isCommon", "(I)Z"⟩
abbrev cX12_two : ByteArray := prog_14_method_57_code
def yX12_two : MethodName := ⟨RX12, "two", "(III)I"⟩
abbrev cX12_plain : ByteArray := prog_14_method_58_code
def yX12_plain : MethodName := ⟨RX12, "plain", "(III)I"⟩
abbrev cX12_work : ByteArray := prog_14_method_59_code
def yX12_work : MethodName := ⟨RX12, "work", "(II)V"⟩
abbrev cX12_theTrue : ByteArray := prog_14_method_60_code
def yX12_theTrue : MethodName := ⟨RX12, "theTrue", "()I"⟩
abbrev cX12_ask : ByteArray := prog_14_method_61_code
def yX12_ask : MethodName := ⟨RX12, "ask", "()I"⟩
abbrev cX12_holds : ByteArray := prog_14_method_62_code
def yX12_holds : MethodName := ⟨RX12, "holds", "()I"⟩
abbrev cX12_deep : ByteArray := prog_14_method_63_code
def yX12_deep : MethodName := ⟨RX12, "deep", "()I"⟩
abbrev cX12_strike : ByteArray := prog_14_method_64_code
def yX12_strike : MethodName := ⟨RX12, "strike", "()I"⟩
abbrev cX12_say : ByteArray := prog_14_method_65_code
def yX12_say : MethodName := ⟨RX12, "say", "()I"⟩
abbrev cX12_saying : ByteArray := prog_14_method_66_code
def yX12_saying : MethodName := ⟨RX12, "saying", "(I)I"⟩
abbrev cX12_whisper : ByteArray := prog_14_method_67_code
def yX12_whisper : MethodName := ⟨RX12, "whisper", "(I)I"⟩
abbrev cX12_goersIn : ByteArray := prog_14_method_68_code
def yX12_goersIn : MethodName := ⟨RX12, "goersIn", "(I)I"⟩
abbrev cX12_oneNight : ByteArray := prog_14_method_69_code
def yX12_oneNight : MethodName := ⟨RX12, "oneNight", "()I"⟩
abbrev cX12_night : ByteArray := prog_14_method_70_code
def yX12_night : MethodName := ⟨RX12, "night", "()I"⟩
abbrev cX12_gone : ByteArray := prog_14_method_71_code
def yX12_gone : MethodName := ⟨RX12, "gone", "()I"⟩
abbrev cX12_own : ByteArray := prog_14_method_72_code
def yX12_own : MethodName := ⟨RX12, "own", "(I)I"⟩
abbrev cX12_when : ByteArray := prog_14_method_73_code
def yX12_when : MethodName := ⟨RX12, "when", "(I)I"⟩
abbrev cX12_fewest : ByteArray := prog_14_method_74_code
def yX12_fewest : MethodName := ⟨RX12, "fewest", "(II)I"⟩
abbrev cX12_goBy : ByteArray := prog_14_method_75_code
def yX12_goBy : MethodName := ⟨RX12, "goBy", "(II)I"⟩
abbrev cX12_sight : ByteArray := prog_14_method_76_code
def yX12_sight : MethodName := ⟨RX12, "sight", "(IIZ)I"⟩
abbrev cX12_untell : ByteArray := prog_14_method_77_code
def yX12_untell : MethodName := ⟨RX12, "untell", "(I)Z"⟩
abbrev cX12_later : ByteArray := prog_14_method_78_code
def yX12_later : MethodName := ⟨RX12, "later", "(I)I"⟩
abbrev cX12_goesIn : ByteArray := prog_14_method_79_code
def yX12_goesIn : MethodName := ⟨RX12, "goesIn", "(I)I"⟩
abbrev cX12_nightOfAll : ByteArray := prog_14_method_80_code
def yX12_nightOfAll : MethodName := ⟨RX12, "nightOfAll", "(II)V"⟩
abbrev cX12_fitsBy : ByteArray := prog_14_method_81_code
def yX12_fitsBy : MethodName := ⟨RX12, "fitsBy", "(III)I"⟩
abbrev cX12_fitsOf : ByteArray := prog_14_method_82_code
def yX12_fitsOf : MethodName := ⟨RX12, "fitsOf", "(II)I"⟩
abbrev cX12_fits : ByteArray := prog_14_method_83_code
def yX12_fits : MethodName := ⟨RX12, "fits", "(I)I"⟩
abbrev cX12_sure : ByteArray := prog_14_method_84_code
def yX12_sure : MethodName := ⟨RX12, "sure", "(II)I"⟩
abbrev cX12_keep : ByteArray := prog_14_method_85_code
def yX12_keep : MethodName := ⟨RX12, "keep", "(I)V"⟩
abbrev cX12_bring : ByteArray := prog_14_method_86_code
def yX12_bring : MethodName := ⟨RX12, "bring", "(I)V"⟩
abbrev cX12_image : ByteArray := prog_14_method_87_code
def yX12_image : MethodName := ⟨RX12, "image", "(I)I"⟩
abbrev cX12_back : ByteArray := prog_14_method_88_code
def yX12_back : MethodName := ⟨RX12, "back", "(I)I"⟩
abbrev cX12_about : ByteArray := prog_14_method_89_code
def yX12_about : MethodName := ⟨RX12, "about", "(I)I"⟩
abbrev cX12_feed : ByteArray := prog_14_method_90_code
def yX12_feed : MethodName := ⟨RX12, "feed", "(IIIII)I"⟩
abbrev cX12_end : ByteArray := prog_14_method_91_code
def yX12_end : MethodName := ⟨RX12, "end", "(I)I"⟩
def RJ11 : String := "java/lang/Character"
def TJ11 : u_T := fun k => match k with
  | _ => ("", "", "", false)
def tyJ11 : Nat → FieldType := fun k => match k with
  | _ => .int
abbrev wsJ110 : List Cond := u_ws RJ11 TJ11 0
theorem nmJ11 : ∀ a, a < 0 → ∀ b, b < 0 → a ≠ b → (TJ11 a).2.1 ≠ (TJ11 b).2.1 := by decide +kernel
theorem tyJ11_ok : ∀ k, k < 0 → parseFieldDescriptor (TJ11 k).2.2.1 = some (tyJ11 k) := by decide +kernel
abbrev cJ11_isValidCodePoint_9a6ad : ByteArray := prog_15_method_11_code
def yJ11_isValidCodePoint_9a6ad : MethodName := ⟨RJ11, "isValidCodePoint", "(I)Z"⟩
abbrev cJ11_highSurrogate_5068e : ByteArray := prog_15_method_28_code
def yJ11_highSurrogate_5068e : MethodName := ⟨RJ11, "highSurrogate", "(I)C"⟩
abbrev cJ11_lowSurrogate_5068e : ByteArray := prog_15_method_29_code
def yJ11_lowSurrogate_5068e : MethodName := ⟨RJ11, "lowSurrogate", "(I)C"⟩
def RJ6 : String := "java/lang/Integer"
def TJ6 : u_T := fun k => match k with
  | _ => ("", "", "", false)
def tyJ6 : Nat → FieldType := fun k => match k with
  | _ => .int
abbrev wsJ60 : List Cond := u_ws RJ6 TJ6 0
theorem nmJ6 : ∀ a, a < 0 → ∀ b, b < 0 → a ≠ b → (TJ6 a).2.1 ≠ (TJ6 b).2.1 := by decide +kernel
theorem tyJ6_ok : ∀ k, k < 0 → parseFieldDescriptor (TJ6 k).2.2.1 = some (tyJ6 k) := by decide +kernel
abbrev cJ6_bitCount_0f7a4 : ByteArray := prog_16_method_49_code
def yJ6_bitCount_0f7a4 : MethodName := ⟨RJ6, "bitCount", "(I)I"⟩
def RJ9 : String := "java/lang/Math"
def TJ9 : u_T := fun k => match k with
  | _ => ("", "", "", false)
def tyJ9 : Nat → FieldType := fun k => match k with
  | _ => .int
abbrev wsJ90 : List Cond := u_ws RJ9 TJ9 0
theorem nmJ9 : ∀ a, a < 0 → ∀ b, b < 0 → a ≠ b → (TJ9 a).2.1 ≠ (TJ9 b).2.1 := by decide +kernel
theorem tyJ9_ok : ∀ k, k < 0 → parseFieldDescriptor (TJ9 k).2.2.1 = some (tyJ9 k) := by decide +kernel
abbrev cJ9_max_7cf53 : ByteArray := prog_17_method_65_code
def yJ9_max_7cf53 : MethodName := ⟨RJ9, "max", "(II)I"⟩
abbrev cJ9_min_7cf53 : ByteArray := prog_17_method_69_code
def yJ9_min_7cf53 : MethodName := ⟨RJ9, "min", "(II)I"⟩
def RJ0 : String := "java/lang/String"
def TJ0 : u_T := fun k => match k with
  | _ => ("", "", "", false)
def tyJ0 : Nat → FieldType := fun k => match k with
  | _ => .int
abbrev wsJ00 : List Cond := u_ws RJ0 TJ0 0
theorem nmJ0 : ∀ a, a < 0 → ∀ b, b < 0 → a ≠ b → (TJ0 a).2.1 ≠ (TJ0 b).2.1 := by decide +kernel
theorem tyJ0_ok : ∀ k, k < 0 → parseFieldDescriptor (TJ0 k).2.2.1 = some (tyJ0 k) := by decide +kernel
abbrev cJ0_length_8abf5 : ByteArray := prog_18_method_54_code
def yJ0_length_8abf5 : MethodName := ⟨RJ0, "length", "()I"⟩
abbrev cJ0_charAt_5068e : ByteArray := prog_18_method_56_code
def yJ0_charAt_5068e : MethodName := ⟨RJ0, "charAt", "(I)C"⟩
abbrev cJ0_indexOf_0f7a4 : ByteArray := prog_18_method_79_code
def yJ0_indexOf_0f7a4 : MethodName := ⟨RJ0, "indexOf", "(I)I"⟩
abbrev cJ0_indexOf_7cf53 : ByteArray := prog_18_method_80_code
def yJ0_indexOf_7cf53 : MethodName := ⟨RJ0, "indexOf", "(II)I"⟩
abbrev cJ0_coder_7d493 : ByteArray := prog_18_method_152_code
def yJ0_coder_7d493 : MethodName := ⟨RJ0, "coder", "()B"⟩
abbrev cJ0_isLatin1_aae02 : ByteArray := prog_18_method_154_code
def yJ0_isLatin1_aae02 : MethodName := ⟨RJ0, "isLatin1", "()Z"⟩
abbrev cJ0_checkIndex_df160 : ByteArray := prog_18_method_155_code
def yJ0_checkIndex_df160 : MethodName := ⟨RJ0, "checkIndex", "(II)V"⟩
abbrev cJ0_checkBoundsBeginEnd_23922 : ByteArray := prog_18_method_158_code
def yJ0_checkBoundsBeginEnd_23922 : MethodName := ⟨RJ0, "checkBoundsBeginEnd", "(III)V"⟩
def RJ1 : String := "java/lang/StringLatin1"
def TJ1 : u_T := fun k => match k with
  | _ => ("", "", "", false)
def tyJ1 : Nat → FieldType := fun k => match k with
  | _ => .int
abbrev wsJ10 : List Cond := u_ws RJ1 TJ1 0
theorem nmJ1 : ∀ a, a < 0 → ∀ b, b < 0 → a ≠ b → (TJ1 a).2.1 ≠ (TJ1 b).2.1 := by decide +kernel
theorem tyJ1_ok : ∀ k, k < 0 → parseFieldDescriptor (TJ1 k).2.2.1 = some (tyJ1 k) := by decide +kernel
abbrev cJ1_charAt_3b067 : ByteArray := prog_19_method_2_code
def yJ1_charAt_3b067 : MethodName := ⟨RJ1, "charAt", "([BI)C"⟩
abbrev cJ1_canEncode_9a6ad : ByteArray := prog_19_method_4_code
def yJ1_canEncode_9a6ad : MethodName := ⟨RJ1, "canEncode", "(I)Z"⟩
abbrev cJ1_indexOf_4cfef : ByteArray := prog_19_method_22_code
def yJ1_indexOf_4cfef : MethodName := ⟨RJ1, "indexOf", "([BIII)I"⟩
abbrev cJ1_indexOfChar_4cfef : ByteArray := prog_19_method_23_code
def yJ1_indexOfChar_4cfef : MethodName := ⟨RJ1, "indexOfChar", "([BIII)I"⟩
def RJ2 : String := "java/lang/StringUTF16"
def TJ2 : u_T := fun k => match k with
  | _ => ("", "", "", false)
def tyJ2 : Nat → FieldType := fun k => match k with
  | _ => .int
abbrev wsJ20 : List Cond := u_ws RJ2 TJ2 0
theorem nmJ2 : ∀ a, a < 0 → ∀ b, b < 0 → a ≠ b → (TJ2 a).2.1 ≠ (TJ2 b).2.1 := by decide +kernel
theorem tyJ2_ok : ∀ k, k < 0 → parseFieldDescriptor (TJ2 k).2.2.1 = some (tyJ2 k) := by decide +kernel
abbrev cJ2_getChar_3b067 : ByteArray := prog_20_method_5_code
def yJ2_getChar_3b067 : MethodName := ⟨RJ2, "getChar", "([BI)C"⟩
abbrev cJ2_length_9d52b : ByteArray := prog_20_method_6_code
def yJ2_length_9d52b : MethodName := ⟨RJ2, "length", "([B)I"⟩
abbrev cJ2_indexOf_4cfef : ByteArray := prog_20_method_40_code
def yJ2_indexOf_4cfef : MethodName := ⟨RJ2, "indexOf", "([BIII)I"⟩
abbrev cJ2_indexOfChar_4cfef : ByteArray := prog_20_method_47_code
def yJ2_indexOfChar_4cfef : MethodName := ⟨RJ2, "indexOfChar", "([BIII)I"⟩
abbrev cJ2_indexOfCharUnsafe_4cfef : ByteArray := prog_20_method_48_code
def yJ2_indexOfCharUnsafe_4cfef : MethodName := ⟨RJ2, "indexOfCharUnsafe", "([BIII)I"⟩
abbrev cJ2_indexOfSupplementary_4cfef : ByteArray := prog_20_method_49_code
def yJ2_indexOfSupplementary_4cfef : MethodName := ⟨RJ2, "indexOfSupplementary", "([BIII)I"⟩
abbrev cJ2_charAt_3b067 : ByteArray := prog_20_method_83_code
def yJ2_charAt_3b067 : MethodName := ⟨RJ2, "charAt", "([BI)C"⟩
abbrev cJ2_checkIndex_2214a : ByteArray := prog_20_method_91_code
def yJ2_checkIndex_2214a : MethodName := ⟨RJ2, "checkIndex", "(I[B)V"⟩
abbrev cJ2_checkBoundsBeginEnd_d044e : ByteArray := prog_20_method_93_code
def yJ2_checkBoundsBeginEnd_d044e : MethodName := ⟨RJ2, "checkBoundsBeginEnd", "(II[B)V"⟩
def RJ10 : String := "java/lang/System"
def TJ10 : u_T := fun k => match k with
  | _ => ("", "", "", false)
def tyJ10 : Nat → FieldType := fun k => match k with
  | _ => .int
abbrev wsJ100 : List Cond := u_ws RJ10 TJ10 0
theorem nmJ10 : ∀ a, a < 0 → ∀ b, b < 0 → a ≠ b → (TJ10 a).2.1 ≠ (TJ10 b).2.1 := by decide +kernel
theorem tyJ10_ok : ∀ k, k < 0 → parseFieldDescriptor (TJ10 k).2.2.1 = some (tyJ10 k) := by decide +kernel
def RJ7 : String := "java/util/Arrays"
def TJ7 : u_T := fun k => match k with
  | _ => ("", "", "", false)
def tyJ7 : Nat → FieldType := fun k => match k with
  | _ => .int
abbrev wsJ70 : List Cond := u_ws RJ7 TJ7 0
theorem nmJ7 : ∀ a, a < 0 → ∀ b, b < 0 → a ≠ b → (TJ7 a).2.1 ≠ (TJ7 b).2.1 := by decide +kernel
theorem tyJ7_ok : ∀ k, k < 0 → parseFieldDescriptor (TJ7 k).2.2.1 = some (tyJ7 k) := by decide +kernel
abbrev cJ7_fill_d0a16 : ByteArray := prog_22_method_101_code
def yJ7_fill_d0a16 : MethodName := ⟨RJ7, "fill", "([JJ)V"⟩
abbrev cJ7_fill_53178 : ByteArray := prog_22_method_103_code
def yJ7_fill_53178 : MethodName := ⟨RJ7, "fill", "([II)V"⟩
def RJ3 : String := "jdk/internal/util/Preconditions"
def TJ3 : u_T := fun k => match k with
  | _ => ("", "", "", false)
def tyJ3 : Nat → FieldType := fun k => match k with
  | _ => .int
abbrev wsJ30 : List Cond := u_ws RJ3 TJ3 0
theorem nmJ3 : ∀ a, a < 0 → ∀ b, b < 0 → a ≠ b → (TJ3 a).2.1 ≠ (TJ3 b).2.1 := by decide +kernel
theorem tyJ3_ok : ∀ k, k < 0 → parseFieldDescriptor (TJ3 k).2.2.1 = some (tyJ3 k) := by decide +kernel
abbrev cJ3_checkIndex_8e157 : ByteArray := prog_23_method_11_code
def yJ3_checkIndex_8e157 : MethodName := ⟨RJ3, "checkIndex", "(IILjava/util/function/BiFunction;)I"⟩
abbrev cJ3_checkFromToIndex_8c36e : ByteArray := prog_23_method_12_code
def yJ3_checkFromToIndex_8c36e : MethodName := ⟨RJ3, "checkFromToIndex", "(IIILjava/util/function/BiFunction;)I"⟩
def RL : String := "NinetyNightsLaw"
abbrev cL_law : ByteArray := code
def yL_law : MethodName := ⟨RL, "law", "([I)Z"⟩
abbrev vwCl : List vw_C := [(RX0, TX0, 2), (RX1, TX1, 7), (RX2, TX2, 12), (RX4, TX4, 6), (RX5, TX5, 9), (RX6, TX6, 7), (RX7, TX7, 7), (RX8, TX8, 2), (RX9, TX9, 7), (RX10, TX10, 2), (RX11, TX11, 13), (RX12, TX12, 68)]
