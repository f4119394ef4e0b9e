section
-- ===== PART A: goes FIRST, ahead of the names: the tables' words, and 'selects' of the private methods out of them =====
/-- a private method of a class that the tables say can be made, by its rows of tables_1 -/
def lw_okq (q : MethodName × Nat) : Prop := (q.1.cls ≠ "java/lang/invoke/MethodHandle" ∧ q.1.cls ≠ "java/lang/invoke/VarHandle") ∧ Cond.instantiable q.1.cls q.2 ∈ tables_1 ∧ Cond.privateMethod q.1 ∈ tables_1 ∧ Cond.instanceMethod q.1 ∈ tables_1
theorem lw_p0 : lw_okq (⟨"AccentShop", "textOf", "(I)LAccentShop$Text;"⟩, 14) := ⟨⟨by decide +kernel, by decide +kernel⟩, List.mem_of_getElem? (i := 17) (by decide +kernel), List.mem_of_getElem? (i := 234) (by decide +kernel), List.mem_of_getElem? (i := 235) (by decide +kernel)⟩
theorem lw_p1 : lw_okq (⟨"AccentShop", "tellAgain", "()V"⟩, 14) := ⟨⟨by decide +kernel, by decide +kernel⟩, List.mem_of_getElem? (i := 17) (by decide +kernel), List.mem_of_getElem? (i := 243) (by decide +kernel), List.mem_of_getElem? (i := 244) (by decide +kernel)⟩
theorem lw_p2 : lw_okq (⟨"AccentShop$Text", "fits", "(III)Z"⟩, 5) := ⟨⟨by decide +kernel, by decide +kernel⟩, List.mem_of_getElem? (i := 25) (by decide +kernel), List.mem_of_getElem? (i := 255) (by decide +kernel), List.mem_of_getElem? (i := 256) (by decide +kernel)⟩
theorem lw_p3 : lw_okq (⟨"AccentShop", "beginAgain", "()V"⟩, 14) := ⟨⟨by decide +kernel, by decide +kernel⟩, List.mem_of_getElem? (i := 17) (by decide +kernel), List.mem_of_getElem? (i := 357) (by decide +kernel), List.mem_of_getElem? (i := 358) (by decide +kernel)⟩
theorem lw_p4 : lw_okq (⟨"AccentShop$Setting", "moveHiring", "(II)V"⟩, 10) := ⟨⟨by decide +kernel, by decide +kernel⟩, List.mem_of_getElem? (i := 53) (by decide +kernel), List.mem_of_getElem? (i := 418) (by decide +kernel), List.mem_of_getElem? (i := 419) (by decide +kernel)⟩
theorem lw_p5 : lw_okq (⟨"AccentShop", "finding", "(I)I"⟩, 14) := ⟨⟨by decide +kernel, by decide +kernel⟩, List.mem_of_getElem? (i := 17) (by decide +kernel), List.mem_of_getElem? (i := 426) (by decide +kernel), List.mem_of_getElem? (i := 427) (by decide +kernel)⟩
theorem lw_p6 : lw_okq (⟨"AccentShop", "standBehind", "(I)V"⟩, 14) := ⟨⟨by decide +kernel, by decide +kernel⟩, List.mem_of_getElem? (i := 17) (by decide +kernel), List.mem_of_getElem? (i := 434) (by decide +kernel), List.mem_of_getElem? (i := 435) (by decide +kernel)⟩
theorem lw_p7 : lw_okq (⟨"AccentShop$Walk", "doHirings", "()V"⟩, 6) := ⟨⟨by decide +kernel, by decide +kernel⟩, List.mem_of_getElem? (i := 107) (by decide +kernel), List.mem_of_getElem? (i := 442) (by decide +kernel), List.mem_of_getElem? (i := 443) (by decide +kernel)⟩
theorem lw_p8 : lw_okq (⟨"AccentShop$Walk", "countWearers", "()V"⟩, 6) := ⟨⟨by decide +kernel, by decide +kernel⟩, List.mem_of_getElem? (i := 107) (by decide +kernel), List.mem_of_getElem? (i := 447) (by decide +kernel), List.mem_of_getElem? (i := 448) (by decide +kernel)⟩
theorem lw_p9 : lw_okq (⟨"AccentShop$Walk", "talk", "(I)V"⟩, 6) := ⟨⟨by decide +kernel, by decide +kernel⟩, List.mem_of_getElem? (i := 107) (by decide +kernel), List.mem_of_getElem? (i := 452) (by decide +kernel), List.mem_of_getElem? (i := 453) (by decide +kernel)⟩
theorem lw_p10 : lw_okq (⟨"AccentShop$Walk", "learn", "(I)V"⟩, 6) := ⟨⟨by decide +kernel, by decide +kernel⟩, List.mem_of_getElem? (i := 107) (by decide +kernel), List.mem_of_getElem? (i := 459) (by decide +kernel), List.mem_of_getElem? (i := 460) (by decide +kernel)⟩
theorem lw_p11 : lw_okq (⟨"AccentShop", "findFirstDays", "(LAccentShop$Walk;)I"⟩, 14) := ⟨⟨by decide +kernel, by decide +kernel⟩, List.mem_of_getElem? (i := 17) (by decide +kernel), List.mem_of_getElem? (i := 483) (by decide +kernel), List.mem_of_getElem? (i := 484) (by decide +kernel)⟩
theorem lw_p12 : lw_okq (⟨"AccentShop", "clearTally", "()V"⟩, 14) := ⟨⟨by decide +kernel, by decide +kernel⟩, List.mem_of_getElem? (i := 17) (by decide +kernel), List.mem_of_getElem? (i := 504) (by decide +kernel), List.mem_of_getElem? (i := 505) (by decide +kernel)⟩
theorem lw_p13 : lw_okq (⟨"AccentShop", "tallyTaken", "(LAccentShop$Walk;I)V"⟩, 14) := ⟨⟨by decide +kernel, by decide +kernel⟩, List.mem_of_getElem? (i := 17) (by decide +kernel), List.mem_of_getElem? (i := 508) (by decide +kernel), List.mem_of_getElem? (i := 509) (by decide +kernel)⟩
theorem lw_p14 : lw_okq (⟨"AccentShop", "tryHiringMore", "(III)V"⟩, 14) := ⟨⟨by decide +kernel, by decide +kernel⟩, List.mem_of_getElem? (i := 17) (by decide +kernel), List.mem_of_getElem? (i := 516) (by decide +kernel), List.mem_of_getElem? (i := 517) (by decide +kernel)⟩
theorem lw_p15 : lw_okq (⟨"AccentShop", "findRefused", "()I"⟩, 14) := ⟨⟨by decide +kernel, by decide +kernel⟩, List.mem_of_getElem? (i := 17) (by decide +kernel), List.mem_of_getElem? (i := 551) (by decide +kernel), List.mem_of_getElem? (i := 552) (by decide +kernel)⟩
def lw_privs_1 : List (MethodName × Nat) := [(⟨"AccentShop", "textOf", "(I)LAccentShop$Text;"⟩, 14), (⟨"AccentShop", "tellAgain", "()V"⟩, 14), (⟨"AccentShop$Text", "fits", "(III)Z"⟩, 5), (⟨"AccentShop", "beginAgain", "()V"⟩, 14), (⟨"AccentShop$Setting", "moveHiring", "(II)V"⟩, 10), (⟨"AccentShop", "finding", "(I)I"⟩, 14), (⟨"AccentShop", "standBehind", "(I)V"⟩, 14), (⟨"AccentShop$Walk", "doHirings", "()V"⟩, 6), (⟨"AccentShop$Walk", "countWearers", "()V"⟩, 6), (⟨"AccentShop$Walk", "talk", "(I)V"⟩, 6), (⟨"AccentShop$Walk", "learn", "(I)V"⟩, 6), (⟨"AccentShop", "findFirstDays", "(LAccentShop$Walk;)I"⟩, 14), (⟨"AccentShop", "clearTally", "()V"⟩, 14), (⟨"AccentShop", "tallyTaken", "(LAccentShop$Walk;I)V"⟩, 14), (⟨"AccentShop", "tryHiringMore", "(III)V"⟩, 14), (⟨"AccentShop", "findRefused", "()I"⟩, 14)]
theorem lw_r1 : ∀ q ∈ lw_privs_1, lw_okq q := List.forall_mem_cons.mpr ⟨lw_p0, List.forall_mem_cons.mpr ⟨lw_p1, List.forall_mem_cons.mpr ⟨lw_p2, List.forall_mem_cons.mpr ⟨lw_p3, List.forall_mem_cons.mpr ⟨lw_p4, List.forall_mem_cons.mpr ⟨lw_p5, List.forall_mem_cons.mpr ⟨lw_p6, List.forall_mem_cons.mpr ⟨lw_p7, List.forall_mem_cons.mpr ⟨lw_p8, List.forall_mem_cons.mpr ⟨lw_p9, List.forall_mem_cons.mpr ⟨lw_p10, List.forall_mem_cons.mpr ⟨lw_p11, List.forall_mem_cons.mpr ⟨lw_p12, List.forall_mem_cons.mpr ⟨lw_p13, List.forall_mem_cons.mpr ⟨lw_p14, List.forall_mem_cons.mpr ⟨lw_p15, fun _ h => absurd h List.not_mem_nil⟩⟩⟩⟩⟩⟩⟩⟩⟩⟩⟩⟩⟩⟩⟩⟩
theorem lw_p16 : lw_okq (⟨"AccentShop", "nobodyAstrayWithout", "(II)Z"⟩, 14) := ⟨⟨by decide +kernel, by decide +kernel⟩, List.mem_of_getElem? (i := 17) (by decide +kernel), List.mem_of_getElem? (i := 555) (by decide +kernel), List.mem_of_getElem? (i := 556) (by decide +kernel)⟩
theorem lw_p17 : lw_okq (⟨"AccentShop", "comesOut", "()Z"⟩, 14) := ⟨⟨by decide +kernel, by decide +kernel⟩, List.mem_of_getElem? (i := 17) (by decide +kernel), List.mem_of_getElem? (i := 576) (by decide +kernel), List.mem_of_getElem? (i := 577) (by decide +kernel)⟩
theorem lw_p18 : lw_okq (⟨"AccentShop$Heard", "isSo", "(LAccentShop$Walk;I)Z"⟩, 5) := ⟨⟨by decide +kernel, by decide +kernel⟩, List.mem_of_getElem? (i := 141) (by decide +kernel), List.mem_of_getElem? (i := 588) (by decide +kernel), List.mem_of_getElem? (i := 589) (by decide +kernel)⟩
theorem lw_p19 : lw_okq (⟨"AccentShop", "whoseBits", "(I)I"⟩, 14) := ⟨⟨by decide +kernel, by decide +kernel⟩, List.mem_of_getElem? (i := 17) (by decide +kernel), List.mem_of_getElem? (i := 597) (by decide +kernel), List.mem_of_getElem? (i := 598) (by decide +kernel)⟩
theorem lw_p20 : lw_okq (⟨"AccentShop", "sortBits", "(I)I"⟩, 14) := ⟨⟨by decide +kernel, by decide +kernel⟩, List.mem_of_getElem? (i := 17) (by decide +kernel), List.mem_of_getElem? (i := 601) (by decide +kernel), List.mem_of_getElem? (i := 602) (by decide +kernel)⟩
theorem lw_p21 : lw_okq (⟨"AccentShop", "tallyAsOwn", "(II)V"⟩, 14) := ⟨⟨by decide +kernel, by decide +kernel⟩, List.mem_of_getElem? (i := 17) (by decide +kernel), List.mem_of_getElem? (i := 609) (by decide +kernel), List.mem_of_getElem? (i := 610) (by decide +kernel)⟩
theorem lw_p22 : lw_okq (⟨"AccentShop", "mostAlike", "(I)I"⟩, 14) := ⟨⟨by decide +kernel, by decide +kernel⟩, List.mem_of_getElem? (i := 17) (by decide +kernel), List.mem_of_getElem? (i := 613) (by decide +kernel), List.mem_of_getElem? (i := 614) (by decide +kernel)⟩
theorem lw_p23 : lw_okq (⟨"AccentShop", "learnStrays", "()V"⟩, 14) := ⟨⟨by decide +kernel, by decide +kernel⟩, List.mem_of_getElem? (i := 17) (by decide +kernel), List.mem_of_getElem? (i := 622) (by decide +kernel), List.mem_of_getElem? (i := 623) (by decide +kernel)⟩
theorem lw_p24 : lw_okq (⟨"AccentShop", "weight", "(II)J"⟩, 14) := ⟨⟨by decide +kernel, by decide +kernel⟩, List.mem_of_getElem? (i := 17) (by decide +kernel), List.mem_of_getElem? (i := 630) (by decide +kernel), List.mem_of_getElem? (i := 631) (by decide +kernel)⟩
theorem lw_p25 : lw_okq (⟨"AccentShop", "tryYear", "(II)V"⟩, 14) := ⟨⟨by decide +kernel, by decide +kernel⟩, List.mem_of_getElem? (i := 17) (by decide +kernel), List.mem_of_getElem? (i := 639) (by decide +kernel), List.mem_of_getElem? (i := 640) (by decide +kernel)⟩
theorem lw_p26 : lw_okq (⟨"AccentShop", "mixAccent", "(JI)J"⟩, 14) := ⟨⟨by decide +kernel, by decide +kernel⟩, List.mem_of_getElem? (i := 17) (by decide +kernel), List.mem_of_getElem? (i := 706) (by decide +kernel), List.mem_of_getElem? (i := 707) (by decide +kernel)⟩
theorem lw_p27 : lw_okq (⟨"AccentShop", "mixSpeech", "(JI)J"⟩, 14) := ⟨⟨by decide +kernel, by decide +kernel⟩, List.mem_of_getElem? (i := 17) (by decide +kernel), List.mem_of_getElem? (i := 714) (by decide +kernel), List.mem_of_getElem? (i := 715) (by decide +kernel)⟩
theorem lw_p28 : lw_okq (⟨"AccentShopModel", "finds", "(I)I"⟩, 31) := ⟨⟨by decide +kernel, by decide +kernel⟩, List.mem_of_getElem? (i := 733) (by decide +kernel), List.mem_of_getElem? (i := 845) (by decide +kernel), List.mem_of_getElem? (i := 846) (by decide +kernel)⟩
theorem lw_p29 : lw_okq (⟨"AccentShopModel", "lacks", "(III)I"⟩, 31) := ⟨⟨by decide +kernel, by decide +kernel⟩, List.mem_of_getElem? (i := 733) (by decide +kernel), List.mem_of_getElem? (i := 857) (by decide +kernel), List.mem_of_getElem? (i := 858) (by decide +kernel)⟩
theorem lw_p30 : lw_okq (⟨"AccentShopModel", "readsText", "(I)I"⟩, 31) := ⟨⟨by decide +kernel, by decide +kernel⟩, List.mem_of_getElem? (i := 733) (by decide +kernel), List.mem_of_getElem? (i := 893) (by decide +kernel), List.mem_of_getElem? (i := 894) (by decide +kernel)⟩
theorem lw_p31 : lw_okq (⟨"AccentShopModel", "readsAccents", "()I"⟩, 31) := ⟨⟨by decide +kernel, by decide +kernel⟩, List.mem_of_getElem? (i := 733) (by decide +kernel), List.mem_of_getElem? (i := 897) (by decide +kernel), List.mem_of_getElem? (i := 898) (by decide +kernel)⟩
def lw_privs_2 : List (MethodName × Nat) := [(⟨"AccentShop", "nobodyAstrayWithout", "(II)Z"⟩, 14), (⟨"AccentShop", "comesOut", "()Z"⟩, 14), (⟨"AccentShop$Heard", "isSo", "(LAccentShop$Walk;I)Z"⟩, 5), (⟨"AccentShop", "whoseBits", "(I)I"⟩, 14), (⟨"AccentShop", "sortBits", "(I)I"⟩, 14), (⟨"AccentShop", "tallyAsOwn", "(II)V"⟩, 14), (⟨"AccentShop", "mostAlike", "(I)I"⟩, 14), (⟨"AccentShop", "learnStrays", "()V"⟩, 14), (⟨"AccentShop", "weight", "(II)J"⟩, 14), (⟨"AccentShop", "tryYear", "(II)V"⟩, 14), (⟨"AccentShop", "mixAccent", "(JI)J"⟩, 14), (⟨"AccentShop", "mixSpeech", "(JI)J"⟩, 14), (⟨"AccentShopModel", "finds", "(I)I"⟩, 31), (⟨"AccentShopModel", "lacks", "(III)I"⟩, 31), (⟨"AccentShopModel", "readsText", "(I)I"⟩, 31), (⟨"AccentShopModel", "readsAccents", "()I"⟩, 31)]
theorem lw_r2 : ∀ q ∈ lw_privs_2, lw_okq q := List.forall_mem_cons.mpr ⟨lw_p16, List.forall_mem_cons.mpr ⟨lw_p17, List.forall_mem_cons.mpr ⟨lw_p18, List.forall_mem_cons.mpr ⟨lw_p19, List.forall_mem_cons.mpr ⟨lw_p20, List.forall_mem_cons.mpr ⟨lw_p21, List.forall_mem_cons.mpr ⟨lw_p22, List.forall_mem_cons.mpr ⟨lw_p23, List.forall_mem_cons.mpr ⟨lw_p24, List.forall_mem_cons.mpr ⟨lw_p25, List.forall_mem_cons.mpr ⟨lw_p26, List.forall_mem_cons.mpr ⟨lw_p27, List.forall_mem_cons.mpr ⟨lw_p28, List.forall_mem_cons.mpr ⟨lw_p29, List.forall_mem_cons.mpr ⟨lw_p30, List.forall_mem_cons.mpr ⟨lw_p31, fun _ h => absurd h List.not_mem_nil⟩⟩⟩⟩⟩⟩⟩⟩⟩⟩⟩⟩⟩⟩⟩⟩
theorem lw_p32 : lw_okq (⟨"AccentShopModel", "readsPeople", "()I"⟩, 31) := ⟨⟨by decide +kernel, by decide +kernel⟩, List.mem_of_getElem? (i := 733) (by decide +kernel), List.mem_of_getElem? (i := 906) (by decide +kernel), List.mem_of_getElem? (i := 907) (by decide +kernel)⟩
theorem lw_p33 : lw_okq (⟨"AccentShopModel", "isAccent", "(I)Z"⟩, 31) := ⟨⟨by decide +kernel, by decide +kernel⟩, List.mem_of_getElem? (i := 733) (by decide +kernel), List.mem_of_getElem? (i := 918) (by decide +kernel), List.mem_of_getElem? (i := 919) (by decide +kernel)⟩
theorem lw_p34 : lw_okq (⟨"AccentShopModel", "isPerson", "(I)Z"⟩, 31) := ⟨⟨by decide +kernel, by decide +kernel⟩, List.mem_of_getElem? (i := 733) (by decide +kernel), List.mem_of_getElem? (i := 927) (by decide +kernel), List.mem_of_getElem? (i := 928) (by decide +kernel)⟩
theorem lw_p35 : lw_okq (⟨"AccentShopModel", "puts", "(III)V"⟩, 31) := ⟨⟨by decide +kernel, by decide +kernel⟩, List.mem_of_getElem? (i := 733) (by decide +kernel), List.mem_of_getElem? (i := 943) (by decide +kernel), List.mem_of_getElem? (i := 944) (by decide +kernel)⟩
theorem lw_p36 : lw_okq (⟨"AccentShopModel", "find", "()V"⟩, 31) := ⟨⟨by decide +kernel, by decide +kernel⟩, List.mem_of_getElem? (i := 733) (by decide +kernel), List.mem_of_getElem? (i := 960) (by decide +kernel), List.mem_of_getElem? (i := 961) (by decide +kernel)⟩
theorem lw_p37 : lw_okq (⟨"AccentShopModel", "lives", "()V"⟩, 31) := ⟨⟨by decide +kernel, by decide +kernel⟩, List.mem_of_getElem? (i := 733) (by decide +kernel), List.mem_of_getElem? (i := 964) (by decide +kernel), List.mem_of_getElem? (i := 965) (by decide +kernel)⟩
theorem lw_p38 : lw_okq (⟨"AccentShopModel", "passes", "(I)V"⟩, 31) := ⟨⟨by decide +kernel, by decide +kernel⟩, List.mem_of_getElem? (i := 733) (by decide +kernel), List.mem_of_getElem? (i := 968) (by decide +kernel), List.mem_of_getElem? (i := 969) (by decide +kernel)⟩
theorem lw_p39 : lw_okq (⟨"AccentShopModel", "talk", "(I)V"⟩, 31) := ⟨⟨by decide +kernel, by decide +kernel⟩, List.mem_of_getElem? (i := 733) (by decide +kernel), List.mem_of_getElem? (i := 975) (by decide +kernel), List.mem_of_getElem? (i := 976) (by decide +kernel)⟩
theorem lw_p40 : lw_okq (⟨"AccentShopModel", "isWorn", "(I)Z"⟩, 31) := ⟨⟨by decide +kernel, by decide +kernel⟩, List.mem_of_getElem? (i := 733) (by decide +kernel), List.mem_of_getElem? (i := 979) (by decide +kernel), List.mem_of_getElem? (i := 980) (by decide +kernel)⟩
theorem lw_p41 : lw_okq (⟨"AccentShopModel", "speaks", "(II)V"⟩, 31) := ⟨⟨by decide +kernel, by decide +kernel⟩, List.mem_of_getElem? (i := 733) (by decide +kernel), List.mem_of_getElem? (i := 992) (by decide +kernel), List.mem_of_getElem? (i := 993) (by decide +kernel)⟩
theorem lw_p42 : lw_okq (⟨"AccentShopModel", "judges", "(II)V"⟩, 31) := ⟨⟨by decide +kernel, by decide +kernel⟩, List.mem_of_getElem? (i := 733) (by decide +kernel), List.mem_of_getElem? (i := 999) (by decide +kernel), List.mem_of_getElem? (i := 1000) (by decide +kernel)⟩
theorem lw_p43 : lw_okq (⟨"AccentShopModel", "farOf", "(II)I"⟩, 31) := ⟨⟨by decide +kernel, by decide +kernel⟩, List.mem_of_getElem? (i := 733) (by decide +kernel), List.mem_of_getElem? (i := 1003) (by decide +kernel), List.mem_of_getElem? (i := 1004) (by decide +kernel)⟩
theorem lw_p44 : lw_okq (⟨"AccentShopModel", "atBy", "(III)I"⟩, 31) := ⟨⟨by decide +kernel, by decide +kernel⟩, List.mem_of_getElem? (i := 733) (by decide +kernel), List.mem_of_getElem? (i := 1007) (by decide +kernel), List.mem_of_getElem? (i := 1008) (by decide +kernel)⟩
theorem lw_p45 : lw_okq (⟨"AccentShopModel", "drawerBy", "(III)I"⟩, 31) := ⟨⟨by decide +kernel, by decide +kernel⟩, List.mem_of_getElem? (i := 733) (by decide +kernel), List.mem_of_getElem? (i := 1015) (by decide +kernel), List.mem_of_getElem? (i := 1016) (by decide +kernel)⟩
theorem lw_p46 : lw_okq (⟨"AccentShopModel", "astrayNow", "()I"⟩, 31) := ⟨⟨by decide +kernel, by decide +kernel⟩, List.mem_of_getElem? (i := 733) (by decide +kernel), List.mem_of_getElem? (i := 1027) (by decide +kernel), List.mem_of_getElem? (i := 1028) (by decide +kernel)⟩
theorem lw_p47 : lw_okq (⟨"AccentShopModel", "isAstray", "(I)Z"⟩, 31) := ⟨⟨by decide +kernel, by decide +kernel⟩, List.mem_of_getElem? (i := 733) (by decide +kernel), List.mem_of_getElem? (i := 1031) (by decide +kernel), List.mem_of_getElem? (i := 1032) (by decide +kernel)⟩
def lw_privs_3 : List (MethodName × Nat) := [(⟨"AccentShopModel", "readsPeople", "()I"⟩, 31), (⟨"AccentShopModel", "isAccent", "(I)Z"⟩, 31), (⟨"AccentShopModel", "isPerson", "(I)Z"⟩, 31), (⟨"AccentShopModel", "puts", "(III)V"⟩, 31), (⟨"AccentShopModel", "find", "()V"⟩, 31), (⟨"AccentShopModel", "lives", "()V"⟩, 31), (⟨"AccentShopModel", "passes", "(I)V"⟩, 31), (⟨"AccentShopModel", "talk", "(I)V"⟩, 31), (⟨"AccentShopModel", "isWorn", "(I)Z"⟩, 31), (⟨"AccentShopModel", "speaks", "(II)V"⟩, 31), (⟨"AccentShopModel", "judges", "(II)V"⟩, 31), (⟨"AccentShopModel", "farOf", "(II)I"⟩, 31), (⟨"AccentShopModel", "atBy", "(III)I"⟩, 31), (⟨"AccentShopModel", "drawerBy", "(III)I"⟩, 31), (⟨"AccentShopModel", "astrayNow", "()I"⟩, 31), (⟨"AccentShopModel", "isAstray", "(I)Z"⟩, 31)]
theorem lw_r3 : ∀ q ∈ lw_privs_3, lw_okq q := List.forall_mem_cons.mpr ⟨lw_p32, List.forall_mem_cons.mpr ⟨lw_p33, List.forall_mem_cons.mpr ⟨lw_p34, List.forall_mem_cons.mpr ⟨lw_p35, List.forall_mem_cons.mpr ⟨lw_p36, List.forall_mem_cons.mpr ⟨lw_p37, List.forall_mem_cons.mpr ⟨lw_p38, List.forall_mem_cons.mpr ⟨lw_p39, List.forall_mem_cons.mpr ⟨lw_p40, List.forall_mem_cons.mpr ⟨lw_p41, List.forall_mem_cons.mpr ⟨lw_p42, List.forall_mem_cons.mpr ⟨lw_p43, List.forall_mem_cons.mpr ⟨lw_p44, List.forall_mem_cons.mpr ⟨lw_p45, List.forall_mem_cons.mpr ⟨lw_p46, List.forall_mem_cons.mpr ⟨lw_p47, fun _ h => absurd h List.not_mem_nil⟩⟩⟩⟩⟩⟩⟩⟩⟩⟩⟩⟩⟩⟩⟩⟩
theorem lw_p48 : lw_okq (⟨"AccentShopModel", "crowdNow", "()I"⟩, 31) := ⟨⟨by decide +kernel, by decide +kernel⟩, List.mem_of_getElem? (i := 733) (by decide +kernel), List.mem_of_getElem? (i := 1039) (by decide +kernel), List.mem_of_getElem? (i := 1040) (by decide +kernel)⟩
theorem lw_p49 : lw_okq (⟨"AccentShopModel", "dressOf", "(IIII)I"⟩, 31) := ⟨⟨by decide +kernel, by decide +kernel⟩, List.mem_of_getElem? (i := 733) (by decide +kernel), List.mem_of_getElem? (i := 1047) (by decide +kernel), List.mem_of_getElem? (i := 1048) (by decide +kernel)⟩
theorem lw_p50 : lw_okq (⟨"AccentShopModel", "homeOf", "(I)I"⟩, 31) := ⟨⟨by decide +kernel, by decide +kernel⟩, List.mem_of_getElem? (i := 733) (by decide +kernel), List.mem_of_getElem? (i := 1055) (by decide +kernel), List.mem_of_getElem? (i := 1056) (by decide +kernel)⟩
theorem lw_p51 : lw_okq (⟨"AccentShopModel", "trayBy", "(I)I"⟩, 31) := ⟨⟨by decide +kernel, by decide +kernel⟩, List.mem_of_getElem? (i := 733) (by decide +kernel), List.mem_of_getElem? (i := 1063) (by decide +kernel), List.mem_of_getElem? (i := 1064) (by decide +kernel)⟩
theorem lw_p52 : lw_okq (⟨"AccentShopModel", "changes", "(II)V"⟩, 31) := ⟨⟨by decide +kernel, by decide +kernel⟩, List.mem_of_getElem? (i := 733) (by decide +kernel), List.mem_of_getElem? (i := 1067) (by decide +kernel), List.mem_of_getElem? (i := 1068) (by decide +kernel)⟩
theorem lw_p53 : lw_okq (⟨"AccentShopModel", "refuseOf", "(I)I"⟩, 31) := ⟨⟨by decide +kernel, by decide +kernel⟩, List.mem_of_getElem? (i := 733) (by decide +kernel), List.mem_of_getElem? (i := 1082) (by decide +kernel), List.mem_of_getElem? (i := 1083) (by decide +kernel)⟩
theorem lw_p54 : lw_okq (⟨"AccentShopModel", "isRight", "(I)Z"⟩, 31) := ⟨⟨by decide +kernel, by decide +kernel⟩, List.mem_of_getElem? (i := 733) (by decide +kernel), List.mem_of_getElem? (i := 1086) (by decide +kernel), List.mem_of_getElem? (i := 1087) (by decide +kernel)⟩
theorem lw_p55 : lw_okq (⟨"AccentShopModel", "neverNow", "()I"⟩, 31) := ⟨⟨by decide +kernel, by decide +kernel⟩, List.mem_of_getElem? (i := 733) (by decide +kernel), List.mem_of_getElem? (i := 1104) (by decide +kernel), List.mem_of_getElem? (i := 1105) (by decide +kernel)⟩
theorem lw_p56 : lw_okq (⟨"AccentShopModel", "isHeard", "()Z"⟩, 31) := ⟨⟨by decide +kernel, by decide +kernel⟩, List.mem_of_getElem? (i := 733) (by decide +kernel), List.mem_of_getElem? (i := 1108) (by decide +kernel), List.mem_of_getElem? (i := 1109) (by decide +kernel)⟩
theorem lw_p57 : lw_okq (⟨"AccentShopModel", "wasOf", "(II)I"⟩, 31) := ⟨⟨by decide +kernel, by decide +kernel⟩, List.mem_of_getElem? (i := 733) (by decide +kernel), List.mem_of_getElem? (i := 1116) (by decide +kernel), List.mem_of_getElem? (i := 1117) (by decide +kernel)⟩
theorem lw_p58 : lw_okq (⟨"AccentShopModel", "whoseOf", "(I)I"⟩, 31) := ⟨⟨by decide +kernel, by decide +kernel⟩, List.mem_of_getElem? (i := 733) (by decide +kernel), List.mem_of_getElem? (i := 1120) (by decide +kernel), List.mem_of_getElem? (i := 1121) (by decide +kernel)⟩
theorem lw_p59 : lw_okq (⟨"AccentShopModel", "sortOf", "(I)I"⟩, 31) := ⟨⟨by decide +kernel, by decide +kernel⟩, List.mem_of_getElem? (i := 733) (by decide +kernel), List.mem_of_getElem? (i := 1124) (by decide +kernel), List.mem_of_getElem? (i := 1125) (by decide +kernel)⟩
theorem lw_p60 : lw_okq (⟨"AccentShopModel", "askOf", "(I)I"⟩, 31) := ⟨⟨by decide +kernel, by decide +kernel⟩, List.mem_of_getElem? (i := 733) (by decide +kernel), List.mem_of_getElem? (i := 1132) (by decide +kernel), List.mem_of_getElem? (i := 1133) (by decide +kernel)⟩
theorem lw_p61 : lw_okq (⟨"AccentShopModel", "alike", "(II)I"⟩, 31) := ⟨⟨by decide +kernel, by decide +kernel⟩, List.mem_of_getElem? (i := 733) (by decide +kernel), List.mem_of_getElem? (i := 1136) (by decide +kernel), List.mem_of_getElem? (i := 1137) (by decide +kernel)⟩
theorem lw_p62 : lw_okq (⟨"AccentShopModel", "customOf", "(III)J"⟩, 31) := ⟨⟨by decide +kernel, by decide +kernel⟩, List.mem_of_getElem? (i := 733) (by decide +kernel), List.mem_of_getElem? (i := 1145) (by decide +kernel), List.mem_of_getElem? (i := 1146) (by decide +kernel)⟩
theorem lw_p63 : lw_okq (⟨"AccentShopModel", "yearOf", "(III)I"⟩, 31) := ⟨⟨by decide +kernel, by decide +kernel⟩, List.mem_of_getElem? (i := 733) (by decide +kernel), List.mem_of_getElem? (i := 1161) (by decide +kernel), List.mem_of_getElem? (i := 1162) (by decide +kernel)⟩
def lw_privs_4 : List (MethodName × Nat) := [(⟨"AccentShopModel", "crowdNow", "()I"⟩, 31), (⟨"AccentShopModel", "dressOf", "(IIII)I"⟩, 31), (⟨"AccentShopModel", "homeOf", "(I)I"⟩, 31), (⟨"AccentShopModel", "trayBy", "(I)I"⟩, 31), (⟨"AccentShopModel", "changes", "(II)V"⟩, 31), (⟨"AccentShopModel", "refuseOf", "(I)I"⟩, 31), (⟨"AccentShopModel", "isRight", "(I)Z"⟩, 31), (⟨"AccentShopModel", "neverNow", "()I"⟩, 31), (⟨"AccentShopModel", "isHeard", "()Z"⟩, 31), (⟨"AccentShopModel", "wasOf", "(II)I"⟩, 31), (⟨"AccentShopModel", "whoseOf", "(I)I"⟩, 31), (⟨"AccentShopModel", "sortOf", "(I)I"⟩, 31), (⟨"AccentShopModel", "askOf", "(I)I"⟩, 31), (⟨"AccentShopModel", "alike", "(II)I"⟩, 31), (⟨"AccentShopModel", "customOf", "(III)J"⟩, 31), (⟨"AccentShopModel", "yearOf", "(III)I"⟩, 31)]
theorem lw_r4 : ∀ q ∈ lw_privs_4, lw_okq q := List.forall_mem_cons.mpr ⟨lw_p48, List.forall_mem_cons.mpr ⟨lw_p49, List.forall_mem_cons.mpr ⟨lw_p50, List.forall_mem_cons.mpr ⟨lw_p51, List.forall_mem_cons.mpr ⟨lw_p52, List.forall_mem_cons.mpr ⟨lw_p53, List.forall_mem_cons.mpr ⟨lw_p54, List.forall_mem_cons.mpr ⟨lw_p55, List.forall_mem_cons.mpr ⟨lw_p56, List.forall_mem_cons.mpr ⟨lw_p57, List.forall_mem_cons.mpr ⟨lw_p58, List.forall_mem_cons.mpr ⟨lw_p59, List.forall_mem_cons.mpr ⟨lw_p60, List.forall_mem_cons.mpr ⟨lw_p61, List.forall_mem_cons.mpr ⟨lw_p62, List.forall_mem_cons.mpr ⟨lw_p63, fun _ h => absurd h List.not_mem_nil⟩⟩⟩⟩⟩⟩⟩⟩⟩⟩⟩⟩⟩⟩⟩⟩
theorem lw_p64 : lw_okq (⟨"AccentShopModel", "lot", "(I)I"⟩, 31) := ⟨⟨by decide +kernel, by decide +kernel⟩, List.mem_of_getElem? (i := 733) (by decide +kernel), List.mem_of_getElem? (i := 1165) (by decide +kernel), List.mem_of_getElem? (i := 1166) (by decide +kernel)⟩
theorem lw_p65 : lw_okq (⟨"AccentShopModel", "becomeMany", "()I"⟩, 31) := ⟨⟨by decide +kernel, by decide +kernel⟩, List.mem_of_getElem? (i := 733) (by decide +kernel), List.mem_of_getElem? (i := 1170) (by decide +kernel), List.mem_of_getElem? (i := 1171) (by decide +kernel)⟩
theorem lw_p66 : lw_okq (⟨"AccentShopModel", "tellsDrawer", "(JII)J"⟩, 31) := ⟨⟨by decide +kernel, by decide +kernel⟩, List.mem_of_getElem? (i := 733) (by decide +kernel), List.mem_of_getElem? (i := 1189) (by decide +kernel), List.mem_of_getElem? (i := 1190) (by decide +kernel)⟩
theorem lw_p67 : lw_okq (⟨"AccentShopModel", "tellsPerson", "(JI)J"⟩, 31) := ⟨⟨by decide +kernel, by decide +kernel⟩, List.mem_of_getElem? (i := 733) (by decide +kernel), List.mem_of_getElem? (i := 1193) (by decide +kernel), List.mem_of_getElem? (i := 1194) (by decide +kernel)⟩
theorem lw_p68 : lw_okq (⟨"AccentShopModel", "tellsDay", "(JII)J"⟩, 31) := ⟨⟨by decide +kernel, by decide +kernel⟩, List.mem_of_getElem? (i := 733) (by decide +kernel), List.mem_of_getElem? (i := 1197) (by decide +kernel), List.mem_of_getElem? (i := 1198) (by decide +kernel)⟩
def lw_privs_5 : List (MethodName × Nat) := [(⟨"AccentShopModel", "lot", "(I)I"⟩, 31), (⟨"AccentShopModel", "becomeMany", "()I"⟩, 31), (⟨"AccentShopModel", "tellsDrawer", "(JII)J"⟩, 31), (⟨"AccentShopModel", "tellsPerson", "(JI)J"⟩, 31), (⟨"AccentShopModel", "tellsDay", "(JII)J"⟩, 31)]
theorem lw_r5 : ∀ q ∈ lw_privs_5, lw_okq q := List.forall_mem_cons.mpr ⟨lw_p64, List.forall_mem_cons.mpr ⟨lw_p65, List.forall_mem_cons.mpr ⟨lw_p66, List.forall_mem_cons.mpr ⟨lw_p67, List.forall_mem_cons.mpr ⟨lw_p68, fun _ h => absurd h List.not_mem_nil⟩⟩⟩⟩⟩
def lw_privs : List (MethodName × Nat) := lw_privs_1 ++ (lw_privs_2 ++ (lw_privs_3 ++ (lw_privs_4 ++ (lw_privs_5))))
def lw_tbl : List Cond := k2_sels lw_privs ++ tables_1
theorem lw_privs_ok : ∀ q ∈ lw_privs, lw_okq q := by
  show ∀ q ∈ lw_privs_1 ++ (lw_privs_2 ++ (lw_privs_3 ++ (lw_privs_4 ++ (lw_privs_5)))), lw_okq q
  exact List.forall_mem_append.mpr ⟨lw_r1, List.forall_mem_append.mpr ⟨lw_r2, List.forall_mem_append.mpr ⟨lw_r3, List.forall_mem_append.mpr ⟨lw_r4, lw_r5⟩⟩⟩⟩
end
section
def RX0 : String := "AccentShop$Heard"
def TX0 : u_T := fun k => match k with
  | 0 => ("AccentShop$Heard", "size", "I", false)
  | 1 => ("AccentShop$Heard", "days", "[I", true)
  | 2 => ("AccentShop$Heard", "who", "[I", true)
  | 3 => ("AccentShop$Heard", "sounds", "[I", true)
  | _ => ("AccentShop$Heard", "heardMarks", "[I", true)
def tyX0 : Nat → FieldType := fun k => match k with
  | 0 => .int
  | 1 => .array .int
  | 2 => .array .int
  | 3 => .array .int
  | _ => .array .int
abbrev wsX00 : List Cond := u_ws RX0 TX0 5
theorem nmX0 : ∀ a, a < 5 → ∀ b, b < 5 → a ≠ b → (TX0 a).2.1 ≠ (TX0 b).2.1 := by decide +kernel
theorem tyX0_ok : ∀ k, k < 5 → parseFieldDescriptor (TX0 k).2.2.1 = some (tyX0 k) := by decide +kernel
abbrev cX0_init : ByteArray := prog_2_method_1_code
def yX0_init : MethodName := ⟨RX0, "<init>", "()V"⟩
abbrev cX0_add : ByteArray := prog_2_method_2_code
def yX0_add : MethodName := ⟨RX0, "add", "(IIII)Z"⟩
abbrev cX0_latestDay : ByteArray := prog_2_method_3_code
def yX0_latestDay : MethodName := ⟨RX0, "latestDay", "()I"⟩
abbrev cX0_agreesWith : ByteArray := prog_2_method_4_code
def yX0_agreesWith : MethodName := ⟨RX0, "agreesWith", "(LAccentShop$Walk;)Z"⟩
abbrev cX0_isSo : ByteArray := prog_2_method_5_code
def yX0_isSo : MethodName := ⟨RX0, "isSo", "(LAccentShop$Walk;I)Z"⟩
def RX1 : String := "AccentShop$Setting"
def TX1 : u_T := fun k => match k with
  | 0 => ("AccentShop$Setting", "accents", "I", false)
  | 1 => ("AccentShop$Setting", "sorts", "[I", true)
  | 2 => ("AccentShop$Setting", "marks", "[I", true)
  | 3 => ("AccentShop$Setting", "people", "I", false)
  | 4 => ("AccentShop$Setting", "kinds", "[I", true)
  | 5 => ("AccentShop$Setting", "owns", "[I", true)
  | 6 => ("AccentShop$Setting", "hirings", "I", false)
  | 7 => ("AccentShop$Setting", "days", "[I", true)
  | 8 => ("AccentShop$Setting", "who", "[I", true)
  | _ => ("AccentShop$Setting", "which", "[I", true)
def tyX1 : Nat → FieldType := fun k => match k with
  | 0 => .int
  | 1 => .array .int
  | 2 => .array .int
  | 3 => .int
  | 4 => .array .int
  | 5 => .array .int
  | 6 => .int
  | 7 => .array .int
  | 8 => .array .int
  | _ => .array .int
abbrev wsX10 : List Cond := u_ws RX1 TX1 10
theorem nmX1 : ∀ a, a < 10 → ∀ b, b < 10 → a ≠ b → (TX1 a).2.1 ≠ (TX1 b).2.1 := by decide +kernel
theorem tyX1_ok : ∀ k, k < 10 → parseFieldDescriptor (TX1 k).2.2.1 = some (tyX1 k) := by decide +kernel
abbrev cX1_init : ByteArray := prog_3_method_1_code
def yX1_init : MethodName := ⟨RX1, "<init>", "()V"⟩
abbrev cX1_hasAccent : ByteArray := prog_3_method_2_code
def yX1_hasAccent : MethodName := ⟨RX1, "hasAccent", "(I)Z"⟩
abbrev cX1_hasPerson : ByteArray := prog_3_method_3_code
def yX1_hasPerson : MethodName := ⟨RX1, "hasPerson", "(I)Z"⟩
abbrev cX1_takeAccents : ByteArray := prog_3_method_4_code
def yX1_takeAccents : MethodName := ⟨RX1, "takeAccents", "(LAccentShop$Text;)V"⟩
abbrev cX1_takePeople : ByteArray := prog_3_method_5_code
def yX1_takePeople : MethodName := ⟨RX1, "takePeople", "(LAccentShop$Text;)V"⟩
abbrev cX1_become : ByteArray := prog_3_method_6_code
def yX1_become : MethodName := ⟨RX1, "become", "(LAccentShop$Setting;)V"⟩
abbrev cX1_addHiring : ByteArray := prog_3_method_7_code
def yX1_addHiring : MethodName := ⟨RX1, "addHiring", "(III)V"⟩
abbrev cX1_dropHiring : ByteArray := prog_3_method_8_code
def yX1_dropHiring : MethodName := ⟨RX1, "dropHiring", "(I)V"⟩
abbrev cX1_keepHirings : ByteArray := prog_3_method_9_code
def yX1_keepHirings : MethodName := ⟨RX1, "keepHirings", "(I)V"⟩
abbrev cX1_moveHiring : ByteArray := prog_3_method_10_code
def yX1_moveHiring : MethodName := ⟨RX1, "moveHiring", "(II)V"⟩
abbrev cX1_changeDrawers : ByteArray := prog_3_method_11_code
def yX1_changeDrawers : MethodName := ⟨RX1, "changeDrawers", "(II)V"⟩
abbrev cX1_changed : ByteArray := prog_3_method_12_code
def yX1_changed : MethodName := ⟨RX1, "changed", "(III)I"⟩
def RX2 : String := "AccentShop$Sheet"
def TX2 : u_T := fun k => match k with
  | 0 => ("AccentShop$Sheet", "form", "I", false)
  | 1 => ("AccentShop$Sheet", "size", "I", false)
  | _ => ("AccentShop$Sheet", "items", "[I", true)
def tyX2 : Nat → FieldType := fun k => match k with
  | 0 => .int
  | 1 => .int
  | _ => .array .int
abbrev wsX20 : List Cond := u_ws RX2 TX2 3
theorem nmX2 : ∀ a, a < 3 → ∀ b, b < 3 → a ≠ b → (TX2 a).2.1 ≠ (TX2 b).2.1 := by decide +kernel
theorem tyX2_ok : ∀ k, k < 3 → parseFieldDescriptor (TX2 k).2.2.1 = some (tyX2 k) := by decide +kernel
abbrev cX2_init : ByteArray := prog_4_method_1_code
def yX2_init : MethodName := ⟨RX2, "<init>", "()V"⟩
abbrev cX2_renew : ByteArray := prog_4_method_2_code
def yX2_renew : MethodName := ⟨RX2, "renew", "(II)V"⟩
abbrev cX2_put : ByteArray := prog_4_method_3_code
def yX2_put : MethodName := ⟨RX2, "put", "(II)V"⟩
abbrev cX2_whatIsWrong : ByteArray := prog_4_method_4_code
def yX2_whatIsWrong : MethodName := ⟨RX2, "whatIsWrong", "(II)I"⟩
abbrev cX2_hasItems : ByteArray := prog_4_method_5_code
def yX2_hasItems : MethodName := ⟨RX2, "hasItems", "(II)Z"⟩
def RX3 : String := "AccentShop$Text"
def TX3 : u_T := fun k => match k with
  | 0 => ("AccentShop$Text", "bytes", "[I", true)
  | 1 => ("AccentShop$Text", "sorts", "Ljava/lang/String;", true)
  | 2 => ("AccentShop$Text", "figures", "I", true)
  | 3 => ("AccentShop$Text", "lastFigure", "I", true)
  | _ => ("AccentShop$Text", "length", "I", false)
def tyX3 : Nat → FieldType := fun k => match k with
  | 0 => .array .int
  | 1 => .object "java/lang/String"
  | 2 => .int
  | 3 => .int
  | _ => .int
abbrev wsX30 : List Cond := u_ws RX3 TX3 5
theorem nmX3 : ∀ a, a < 5 → ∀ b, b < 5 → a ≠ b → (TX3 a).2.1 ≠ (TX3 b).2.1 := by decide +kernel
theorem tyX3_ok : ∀ k, k < 5 → parseFieldDescriptor (TX3 k).2.2.1 = some (tyX3 k) := by decide +kernel
abbrev cX3_init : ByteArray := prog_5_method_1_code
def yX3_init : MethodName := ⟨RX3, "<init>", "([ILjava/lang/String;II)V"⟩
abbrev cX3_append : ByteArray := prog_5_method_2_code
def yX3_append : MethodName := ⟨RX3, "append", "(I)Z"⟩
abbrev cX3_firstFault : ByteArray := prog_5_method_3_code
def yX3_firstFault : MethodName := ⟨RX3, "firstFault", "()I"⟩
abbrev cX3_fits : ByteArray := prog_5_method_4_code
def yX3_fits : MethodName := ⟨RX3, "fits", "(III)Z"⟩
abbrev cX3_sortAt : ByteArray := prog_5_method_5_code
def yX3_sortAt : MethodName := ⟨RX3, "sortAt", "(I)I"⟩
abbrev cX3_figureAt : ByteArray := prog_5_method_6_code
def yX3_figureAt : MethodName := ⟨RX3, "figureAt", "(I)I"⟩
def RX4 : String := "AccentShop$Walk"
def TX4 : u_T := fun k => match k with
  | 0 => ("AccentShop$Walk", "setting", "LAccentShop$Setting;", true)
  | 1 => ("AccentShop$Walk", "day", "I", false)
  | 2 => ("AccentShop$Walk", "marks", "[I", true)
  | 3 => ("AccentShop$Walk", "speech", "[I", true)
  | 4 => ("AccentShop$Walk", "wears", "[I", true)
  | _ => ("AccentShop$Walk", "wearers", "[I", true)
def tyX4 : Nat → FieldType := fun k => match k with
  | 0 => .object "AccentShop$Setting"
  | 1 => .int
  | 2 => .array .int
  | 3 => .array .int
  | 4 => .array .int
  | _ => .array .int
abbrev wsX40 : List Cond := u_ws RX4 TX4 6
theorem nmX4 : ∀ a, a < 6 → ∀ b, b < 6 → a ≠ b → (TX4 a).2.1 ≠ (TX4 b).2.1 := by decide +kernel
theorem tyX4_ok : ∀ k, k < 6 → parseFieldDescriptor (TX4 k).2.2.1 = some (tyX4 k) := by decide +kernel
abbrev cX4_init : ByteArray := prog_6_method_1_code
def yX4_init : MethodName := ⟨RX4, "<init>", "(LAccentShop$Setting;)V"⟩
abbrev cX4_begin : ByteArray := prog_6_method_2_code
def yX4_begin : MethodName := ⟨RX4, "begin", "()V"⟩
abbrev cX4_go : ByteArray := prog_6_method_3_code
def yX4_go : MethodName := ⟨RX4, "go", "(I)V"⟩
abbrev cX4_doHirings : ByteArray := prog_6_method_4_code
def yX4_doHirings : MethodName := ⟨RX4, "doHirings", "()V"⟩
abbrev cX4_countWearers : ByteArray := prog_6_method_5_code
def yX4_countWearers : MethodName := ⟨RX4, "countWearers", "()V"⟩
abbrev cX4_talk : ByteArray := prog_6_method_6_code
def yX4_talk : MethodName := ⟨RX4, "talk", "(I)V"⟩
abbrev cX4_learn : ByteArray := prog_6_method_7_code
def yX4_learn : MethodName := ⟨RX4, "learn", "(I)V"⟩
abbrev cX4_towards : ByteArray := prog_6_method_8_code
def yX4_towards : MethodName := ⟨RX4, "towards", "(III)I"⟩
abbrev cX4_far : ByteArray := prog_6_method_9_code
def yX4_far : MethodName := ⟨RX4, "far", "(II)I"⟩
abbrev cX4_takenFor : ByteArray := prog_6_method_10_code
def yX4_takenFor : MethodName := ⟨RX4, "takenFor", "(I)I"⟩
abbrev cX4_astrayBits : ByteArray := prog_6_method_11_code
def yX4_astrayBits : MethodName := ⟨RX4, "astrayBits", "()I"⟩
abbrev cX4_isAnother : ByteArray := prog_6_method_12_code
def yX4_isAnother : MethodName := ⟨RX4, "isAnother", "(I)Z"⟩
def RX5 : String := "AccentShop"
def TX5 : u_T := fun k => match k with
  | 0 => ("AccentShop", "accentText", "LAccentShop$Text;", true)
  | 1 => ("AccentShop", "peopleText", "LAccentShop$Text;", true)
  | 2 => ("AccentShop", "told", "LAccentShop$Setting;", true)
  | 3 => ("AccentShop", "tried", "LAccentShop$Setting;", true)
  | 4 => ("AccentShop", "days", "LAccentShop$Walk;", true)
  | 5 => ("AccentShop", "trial", "LAccentShop$Walk;", true)
  | 6 => ("AccentShop", "heard", "LAccentShop$Heard;", true)
  | 7 => ("AccentShop", "sheets", "[LAccentShop$Sheet;", true)
  | 8 => ("AccentShop", "strays", "[I", true)
  | 9 => ("AccentShop", "straysKnown", "Z", false)
  | 10 => ("AccentShop", "firstDays", "[I", true)
  | 11 => ("AccentShop", "tally", "[I", true)
  | 12 => ("AccentShop", "refused", "[I", true)
  | _ => ("AccentShop", "latestFinding", "I", false)
def tyX5 : Nat → FieldType := fun k => match k with
  | 0 => .object "AccentShop$Text"
  | 1 => .object "AccentShop$Text"
  | 2 => .object "AccentShop$Setting"
  | 3 => .object "AccentShop$Setting"
  | 4 => .object "AccentShop$Walk"
  | 5 => .object "AccentShop$Walk"
  | 6 => .object "AccentShop$Heard"
  | 7 => .array (.object "AccentShop$Sheet")
  | 8 => .array .int
  | 9 => .boolean
  | 10 => .array .int
  | 11 => .array .int
  | 12 => .array .int
  | _ => .int
abbrev wsX50 : List Cond := u_ws RX5 TX5 14
theorem nmX5 : ∀ a, a < 14 → ∀ b, b < 14 → a ≠ b → (TX5 a).2.1 ≠ (TX5 b).2.1 := by decide +kernel
theorem tyX5_ok : ∀ k, k < 14 → parseFieldDescriptor (TX5 k).2.2.1 = some (tyX5 k) := by decide +kernel
abbrev cX5_init : ByteArray := prog_1_method_1_code
def yX5_init : MethodName := ⟨RX5, "<init>", "()V"⟩
abbrev cX5_type : ByteArray := prog_1_method_2_code
def yX5_type : MethodName := ⟨RX5, "type", "(II)I"⟩
abbrev cX5_wipe : ByteArray := prog_1_method_3_code
def yX5_wipe : MethodName := ⟨RX5, "wipe", "(I)I"⟩
abbrev cX5_undo : ByteArray := prog_1_method_4_code
def yX5_undo : MethodName := ⟨RX5, "undo", "(I)I"⟩
abbrev cX5_fault : ByteArray := prog_1_method_5_code
def yX5_fault : MethodName := ⟨RX5, "fault", "(I)I"⟩
abbrev cX5_accent : ByteArray := prog_1_method_6_code
def yX5_accent : MethodName := ⟨RX5, "accent", "(II)I"⟩
abbrev cX5_person : ByteArray := prog_1_method_7_code
def yX5_person : MethodName := ⟨RX5, "person", "(II)I"⟩
abbrev cX5_hire : ByteArray := prog_1_method_8_code
def yX5_hire : MethodName := ⟨RX5, "hire", "(III)I"⟩
abbrev cX5_back : ByteArray := prog_1_method_9_code
def yX5_back : MethodName := ⟨RX5, "back", "()I"⟩
abbrev cX5_read : ByteArray := prog_1_method_10_code
def yX5_read : MethodName := ⟨RX5, "read", "(I)I"⟩
abbrev cX5_at : ByteArray := prog_1_method_11_code
def yX5_at : MethodName := ⟨RX5, "at", "(III)I"⟩
abbrev cX5_drawer : ByteArray := prog_1_method_12_code
def yX5_drawer : MethodName := ⟨RX5, "drawer", "(III)I"⟩
abbrev cX5_becomes : ByteArray := prog_1_method_13_code
def yX5_becomes : MethodName := ⟨RX5, "becomes", "(I)I"⟩
abbrev cX5_astray : ByteArray := prog_1_method_14_code
def yX5_astray : MethodName := ⟨RX5, "astray", "()I"⟩
abbrev cX5_crowd : ByteArray := prog_1_method_15_code
def yX5_crowd : MethodName := ⟨RX5, "crowd", "()I"⟩
abbrev cX5_dress : ByteArray := prog_1_method_16_code
def yX5_dress : MethodName := ⟨RX5, "dress", "(IIII)I"⟩
abbrev cX5_home : ByteArray := prog_1_method_17_code
def yX5_home : MethodName := ⟨RX5, "home", "(I)I"⟩
abbrev cX5_tray : ByteArray := prog_1_method_18_code
def yX5_tray : MethodName := ⟨RX5, "tray", "(I)I"⟩
abbrev cX5_refuse : ByteArray := prog_1_method_19_code
def yX5_refuse : MethodName := ⟨RX5, "refuse", "(I)I"⟩
abbrev cX5_hear : ByteArray := prog_1_method_20_code
def yX5_hear : MethodName := ⟨RX5, "hear", "(IIII)I"⟩
abbrev cX5_forget : ByteArray := prog_1_method_21_code
def yX5_forget : MethodName := ⟨RX5, "forget", "()I"⟩
abbrev cX5_never : ByteArray := prog_1_method_22_code
def yX5_never : MethodName := ⟨RX5, "never", "()I"⟩
abbrev cX5_was : ByteArray := prog_1_method_23_code
def yX5_was : MethodName := ⟨RX5, "was", "(II)I"⟩
abbrev cX5_ask : ByteArray := prog_1_method_24_code
def yX5_ask : MethodName := ⟨RX5, "ask", "(I)I"⟩
abbrev cX5_custom : ByteArray := prog_1_method_25_code
def yX5_custom : MethodName := ⟨RX5, "custom", "(III)J"⟩
abbrev cX5_year : ByteArray := prog_1_method_26_code
def yX5_year : MethodName := ⟨RX5, "year", "(III)I"⟩
abbrev cX5_sheet : ByteArray := prog_1_method_27_code
def yX5_sheet : MethodName := ⟨RX5, "sheet", "(III)I"⟩
abbrev cX5_lose : ByteArray := prog_1_method_28_code
def yX5_lose : MethodName := ⟨RX5, "lose", "(I)I"⟩
abbrev cX5_lay : ByteArray := prog_1_method_29_code
def yX5_lay : MethodName := ⟨RX5, "lay", "(IIII)I"⟩
abbrev cX5_get : ByteArray := prog_1_method_30_code
def yX5_get : MethodName := ⟨RX5, "get", "(III)I"⟩
abbrev cX5_copy : ByteArray := prog_1_method_31_code
def yX5_copy : MethodName := ⟨RX5, "copy", "(IIIII)I"⟩
abbrev cX5_write : ByteArray := prog_1_method_32_code
def yX5_write : MethodName := ⟨RX5, "write", "(II)I"⟩
abbrev cX5_count : ByteArray := prog_1_method_33_code
def yX5_count : MethodName := ⟨RX5, "count", "(I)I"⟩
abbrev cX5_digest : ByteArray := prog_1_method_34_code
def yX5_digest : MethodName := ⟨RX5, "digest", "()J"⟩
abbrev cX5_mixAccent : ByteArray := prog_1_method_35_code
def yX5_mixAccent : MethodName := ⟨RX5, "mixAccent", "(JI)J"⟩
abbrev cX5_mixSpeech : ByteArray := prog_1_method_36_code
def yX5_mixSpeech : MethodName := ⟨RX5, "mixSpeech", "(JI)J"⟩
abbrev cX5_isBelow : ByteArray := prog_1_method_37_code
def yX5_isBelow : MethodName := ⟨RX5, "isBelow", "(II)Z"⟩
abbrev cX5_mayBeHired : ByteArray := prog_1_method_38_code
def yX5_mayBeHired : MethodName := ⟨RX5, "mayBeHired", "(III)Z"⟩
abbrev cX5_textOf : ByteArray := prog_1_method_39_code
def yX5_textOf : MethodName := ⟨RX5, "textOf", "(I)LAccentShop$Text;"⟩
abbrev cX5_finding : ByteArray := prog_1_method_40_code
def yX5_finding : MethodName := ⟨RX5, "finding", "(I)I"⟩
abbrev cX5_tellAgain : ByteArray := prog_1_method_41_code
def yX5_tellAgain : MethodName := ⟨RX5, "tellAgain", "()V"⟩
abbrev cX5_beginAgain : ByteArray := prog_1_method_42_code
def yX5_beginAgain : MethodName := ⟨RX5, "beginAgain", "()V"⟩
abbrev cX5_standBehind : ByteArray := prog_1_method_43_code
def yX5_standBehind : MethodName := ⟨RX5, "standBehind", "(I)V"⟩
abbrev cX5_tryHiringMore : ByteArray := prog_1_method_44_code
def yX5_tryHiringMore : MethodName := ⟨RX5, "tryHiringMore", "(III)V"⟩
abbrev cX5_findFirstDays : ByteArray := prog_1_method_45_code
def yX5_findFirstDays : MethodName := ⟨RX5, "findFirstDays", "(LAccentShop$Walk;)I"⟩
abbrev cX5_clearTally : ByteArray := prog_1_method_46_code
def yX5_clearTally : MethodName := ⟨RX5, "clearTally", "()V"⟩
abbrev cX5_tallyTaken : ByteArray := prog_1_method_47_code
def yX5_tallyTaken : MethodName := ⟨RX5, "tallyTaken", "(LAccentShop$Walk;I)V"⟩
abbrev cX5_tallyAsOwn : ByteArray := prog_1_method_48_code
def yX5_tallyAsOwn : MethodName := ⟨RX5, "tallyAsOwn", "(II)V"⟩
abbrev cX5_mostAlike : ByteArray := prog_1_method_49_code
def yX5_mostAlike : MethodName := ⟨RX5, "mostAlike", "(I)I"⟩
abbrev cX5_findRefused : ByteArray := prog_1_method_50_code
def yX5_findRefused : MethodName := ⟨RX5, "findRefused", "()I"⟩
abbrev cX5_nobodyAstrayWithout : ByteArray := prog_1_method_51_code
def yX5_nobodyAstrayWithout : MethodName := ⟨RX5, "nobodyAstrayWithout", "(II)Z"⟩
abbrev cX5_comesOut : ByteArray := prog_1_method_52_code
def yX5_comesOut : MethodName := ⟨RX5, "comesOut", "()Z"⟩
abbrev cX5_whoseBits : ByteArray := prog_1_method_53_code
def yX5_whoseBits : MethodName := ⟨RX5, "whoseBits", "(I)I"⟩
abbrev cX5_sortBits : ByteArray := prog_1_method_54_code
def yX5_sortBits : MethodName := ⟨RX5, "sortBits", "(I)I"⟩
abbrev cX5_learnStrays : ByteArray := prog_1_method_55_code
def yX5_learnStrays : MethodName := ⟨RX5, "learnStrays", "()V"⟩
abbrev cX5_weight : ByteArray := prog_1_method_56_code
def yX5_weight : MethodName := ⟨RX5, "weight", "(II)J"⟩
abbrev cX5_tryYear : ByteArray := prog_1_method_57_code
def yX5_tryYear : MethodName := ⟨RX5, "tryYear", "(II)V"⟩
abbrev cX5_seedAfter : ByteArray := prog_1_method_58_code
def yX5_seedAfter : MethodName := ⟨RX5, "seedAfter", "(I)I"⟩
abbrev cX5_lot : ByteArray := prog_1_method_59_code
def yX5_lot : MethodName := ⟨RX5, "lot", "(II)I"⟩
def RX6 : String := "AccentShopModel"
def TX6 : u_T := fun k => match k with
  | 0 => ("AccentShopModel", "forms", "[I", true)
  | 1 => ("AccentShopModel", "sizes", "[I", true)
  | 2 => ("AccentShopModel", "items", "[I", true)
  | 3 => ("AccentShopModel", "moved", "[I", true)
  | 4 => ("AccentShopModel", "latest", "I", false)
  | 5 => ("AccentShopModel", "bytes", "[I", true)
  | 6 => ("AccentShopModel", "typed", "[I", true)
  | 7 => ("AccentShopModel", "accents", "I", false)
  | 8 => ("AccentShopModel", "accent", "[I", true)
  | 9 => ("AccentShopModel", "people", "I", false)
  | 10 => ("AccentShopModel", "person", "[I", true)
  | 11 => ("AccentShopModel", "hirings", "I", false)
  | 12 => ("AccentShopModel", "hiring", "[I", true)
  | 13 => ("AccentShopModel", "gone", "I", false)
  | 14 => ("AccentShopModel", "oddDay", "I", false)
  | 15 => ("AccentShopModel", "oddWho", "I", false)
  | 16 => ("AccentShopModel", "oddAccent", "I", false)
  | 17 => ("AccentShopModel", "mark", "[I", true)
  | 18 => ("AccentShopModel", "speech", "[I", true)
  | 19 => ("AccentShopModel", "wears", "[I", true)
  | 20 => ("AccentShopModel", "markBy", "[I", true)
  | 21 => ("AccentShopModel", "speechBy", "[I", true)
  | 22 => ("AccentShopModel", "wearsBy", "[I", true)
  | 23 => ("AccentShopModel", "takenBy", "[I", true)
  | 24 => ("AccentShopModel", "farBy", "[I", true)
  | 25 => ("AccentShopModel", "becomes", "[I", true)
  | 26 => ("AccentShopModel", "heard", "I", false)
  | 27 => ("AccentShopModel", "sound", "[I", true)
  | 28 => ("AccentShopModel", "takes", "[I", true)
  | 29 => ("AccentShopModel", "drawn", "I", false)
  | _ => ("AccentShopModel", "told", "[I", true)
def tyX6 : Nat → FieldType := fun k => match k with
  | 0 => .array .int
  | 1 => .array .int
  | 2 => .array .int
  | 3 => .array .int
  | 4 => .int
  | 5 => .array .int
  | 6 => .array .int
  | 7 => .int
  | 8 => .array .int
  | 9 => .int
  | 10 => .array .int
  | 11 => .int
  | 12 => .array .int
  | 13 => .int
  | 14 => .int
  | 15 => .int
  | 16 => .int
  | 17 => .array .int
  | 18 => .array .int
  | 19 => .array .int
  | 20 => .array .int
  | 21 => .array .int
  | 22 => .array .int
  | 23 => .array .int
  | 24 => .array .int
  | 25 => .array .int
  | 26 => .int
  | 27 => .array .int
  | 28 => .array .int
  | 29 => .int
  | _ => .array .int
abbrev wsX60 : List Cond := u_ws RX6 TX6 31
theorem nmX6 : ∀ a, a < 31 → ∀ b, b < 31 → a ≠ b → (TX6 a).2.1 ≠ (TX6 b).2.1 := by decide +kernel
theorem tyX6_ok : ∀ k, k < 31 → parseFieldDescriptor (TX6 k).2.2.1 = some (tyX6 k) := by decide +kernel
abbrev cX6_init : ByteArray := prog_8_method_1_code
def yX6_init : MethodName := ⟨RX6, "<init>", "()V"⟩
abbrev cX6_in : ByteArray := prog_8_method_3_code
def yX6_in : MethodName := ⟨RX6, "in", "(JJJ)Z"⟩
abbrev cX6_no : ByteArray := prog_8_method_4_code
def yX6_no : MethodName := ⟨RX6, "no", "(I)J"⟩
abbrev cX6_isTwo : ByteArray := prog_8_method_5_code
def yX6_isTwo : MethodName := ⟨RX6, "isTwo", "(I)Z"⟩
abbrev cX6_isIn : ByteArray := prog_8_method_6_code
def yX6_isIn : MethodName := ⟨RX6, "isIn", "(II)Z"⟩
abbrev cX6_ones : ByteArray := prog_8_method_7_code
def yX6_ones : MethodName := ⟨RX6, "ones", "(I)I"⟩
abbrev cX6_lesser : ByteArray := prog_8_method_8_code
def yX6_lesser : MethodName := ⟨RX6, "lesser", "(II)I"⟩
abbrev cX6_greater : ByteArray := prog_8_method_9_code
def yX6_greater : MethodName := ⟨RX6, "greater", "(II)I"⟩
abbrev cX6_size : ByteArray := prog_8_method_10_code
def yX6_size : MethodName := ⟨RX6, "size", "(I)I"⟩
abbrev cX6_part : ByteArray := prog_8_method_11_code
def yX6_part : MethodName := ⟨RX6, "part", "(JJI)J"⟩
abbrev cX6_finds : ByteArray := prog_8_method_12_code
def yX6_finds : MethodName := ⟨RX6, "finds", "(I)I"⟩
abbrev cX6_isSheet : ByteArray := prog_8_method_13_code
def yX6_isSheet : MethodName := ⟨RX6, "isSheet", "(I)Z"⟩
abbrev cX6_sheet : ByteArray := prog_8_method_14_code
def yX6_sheet : MethodName := ⟨RX6, "sheet", "(III)I"⟩
abbrev cX6_lose : ByteArray := prog_8_method_15_code
def yX6_lose : MethodName := ⟨RX6, "lose", "(I)I"⟩
abbrev cX6_lacks : ByteArray := prog_8_method_16_code
def yX6_lacks : MethodName := ⟨RX6, "lacks", "(III)I"⟩
abbrev cX6_cut : ByteArray := prog_8_method_17_code
def yX6_cut : MethodName := ⟨RX6, "cut", "(II)I"⟩
abbrev cX6_lay : ByteArray := prog_8_method_18_code
def yX6_lay : MethodName := ⟨RX6, "lay", "(IIII)I"⟩
abbrev cX6_get : ByteArray := prog_8_method_19_code
def yX6_get : MethodName := ⟨RX6, "get", "(III)I"⟩
abbrev cX6_copy : ByteArray := prog_8_method_20_code
def yX6_copy : MethodName := ⟨RX6, "copy", "(IIIII)I"⟩
abbrev cX6_type : ByteArray := prog_8_method_21_code
def yX6_type : MethodName := ⟨RX6, "type", "(II)I"⟩
abbrev cX6_wipe : ByteArray := prog_8_method_22_code
def yX6_wipe : MethodName := ⟨RX6, "wipe", "(I)I"⟩
abbrev cX6_undo : ByteArray := prog_8_method_23_code
def yX6_undo : MethodName := ⟨RX6, "undo", "(I)I"⟩
abbrev cX6_accentOf : ByteArray := prog_8_method_24_code
def yX6_accentOf : MethodName := ⟨RX6, "accentOf", "(II)I"⟩
abbrev cX6_readsAccents : ByteArray := prog_8_method_25_code
def yX6_readsAccents : MethodName := ⟨RX6, "readsAccents", "()I"⟩
abbrev cX6_personOf : ByteArray := prog_8_method_26_code
def yX6_personOf : MethodName := ⟨RX6, "personOf", "(II)I"⟩
abbrev cX6_readsPeople : ByteArray := prog_8_method_27_code
def yX6_readsPeople : MethodName := ⟨RX6, "readsPeople", "()I"⟩
abbrev cX6_readsText : ByteArray := prog_8_method_28_code
def yX6_readsText : MethodName := ⟨RX6, "readsText", "(I)I"⟩
abbrev cX6_fault : ByteArray := prog_8_method_29_code
def yX6_fault : MethodName := ⟨RX6, "fault", "(I)I"⟩
abbrev cX6_isAccent : ByteArray := prog_8_method_30_code
def yX6_isAccent : MethodName := ⟨RX6, "isAccent", "(I)Z"⟩
abbrev cX6_isPerson : ByteArray := prog_8_method_31_code
def yX6_isPerson : MethodName := ⟨RX6, "isPerson", "(I)Z"⟩
abbrev cX6_isDay : ByteArray := prog_8_method_32_code
def yX6_isDay : MethodName := ⟨RX6, "isDay", "(I)Z"⟩
abbrev cX6_isEight : ByteArray := prog_8_method_33_code
def yX6_isEight : MethodName := ⟨RX6, "isEight", "(I)Z"⟩
abbrev cX6_accent : ByteArray := prog_8_method_34_code
def yX6_accent : MethodName := ⟨RX6, "accent", "(II)I"⟩
abbrev cX6_person : ByteArray := prog_8_method_35_code
def yX6_person : MethodName := ⟨RX6, "person", "(II)I"⟩
abbrev cX6_puts : ByteArray := prog_8_method_36_code
def yX6_puts : MethodName := ⟨RX6, "puts", "(III)V"⟩
abbrev cX6_hire : ByteArray := prog_8_method_37_code
def yX6_hire : MethodName := ⟨RX6, "hire", "(III)I"⟩
abbrev cX6_back : ByteArray := prog_8_method_38_code
def yX6_back : MethodName := ⟨RX6, "back", "()I"⟩
abbrev cX6_read : ByteArray := prog_8_method_39_code
def yX6_read : MethodName := ⟨RX6, "read", "(I)I"⟩
abbrev cX6_isWorn : ByteArray := prog_8_method_40_code
def yX6_isWorn : MethodName := ⟨RX6, "isWorn", "(I)Z"⟩
abbrev cX6_towards : ByteArray := prog_8_method_41_code
def yX6_towards : MethodName := ⟨RX6, "towards", "(III)I"⟩
abbrev cX6_talk : ByteArray := prog_8_method_42_code
def yX6_talk : MethodName := ⟨RX6, "talk", "(I)V"⟩
abbrev cX6_speaks : ByteArray := prog_8_method_43_code
def yX6_speaks : MethodName := ⟨RX6, "speaks", "(II)V"⟩
abbrev cX6_farOf : ByteArray := prog_8_method_44_code
def yX6_farOf : MethodName := ⟨RX6, "farOf", "(II)I"⟩
abbrev cX6_judges : ByteArray := prog_8_method_45_code
def yX6_judges : MethodName := ⟨RX6, "judges", "(II)V"⟩
abbrev cX6_passes : ByteArray := prog_8_method_46_code
def yX6_passes : MethodName := ⟨RX6, "passes", "(I)V"⟩
abbrev cX6_lives : ByteArray := prog_8_method_47_code
def yX6_lives : MethodName := ⟨RX6, "lives", "()V"⟩
abbrev cX6_find : ByteArray := prog_8_method_48_code
def yX6_find : MethodName := ⟨RX6, "find", "()V"⟩
abbrev cX6_atBy : ByteArray := prog_8_method_49_code
def yX6_atBy : MethodName := ⟨RX6, "atBy", "(III)I"⟩
abbrev cX6_at : ByteArray := prog_8_method_50_code
def yX6_at : MethodName := ⟨RX6, "at", "(III)I"⟩
abbrev cX6_drawerBy : ByteArray := prog_8_method_51_code
def yX6_drawerBy : MethodName := ⟨RX6, "drawerBy", "(III)I"⟩
abbrev cX6_drawer : ByteArray := prog_8_method_52_code
def yX6_drawer : MethodName := ⟨RX6, "drawer", "(III)I"⟩
abbrev cX6_becomes : ByteArray := prog_8_method_53_code
def yX6_becomes : MethodName := ⟨RX6, "becomes", "(I)I"⟩
abbrev cX6_isAstray : ByteArray := prog_8_method_54_code
def yX6_isAstray : MethodName := ⟨RX6, "isAstray", "(I)Z"⟩
abbrev cX6_astrayNow : ByteArray := prog_8_method_55_code
def yX6_astrayNow : MethodName := ⟨RX6, "astrayNow", "()I"⟩
abbrev cX6_astray : ByteArray := prog_8_method_56_code
def yX6_astray : MethodName := ⟨RX6, "astray", "()I"⟩
abbrev cX6_crowdNow : ByteArray := prog_8_method_57_code
def yX6_crowdNow : MethodName := ⟨RX6, "crowdNow", "()I"⟩
abbrev cX6_crowd : ByteArray := prog_8_method_58_code
def yX6_crowd : MethodName := ⟨RX6, "crowd", "()I"⟩
abbrev cX6_becomeMany : ByteArray := prog_8_method_59_code
def yX6_becomeMany : MethodName := ⟨RX6, "becomeMany", "()I"⟩
abbrev cX6_dressOf : ByteArray := prog_8_method_60_code
def yX6_dressOf : MethodName := ⟨RX6, "dressOf", "(IIII)I"⟩
abbrev cX6_dress : ByteArray := prog_8_method_61_code
def yX6_dress : MethodName := ⟨RX6, "dress", "(IIII)I"⟩
abbrev cX6_homeOf : ByteArray := prog_8_method_62_code
def yX6_homeOf : MethodName := ⟨RX6, "homeOf", "(I)I"⟩
abbrev cX6_home : ByteArray := prog_8_method_63_code
def yX6_home : MethodName := ⟨RX6, "home", "(I)I"⟩
abbrev cX6_other : ByteArray := prog_8_method_64_code
def yX6_other : MethodName := ⟨RX6, "other", "(III)I"⟩
abbrev cX6_changes : ByteArray := prog_8_method_65_code
def yX6_changes : MethodName := ⟨RX6, "changes", "(II)V"⟩
abbrev cX6_trayBy : ByteArray := prog_8_method_66_code
def yX6_trayBy : MethodName := ⟨RX6, "trayBy", "(I)I"⟩
abbrev cX6_tray : ByteArray := prog_8_method_67_code
def yX6_tray : MethodName := ⟨RX6, "tray", "(I)I"⟩
abbrev cX6_isRight : ByteArray := prog_8_method_68_code
def yX6_isRight : MethodName := ⟨RX6, "isRight", "(I)Z"⟩
abbrev cX6_refuseOf : ByteArray := prog_8_method_69_code
def yX6_refuseOf : MethodName := ⟨RX6, "refuseOf", "(I)I"⟩
abbrev cX6_refuse : ByteArray := prog_8_method_70_code
def yX6_refuse : MethodName := ⟨RX6, "refuse", "(I)I"⟩
abbrev cX6_hear : ByteArray := prog_8_method_71_code
def yX6_hear : MethodName := ⟨RX6, "hear", "(IIII)I"⟩
abbrev cX6_forget : ByteArray := prog_8_method_72_code
def yX6_forget : MethodName := ⟨RX6, "forget", "()I"⟩
abbrev cX6_isHeard : ByteArray := prog_8_method_73_code
def yX6_isHeard : MethodName := ⟨RX6, "isHeard", "()Z"⟩
abbrev cX6_neverNow : ByteArray := prog_8_method_74_code
def yX6_neverNow : MethodName := ⟨RX6, "neverNow", "()I"⟩
abbrev cX6_never : ByteArray := prog_8_method_75_code
def yX6_never : MethodName := ⟨RX6, "never", "()I"⟩
abbrev cX6_whoseOf : ByteArray := prog_8_method_76_code
def yX6_whoseOf : MethodName := ⟨RX6, "whoseOf", "(I)I"⟩
abbrev cX6_sortOf : ByteArray := prog_8_method_77_code
def yX6_sortOf : MethodName := ⟨RX6, "sortOf", "(I)I"⟩
abbrev cX6_wasOf : ByteArray := prog_8_method_78_code
def yX6_wasOf : MethodName := ⟨RX6, "wasOf", "(II)I"⟩
abbrev cX6_was : ByteArray := prog_8_method_79_code
def yX6_was : MethodName := ⟨RX6, "was", "(II)I"⟩
abbrev cX6_alike : ByteArray := prog_8_method_80_code
def yX6_alike : MethodName := ⟨RX6, "alike", "(II)I"⟩
abbrev cX6_askOf : ByteArray := prog_8_method_81_code
def yX6_askOf : MethodName := ⟨RX6, "askOf", "(I)I"⟩
abbrev cX6_ask : ByteArray := prog_8_method_82_code
def yX6_ask : MethodName := ⟨RX6, "ask", "(I)I"⟩
abbrev cX6_customOf : ByteArray := prog_8_method_83_code
def yX6_customOf : MethodName := ⟨RX6, "customOf", "(III)J"⟩
abbrev cX6_custom : ByteArray := prog_8_method_84_code
def yX6_custom : MethodName := ⟨RX6, "custom", "(III)J"⟩
abbrev cX6_lot : ByteArray := prog_8_method_85_code
def yX6_lot : MethodName := ⟨RX6, "lot", "(I)I"⟩
abbrev cX6_yearOf : ByteArray := prog_8_method_86_code
def yX6_yearOf : MethodName := ⟨RX6, "yearOf", "(III)I"⟩
abbrev cX6_year : ByteArray := prog_8_method_87_code
def yX6_year : MethodName := ⟨RX6, "year", "(III)I"⟩
abbrev cX6_write : ByteArray := prog_8_method_88_code
def yX6_write : MethodName := ⟨RX6, "write", "(II)I"⟩
abbrev cX6_count : ByteArray := prog_8_method_89_code
def yX6_count : MethodName := ⟨RX6, "count", "(I)I"⟩
abbrev cX6_tellsDrawer : ByteArray := prog_8_method_90_code
def yX6_tellsDrawer : MethodName := ⟨RX6, "tellsDrawer", "(JII)J"⟩
abbrev cX6_tellsDay : ByteArray := prog_8_method_91_code
def yX6_tellsDay : MethodName := ⟨RX6, "tellsDay", "(JII)J"⟩
abbrev cX6_tellsPerson : ByteArray := prog_8_method_92_code
def yX6_tellsPerson : MethodName := ⟨RX6, "tellsPerson", "(JI)J"⟩
abbrev cX6_digest : ByteArray := prog_8_method_93_code
def yX6_digest : MethodName := ⟨RX6, "digest", "()J"⟩
def RJ11 : String := "java/lang/Character"
def TJ11 : u_T := fun k => match k with
  | _ => ("", "", "", false)
def tyJ11 : Nat → FieldType := fun k => match k with
  | _ => .int
abbrev wsJ110 : List Cond := u_ws RJ11 TJ11 0
theorem nmJ11 : ∀ a, a < 0 → ∀ b, b < 0 → a ≠ b → (TJ11 a).2.1 ≠ (TJ11 b).2.1 := by decide +kernel
theorem tyJ11_ok : ∀ k, k < 0 → parseFieldDescriptor (TJ11 k).2.2.1 = some (tyJ11 k) := by decide +kernel
abbrev cJ11_isValidCodePoint_9a6ad : ByteArray := prog_9_method_11_code
def yJ11_isValidCodePoint_9a6ad : MethodName := ⟨RJ11, "isValidCodePoint", "(I)Z"⟩
abbrev cJ11_highSurrogate_5068e : ByteArray := prog_9_method_28_code
def yJ11_highSurrogate_5068e : MethodName := ⟨RJ11, "highSurrogate", "(I)C"⟩
abbrev cJ11_lowSurrogate_5068e : ByteArray := prog_9_method_29_code
def yJ11_lowSurrogate_5068e : MethodName := ⟨RJ11, "lowSurrogate", "(I)C"⟩
def RJ6 : String := "java/lang/Integer"
def TJ6 : u_T := fun k => match k with
  | _ => ("", "", "", false)
def tyJ6 : Nat → FieldType := fun k => match k with
  | _ => .int
abbrev wsJ60 : List Cond := u_ws RJ6 TJ6 0
theorem nmJ6 : ∀ a, a < 0 → ∀ b, b < 0 → a ≠ b → (TJ6 a).2.1 ≠ (TJ6 b).2.1 := by decide +kernel
theorem tyJ6_ok : ∀ k, k < 0 → parseFieldDescriptor (TJ6 k).2.2.1 = some (tyJ6 k) := by decide +kernel
abbrev cJ6_bitCount_0f7a4 : ByteArray := prog_10_method_49_code
def yJ6_bitCount_0f7a4 : MethodName := ⟨RJ6, "bitCount", "(I)I"⟩
def RJ9 : String := "java/lang/Math"
def TJ9 : u_T := fun k => match k with
  | _ => ("", "", "", false)
def tyJ9 : Nat → FieldType := fun k => match k with
  | _ => .int
abbrev wsJ90 : List Cond := u_ws RJ9 TJ9 0
theorem nmJ9 : ∀ a, a < 0 → ∀ b, b < 0 → a ≠ b → (TJ9 a).2.1 ≠ (TJ9 b).2.1 := by decide +kernel
theorem tyJ9_ok : ∀ k, k < 0 → parseFieldDescriptor (TJ9 k).2.2.1 = some (tyJ9 k) := by decide +kernel
abbrev cJ9_abs_0f7a4 : ByteArray := prog_11_method_59_code
def yJ9_abs_0f7a4 : MethodName := ⟨RJ9, "abs", "(I)I"⟩
abbrev cJ9_max_7cf53 : ByteArray := prog_11_method_65_code
def yJ9_max_7cf53 : MethodName := ⟨RJ9, "max", "(II)I"⟩
abbrev cJ9_min_7cf53 : ByteArray := prog_11_method_69_code
def yJ9_min_7cf53 : MethodName := ⟨RJ9, "min", "(II)I"⟩
def RJ0 : String := "java/lang/String"
def TJ0 : u_T := fun k => match k with
  | _ => ("", "", "", false)
def tyJ0 : Nat → FieldType := fun k => match k with
  | _ => .int
abbrev wsJ00 : List Cond := u_ws RJ0 TJ0 0
theorem nmJ0 : ∀ a, a < 0 → ∀ b, b < 0 → a ≠ b → (TJ0 a).2.1 ≠ (TJ0 b).2.1 := by decide +kernel
theorem tyJ0_ok : ∀ k, k < 0 → parseFieldDescriptor (TJ0 k).2.2.1 = some (tyJ0 k) := by decide +kernel
abbrev cJ0_length_8abf5 : ByteArray := prog_12_method_54_code
def yJ0_length_8abf5 : MethodName := ⟨RJ0, "length", "()I"⟩
abbrev cJ0_indexOf_0f7a4 : ByteArray := prog_12_method_79_code
def yJ0_indexOf_0f7a4 : MethodName := ⟨RJ0, "indexOf", "(I)I"⟩
abbrev cJ0_indexOf_7cf53 : ByteArray := prog_12_method_80_code
def yJ0_indexOf_7cf53 : MethodName := ⟨RJ0, "indexOf", "(II)I"⟩
abbrev cJ0_coder_7d493 : ByteArray := prog_12_method_152_code
def yJ0_coder_7d493 : MethodName := ⟨RJ0, "coder", "()B"⟩
abbrev cJ0_isLatin1_aae02 : ByteArray := prog_12_method_154_code
def yJ0_isLatin1_aae02 : MethodName := ⟨RJ0, "isLatin1", "()Z"⟩
abbrev cJ0_checkBoundsBeginEnd_23922 : ByteArray := prog_12_method_158_code
def yJ0_checkBoundsBeginEnd_23922 : MethodName := ⟨RJ0, "checkBoundsBeginEnd", "(III)V"⟩
def RJ1 : String := "java/lang/StringLatin1"
def TJ1 : u_T := fun k => match k with
  | _ => ("", "", "", false)
def tyJ1 : Nat → FieldType := fun k => match k with
  | _ => .int
abbrev wsJ10 : List Cond := u_ws RJ1 TJ1 0
theorem nmJ1 : ∀ a, a < 0 → ∀ b, b < 0 → a ≠ b → (TJ1 a).2.1 ≠ (TJ1 b).2.1 := by decide +kernel
theorem tyJ1_ok : ∀ k, k < 0 → parseFieldDescriptor (TJ1 k).2.2.1 = some (tyJ1 k) := by decide +kernel
abbrev cJ1_canEncode_9a6ad : ByteArray := prog_13_method_4_code
def yJ1_canEncode_9a6ad : MethodName := ⟨RJ1, "canEncode", "(I)Z"⟩
abbrev cJ1_indexOf_4cfef : ByteArray := prog_13_method_22_code
def yJ1_indexOf_4cfef : MethodName := ⟨RJ1, "indexOf", "([BIII)I"⟩
abbrev cJ1_indexOfChar_4cfef : ByteArray := prog_13_method_23_code
def yJ1_indexOfChar_4cfef : MethodName := ⟨RJ1, "indexOfChar", "([BIII)I"⟩
def RJ2 : String := "java/lang/StringUTF16"
def TJ2 : u_T := fun k => match k with
  | _ => ("", "", "", false)
def tyJ2 : Nat → FieldType := fun k => match k with
  | _ => .int
abbrev wsJ20 : List Cond := u_ws RJ2 TJ2 0
theorem nmJ2 : ∀ a, a < 0 → ∀ b, b < 0 → a ≠ b → (TJ2 a).2.1 ≠ (TJ2 b).2.1 := by decide +kernel
theorem tyJ2_ok : ∀ k, k < 0 → parseFieldDescriptor (TJ2 k).2.2.1 = some (tyJ2 k) := by decide +kernel
abbrev cJ2_getChar_3b067 : ByteArray := prog_14_method_5_code
def yJ2_getChar_3b067 : MethodName := ⟨RJ2, "getChar", "([BI)C"⟩
abbrev cJ2_length_9d52b : ByteArray := prog_14_method_6_code
def yJ2_length_9d52b : MethodName := ⟨RJ2, "length", "([B)I"⟩
abbrev cJ2_indexOf_4cfef : ByteArray := prog_14_method_40_code
def yJ2_indexOf_4cfef : MethodName := ⟨RJ2, "indexOf", "([BIII)I"⟩
abbrev cJ2_indexOfChar_4cfef : ByteArray := prog_14_method_47_code
def yJ2_indexOfChar_4cfef : MethodName := ⟨RJ2, "indexOfChar", "([BIII)I"⟩
abbrev cJ2_indexOfCharUnsafe_4cfef : ByteArray := prog_14_method_48_code
def yJ2_indexOfCharUnsafe_4cfef : MethodName := ⟨RJ2, "indexOfCharUnsafe", "([BIII)I"⟩
abbrev cJ2_indexOfSupplementary_4cfef : ByteArray := prog_14_method_49_code
def yJ2_indexOfSupplementary_4cfef : MethodName := ⟨RJ2, "indexOfSupplementary", "([BIII)I"⟩
abbrev cJ2_checkBoundsBeginEnd_d044e : ByteArray := prog_14_method_93_code
def yJ2_checkBoundsBeginEnd_d044e : MethodName := ⟨RJ2, "checkBoundsBeginEnd", "(II[B)V"⟩
def RJ10 : String := "java/lang/System"
def TJ10 : u_T := fun k => match k with
  | _ => ("", "", "", false)
def tyJ10 : Nat → FieldType := fun k => match k with
  | _ => .int
abbrev wsJ100 : List Cond := u_ws RJ10 TJ10 0
theorem nmJ10 : ∀ a, a < 0 → ∀ b, b < 0 → a ≠ b → (TJ10 a).2.1 ≠ (TJ10 b).2.1 := by decide +kernel
theorem tyJ10_ok : ∀ k, k < 0 → parseFieldDescriptor (TJ10 k).2.2.1 = some (tyJ10 k) := by decide +kernel
def RJ3 : String := "jdk/internal/util/Preconditions"
def TJ3 : u_T := fun k => match k with
  | _ => ("", "", "", false)
def tyJ3 : Nat → FieldType := fun k => match k with
  | _ => .int
abbrev wsJ30 : List Cond := u_ws RJ3 TJ3 0
theorem nmJ3 : ∀ a, a < 0 → ∀ b, b < 0 → a ≠ b → (TJ3 a).2.1 ≠ (TJ3 b).2.1 := by decide +kernel
theorem tyJ3_ok : ∀ k, k < 0 → parseFieldDescriptor (TJ3 k).2.2.1 = some (tyJ3 k) := by decide +kernel
abbrev cJ3_checkFromToIndex_8c36e : ByteArray := prog_16_method_12_code
def yJ3_checkFromToIndex_8c36e : MethodName := ⟨RJ3, "checkFromToIndex", "(IIILjava/util/function/BiFunction;)I"⟩
def RL : String := "AccentShopLaw"
abbrev cL_law : ByteArray := code
def yL_law : MethodName := ⟨RL, "law", "([I)Z"⟩
abbrev vwCl : List vw_C := [(RX0, TX0, 5), (RX1, TX1, 10), (RX2, TX2, 3), (RX3, TX3, 5), (RX4, TX4, 6), (RX5, TX5, 14), (RX6, TX6, 31)]
end
section
-- THE WORLD: 71 cells by number; the strings are 71, 72, the static arrays 73, 74
-- 0: shop (kind 5, length 0)
-- 1: accentText (kind 3, length 0)
-- 2: accentText.bytes (kind 7, length 55)
-- 3: peopleText (kind 3, length 0)
-- 4: peopleText.bytes (kind 7, length 23)
-- 5: told (kind 1, length 0)
-- 6: told.sorts (kind 7, length 8)
-- 7: told.marks (kind 7, length 40)
-- 8: told.kinds (kind 7, length 8)
-- 9: told.owns (kind 7, length 8)
-- 10: told.days (kind 7, length 9)
-- 11: told.who (kind 7, length 9)
-- 12: told.which (kind 7, length 9)
-- 13: tried (kind 1, length 0)
-- 14: tried.sorts (kind 7, length 8)
-- 15: tried.marks (kind 7, length 40)
-- 16: tried.kinds (kind 7, length 8)
-- 17: tried.owns (kind 7, length 8)
-- 18: tried.days (kind 7, length 9)
-- 19: tried.who (kind 7, length 9)
-- 20: tried.which (kind 7, length 9)
-- 21: days (kind 4, length 0)
-- 22: days.marks (kind 7, length 40)
-- 23: days.speech (kind 7, length 40)
-- 24: days.wears (kind 7, length 8)
-- 25: days.wearers (kind 7, length 8)
-- 26: trial (kind 4, length 0)
-- 27: trial.marks (kind 7, length 40)
-- 28: trial.speech (kind 7, length 40)
-- 29: trial.wears (kind 7, length 8)
-- 30: trial.wearers (kind 7, length 8)
-- 31: heard (kind 0, length 0)
-- 32: heard.days (kind 7, length 8)
-- 33: heard.who (kind 7, length 8)
-- 34: heard.sounds (kind 7, length 8)
-- 35: heard.heardMarks (kind 7, length 8)
-- 36: sheets (kind 8, length 4)
-- 37: sheet0 (kind 2, length 0)
-- 38: sheet0.items (kind 7, length 60)
-- 39: sheet1 (kind 2, length 0)
-- 40: sheet1.items (kind 7, length 60)
-- 41: sheet2 (kind 2, length 0)
-- 42: sheet2.items (kind 7, length 60)
-- 43: sheet3 (kind 2, length 0)
-- 44: sheet3.items (kind 7, length 60)
-- 45: strays (kind 7, length 256)
-- 46: firstDays (kind 7, length 8)
-- 47: tally (kind 7, length 270)
-- 48: refused (kind 7, length 2)
-- 49: model (kind 6, length 0)
-- 50: model.forms (kind 7, length 4)
-- 51: model.sizes (kind 7, length 4)
-- 52: model.items (kind 7, length 240)
-- 53: model.moved (kind 7, length 60)
-- 54: model.bytes (kind 7, length 112)
-- 55: model.typed (kind 7, length 2)
-- 56: model.accent (kind 7, length 48)
-- 57: model.person (kind 7, length 16)
-- 58: model.hiring (kind 7, length 24)
-- 59: model.mark (kind 7, length 40)
-- 60: model.speech (kind 7, length 40)
-- 61: model.wears (kind 7, length 8)
-- 62: model.markBy (kind 7, length 1200)
-- 63: model.speechBy (kind 7, length 1200)
-- 64: model.wearsBy (kind 7, length 240)
-- 65: model.takenBy (kind 7, length 240)
-- 66: model.farBy (kind 7, length 240)
-- 67: model.becomes (kind 7, length 8)
-- 68: model.sound (kind 7, length 32)
-- 69: model.takes (kind 7, length 240)
-- 70: model.told (kind 7, length 24)
def NC : Nat := 71
def kd : Nat → Nat := fun k => match k with
  | 0 => 5
  | 1 => 3
  | 2 => 7
  | 3 => 3
  | 4 => 7
  | 5 => 1
  | 6 => 7
  | 7 => 7
  | 8 => 7
  | 9 => 7
  | 10 => 7
  | 11 => 7
  | 12 => 7
  | 13 => 1
  | 14 => 7
  | 15 => 7
  | 16 => 7
  | 17 => 7
  | 18 => 7
  | 19 => 7
  | 20 => 7
  | 21 => 4
  | 22 => 7
  | 23 => 7
  | 24 => 7
  | 25 => 7
  | 26 => 4
  | 27 => 7
  | 28 => 7
  | 29 => 7
  | 30 => 7
  | 31 => 0
  | 32 => 7
  | 33 => 7
  | 34 => 7
  | 35 => 7
  | 36 => 8
  | 37 => 2
  | 38 => 7
  | 39 => 2
  | 40 => 7
  | 41 => 2
  | 42 => 7
  | 43 => 2
  | 44 => 7
  | 45 => 7
  | 46 => 7
  | 47 => 7
  | 48 => 7
  | 49 => 6
  | 50 => 7
  | 51 => 7
  | 52 => 7
  | 53 => 7
  | 54 => 7
  | 55 => 7
  | 56 => 7
  | 57 => 7
  | 58 => 7
  | 59 => 7
  | 60 => 7
  | 61 => 7
  | 62 => 7
  | 63 => 7
  | 64 => 7
  | 65 => 7
  | 66 => 7
  | 67 => 7
  | 68 => 7
  | 69 => 7
  | 70 => 7
  | _ => 9
def ln : Nat → Nat := fun k => match k with
  | 2 => 55
  | 4 => 23
  | 6 => 8
  | 7 => 40
  | 8 => 8
  | 9 => 8
  | 10 => 9
  | 11 => 9
  | 12 => 9
  | 14 => 8
  | 15 => 40
  | 16 => 8
  | 17 => 8
  | 18 => 9
  | 19 => 9
  | 20 => 9
  | 22 => 40
  | 23 => 40
  | 24 => 8
  | 25 => 8
  | 27 => 40
  | 28 => 40
  | 29 => 8
  | 30 => 8
  | 32 => 8
  | 33 => 8
  | 34 => 8
  | 35 => 8
  | 38 => 60
  | 40 => 60
  | 42 => 60
  | 44 => 60
  | 45 => 256
  | 46 => 8
  | 47 => 270
  | 48 => 2
  | 50 => 4
  | 51 => 4
  | 52 => 240
  | 53 => 60
  | 54 => 112
  | 55 => 2
  | 56 => 48
  | 57 => 16
  | 58 => 24
  | 59 => 40
  | 60 => 40
  | 61 => 8
  | 62 => 1200
  | 63 => 1200
  | 64 => 240
  | 65 => 240
  | 66 => 240
  | 67 => 8
  | 68 => 32
  | 69 => 240
  | 70 => 24
  | 73 => 3
  | 74 => 4
  | _ => 0
def rf : Nat → Nat → Nat := fun k j => match k, j with
  | 0, 0 => 1
  | 0, 1 => 3
  | 0, 2 => 5
  | 0, 3 => 13
  | 0, 4 => 21
  | 0, 5 => 26
  | 0, 6 => 31
  | 0, 7 => 36
  | 0, 8 => 45
  | 0, 10 => 46
  | 0, 11 => 47
  | 0, 12 => 48
  | 1, 0 => 2
  | 1, 1 => 71
  | 3, 0 => 4
  | 3, 1 => 72
  | 5, 1 => 6
  | 5, 2 => 7
  | 5, 4 => 8
  | 5, 5 => 9
  | 5, 7 => 10
  | 5, 8 => 11
  | 5, 9 => 12
  | 13, 1 => 14
  | 13, 2 => 15
  | 13, 4 => 16
  | 13, 5 => 17
  | 13, 7 => 18
  | 13, 8 => 19
  | 13, 9 => 20
  | 21, 0 => 5
  | 21, 2 => 22
  | 21, 3 => 23
  | 21, 4 => 24
  | 21, 5 => 25
  | 26, 0 => 13
  | 26, 2 => 27
  | 26, 3 => 28
  | 26, 4 => 29
  | 26, 5 => 30
  | 31, 1 => 32
  | 31, 2 => 33
  | 31, 3 => 34
  | 31, 4 => 35
  | 36, 0 => 37
  | 36, 1 => 39
  | 36, 2 => 41
  | 36, 3 => 43
  | 37, 2 => 38
  | 39, 2 => 40
  | 41, 2 => 42
  | 43, 2 => 44
  | 49, 0 => 50
  | 49, 1 => 51
  | 49, 2 => 52
  | 49, 3 => 53
  | 49, 5 => 54
  | 49, 6 => 55
  | 49, 8 => 56
  | 49, 10 => 57
  | 49, 12 => 58
  | 49, 17 => 59
  | 49, 18 => 60
  | 49, 19 => 61
  | 49, 20 => 62
  | 49, 21 => 63
  | 49, 22 => 64
  | 49, 23 => 65
  | 49, 24 => 66
  | 49, 25 => 67
  | 49, 27 => 68
  | 49, 28 => 69
  | 49, 30 => 70
  | _, _ => 0
def nf : Nat → Nat := fun c => match c with
  | 0 => 5
  | 1 => 10
  | 2 => 3
  | 3 => 5
  | 4 => 6
  | 5 => 14
  | 6 => 31
  | _ => 0
def isR : Nat → Nat → Bool := fun c j => match c, j with
  | 0, 1 => true
  | 0, 2 => true
  | 0, 3 => true
  | 0, 4 => true
  | 1, 1 => true
  | 1, 2 => true
  | 1, 4 => true
  | 1, 5 => true
  | 1, 7 => true
  | 1, 8 => true
  | 1, 9 => true
  | 2, 2 => true
  | 3, 0 => true
  | 3, 1 => true
  | 4, 0 => true
  | 4, 2 => true
  | 4, 3 => true
  | 4, 4 => true
  | 4, 5 => true
  | 5, 0 => true
  | 5, 1 => true
  | 5, 2 => true
  | 5, 3 => true
  | 5, 4 => true
  | 5, 5 => true
  | 5, 6 => true
  | 5, 7 => true
  | 5, 8 => true
  | 5, 10 => true
  | 5, 11 => true
  | 5, 12 => true
  | 6, 0 => true
  | 6, 1 => true
  | 6, 2 => true
  | 6, 3 => true
  | 6, 5 => true
  | 6, 6 => true
  | 6, 8 => true
  | 6, 10 => true
  | 6, 12 => true
  | 6, 17 => true
  | 6, 18 => true
  | 6, 19 => true
  | 6, 20 => true
  | 6, 21 => true
  | 6, 22 => true
  | 6, 23 => true
  | 6, 24 => true
  | 6, 25 => true
  | 6, 27 => true
  | 6, 28 => true
  | 6, 30 => true
  | _, _ => false
end
section
-- THE CORE: memory by number, the world that it spells, the walk's judgement AW, a method's contract MX
abbrev Mem : Type := Nat → Nat → Int32
def upM (M : Mem) (k i : Nat) (x : Int32) : Mem := fun a => if a = k then upd (M k) i x else M a
def cpM (M : Mem) (k0 sp k1 dp n : Nat) : Mem := fun a => if a = k1 then va_cpy (M k0) (M k1) sp dp n else M a
def cel (cI cR : ClassId) (ad : Nat → Nat) (M : Mem) (k : Nat) : va_E :=
  if kd k = 7 then .inl (cI, ln k, .inl (M k))
  else if kd k = 8 then .inl (cR, 4, .inr (.inr (.inr (.inr (fun i => some (ad (rf k i)))))))
  else .inr (kd k, (List.range (nf (kd k))).map (fun j => if isR (kd k) j = true then Value.ref (ad (rf k j)) else Value.int (M k j)))
def wld (cI cR : ClassId) (ad : Nat → Nat) (M : Mem) : va_W := (List.range NC).map (fun k => (ad k, cel cI cR ad M k))
theorem wld_at {cI cR : ClassId} {ad : Nat → Nat} {M : Mem} {k : Nat} (h : k < NC) : (wld cI cR ad M)[k]? = some (ad k, cel cI cR ad M k) := by
  simp [wld, h]
theorem wld_len {cI cR : ClassId} {ad : Nat → Nat} {M : Mem} : (wld cI cR ad M).length = NC := by simp [wld]
theorem wld_set {cI cR : ClassId} {ad : Nat → Nat} {M M' : Mem} {k : Nat} {e : va_E} (he : e = cel cI cR ad M' k) (ho : ∀ j, j ≠ k → M' j = M j) : (wld cI cR ad M).set k (ad k, e) = wld cI cR ad M' := by
  apply List.ext_getElem?
  intro j
  subst he
  by_cases hj : j = k
  · subst hj
    by_cases hl : j < NC
    · rw [wld_at hl, List.getElem?_set_self (by rw [wld_len]; exact hl)]
    · rw [List.getElem?_eq_none (by rw [List.length_set, wld_len]; omega), List.getElem?_eq_none (by rw [wld_len]; omega)]
  · rw [List.getElem?_set_ne (fun e => hj e.symm)]
    by_cases hl : j < NC
    · rw [wld_at hl, wld_at hl]
      have e := ho j hj
      simp only [cel, e]
    · rw [List.getElem?_eq_none (by rw [wld_len]; omega), List.getElem?_eq_none (by rw [wld_len]; omega)]
theorem upM_o {M : Mem} {k i : Nat} {x : Int32} : ∀ j, j ≠ k → upM M k i x j = M j := fun j h => by simp [upM, h]
theorem cpM_o {M : Mem} {k0 sp k1 dp n : Nat} : ∀ j, j ≠ k1 → cpM M k0 sp k1 dp n j = M j := fun j h => by simp [cpM, h]
/-- a cell of a kind -/
def K (k t : Nat) : Prop := k < NC ∧ kd k = t
theorem cel_arr {cI cR : ClassId} {ad : Nat → Nat} {M : Mem} {k : Nat} (h : K k 7) : cel cI cR ad M k = .inl (cI, ln k, .inl (M k)) := by simp [cel, h.2]
theorem cel_row {cI cR : ClassId} {ad : Nat → Nat} {M : Mem} {k : Nat} (h : K k 8) : cel cI cR ad M k = .inl (cR, 4, .inr (.inr (.inr (.inr (fun i => some (ad (rf k i))))))) := by simp [cel, h.2]
theorem cel_obj {cI cR : ClassId} {ad : Nat → Nat} {M : Mem} {k t : Nat} (h : K k t) (ht : t < 7) : cel cI cR ad M k = .inr (t, (List.range (nf t)).map (fun j => if isR t j = true then Value.ref (ad (rf k j)) else Value.int (M k j))) := by
  have h1 : ¬ t = 7 := by omega
  have h2 : ¬ t = 8 := by omega
  simp [cel, h.2, h1, h2]
/-- the words that go with every call -/
def gT : List Cond := lw_tbl.filter goodWord
theorem gT_in (i : Nat) {w : Cond} (h : lw_tbl[i]? = some w) (hg : goodWord w = true) : w ∈ gT := List.mem_filter.mpr ⟨List.mem_of_getElem? h, hg⟩
theorem gT_good : GoodIn gT gT := fun w h => ⟨h, good_of_word (List.mem_filter.mp h).2⟩
/-- what goes with a launch: which cells may change, the classes' numbers, where the cells lie, the classes of the two arrays -/
abbrev EY : Type := Launch × (Nat → Prop) × va_G × (Nat → Nat) × ClassId × ClassId
def tysY (Y : EY) : List (ClassId × FieldType) := [(Y.2.2.2.2.1, .int), (Y.2.2.2.2.2, .object "AccentShop$Sheet")]
def WU (Y : EY) (M : Mem) (H : Heap) : Prop := va_P Y.2.2.1 vwCl (wld Y.2.2.2.2.1 Y.2.2.2.2.2 Y.2.2.2.1 M) H
/-- the private static test that the nested classes call -/
def nestW : List (String × Nat) := [(RX3, 29), (RX1, 65), (RX4, 79), (RX0, 28), (RX2, 22)]
def NU (U : State) : Prop := ∀ q ∈ nestW, va_Nw (.methodLinkNest q.1 q.2 yX5_isBelow "AccentShop") U
def roF : Nat → Nat → Int32 := fun k j => match k, j with
  | 73, 0 => 6
  | 73, 1 => 20
  | 73, 2 => 29
  | 74, 0 => 0
  | 74, 1 => 7
  | 74, 2 => 15
  | 74, 3 => 29
  | _, _ => 0
def stB : Nat → List Int32 := fun i => match i with
  | 0 => [107, 121, 103]
  | _ => [112, 99, 108]
/-- what is read and never written: the two static arrays, the two texts -/
def SU (Y : EY) (U : State) : Prop :=
  (va_Z "AccentShop" "DIGEST_DRAWER_DAYS" "[I" (.ref (Y.2.2.2.1 73)) Y.2.1 U U.heap ∧ va_Z "AccentShop" "DIGEST_SPEECH_DAYS" "[I" (.ref (Y.2.2.2.1 74)) Y.2.1 U U.heap) ∧
  (va_T .int (Y.2.2.2.1 73) 3 (fun j => .int (roF 73 j)) Y.2.1 U U.heap ∧ va_T .int (Y.2.2.2.1 74) 4 (fun j => .int (roF 74 j)) Y.2.1 U U.heap) ∧
  va_Z "java/lang/String" "COMPACT_STRINGS" "Z" (.int 1) Y.2.1 U U.heap ∧
  (∃ adV : Nat → Nat, vk_S 2 [3, 3] [stB 0, stB 1] (fun i => Y.2.2.2.1 (71 + i)) adV Y.2.1 U U.heap)
def KU (Y : EY) (U : State) : Prop := va_K Y.2.2.1 vwCl (tysY Y) U ∧ NU U ∧ SU Y U
def HY (Y : EY) : Prop := (∀ i j, i < NC → j < NC → Y.2.2.2.1 i = Y.2.2.2.1 j → i = j) ∧ ∀ k, k < NC → Y.2.1 (Y.2.2.2.1 k)
theorem HY.D {Y : EY} (h : HY Y) (M : Mem) : va_D Y.2.1 (wld Y.2.2.2.2.1 Y.2.2.2.2.2 Y.2.2.2.1 M) := by
  have lt : ∀ {k : Nat} {q : Nat × va_E}, (wld Y.2.2.2.2.1 Y.2.2.2.2.2 Y.2.2.2.1 M)[k]? = some q → k < NC ∧ q.1 = Y.2.2.2.1 k := by
    intro k q hq
    have hl : k < NC := by
      have := (List.getElem?_eq_some_iff.mp hq).1
      rwa [wld_len] at this
    rw [wld_at hl] at hq
    cases hq
    exact ⟨hl, rfl⟩
  refine ⟨fun i j p q hp hq e => ?_, fun k q hq => ?_⟩
  · obtain ⟨a1, a2⟩ := lt hp
    obtain ⟨b1, b2⟩ := lt hq
    exact h.1 i j a1 b1 (by rw [← a2, ← b2]; exact e)
  · obtain ⟨a1, a2⟩ := lt hq
    rw [a2]
    exact h.2 k a1
theorem SU.go {Y : EY} {s U : State} (h : SU Y s) (hvm : s.vm.Alike U.vm) (hk : ∀ a : Nat, a < s.heap.size → ¬ Y.2.1 a → U.heap[a]? = s.heap[a]?) : SU Y U := by
  obtain ⟨⟨a1, a2⟩, ⟨b1, b2⟩, c1, adV, d1⟩ := h
  exact ⟨⟨(a1.moved hvm).kept hk, (a2.moved hvm).kept hk⟩, ⟨(b1.moved hvm).kept hk, (b2.moved hvm).kept hk⟩, (c1.moved hvm).kept hk, adV, (d1.moved hvm).kept hk⟩
theorem NU.warm {s U : State} (h : NU s) (hW : s.WarmedH U.vm) : NU U := fun q hq => va_Nw.warmM hW (h q hq)
theorem NU.same {s U : State} (h : NU s) (e : s.vm = U.vm) : NU U := fun q hq => va_Nw.same rfl e (h q hq)
theorem KU.go {Y : EY} {s U : State} (h : KU Y s) (hW : s.WarmedH U.vm) (hk : ∀ a : Nat, a < s.heap.size → ¬ Y.2.1 a → U.heap[a]? = s.heap[a]?) : KU Y U :=
  ⟨va_K.moved hW.alike h.1, h.2.1.warm hW, h.2.2.go hW.alike hk⟩
theorem KU.call {Y : EY} {U : State} {g : JFrame} {mk : MethodId} {a : Array Value} (h : KU Y U) : KU Y (U.calling g mk a) :=
  ⟨va_K.moved (u := U) (U := U.calling g mk a) (Vm.Alike.refl U.vm) h.1, h.2.1.same rfl, h.2.2.go (Vm.Alike.refl U.vm) (fun _ _ _ => rfl)⟩
def Qx (Y : EY) (o : Option Value) (M' : Mem) : Array Value → State → Outcome → State → Prop := fun _ st oc t => (oc = .returned o ∧ WU Y M' t.heap) ∧ va_F Y.2.1 st t
def Px (Y : EY) (as : List Value) (M : Mem) : Array Value → State → Prop := va_Pc as (fun U => WU Y M U.heap ∧ KU Y U)
theorem Px.blind {Y : EY} {as : List Value} {M : Mem} : FrameBlind (Px Y as M) := fun _ _ _ _ h => ⟨h.1, h.2.1, h.2.2.call⟩
/-- a method's contract: from memory M with these arguments it answers o and leaves memory M' -/
def MX (Y : EY) (y : MethodName) (cc : ByteArray) (mL : Nat) (ret : Option FieldType) (rm : Room) (as : List Value) (M : Mem) (o : Option Value) (M' : Mem) : Prop :=
  Met Y.1 y (.code y cc mL ret :: gT) rm (Px Y as M) (Qx Y o M') 0 0 Y.2.1
/-- what goes with one run of a method -/
abbrev CX : Type := Program × Env × Room × State × MethodId × Array Value × List Frame × Method × Code × Option Value × Mem
def WX (Y : EY) (X : CX) (H : Heap) (locs : List Loc) (g : JFrame) : Prop :=
  W X.1 Y.1 X.2.1 X.2.2.1 X.2.2.2.1 X.2.2.2.2.1 X.2.2.2.2.2.1 X.2.2.2.2.2.2.1 X.2.2.2.2.2.2.2.1 X.2.2.2.2.2.2.2.2.1 H locs 0 0 (MQ X.2.2.2.2.2.2.1 (Qx Y X.2.2.2.2.2.2.2.2.2.1 X.2.2.2.2.2.2.2.2.2.2) X.2.2.2.2.2.1 X.2.2.2.1 0 0 Y.2.1) g
def AW (Y : EY) (X : CX) (nL : Nat) (pc : Nat) (ls : List (Nat × Value)) (st : List Value) (M : Mem) : Prop :=
  ∀ (H : Heap) (locs : List Loc) (L : Array Slot), WU Y M H → va_S Y.2.1 X.2.2.2.1.heap H locs → lv_has L nL ls → WX Y X H locs (F0 X.2.2.2.2.1 pc L st)
def CK (Y : EY) (X : CX) (cc : ByteArray) (own : String) (nL : Nat) (ret : Option FieldType) (rm : Room) : Prop :=
  X.1.tables.exec = Jvm.exec ∧ X.2.2.2.2.2.2.2.2.1.code = cc ∧ X.2.2.2.2.2.2.2.2.1.maxLocals = nL ∧ X.2.2.2.1.vm.findClass own = some X.2.2.2.2.1.cls ∧ (∀ w ∈ gT, w.before X.2.2.2.2.2.1 X.2.2.2.1 = true) ∧ KU Y X.2.2.2.1 ∧ HY Y ∧ X.2.2.2.2.2.2.2.1.locks = false ∧ X.2.2.2.2.2.2.2.1.sig.returnType = ret ∧ X.2.2.1 = rm
/-- a method's contract out of a walk -/
theorem MX.of {Y : EY} {y : MethodName} {cc : ByteArray} {mL : Nat} {ret : Option FieldType} {rm : Room} {as : List Value} {M : Mem} {o : Option Value} {M' : Mem} (hY : HY Y) (hy : plainName y.cls = true) (hl : (lg_sl as).length ≤ mL)
    (h : ∀ X : CX, X.2.2.2.2.2.2.2.2.2.1 = o → X.2.2.2.2.2.2.2.2.2.2 = M' → CK Y X cc y.cls mL ret rm → AW Y X mL 0 (lv_args 0 as) [] M) : MX Y y cc mL ret rm as M o M' := by
  refine Met.ofW (cc := cc) (maxL := mL) (ret := ret) hy rfl ?_
  intro p e s m args below meth c s₁ B hml hv
  obtain ⟨rfl, hP, hK⟩ := hv
  have hts := atoms_spec (ws := .code y cc mL ret :: gT) B.pre
  have hown : s.vm.findClass y.cls = some m.cls := findClass_of_methodNamed B.named
  have C : CK Y (p, e, rm, s, m, as.toArray, below, meth, c, o, M') cc y.cls mL ret rm := ⟨B.exec, B.bytes, hml, hown, fun w hw => hts w (List.mem_cons_of_mem _ hw), hK, hY, B.notSynchronized, B.returns, rfl⟩
  have hlv := lv_entry as (n := mL) hl
  rw [lg_entry_eq]
  exact h (p, e, rm, s, m, as.toArray, below, meth, c, o, M') rfl rfl C s.heap [] _ hP va_S.rf hlv
section ROWS
variable {Y : EY} {X : CX} {cc : ByteArray} {own : String} {nL pc : Nat} {ret : Option FieldType} {rm : Room} {ls : List (Nat × Value)} {st : List Value} {M : Mem}
theorem a_sub {ls' : List (Nat × Value)} (ks : List Nat) (k : AW Y X nL pc ls' st M) (h : lv_pick ls ks = ls') : AW Y X nL pc ls st M := fun H locs L hP hS hl => k H locs L hP hS (lv_sub hl ks h)
theorem a_iconst (C : CK Y X cc own nL ret rm) {n : Int} {v : Int32} (d : decode cc pc = .ok (.iconst n, 1)) (hv : Int32.ofInt n = v) (k : AW Y X nL (pc + 1) ls (.int v :: st) M) : AW Y X nL pc ls st M := fun H locs L hP hS hl => lv_iconst C.1 C.2.1 d hv (k H locs L hP hS hl)
theorem a_bipush (C : CK Y X cc own nL ret rm) {n : Int} {v : Int32} (d : decode cc pc = .ok (.bipush n, 2)) (hv : (Int8.ofInt n).toInt32 = v) (k : AW Y X nL (pc + 2) ls (.int v :: st) M) : AW Y X nL pc ls st M := fun H locs L hP hS hl => lv_bipush C.1 C.2.1 d hv (k H locs L hP hS hl)
theorem a_sipush (C : CK Y X cc own nL ret rm) {n : Int} {v : Int32} (d : decode cc pc = .ok (.sipush n, 3)) (hv : (Int16.ofInt n).toInt32 = v) (k : AW Y X nL (pc + 3) ls (.int v :: st) M) : AW Y X nL pc ls st M := fun H locs L hP hS hl => lv_sipush C.1 C.2.1 d hv (k H locs L hP hS hl)
theorem a_lconst (C : CK Y X cc own nL ret rm) {n : Fin 2} {v : Int64} (d : decode cc pc = .ok (.lconst n, 1)) (hv : Int64.ofNat (n : Nat) = v) (k : AW Y X nL (pc + 1) ls (.long v :: st) M) : AW Y X nL pc ls st M := fun H locs L hP hS hl => lv_lconst C.1 C.2.1 d hv (k H locs L hP hS hl)
theorem a_ldc (C : CK Y X cc own nL ret rm) {index : Nat} {v : Int32} (d : decode cc pc = .ok (.ldc index, 2)) (hc : Cond.constant own index v ∈ gT) (k : AW Y X nL (pc + 2) ls (.int v :: st) M) : AW Y X nL pc ls st M := fun H locs L hP hS hl => lv_ldc C.1 C.2.1 C.2.2.2.1 (C.2.2.2.2.1 _ hc) d (k H locs L hP hS hl)
theorem a_ldcw (C : CK Y X cc own nL ret rm) {index : Nat} {v : Int32} (d : decode cc pc = .ok (.ldc_w index, 3)) (hc : Cond.constant own index v ∈ gT) (k : AW Y X nL (pc + 3) ls (.int v :: st) M) : AW Y X nL pc ls st M := fun H locs L hP hS hl => lv_ldcw C.1 C.2.1 C.2.2.2.1 (C.2.2.2.2.1 _ hc) d (k H locs L hP hS hl)
theorem a_ldc2 (C : CK Y X cc own nL ret rm) {index : Nat} {v : Int64} (d : decode cc pc = .ok (.ldc2_w index, 3)) (hc : Cond.constantLong own index v ∈ gT) (k : AW Y X nL (pc + 3) ls (.long v :: st) M) : AW Y X nL pc ls st M := fun H locs L hP hS hl => lv_ldc2 C.1 C.2.1 C.2.2.2.1 (C.2.2.2.2.1 _ hc) d (k H locs L hP hS hl)
end ROWS
end
section
-- THE ROWS in AW
def inb (i : Int32) (n : Nat) : Bool := decide (¬ (i < 0 ∨ n ≤ i.toNatClampNeg))
theorem inb_in {i : Int32} {n : Nat} (h : inb i n = true) : vp_in i n := by
  unfold vp_in
  exact of_decide_eq_true h
def isB (x : Int32) : Bool := decide (x = 0 ∨ x = 1)
def ck {α : Type} (b : Bool) (t : Option α) : Option α := if b = true then t else none
theorem ck_some {α : Type} {b : Bool} {t : Option α} {x : α} (h : ck b t = some x) : b = true ∧ t = some x := by
  unfold ck at h
  split at h
  next e => exact ⟨e, h⟩
  next => cases h
theorem bd_some {α β : Type} {t : Option α} {f : α → Option β} {x : β} (h : t.bind f = some x) : ∃ a, t = some a ∧ f a = some x := by
  cases t with
  | none => cases h
  | some a => exact ⟨a, rfl, h⟩
/-- a loop: go on with a state, or end with a value -/
def iter {S E : Type} (B : S → Option (S ⊕ E)) : Nat → S → Option E
  | 0, _ => none
  | n + 1, s => match B s with
    | none => none
    | some (.inl s') => iter B n s'
    | some (.inr e) => some e
theorem iter_up {S E : Type} {B : S → Option (S ⊕ E)} : ∀ (n : Nat) (s : S) (e : E), iter B n s = some e → ∀ m, n ≤ m → iter B m s = some e := by
  intro n
  induction n with
  | zero => intro s e h; cases h
  | succ n ih =>
    intro s e h m hm
    obtain ⟨m, rfl⟩ : ∃ k, m = k + 1 := ⟨m - 1, by omega⟩
    unfold iter at h ⊢
    split at h
    next => cases h
    next s' hs => exact ih s' e h m (by omega)
    next e' hs => exact h
noncomputable def loop {S E : Type} (B : S → Option (S ⊕ E)) (s : S) : Option E :=
  @dite (Option E) (∃ (n : Nat) (e : E), iter B n s = some e) (Classical.propDecidable _) (fun h => some h.choose_spec.choose) (fun _ => none)
theorem loop_of {S E : Type} {B : S → Option (S ⊕ E)} {n : Nat} {s : S} {e : E} (h : iter B n s = some e) : loop B s = some e := by
  have hx : ∃ (n : Nat) (e : E), iter B n s = some e := ⟨n, e, h⟩
  unfold loop
  rw [dif_pos hx]
  have h1 := hx.choose_spec.choose_spec
  have h2 := iter_up _ _ _ h1 (max n hx.choose) (Nat.le_max_right _ _)
  have h3 := iter_up _ _ _ h (max n hx.choose) (Nat.le_max_left _ _)
  rw [h3] at h2
  exact h2.symm
theorem loop_iter {S E : Type} {B : S → Option (S ⊕ E)} {s : S} {e : E} (h : loop B s = some e) : ∃ n, iter B n s = some e := by
  unfold loop at h
  split at h
  next hx => exact ⟨_, by rw [hx.choose_spec.choose_spec]; exact h⟩
  next => cases h
/-- the loop's own equation -/
theorem loop_eq {S E : Type} (B : S → Option (S ⊕ E)) (s : S) : loop B s = match B s with
    | none => none
    | some (.inl s') => loop B s'
    | some (.inr e) => some e := by
  cases hB : B s with
  | none =>
    cases hl : loop B s with
    | none => rfl
    | some e =>
      obtain ⟨n, hn⟩ := loop_iter hl
      cases n with
      | zero => cases hn
      | succ n => unfold iter at hn; rw [hB] at hn; cases hn
  | some r =>
    cases r with
    | inr e => exact loop_of (n := 1) (by unfold iter; rw [hB])
    | inl s' =>
      show loop B s = loop B s'
      cases hl : loop B s' with
      | some e =>
        obtain ⟨n, hn⟩ := loop_iter hl
        exact loop_of (n := n + 1) (by unfold iter; rw [hB]; exact hn)
      | none =>
        cases h2 : loop B s with
        | none => rfl
        | some e =>
          obtain ⟨n, hn⟩ := loop_iter h2
          cases n with
          | zero => cases hn
          | succ n =>
            unfold iter at hn
            rw [hB] at hn
            rw [loop_of hn] at hl
            cases hl
theorem aw_loop {S E : Type} {B : S → Option (S ⊕ E)} (At : S → Prop) (Ex : E → Prop) (hb : ∀ s r, B s = some r → (match r with | .inl s' => At s' | .inr e => Ex e) → At s) {s : S} {e : E} (h : loop B s = some e) (hx : Ex e) : At s := by
  obtain ⟨n, hn⟩ := loop_iter h
  clear h
  induction n generalizing s with
  | zero => cases hn
  | succ n ih =>
    unfold iter at hn
    split at hn
    next => cases hn
    next s' hs => exact hb s _ hs (ih hn)
    next e' hs => cases hn; exact hb s _ hs hx
/-- the private names of a class's fields -/
def CO (r : vw_C) : Prop := (∃ ty0 : Nat → FieldType, ∀ k, k < r.2.2 → parseFieldDescriptor (r.2.1 k).2.2.1 = some (ty0 k)) ∧ ∀ a, a < r.2.2 → ∀ b, b < r.2.2 → a ≠ b → (r.2.1 a).2.1 ≠ (r.2.1 b).2.1
theorem CO_all : ∀ (c : Nat) (r : vw_C), vwCl[c]? = some r → CO r := by
  intro c r h
  match c, h with
  | 0, h => cases h; exact ⟨⟨tyX0, tyX0_ok⟩, nmX0⟩
  | 1, h => cases h; exact ⟨⟨tyX1, tyX1_ok⟩, nmX1⟩
  | 2, h => cases h; exact ⟨⟨tyX2, tyX2_ok⟩, nmX2⟩
  | 3, h => cases h; exact ⟨⟨tyX3, tyX3_ok⟩, nmX3⟩
  | 4, h => cases h; exact ⟨⟨tyX4, tyX4_ok⟩, nmX4⟩
  | 5, h => cases h; exact ⟨⟨tyX5, tyX5_ok⟩, nmX5⟩
  | 6, h => cases h; exact ⟨⟨tyX6, tyX6_ok⟩, nmX6⟩
  | c + 7, h => simp [vwCl] at h
/-- field j of class c, by this entry of this class's pool -/
def FL (own : String) (index c j : Nat) : Prop := ∃ r : vw_C, vwCl[c]? = some r ∧ r.2.2 = nf c ∧ j < nf c ∧ c < 7 ∧ Cond.fieldLink own index (r.2.1 j).1 (r.2.1 j).2.1 (r.2.1 j).2.2.1 ∈ gT ∧ (∀ w ∈ u_ws r.1 r.2.1 r.2.2, w ∈ gT)
/-- ... that may be written, of type ty -/
def FP (c j : Nat) (ty : FieldType) : Prop := ∀ r : vw_C, vwCl[c]? = some r → (r.2.1 j).2.2.2 = false ∧ parseFieldDescriptor (r.2.1 j).2.2.1 = some ty
section ROWS
variable {Y : EY} {X : CX} {cc : ByteArray} {own : String} {nL pc : Nat} {ret : Option FieldType} {rm : Room} {ls : List (Nat × Value)} {st : List Value} {M : Mem}
theorem a_iload_n (C : CK Y X cc own nL ret rm) {q : Fin 4} {x : Int32} (d : decode cc pc = .ok (.iload_n q, 1)) (j : Nat) (hj : ls[j]? = some ((q : Nat), Value.int x)) (k : AW Y X nL (pc + 1) ls (Value.int x :: st) M) : AW Y X nL pc ls (st) M := fun H locs L hP hS hl => lv_iload_n C.1 C.2.1 d rfl (lv_at hl j hj) (k H locs L hP hS hl)
theorem a_iload (C : CK Y X cc own nL ret rm) {q : Nat} {x : Int32} (d : decode cc pc = .ok (.iload q, 2)) (j : Nat) (hj : ls[j]? = some (q, Value.int x)) (k : AW Y X nL (pc + 2) ls (Value.int x :: st) M) : AW Y X nL pc ls (st) M := fun H locs L hP hS hl => lv_iload C.1 C.2.1 d (lv_at hl j hj) (k H locs L hP hS hl)
theorem a_istore_n (C : CK Y X cc own nL ret rm) {q : Fin 4} {i : Nat} {x : Int32} {lv' : List (Nat × Value)} (d : decode cc pc = .ok (.istore_n q, 1)) (hi : (q : Nat) = i) (hn : i < nL) (hv : (i, Value.int x) :: ls.filter (fun q => !(q.1 == i) && !(q.1 + 1 == i && q.2.category == 2)) = lv') (k : AW Y X nL (pc + 1) lv' st M) : AW Y X nL pc ls (Value.int x :: st) M := fun H locs L hP hS hl => lv_istore_n C.1 C.2.1 d hi hl hn hv (fun L' hl' => k H locs L' hP hS hl')
theorem a_istore (C : CK Y X cc own nL ret rm) {i : Nat} {x : Int32} {lv' : List (Nat × Value)} (d : decode cc pc = .ok (.istore i, 2)) (hn : i < nL) (hv : (i, Value.int x) :: ls.filter (fun q => !(q.1 == i) && !(q.1 + 1 == i && q.2.category == 2)) = lv') (k : AW Y X nL (pc + 2) lv' st M) : AW Y X nL pc ls (Value.int x :: st) M := fun H locs L hP hS hl => lv_istore C.1 C.2.1 d hl hn hv (fun L' hl' => k H locs L' hP hS hl')
theorem a_lload_n (C : CK Y X cc own nL ret rm) {q : Fin 4} {x : Int64} (d : decode cc pc = .ok (.lload_n q, 1)) (j : Nat) (hj : ls[j]? = some ((q : Nat), Value.long x)) (k : AW Y X nL (pc + 1) ls (Value.long x :: st) M) : AW Y X nL pc ls (st) M := fun H locs L hP hS hl => lv_lload_n C.1 C.2.1 d rfl (lv_at hl j hj) (k H locs L hP hS hl)
theorem a_lload (C : CK Y X cc own nL ret rm) {q : Nat} {x : Int64} (d : decode cc pc = .ok (.lload q, 2)) (j : Nat) (hj : ls[j]? = some (q, Value.long x)) (k : AW Y X nL (pc + 2) ls (Value.long x :: st) M) : AW Y X nL pc ls (st) M := fun H locs L hP hS hl => lv_lload C.1 C.2.1 d (lv_at hl j hj) (k H locs L hP hS hl)
theorem a_lstore_n (C : CK Y X cc own nL ret rm) {q : Fin 4} {i : Nat} {x : Int64} {lv' : List (Nat × Value)} (d : decode cc pc = .ok (.lstore_n q, 1)) (hi : (q : Nat) = i) (hn : i + 1 < nL) (hv : (i, Value.long x) :: ls.filter (fun q => !(q.1 == i) && (!(q.1 == i + 1) && !(q.1 + 1 == i && q.2.category == 2))) = lv') (k : AW Y X nL (pc + 1) lv' st M) : AW Y X nL pc ls (Value.long x :: st) M := fun H locs L hP hS hl => lv_lstore_n C.1 C.2.1 d hi hl hn hv (fun L' hl' => k H locs L' hP hS hl')
theorem a_lstore (C : CK Y X cc own nL ret rm) {i : Nat} {x : Int64} {lv' : List (Nat × Value)} (d : decode cc pc = .ok (.lstore i, 2)) (hn : i + 1 < nL) (hv : (i, Value.long x) :: ls.filter (fun q => !(q.1 == i) && (!(q.1 == i + 1) && !(q.1 + 1 == i && q.2.category == 2))) = lv') (k : AW Y X nL (pc + 2) lv' st M) : AW Y X nL pc ls (Value.long x :: st) M := fun H locs L hP hS hl => lv_lstore C.1 C.2.1 d hl hn hv (fun L' hl' => k H locs L' hP hS hl')
theorem a_aload_n (C : CK Y X cc own nL ret rm) {q : Fin 4} {x : Nat} (d : decode cc pc = .ok (.aload_n q, 1)) (j : Nat) (hj : ls[j]? = some ((q : Nat), Value.ref x)) (k : AW Y X nL (pc + 1) ls (Value.ref x :: st) M) : AW Y X nL pc ls (st) M := fun H locs L hP hS hl => lv_aload_n C.1 C.2.1 d rfl (lv_at hl j hj) (k H locs L hP hS hl)
theorem a_aload (C : CK Y X cc own nL ret rm) {q : Nat} {x : Nat} (d : decode cc pc = .ok (.aload q, 2)) (j : Nat) (hj : ls[j]? = some (q, Value.ref x)) (k : AW Y X nL (pc + 2) ls (Value.ref x :: st) M) : AW Y X nL pc ls (st) M := fun H locs L hP hS hl => lv_aload C.1 C.2.1 d (lv_at hl j hj) (k H locs L hP hS hl)
theorem a_astore_n (C : CK Y X cc own nL ret rm) {q : Fin 4} {i : Nat} {x : Nat} {lv' : List (Nat × Value)} (d : decode cc pc = .ok (.astore_n q, 1)) (hi : (q : Nat) = i) (hn : i < nL) (hv : (i, Value.ref x) :: ls.filter (fun q => !(q.1 == i) && !(q.1 + 1 == i && q.2.category == 2)) = lv') (k : AW Y X nL (pc + 1) lv' st M) : AW Y X nL pc ls (Value.ref x :: st) M := fun H locs L hP hS hl => lv_astore_n C.1 C.2.1 d hi hl hn hv (fun L' hl' => k H locs L' hP hS hl')
theorem a_astore (C : CK Y X cc own nL ret rm) {i : Nat} {x : Nat} {lv' : List (Nat × Value)} (d : decode cc pc = .ok (.astore i, 2)) (hn : i < nL) (hv : (i, Value.ref x) :: ls.filter (fun q => !(q.1 == i) && !(q.1 + 1 == i && q.2.category == 2)) = lv') (k : AW Y X nL (pc + 2) lv' st M) : AW Y X nL pc ls (Value.ref x :: st) M := fun H locs L hP hS hl => lv_astore C.1 C.2.1 d hl hn hv (fun L' hl' => k H locs L' hP hS hl')
theorem a_iinc (C : CK Y X cc own nL ret rm) {i : Nat} {n : Int} {x v : Int32} {lv' : List (Nat × Value)} (d : decode cc pc = .ok (.iinc i n, 3)) (j : Nat) (hj : ls[j]? = some (i, Value.int x)) (hx : x + Int32.ofInt n = v) (hn : i < nL) (hv : (i, Value.int v) :: ls.filter (fun q => !(q.1 == i) && !(q.1 + 1 == i && q.2.category == 2)) = lv') (k : AW Y X nL (pc + 3) lv' st M) : AW Y X nL pc ls st M := fun H locs L hP hS hl => lv_iinc C.1 C.2.1 d hl hj hx hn hv (fun L' hl' => k H locs L' hP hS hl')
theorem a_iadd (C : CK Y X cc own nL ret rm) {x y : Int32} (d : decode cc pc = .ok (.iadd, 1))  (k : AW Y X nL (pc + 1) ls (.int (x + y) :: st) M) : AW Y X nL pc ls (.int y :: .int x :: st) M := fun H locs L hP hS hl => lv_iadd C.1 C.2.1 d (k H locs L hP hS hl)
theorem a_isub (C : CK Y X cc own nL ret rm) {x y : Int32} (d : decode cc pc = .ok (.isub, 1))  (k : AW Y X nL (pc + 1) ls (.int (x - y) :: st) M) : AW Y X nL pc ls (.int y :: .int x :: st) M := fun H locs L hP hS hl => lv_isub C.1 C.2.1 d (k H locs L hP hS hl)
theorem a_imul (C : CK Y X cc own nL ret rm) {x y : Int32} (d : decode cc pc = .ok (.imul, 1))  (k : AW Y X nL (pc + 1) ls (.int (x * y) :: st) M) : AW Y X nL pc ls (.int y :: .int x :: st) M := fun H locs L hP hS hl => lv_imul C.1 C.2.1 d (k H locs L hP hS hl)
theorem a_iand (C : CK Y X cc own nL ret rm) {x y : Int32} (d : decode cc pc = .ok (.iand, 1))  (k : AW Y X nL (pc + 1) ls (.int (x &&& y) :: st) M) : AW Y X nL pc ls (.int y :: .int x :: st) M := fun H locs L hP hS hl => lv_iand C.1 C.2.1 d (k H locs L hP hS hl)
theorem a_ior (C : CK Y X cc own nL ret rm) {x y : Int32} (d : decode cc pc = .ok (.ior, 1))  (k : AW Y X nL (pc + 1) ls (.int (x ||| y) :: st) M) : AW Y X nL pc ls (.int y :: .int x :: st) M := fun H locs L hP hS hl => lv_ior C.1 C.2.1 d (k H locs L hP hS hl)
theorem a_ishl (C : CK Y X cc own nL ret rm) {x y : Int32} (d : decode cc pc = .ok (.ishl, 1))  (k : AW Y X nL (pc + 1) ls (.int (x <<< (y &&& 31)) :: st) M) : AW Y X nL pc ls (.int y :: .int x :: st) M := fun H locs L hP hS hl => lv_ishl C.1 C.2.1 d (k H locs L hP hS hl)
theorem a_ishr (C : CK Y X cc own nL ret rm) {x y : Int32} (d : decode cc pc = .ok (.ishr, 1))  (k : AW Y X nL (pc + 1) ls (.int (x >>> (y &&& 31)) :: st) M) : AW Y X nL pc ls (.int y :: .int x :: st) M := fun H locs L hP hS hl => lv_ishr C.1 C.2.1 d (k H locs L hP hS hl)
theorem a_idiv (C : CK Y X cc own nL ret rm) {x y : Int32} (d : decode cc pc = .ok (.idiv, 1)) (h0 : ¬ y = 0) (k : AW Y X nL (pc + 1) ls (.int (x / y) :: st) M) : AW Y X nL pc ls (.int y :: .int x :: st) M := fun H locs L hP hS hl => lv_idiv C.1 C.2.1 d h0 (k H locs L hP hS hl)
theorem a_irem (C : CK Y X cc own nL ret rm) {x y : Int32} (d : decode cc pc = .ok (.irem, 1)) (h0 : ¬ y = 0) (k : AW Y X nL (pc + 1) ls (.int (x - x / y * y) :: st) M) : AW Y X nL pc ls (.int y :: .int x :: st) M := fun H locs L hP hS hl => lv_irem C.1 C.2.1 d h0 (k H locs L hP hS hl)
theorem a_ladd (C : CK Y X cc own nL ret rm) {x y : Int64} (d : decode cc pc = .ok (.ladd, 1))  (k : AW Y X nL (pc + 1) ls (.long (x + y) :: st) M) : AW Y X nL pc ls (.long y :: .long x :: st) M := fun H locs L hP hS hl => lv_ladd C.1 C.2.1 d (k H locs L hP hS hl)
theorem a_lsub (C : CK Y X cc own nL ret rm) {x y : Int64} (d : decode cc pc = .ok (.lsub, 1))  (k : AW Y X nL (pc + 1) ls (.long (x - y) :: st) M) : AW Y X nL pc ls (.long y :: .long x :: st) M := fun H locs L hP hS hl => lv_lsub C.1 C.2.1 d (k H locs L hP hS hl)
theorem a_lmul (C : CK Y X cc own nL ret rm) {x y : Int64} (d : decode cc pc = .ok (.lmul, 1))  (k : AW Y X nL (pc + 1) ls (.long (x * y) :: st) M) : AW Y X nL pc ls (.long y :: .long x :: st) M := fun H locs L hP hS hl => lv_lmul C.1 C.2.1 d (k H locs L hP hS hl)
theorem a_ldiv (C : CK Y X cc own nL ret rm) {x y : Int64} (d : decode cc pc = .ok (.ldiv, 1)) (h0 : ¬ y = 0) (k : AW Y X nL (pc + 1) ls (.long (x / y) :: st) M) : AW Y X nL pc ls (.long y :: .long x :: st) M := fun H locs L hP hS hl => lv_ldiv C.1 C.2.1 d h0 (k H locs L hP hS hl)
theorem a_lrem (C : CK Y X cc own nL ret rm) {x y : Int64} (d : decode cc pc = .ok (.lrem, 1)) (h0 : ¬ y = 0) (k : AW Y X nL (pc + 1) ls (.long (x - x / y * y) :: st) M) : AW Y X nL pc ls (.long y :: .long x :: st) M := fun H locs L hP hS hl => lv_lrem C.1 C.2.1 d h0 (k H locs L hP hS hl)
theorem a_ineg (C : CK Y X cc own nL ret rm) {x : Int32} (d : decode cc pc = .ok (.ineg, 1))  (k : AW Y X nL (pc + 1) ls (.int (-x) :: st) M) : AW Y X nL pc ls (.int x :: st) M := fun H locs L hP hS hl => lv_ineg C.1 C.2.1 d (k H locs L hP hS hl)
theorem a_iushr (C : CK Y X cc own nL ret rm) {x y : Int32} (d : decode cc pc = .ok (.iushr, 1))  (k : AW Y X nL (pc + 1) ls (.int ((x.toUInt32 >>> (y.toUInt32 &&& Int32.toUInt32 31)).toInt32) :: st) M) : AW Y X nL pc ls (.int y :: .int x :: st) M := fun H locs L hP hS hl => lv_iushr C.1 C.2.1 d rfl (k H locs L hP hS hl)
theorem a_lshl (C : CK Y X cc own nL ret rm) {x : Int64} {y : Int32} (d : decode cc pc = .ok (.lshl, 1))  (k : AW Y X nL (pc + 1) ls (.long (x <<< (y.toInt64 &&& 63)) :: st) M) : AW Y X nL pc ls (.int y :: .long x :: st) M := fun H locs L hP hS hl => lv_lshl C.1 C.2.1 d rfl (k H locs L hP hS hl)
theorem a_lcmp (C : CK Y X cc own nL ret rm) {x y : Int64} (d : decode cc pc = .ok (.lcmp, 1))  (k : AW Y X nL (pc + 1) ls (.int (lg_cmp x y) :: st) M) : AW Y X nL pc ls (.long y :: .long x :: st) M := fun H locs L hP hS hl => W.lcmp C.1 C.2.1 d (k H locs L hP hS hl)
theorem a_i2l (C : CK Y X cc own nL ret rm) {x : Int32} (d : decode cc pc = .ok (.i2l, 1))  (k : AW Y X nL (pc + 1) ls (.long (x.toInt64) :: st) M) : AW Y X nL pc ls (.int x :: st) M := fun H locs L hP hS hl => lv_i2l C.1 C.2.1 d rfl (k H locs L hP hS hl)
theorem a_i2b (C : CK Y X cc own nL ret rm) {x : Int32} (d : decode cc pc = .ok (.i2b, 1))  (k : AW Y X nL (pc + 1) ls (.int (x.toInt8.toInt32) :: st) M) : AW Y X nL pc ls (.int x :: st) M := fun H locs L hP hS hl => lv_i2b C.1 C.2.1 d rfl (k H locs L hP hS hl)
theorem a_i2s (C : CK Y X cc own nL ret rm) {x : Int32} (d : decode cc pc = .ok (.i2s, 1))  (k : AW Y X nL (pc + 1) ls (.int (x.toInt16.toInt32) :: st) M) : AW Y X nL pc ls (.int x :: st) M := fun H locs L hP hS hl => lv_i2s C.1 C.2.1 d rfl (k H locs L hP hS hl)
theorem a_i2c (C : CK Y X cc own nL ret rm) {x : Int32} (d : decode cc pc = .ok (.i2c, 1))  (k : AW Y X nL (pc + 1) ls (.int ((x.toUInt32 % 65536).toInt32) :: st) M) : AW Y X nL pc ls (.int x :: st) M := fun H locs L hP hS hl => lv_i2c C.1 C.2.1 d rfl (k H locs L hP hS hl)
theorem a_dup (C : CK Y X cc own nL ret rm) {v : Value} (d : decode cc pc = .ok (.dup, 1)) (h : v.category = 1) (k : AW Y X nL (pc + 1) ls (v :: v :: st) M) : AW Y X nL pc ls (v :: st) M := fun H locs L hP hS hl => lv_dup C.1 C.2.1 d h (k H locs L hP hS hl)
theorem a_pop (C : CK Y X cc own nL ret rm) {v : Value} (d : decode cc pc = .ok (.pop, 1)) (h : v.category = 1) (k : AW Y X nL (pc + 1) ls (st) M) : AW Y X nL pc ls (v :: st) M := fun H locs L hP hS hl => lv_pop C.1 C.2.1 d h (k H locs L hP hS hl)
theorem a_dup2 (C : CK Y X cc own nL ret rm) {v w : Value} (d : decode cc pc = .ok (.dup2, 1)) (h : v.category = 1) (h2 : w.category = 1) (k : AW Y X nL (pc + 1) ls (v :: w :: v :: w :: st) M) : AW Y X nL pc ls (v :: w :: st) M := fun H locs L hP hS hl => lv_dup2_11 C.1 C.2.1 d h h2 (k H locs L hP hS hl)
theorem a_goto (C : CK Y X cc own nL ret rm) {off : Int} {tgt : Nat} (d : decode cc pc = .ok (.goto off, 3)) (ht : (pc : Int) + off = (tgt : Int)) (k : AW Y X nL tgt ls st M) : AW Y X nL pc ls st M := fun H locs L hP hS hl => lv_goto C.1 C.2.1 d ht (k H locs L hP hS hl)
theorem a_if_eq (C : CK Y X cc own nL ret rm) {x : Int32} {off : Int} {tgt : Nat} (d : decode cc pc = .ok (.ifCond .eq off, 3)) (ht : (pc : Int) + off = (tgt : Int)) (kt : x = 0 → AW Y X nL tgt ls st M) (kf : ¬ x = 0 → AW Y X nL (pc + 3) ls st M) : AW Y X nL pc ls (.int x :: st) M := fun H locs L hP hS hl => lv_if_eq C.1 C.2.1 d ht (fun h => kt h H locs L hP hS hl) (fun h => kf h H locs L hP hS hl)
theorem a_if_ne (C : CK Y X cc own nL ret rm) {x : Int32} {off : Int} {tgt : Nat} (d : decode cc pc = .ok (.ifCond .ne off, 3)) (ht : (pc : Int) + off = (tgt : Int)) (kt : ¬ x = 0 → AW Y X nL tgt ls st M) (kf : x = 0 → AW Y X nL (pc + 3) ls st M) : AW Y X nL pc ls (.int x :: st) M := fun H locs L hP hS hl => lv_if_ne C.1 C.2.1 d ht (fun h => kt h H locs L hP hS hl) (fun h => kf h H locs L hP hS hl)
theorem a_if_lt (C : CK Y X cc own nL ret rm) {x : Int32} {off : Int} {tgt : Nat} (d : decode cc pc = .ok (.ifCond .lt off, 3)) (ht : (pc : Int) + off = (tgt : Int)) (kt : x < 0 → AW Y X nL tgt ls st M) (kf : ¬ x < 0 → AW Y X nL (pc + 3) ls st M) : AW Y X nL pc ls (.int x :: st) M := fun H locs L hP hS hl => lv_if_lt C.1 C.2.1 d ht (fun h => kt h H locs L hP hS hl) (fun h => kf h H locs L hP hS hl)
theorem a_if_ge (C : CK Y X cc own nL ret rm) {x : Int32} {off : Int} {tgt : Nat} (d : decode cc pc = .ok (.ifCond .ge off, 3)) (ht : (pc : Int) + off = (tgt : Int)) (kt : 0 ≤ x → AW Y X nL tgt ls st M) (kf : ¬ 0 ≤ x → AW Y X nL (pc + 3) ls st M) : AW Y X nL pc ls (.int x :: st) M := fun H locs L hP hS hl => lv_if_ge C.1 C.2.1 d ht (fun h => kt h H locs L hP hS hl) (fun h => kf h H locs L hP hS hl)
theorem a_if_gt (C : CK Y X cc own nL ret rm) {x : Int32} {off : Int} {tgt : Nat} (d : decode cc pc = .ok (.ifCond .gt off, 3)) (ht : (pc : Int) + off = (tgt : Int)) (kt : 0 < x → AW Y X nL tgt ls st M) (kf : ¬ 0 < x → AW Y X nL (pc + 3) ls st M) : AW Y X nL pc ls (.int x :: st) M := fun H locs L hP hS hl => lv_if_gt C.1 C.2.1 d ht (fun h => kt h H locs L hP hS hl) (fun h => kf h H locs L hP hS hl)
theorem a_if_le (C : CK Y X cc own nL ret rm) {x : Int32} {off : Int} {tgt : Nat} (d : decode cc pc = .ok (.ifCond .le off, 3)) (ht : (pc : Int) + off = (tgt : Int)) (kt : x ≤ 0 → AW Y X nL tgt ls st M) (kf : ¬ x ≤ 0 → AW Y X nL (pc + 3) ls st M) : AW Y X nL pc ls (.int x :: st) M := fun H locs L hP hS hl => lv_if_le C.1 C.2.1 d ht (fun h => kt h H locs L hP hS hl) (fun h => kf h H locs L hP hS hl)
theorem a_icmp_eq (C : CK Y X cc own nL ret rm) {x y : Int32} {off : Int} {tgt : Nat} (d : decode cc pc = .ok (.if_icmp .eq off, 3)) (ht : (pc : Int) + off = (tgt : Int)) (kt : x = y → AW Y X nL tgt ls st M) (kf : ¬ x = y → AW Y X nL (pc + 3) ls st M) : AW Y X nL pc ls (.int y :: .int x :: st) M := fun H locs L hP hS hl => lv_icmp_eq C.1 C.2.1 d ht (fun h => kt h H locs L hP hS hl) (fun h => kf h H locs L hP hS hl)
theorem a_icmp_ne (C : CK Y X cc own nL ret rm) {x y : Int32} {off : Int} {tgt : Nat} (d : decode cc pc = .ok (.if_icmp .ne off, 3)) (ht : (pc : Int) + off = (tgt : Int)) (kt : ¬ x = y → AW Y X nL tgt ls st M) (kf : x = y → AW Y X nL (pc + 3) ls st M) : AW Y X nL pc ls (.int y :: .int x :: st) M := fun H locs L hP hS hl => lv_icmp_ne C.1 C.2.1 d ht (fun h => kt h H locs L hP hS hl) (fun h => kf h H locs L hP hS hl)
theorem a_icmp_lt (C : CK Y X cc own nL ret rm) {x y : Int32} {off : Int} {tgt : Nat} (d : decode cc pc = .ok (.if_icmp .lt off, 3)) (ht : (pc : Int) + off = (tgt : Int)) (kt : x < y → AW Y X nL tgt ls st M) (kf : ¬ x < y → AW Y X nL (pc + 3) ls st M) : AW Y X nL pc ls (.int y :: .int x :: st) M := fun H locs L hP hS hl => lv_icmp_lt C.1 C.2.1 d ht (fun h => kt h H locs L hP hS hl) (fun h => kf h H locs L hP hS hl)
theorem a_icmp_ge (C : CK Y X cc own nL ret rm) {x y : Int32} {off : Int} {tgt : Nat} (d : decode cc pc = .ok (.if_icmp .ge off, 3)) (ht : (pc : Int) + off = (tgt : Int)) (kt : y ≤ x → AW Y X nL tgt ls st M) (kf : ¬ y ≤ x → AW Y X nL (pc + 3) ls st M) : AW Y X nL pc ls (.int y :: .int x :: st) M := fun H locs L hP hS hl => lv_icmp_ge C.1 C.2.1 d ht (fun h => kt h H locs L hP hS hl) (fun h => kf h H locs L hP hS hl)
theorem a_icmp_gt (C : CK Y X cc own nL ret rm) {x y : Int32} {off : Int} {tgt : Nat} (d : decode cc pc = .ok (.if_icmp .gt off, 3)) (ht : (pc : Int) + off = (tgt : Int)) (kt : y < x → AW Y X nL tgt ls st M) (kf : ¬ y < x → AW Y X nL (pc + 3) ls st M) : AW Y X nL pc ls (.int y :: .int x :: st) M := fun H locs L hP hS hl => lv_icmp_gt C.1 C.2.1 d ht (fun h => kt h H locs L hP hS hl) (fun h => kf h H locs L hP hS hl)
theorem a_icmp_le (C : CK Y X cc own nL ret rm) {x y : Int32} {off : Int} {tgt : Nat} (d : decode cc pc = .ok (.if_icmp .le off, 3)) (ht : (pc : Int) + off = (tgt : Int)) (kt : x ≤ y → AW Y X nL tgt ls st M) (kf : ¬ x ≤ y → AW Y X nL (pc + 3) ls st M) : AW Y X nL pc ls (.int y :: .int x :: st) M := fun H locs L hP hS hl => lv_icmp_le C.1 C.2.1 d ht (fun h => kt h H locs L hP hS hl) (fun h => kf h H locs L hP hS hl)
theorem a_tabO (C : CK Y X cc own nL ret rm) {dflt lo hi : Int} {offs : Array Int} {len : Nat} {x : Int32} {tgt : Nat} (d : decode cc pc = .ok (.tableswitch dflt lo hi offs, len)) (h : x.toInt < lo ∨ hi < x.toInt) (ht : (pc : Int) + dflt = (tgt : Int)) (k : AW Y X nL tgt ls st M) : AW Y X nL pc ls (.int x :: st) M := fun H locs L hP hS hl => lv_tableOut C.1 C.2.1 d h ht (k H locs L hP hS hl)
theorem a_tabI (C : CK Y X cc own nL ret rm) {dflt lo hi : Int} {offs : Array Int} {len : Nat} {x : Int32} {off : Int} {tgt : Nat} (d : decode cc pc = .ok (.tableswitch dflt lo hi offs, len)) (h1 : ¬ x.toInt < lo) (h2 : ¬ hi < x.toInt) (ho : offs[(x.toInt - lo).toNat]? = some off) (ht : (pc : Int) + off = (tgt : Int)) (k : AW Y X nL tgt ls st M) : AW Y X nL pc ls (.int x :: st) M := fun H locs L hP hS hl => lv_tableIn C.1 C.2.1 d h1 h2 ho ht (k H locs L hP hS hl)
/-- fields -/
theorem a_get (C : CK Y X cc own nL ret rm) {index c j k0 : Nat} (d : decode cc pc = .ok (.getfield index, 3)) (hF : FL own index c j) (hK : K k0 c) {v : Value} (hv : (if isR c j = true then Value.ref (Y.2.2.2.1 (rf k0 j)) else Value.int (M k0 j)) = v) (k : AW Y X nL (pc + 3) ls (v :: st) M) : AW Y X nL pc ls (.ref (Y.2.2.2.1 k0) :: st) M := by
  intro H locs L hP hS hl
  obtain ⟨⟨rC, rT, rN⟩, h1, h2, h3, h4, h5, h6⟩ := hF
  have hN : rN = nf c := h2
  subst hN
  refine va_get (q0 := k0) (k := j) C.1 C.2.1 C.2.2.2.2.1 h6 C.2.2.2.1 C.2.2.2.2.2.1.1 hP (by rw [wld_at hK.1, cel_obj hK h4]) h1 h3 (C.2.2.2.2.1 _ h5) (fun _ h => h) (v := v) (by simp [h3, hv]) d (k H locs L hP hS hl)
theorem a_put (C : CK Y X cc own nL ret rm) {index c j k0 : Nat} {ty : FieldType} {v : Int32} (d : decode cc pc = .ok (.putfield index, 3)) (hF : FL own index c j) (hp : FP c j ty) (hr : isR c j = false) (hK : K k0 c) (hn : narrow ty (.int v) = .int v) (hf : fits ty (.int v) = true) (k : AW Y X nL (pc + 3) ls st (upM M k0 j v)) : AW Y X nL pc ls (.int v :: .ref (Y.2.2.2.1 k0) :: st) M := by
  intro H locs L hP hS hl
  obtain ⟨⟨rC, rT, rN⟩, h1, h2, h3, h4, h5, h6⟩ := hF
  have hN : rN = nf c := h2
  subst hN
  obtain ⟨⟨ty0, hty⟩, hnm⟩ := CO_all _ _ h1
  obtain ⟨p1, p2⟩ := hp _ h1
  refine va_put (q0 := k0) (k := j) C.1 C.2.1 C.2.2.2.2.1 h6 ty0 hty hnm C.2.2.2.1 C.2.2.2.2.2.1.1 hP (C.2.2.2.2.2.2.1.D M) hS (by rw [wld_at hK.1, cel_obj hK h4]) h1 h3 (C.2.2.2.2.1 _ h5) (fun _ h => h) p1 p2 hn hf (by simp; exact h3) d (fun H1 locs1 hP1 _ hS1 => ?_)
  refine k H1 locs1 L ?_ hS1 hl
  rw [wld_set (M' := upM M k0 j v) ?_ upM_o] at hP1
  · exact hP1
  · rw [cel_obj hK h4]
    congr 2
    apply List.ext_getElem?
    intro i
    by_cases hi : i = j
    · subst hi
      rw [List.getElem?_set_self (by simp; exact h3)]
      simp [h3, hr, upM, upd]
    · rw [List.getElem?_set_ne (fun e => hi e.symm)]
      by_cases hl : i < nf c
      · simp [hl, upM, upd, hi]
      · rw [List.getElem?_eq_none (by simp; omega), List.getElem?_eq_none (by simp; omega)]
/-- arrays -/
theorem a_iald (C : CK Y X cc own nL ret rm) {k0 n : Nat} {i : Int32} (d : decode cc pc = .ok (.iaload, 1)) (hK : K k0 7) (hn : ln k0 = n) (hi : inb i n = true) (k : AW Y X nL (pc + 1) ls (.int (M k0 i.toNatClampNeg) :: st) M) : AW Y X nL pc ls (.int i :: .ref (Y.2.2.2.1 k0) :: st) M := by
  intro H locs L hP hS hl
  subst hn
  exact va_iald C.1 C.2.1 C.2.2.2.2.2.1.1 hP k0 0 (by rw [wld_at hK.1, cel_arr hK]) rfl (inb_in hi) d (k H locs L hP hS hl)
theorem a_iast (C : CK Y X cc own nL ret rm) {k0 n : Nat} {i x : Int32} (d : decode cc pc = .ok (.iastore, 1)) (hK : K k0 7) (hn : ln k0 = n) (hi : inb i n = true) (k : AW Y X nL (pc + 1) ls st (upM M k0 i.toNatClampNeg x)) : AW Y X nL pc ls (.int x :: .int i :: .ref (Y.2.2.2.1 k0) :: st) M := by
  intro H locs L hP hS hl
  subst hn
  refine va_iast C.1 C.2.1 C.2.2.2.2.2.1.1 hP (C.2.2.2.2.2.2.1.D M) hS k0 0 (by rw [wld_at hK.1, cel_arr hK]) rfl (inb_in hi) d (fun H1 locs1 hP1 _ hS1 => ?_)
  refine k H1 locs1 L ?_ hS1 hl
  rw [wld_set (M' := upM M k0 i.toNatClampNeg x) ?_ upM_o] at hP1
  · exact hP1
  · rw [cel_arr hK]
    simp [upM]
theorem a_alen (C : CK Y X cc own nL ret rm) {k0 : Nat} {v : Int32} (d : decode cc pc = .ok (.arraylength, 1)) (hK : K k0 7) (hv : Int32.ofNat (ln k0) = v) (k : AW Y X nL (pc + 1) ls (.int v :: st) M) : AW Y X nL pc ls (.ref (Y.2.2.2.1 k0) :: st) M := by
  intro H locs L hP hS hl
  exact va_alen C.1 C.2.1 C.2.2.2.2.2.1.1 hP k0 0 (by rw [wld_at hK.1, cel_arr hK]) rfl hv d (k H locs L hP hS hl)
theorem a_aald (C : CK Y X cc own nL ret rm) {k0 : Nat} {i : Int32} (d : decode cc pc = .ok (.aaload, 1)) (hK : K k0 8) (hi : inb i 4 = true) (k : AW Y X nL (pc + 1) ls (.ref (Y.2.2.2.1 (rf k0 i.toNatClampNeg)) :: st) M) : AW Y X nL pc ls (.int i :: .ref (Y.2.2.2.1 k0) :: st) M := by
  intro H locs L hP hS hl
  exact va_aldq (f := fun i => some (Y.2.2.2.1 (rf k0 i))) C.1 C.2.1 C.2.2.2.2.2.1.1 hP k0 1 (by rw [wld_at hK.1, cel_row hK]) rfl (inb_in hi) d (k H locs L hP hS hl)
/-- the static arrays -/
theorem a_gets73 (C : CK Y X cc own nL ret rm) {index : Nat} (d : decode cc pc = .ok (.getstatic index, 3)) (hF : Cond.fieldLink own index "AccentShop" "DIGEST_DRAWER_DAYS" "[I" ∈ gT) (k : AW Y X nL (pc + 3) ls (.ref (Y.2.2.2.1 73) :: st) M) : AW Y X nL pc ls st M := by
  intro H locs L hP hS hl
  exact va_gets C.1 C.2.1 C.2.2.2.2.2.1.2.2.1.1 hS C.2.2.2.1 (C.2.2.2.2.1 _ hF) (fun _ h => h) d (k H locs L hP hS hl)
theorem a_gets74 (C : CK Y X cc own nL ret rm) {index : Nat} (d : decode cc pc = .ok (.getstatic index, 3)) (hF : Cond.fieldLink own index "AccentShop" "DIGEST_SPEECH_DAYS" "[I" ∈ gT) (k : AW Y X nL (pc + 3) ls (.ref (Y.2.2.2.1 74) :: st) M) : AW Y X nL pc ls st M := by
  intro H locs L hP hS hl
  exact va_gets C.1 C.2.1 C.2.2.2.2.2.1.2.2.1.2 hS C.2.2.2.1 (C.2.2.2.2.1 _ hF) (fun _ h => h) d (k H locs L hP hS hl)
theorem a_ro73 (C : CK Y X cc own nL ret rm) {i : Int32} (d : decode cc pc = .ok (.iaload, 1)) (hi : inb i 3 = true) (k : AW Y X nL (pc + 1) ls (.int (roF 73 i.toNatClampNeg) :: st) M) : AW Y X nL pc ls (.int i :: .ref (Y.2.2.2.1 73) :: st) M := by
  intro H locs L hP hS hl
  exact va_ti C.1 C.2.1 C.2.2.2.2.2.1.2.2.2.1.1 hS (inb_in hi) rfl d (k H locs L hP hS hl)
theorem a_ro74 (C : CK Y X cc own nL ret rm) {i : Int32} (d : decode cc pc = .ok (.iaload, 1)) (hi : inb i 4 = true) (k : AW Y X nL (pc + 1) ls (.int (roF 74 i.toNatClampNeg) :: st) M) : AW Y X nL pc ls (.int i :: .ref (Y.2.2.2.1 74) :: st) M := by
  intro H locs L hP hS hl
  exact va_ti C.1 C.2.1 C.2.2.2.2.2.1.2.2.2.1.2 hS (inb_in hi) rfl d (k H locs L hP hS hl)
/-- ends -/
theorem a_end {H : Heap} {locs : List Loc} {o : Option Value} (ho : X.2.2.2.2.2.2.2.2.2.1 = o) (hm : X.2.2.2.2.2.2.2.2.2.2 = M) (hP : WU Y M H) (hS : va_S Y.2.1 X.2.2.2.1.heap H locs) : ∀ t : State, t.heap = H → X.2.2.2.1.WarmedH t.vm → Qx Y X.2.2.2.2.2.2.2.2.2.1 X.2.2.2.2.2.2.2.2.2.2 X.2.2.2.2.2.1 X.2.2.2.1 (.returned o) t := fun t ht _ => ⟨⟨by rw [ho], by rw [hm, ht]; exact hP⟩, hS.F ht⟩
theorem a_iret {v : Int32} (C : CK Y X cc own nL (some .int) rm) (d : decode cc pc = .ok (.ireturn, 1)) (ho : X.2.2.2.2.2.2.2.2.2.1 = some (.int v)) (hm : X.2.2.2.2.2.2.2.2.2.2 = M) : AW Y X nL pc ls [.int v] M := fun H locs L hP hS hl => W.iret C.1 C.2.1 C.2.2.2.2.2.2.2.2.1 (a_end ho hm hP hS) hS.2.2 d C.2.2.2.2.2.2.2.1
theorem isB_nar {v : Int32} (h : isB v = true) : narrow .boolean (.int v) = .int v := by
  rcases of_decide_eq_true h with rfl | rfl <;> rfl
theorem a_zret {v : Int32} (C : CK Y X cc own nL (some .boolean) rm) (d : decode cc pc = .ok (.ireturn, 1)) (hb : isB v = true) (ho : X.2.2.2.2.2.2.2.2.2.1 = some (.int v)) (hm : X.2.2.2.2.2.2.2.2.2.2 = M) : AW Y X nL pc ls [.int v] M := fun H locs L hP hS hl => W.zret C.1 C.2.1 C.2.2.2.2.2.2.2.2.1 (isB_nar hb) (a_end ho hm hP hS) hS.2.2 d C.2.2.2.2.2.2.2.1
theorem a_lret {v : Int64} (C : CK Y X cc own nL (some .long) rm) (d : decode cc pc = .ok (.lreturn, 1)) (ho : X.2.2.2.2.2.2.2.2.2.1 = some (.long v)) (hm : X.2.2.2.2.2.2.2.2.2.2 = M) : AW Y X nL pc ls [.long v] M := fun H locs L hP hS hl => W.lret C.1 C.2.1 C.2.2.2.2.2.2.2.2.1 (a_end ho hm hP hS) hS.2.2 d C.2.2.2.2.2.2.2.1
theorem a_vret (C : CK Y X cc own nL none rm) (d : decode cc pc = .ok (.return_, 1)) (ho : X.2.2.2.2.2.2.2.2.2.1 = none) (hm : X.2.2.2.2.2.2.2.2.2.2 = M) : AW Y X nL pc ls [] M := fun H locs L hP hS hl => W.vret C.1 C.2.1 C.2.2.2.2.2.2.2.2.1 (a_end ho hm hP hS) hS.2.2 d C.2.2.2.2.2.2.2.1
theorem a_aret {k0 : Nat} {n : String} (C : CK Y X cc own nL (some (.object n)) rm) (d : decode cc pc = .ok (.areturn, 1)) (ho : X.2.2.2.2.2.2.2.2.2.1 = some (.ref (Y.2.2.2.1 k0))) (hm : X.2.2.2.2.2.2.2.2.2.2 = M) : AW Y X nL pc ls [.ref (Y.2.2.2.1 k0)] M := fun H locs L hP hS hl => W.aret C.1 C.2.1 C.2.2.2.2.2.2.2.2.1 (Or.inl ⟨_, rfl⟩) (Or.inr ⟨_, rfl⟩) (a_end ho hm hP hS) hS.2.2 d C.2.2.2.2.2.2.2.1
end ROWS
end
section
-- THE CALLS in AW
/-- a method's own words -/
def LM (y : MethodName) (cc : ByteArray) (mL : Nat) (ret : Option FieldType) (n : Nat) : Prop :=
  Cond.code y cc mL ret ∈ gT ∧ Cond.initialized y.cls ∈ gT ∧ y.cls ≠ "java/lang/invoke/MethodHandle" ∧ y.cls ≠ "java/lang/invoke/VarHandle" ∧ (parseMethodDescriptor y.desc).map (fun d => d.parameters.length) = some n
/-- an object's method, by this entry of this class's pool -/
def LV (own : String) (index : Nat) (y : MethodName) (c : Nat) : Prop :=
  Cond.methodLink own index y ∈ gT ∧ Cond.instanceMethod y ∈ gT ∧ Cond.selects y.cls y y ∈ gT ∧ c < 7 ∧ ∃ r : vw_C, vwCl[c]? = some r ∧ r.1 = y.cls
/-- a class's method -/
def LSt (own : String) (index : Nat) (y : MethodName) : Prop := Cond.methodLink own index y ∈ gT ∧ Cond.static y ∈ gT
/-- the caller's room holds the callee's -/
def RO (rm rm' : Room) (mL' : Nat) : Prop := rm'.cells = 0 ∧ rm'.slots = 0 ∧ rm'.frames + 1 ≤ rm.frames ∧ 8 + (mL' + 11) + rm'.locals ≤ rm.locals
theorem LM.good {y : MethodName} {cc : ByteArray} {mL n : Nat} {ret : Option FieldType} (h : LM y cc mL ret n) : GoodIn gT (Cond.code y cc mL ret :: gT) := by
  intro w hw
  rcases List.mem_cons.mp hw with e | e
  · rw [e]; exact gT_good _ h.1
  · exact gT_good _ e
section CALLS
variable {Y : EY} {X : CX} {cc : ByteArray} {own : String} {nL pc : Nat} {ret : Option FieldType} {rm : Room} {ls : List (Nat × Value)} {st : List Value} {M : Mem}
variable {y : MethodName} {cc' : ByteArray} {mL' n index k0 : Nat} {ret' : Option FieldType} {rm' : Room} {As rest : List Value} {o : Option Value} {M1 : Mem}
theorem a_run {H : Heap} {locs : List Loc} {L : Array Slot} {a : Array Value} (hr : va_Run X.1 Y.1 X.2.1 X.2.2.1 X.2.2.2.1 X.2.2.2.2.1 X.2.2.2.2.2.1 X.2.2.2.2.2.2.1 X.2.2.2.2.2.2.2.1 X.2.2.2.2.2.2.2.2.1 H locs 0 0 0 0 (F0 X.2.2.2.2.1 pc L st) rest (Qx Y o M1 a) Y.2.1) (hS : va_S Y.2.1 X.2.2.2.1.heap H locs)
    (kk : ∀ (H1 : Heap) (locs1 : List Loc), WU Y M1 H1 → va_S Y.2.1 X.2.2.2.1.heap H1 locs1 → WX Y X H1 locs1 (F0 X.2.2.2.2.1 (pc + 3) L (o.toList ++ rest))) : WX Y X H locs (F0 X.2.2.2.2.1 pc L st) := by
  intro T hT Z
  obtain ⟨v, st₀, t, T', L', h0, Z', hL, e1, e2, ⟨⟨hv, hb⟩, hz, hk⟩, stp⟩ := hr T hT Z
  cases hv
  rw [h0] at hz hk
  obtain ⟨t2, a1, b1⟩ := kk T'.heap (locs ++ L') (by rw [e1]; exact hb)
    ⟨Nat.le_trans hS.1 (by rw [e1]; exact hz), fun q h1 h2 => by rw [e1, hk q (Nat.lt_of_lt_of_le h1 hS.1) h2]; exact hS.2.1 q h1 h2, fun q hq => by
      rcases List.mem_append.mp hq with h | h
      · exact hS.2.2 q h
      · exact hL q h⟩ T' rfl Z'
  exact ⟨t2, stp t2 a1, b1⟩
theorem a_px {H : Heap} {locs : List Loc} {av : List Value} (C : CK Y X cc own nL ret rm) (hP : WU Y M H) (hS : va_S Y.2.1 X.2.2.2.1.heap H locs) : ∀ U : State, U.heap = H → X.2.2.2.1.WarmedH U.vm → Px Y av M av.toArray U := fun U hU hW =>
  ⟨rfl, by rw [hU]; exact hP, C.2.2.2.2.2.1.go hW (fun a h1 h2 => by rw [hU]; exact hS.2.1 a h1 h2)⟩
theorem a_callB (C : CK Y X cc own nL ret rm) (hL : LM y cc' mL' ret' n) (hl : Cond.methodLink own index y ∈ gT) (hR : RO rm rm' mL') : CallB X.2.2.1 X.2.2.2.1 X.2.2.2.2.2.1 own index y cc' mL' ret' (Cond.code y cc' mL' ret' :: gT) rm' 0 0 n :=
  callB_of n C.2.2.2.2.1 hL.good rfl hR.1 hR.2.1 (C.2.2.2.2.1 _ hL.2.1) (C.2.2.2.2.1 _ hl) hL.2.2 (by rw [C.2.2.2.2.2.2.2.2.2]; exact hR.2.2)
theorem a_callV {c : Nat} (C : CK Y X cc own nL ret rm) (d : decode cc pc = .ok (.invokevirtual index, 3)) (hV : LV own index y c) (hL : LM y cc' mL' ret' n) (hR : RO rm rm' mL') (hK : K k0 c) (hM : MX Y y cc' mL' ret' rm' (.ref (Y.2.2.2.1 k0) :: As) M o M1) (hn : As.length = n) (hst : st = As.reverse ++ .ref (Y.2.2.2.1 k0) :: rest) (hr : (rest.map fun v => v.category).sum ≤ 8) (k : AW Y X nL (pc + 3) ls (o.toList ++ rest) M1) : AW Y X nL pc ls st M := by
  intro H locs L hP hS hl
  obtain ⟨v1, v2, v3, v4, ⟨rC, rT, rN⟩, v5, v6⟩ := hV
  have v6 : rC = y.cls := v6
  subst v6
  refine a_run (va_runV (C := y.cls) (As := As) (rest := rest) ⟨C.1, C.2.1, C.2.2.1, C.2.2.2.1, C.2.2.2.2.1⟩ hM ⟨a_callB C hL v1 hR, C.2.2.2.2.1 _ v2, C.2.2.2.2.1 _ v3⟩ ⟨Px.blind, va_recv C.2.2.2.2.2.1.1 hP (ci := c) (q0 := k0) v5 (by rw [wld_at hK.1, cel_obj hK v4]), a_px C hP hS⟩ rfl hn hl.1 hst (lv_room hr) d ⟨Nat.zero_le _, Nat.zero_le _⟩) hS (fun H1 locs1 hP1 hS1 => k H1 locs1 L hP1 hS1 hl)
theorem a_callS (C : CK Y X cc own nL ret rm) (d : decode cc pc = .ok (.invokestatic index, 3)) (hV : LSt own index y) (hL : LM y cc' mL' ret' n) (hR : RO rm rm' mL') (hM : MX Y y cc' mL' ret' rm' As M o M1) (hn : As.length = n) (hst : st = As.reverse ++ rest) (hr : (rest.map fun v => v.category).sum ≤ 8) (k : AW Y X nL (pc + 3) ls (o.toList ++ rest) M1) : AW Y X nL pc ls st M := by
  intro H locs L hP hS hl
  refine a_run (va_runS (As := As) (rest := rest) ⟨C.1, C.2.1, C.2.2.1, C.2.2.2.1, C.2.2.2.2.1⟩ hM ⟨a_callB C hL hV.1 hR, C.2.2.2.2.1 _ hV.2⟩ ⟨Px.blind, a_px C hP hS⟩ rfl hn hl.1 hst (lv_room hr) d ⟨Nat.zero_le _, Nat.zero_le _⟩) hS (fun H1 locs1 hP1 hS1 => k H1 locs1 L hP1 hS1 hl)
/-- the nest mate's private test -/
theorem a_callN (C : CK Y X cc own nL ret rm) (d : decode cc pc = .ok (.invokestatic index, 3)) (hN : (own, index) ∈ nestW) (hsy : Cond.static yX5_isBelow ∈ gT) (hL : LM yX5_isBelow cc' mL' ret' n) (hR : RO rm rm' mL') (hM : MX Y yX5_isBelow cc' mL' ret' rm' As M o M1) (hn : As.length = n) (hst : st = As.reverse ++ rest) (hr : (rest.map fun v => v.category).sum ≤ 8) (k : AW Y X nL (pc + 3) ls (o.toList ++ rest) M1) : AW Y X nL pc ls st M := by
  intro H locs L hP hS hl
  refine a_run (va_runSN (host := "AccentShop") (As := As) (rest := rest) ⟨C.1, C.2.1, C.2.2.1, C.2.2.2.1, C.2.2.2.2.1⟩ hM ⟨va_cnB n C.2.2.2.2.1 hL.good rfl hR.1 hR.2.1 (C.2.2.2.2.2.1.2.1 _ hN) (C.2.2.2.2.1 _ hL.2.1) hL.2.2 (by rw [C.2.2.2.2.2.2.2.2.2]; exact hR.2.2), C.2.2.2.2.1 _ hsy, trivial⟩ ⟨Px.blind, a_px C hP hS⟩ rfl hn hl.1 hst (lv_room hr) d ⟨Nat.zero_le _, Nat.zero_le _⟩) hS (fun H1 locs1 hP1 hS1 => k H1 locs1 L hP1 hS1 hl)
/-- Math.abs -/
def absI (x : Int32) : Int32 := if 0 ≤ x then x else 0 - x
theorem a_mabs {x : Int32} (C : CK Y X cc own nL ret rm) (d : decode cc pc = .ok (.invokestatic index, 3)) (hl : Cond.methodLink own index Lib.Math.abs.name ∈ gT) (h2 : Cond.static Lib.Math.abs.name ∈ gT) (h3 : Cond.initialized "java/lang/Math" ∈ gT) (h4 : Cond.code Lib.Math.abs.name Lib.Math.abs.code 1 (some .int) ∈ gT) (hf : 1 ≤ rm.frames) (hr : (rest.map fun v => v.category).sum + 13 ≤ rm.locals) (k : AW Y X nL (pc + 3) ls (.int (absI x) :: rest) M) : AW Y X nL pc ls (.int x :: rest) M := by
  intro H locs L hP hS hlv
  have eR := C.2.2.2.2.2.2.2.2.2
  exact va_mabs C.1 C.2.1 (C.2.2.1.trans hlv.1.symm) C.2.2.2.1 (C.2.2.2.2.1 _ hl) (C.2.2.2.2.1 _ h2) (C.2.2.2.2.1 _ h3) (C.2.2.2.2.1 _ h4) (by rw [eR]; exact hf) (by rw [eR]; exact hr) (Nat.zero_le _) (Nat.zero_le _) d (k H locs L hP hS hlv)
/-- System.arraycopy -/
def cpb (sp dp n : Int32) (n0 n1 : Nat) : Bool := decide (¬ sp < 0 ∧ ¬ dp < 0 ∧ ¬ n < 0 ∧ sp.toNatClampNeg + n.toNatClampNeg ≤ n0 ∧ dp.toNatClampNeg + n.toNatClampNeg ≤ n1)
theorem a_copy {k1 n0 n1 : Nat} {sp dp q : Int32} (C : CK Y X cc own nL ret rm) (d : decode cc pc = .ok (.invokestatic index, 3)) (hl : Cond.methodLink own index arraycopyName ∈ gT) (h2 : Cond.native arraycopyName ∈ gT) (h3 : Cond.static arraycopyName ∈ gT) (h4 : Cond.initialized "java/lang/System" ∈ gT) (hK0 : K k0 7) (hK1 : K k1 7) (e0 : ln k0 = n0) (e1 : ln k1 = n1) (hc : cpb sp dp q n0 n1 = true) (hf : 1 ≤ rm.frames) (hr : (rest.map fun v => v.category).sum + (nativeFrameWords "java/lang/System" "arraycopy" 5 + 11) ≤ rm.locals) (k : AW Y X nL (pc + 3) ls rest (cpM M k0 sp.toNatClampNeg k1 dp.toNatClampNeg q.toNatClampNeg)) : AW Y X nL pc ls (.int q :: .int dp :: .ref (Y.2.2.2.1 k1) :: .int sp :: .ref (Y.2.2.2.1 k0) :: rest) M := by
  intro H locs L hP hS hlv
  subst e0 e1
  have eR := C.2.2.2.2.2.2.2.2.2
  obtain ⟨c1, c2, c3, c4, c5⟩ := of_decide_eq_true hc
  refine va_copyi (f := M k0) (g := M k1) (ty := .int) C.1 C.2.1 (C.2.2.1.trans hlv.1.symm) C.2.2.2.1 (C.2.2.2.2.1 _ hl) (C.2.2.2.2.1 _ h2) (C.2.2.2.2.1 _ h3) (C.2.2.2.2.1 _ h4) C.2.2.2.2.2.1.1 hP (C.2.2.2.2.2.2.1.D M) hS k0 k1 0 0 (by rw [wld_at hK0.1, cel_arr hK0]) (by rw [wld_at hK1.1, cel_arr hK1]) rfl rfl rfl c1 c2 c3 c4 c5 (fun _ _ => rfl) (by rw [eR]; exact hf) (by rw [eR]; exact hr) d (fun H1 locs1 hP1 _ hS1 => ?_)
  refine k H1 locs1 L ?_ hS1 hlv
  rw [wld_set (M' := cpM M k0 sp.toNatClampNeg k1 dp.toNatClampNeg q.toNatClampNeg) ?_ cpM_o] at hP1
  · exact hP1
  · rw [cel_arr hK1]
    simp [cpM]
end CALLS
end
