section
-- ===== PART A: goes FIRST, ahead of the names: the tables' words, and 'selects' of the private methods out of them =====
/-- a private method of a class that the tables say can be made, by its rows of tables_1 -/
def lw_okq (q : MethodName × Nat) : Prop := (q.1.cls ≠ "java/lang/invoke/MethodHandle" ∧ q.1.cls ≠ "java/lang/invoke/VarHandle") ∧ Cond.instantiable q.1.cls q.2 ∈ tables_1 ∧ Cond.privateMethod q.1 ∈ tables_1 ∧ Cond.instanceMethod q.1 ∈ tables_1
theorem lw_p0 : lw_okq (⟨"IceHarbour", "countFact", "(I)I"⟩, 4) := ⟨⟨by decide +kernel, by decide +kernel⟩, List.mem_of_getElem? (i := 18) (by decide +kernel), List.mem_of_getElem? (i := 239) (by decide +kernel), List.mem_of_getElem? (i := 240) (by decide +kernel)⟩
theorem lw_p1 : lw_okq (⟨"IceHarbour", "mixHarbours", "(J)J"⟩, 4) := ⟨⟨by decide +kernel, by decide +kernel⟩, List.mem_of_getElem? (i := 18) (by decide +kernel), List.mem_of_getElem? (i := 274) (by decide +kernel), List.mem_of_getElem? (i := 275) (by decide +kernel)⟩
theorem lw_p2 : lw_okq (⟨"IceHarbour", "harbourFact", "(II)I"⟩, 4) := ⟨⟨by decide +kernel, by decide +kernel⟩, List.mem_of_getElem? (i := 18) (by decide +kernel), List.mem_of_getElem? (i := 278) (by decide +kernel), List.mem_of_getElem? (i := 279) (by decide +kernel)⟩
theorem lw_p3 : lw_okq (⟨"IceHarbour", "mixLegs", "(J)J"⟩, 4) := ⟨⟨by decide +kernel, by decide +kernel⟩, List.mem_of_getElem? (i := 18) (by decide +kernel), List.mem_of_getElem? (i := 296) (by decide +kernel), List.mem_of_getElem? (i := 297) (by decide +kernel)⟩
theorem lw_p4 : lw_okq (⟨"IceHarbour", "legFact", "(II)I"⟩, 4) := ⟨⟨by decide +kernel, by decide +kernel⟩, List.mem_of_getElem? (i := 18) (by decide +kernel), List.mem_of_getElem? (i := 301) (by decide +kernel), List.mem_of_getElem? (i := 302) (by decide +kernel)⟩
theorem lw_p5 : lw_okq (⟨"IceHarbour", "mixMerchants", "(J)J"⟩, 4) := ⟨⟨by decide +kernel, by decide +kernel⟩, List.mem_of_getElem? (i := 18) (by decide +kernel), List.mem_of_getElem? (i := 310) (by decide +kernel), List.mem_of_getElem? (i := 311) (by decide +kernel)⟩
theorem lw_p6 : lw_okq (⟨"IceHarbour", "merchantFact", "(II)I"⟩, 4) := ⟨⟨by decide +kernel, by decide +kernel⟩, List.mem_of_getElem? (i := 18) (by decide +kernel), List.mem_of_getElem? (i := 314) (by decide +kernel), List.mem_of_getElem? (i := 315) (by decide +kernel)⟩
theorem lw_p7 : lw_okq (⟨"IceHarbour", "mixBoats", "(J)J"⟩, 4) := ⟨⟨by decide +kernel, by decide +kernel⟩, List.mem_of_getElem? (i := 18) (by decide +kernel), List.mem_of_getElem? (i := 335) (by decide +kernel), List.mem_of_getElem? (i := 336) (by decide +kernel)⟩
theorem lw_p8 : lw_okq (⟨"IceHarbour", "mixDebts", "(J)J"⟩, 4) := ⟨⟨by decide +kernel, by decide +kernel⟩, List.mem_of_getElem? (i := 18) (by decide +kernel), List.mem_of_getElem? (i := 343) (by decide +kernel), List.mem_of_getElem? (i := 344) (by decide +kernel)⟩
theorem lw_p9 : lw_okq (⟨"java/lang/Throwable", "fillInStackTrace", "(I)Ljava/lang/Throwable;"⟩, 6) := ⟨⟨by decide +kernel, by decide +kernel⟩, List.mem_of_getElem? (i := 400) (by decide +kernel), List.mem_of_getElem? (i := 398) (by decide +kernel), List.mem_of_getElem? (i := 399) (by decide +kernel)⟩
theorem lw_p10 : lw_okq (⟨"IceHarbour", "needHarbour", "(I)V"⟩, 4) := ⟨⟨by decide +kernel, by decide +kernel⟩, List.mem_of_getElem? (i := 18) (by decide +kernel), List.mem_of_getElem? (i := 487) (by decide +kernel), List.mem_of_getElem? (i := 488) (by decide +kernel)⟩
theorem lw_p11 : lw_okq (⟨"IceHarbour", "needLeg", "(I)V"⟩, 4) := ⟨⟨by decide +kernel, by decide +kernel⟩, List.mem_of_getElem? (i := 18) (by decide +kernel), List.mem_of_getElem? (i := 505) (by decide +kernel), List.mem_of_getElem? (i := 506) (by decide +kernel)⟩
theorem lw_p12 : lw_okq (⟨"IceHarbour", "needMerchant", "(I)V"⟩, 4) := ⟨⟨by decide +kernel, by decide +kernel⟩, List.mem_of_getElem? (i := 18) (by decide +kernel), List.mem_of_getElem? (i := 523) (by decide +kernel), List.mem_of_getElem? (i := 524) (by decide +kernel)⟩
theorem lw_p13 : lw_okq (⟨"IceHarbour", "needBoat", "(I)V"⟩, 4) := ⟨⟨by decide +kernel, by decide +kernel⟩, List.mem_of_getElem? (i := 18) (by decide +kernel), List.mem_of_getElem? (i := 574) (by decide +kernel), List.mem_of_getElem? (i := 575) (by decide +kernel)⟩
theorem lw_p14 : lw_okq (⟨"IceHarbour", "foretellIce", "()V"⟩, 4) := ⟨⟨by decide +kernel, by decide +kernel⟩, List.mem_of_getElem? (i := 18) (by decide +kernel), List.mem_of_getElem? (i := 787) (by decide +kernel), List.mem_of_getElem? (i := 788) (by decide +kernel)⟩
theorem lw_p15 : lw_okq (⟨"IceHarbour", "isFreeWay", "(III)Z"⟩, 4) := ⟨⟨by decide +kernel, by decide +kernel⟩, List.mem_of_getElem? (i := 18) (by decide +kernel), List.mem_of_getElem? (i := 791) (by decide +kernel), List.mem_of_getElem? (i := 792) (by decide +kernel)⟩
def lw_privs_1 : List (MethodName × Nat) := [(⟨"IceHarbour", "countFact", "(I)I"⟩, 4), (⟨"IceHarbour", "mixHarbours", "(J)J"⟩, 4), (⟨"IceHarbour", "harbourFact", "(II)I"⟩, 4), (⟨"IceHarbour", "mixLegs", "(J)J"⟩, 4), (⟨"IceHarbour", "legFact", "(II)I"⟩, 4), (⟨"IceHarbour", "mixMerchants", "(J)J"⟩, 4), (⟨"IceHarbour", "merchantFact", "(II)I"⟩, 4), (⟨"IceHarbour", "mixBoats", "(J)J"⟩, 4), (⟨"IceHarbour", "mixDebts", "(J)J"⟩, 4), (⟨"java/lang/Throwable", "fillInStackTrace", "(I)Ljava/lang/Throwable;"⟩, 6), (⟨"IceHarbour", "needHarbour", "(I)V"⟩, 4), (⟨"IceHarbour", "needLeg", "(I)V"⟩, 4), (⟨"IceHarbour", "needMerchant", "(I)V"⟩, 4), (⟨"IceHarbour", "needBoat", "(I)V"⟩, 4), (⟨"IceHarbour", "foretellIce", "()V"⟩, 4), (⟨"IceHarbour", "isFreeWay", "(III)Z"⟩, 4)]
theorem lw_r1 : ∀ q ∈ lw_privs_1, lw_okq q := List.forall_mem_cons.mpr ⟨lw_p0, List.forall_mem_cons.mpr ⟨lw_p1, List.forall_mem_cons.mpr ⟨lw_p2, List.forall_mem_cons.mpr ⟨lw_p3, List.forall_mem_cons.mpr ⟨lw_p4, List.forall_mem_cons.mpr ⟨lw_p5, List.forall_mem_cons.mpr ⟨lw_p6, List.forall_mem_cons.mpr ⟨lw_p7, List.forall_mem_cons.mpr ⟨lw_p8, List.forall_mem_cons.mpr ⟨lw_p9, List.forall_mem_cons.mpr ⟨lw_p10, List.forall_mem_cons.mpr ⟨lw_p11, List.forall_mem_cons.mpr ⟨lw_p12, List.forall_mem_cons.mpr ⟨lw_p13, List.forall_mem_cons.mpr ⟨lw_p14, List.forall_mem_cons.mpr ⟨lw_p15, fun _ h => absurd h List.not_mem_nil⟩⟩⟩⟩⟩⟩⟩⟩⟩⟩⟩⟩⟩⟩⟩⟩
theorem lw_p16 : lw_okq (⟨"IceHarbour", "hullBehind", "(III)I"⟩, 4) := ⟨⟨by decide +kernel, by decide +kernel⟩, List.mem_of_getElem? (i := 18) (by decide +kernel), List.mem_of_getElem? (i := 803) (by decide +kernel), List.mem_of_getElem? (i := 804) (by decide +kernel)⟩
theorem lw_p17 : lw_okq (⟨"IceHarbourModel", "fail", "(I)I"⟩, 15) := ⟨⟨by decide +kernel, by decide +kernel⟩, List.mem_of_getElem? (i := 812) (by decide +kernel), List.mem_of_getElem? (i := 875) (by decide +kernel), List.mem_of_getElem? (i := 876) (by decide +kernel)⟩
theorem lw_p18 : lw_okq (⟨"IceHarbourModel", "isHarbour", "(I)Z"⟩, 15) := ⟨⟨by decide +kernel, by decide +kernel⟩, List.mem_of_getElem? (i := 812) (by decide +kernel), List.mem_of_getElem? (i := 887) (by decide +kernel), List.mem_of_getElem? (i := 888) (by decide +kernel)⟩
theorem lw_p19 : lw_okq (⟨"IceHarbourModel", "harbourTold", "(II)I"⟩, 15) := ⟨⟨by decide +kernel, by decide +kernel⟩, List.mem_of_getElem? (i := 812) (by decide +kernel), List.mem_of_getElem? (i := 898) (by decide +kernel), List.mem_of_getElem? (i := 899) (by decide +kernel)⟩
theorem lw_p20 : lw_okq (⟨"IceHarbourModel", "there", "(IZ)I"⟩, 15) := ⟨⟨by decide +kernel, by decide +kernel⟩, List.mem_of_getElem? (i := 812) (by decide +kernel), List.mem_of_getElem? (i := 902) (by decide +kernel), List.mem_of_getElem? (i := 903) (by decide +kernel)⟩
theorem lw_p21 : lw_okq (⟨"IceHarbourModel", "bo", "(II)I"⟩, 15) := ⟨⟨by decide +kernel, by decide +kernel⟩, List.mem_of_getElem? (i := 812) (by decide +kernel), List.mem_of_getElem? (i := 906) (by decide +kernel), List.mem_of_getElem? (i := 907) (by decide +kernel)⟩
theorem lw_p22 : lw_okq (⟨"IceHarbourModel", "isHere", "(I)Z"⟩, 15) := ⟨⟨by decide +kernel, by decide +kernel⟩, List.mem_of_getElem? (i := 812) (by decide +kernel), List.mem_of_getElem? (i := 910) (by decide +kernel), List.mem_of_getElem? (i := 911) (by decide +kernel)⟩
theorem lw_p23 : lw_okq (⟨"IceHarbourModel", "iceAt", "(I)I"⟩, 15) := ⟨⟨by decide +kernel, by decide +kernel⟩, List.mem_of_getElem? (i := 812) (by decide +kernel), List.mem_of_getElem? (i := 914) (by decide +kernel), List.mem_of_getElem? (i := 915) (by decide +kernel)⟩
theorem lw_p24 : lw_okq (⟨"IceHarbourModel", "legTold", "(II)I"⟩, 15) := ⟨⟨by decide +kernel, by decide +kernel⟩, List.mem_of_getElem? (i := 812) (by decide +kernel), List.mem_of_getElem? (i := 923) (by decide +kernel), List.mem_of_getElem? (i := 924) (by decide +kernel)⟩
theorem lw_p25 : lw_okq (⟨"IceHarbourModel", "isOpen", "(I)Z"⟩, 15) := ⟨⟨by decide +kernel, by decide +kernel⟩, List.mem_of_getElem? (i := 812) (by decide +kernel), List.mem_of_getElem? (i := 927) (by decide +kernel), List.mem_of_getElem? (i := 928) (by decide +kernel)⟩
theorem lw_p26 : lw_okq (⟨"IceHarbourModel", "isMerchant", "(I)Z"⟩, 15) := ⟨⟨by decide +kernel, by decide +kernel⟩, List.mem_of_getElem? (i := 812) (by decide +kernel), List.mem_of_getElem? (i := 939) (by decide +kernel), List.mem_of_getElem? (i := 940) (by decide +kernel)⟩
theorem lw_p27 : lw_okq (⟨"IceHarbourModel", "merchantTold", "(II)I"⟩, 15) := ⟨⟨by decide +kernel, by decide +kernel⟩, List.mem_of_getElem? (i := 812) (by decide +kernel), List.mem_of_getElem? (i := 958) (by decide +kernel), List.mem_of_getElem? (i := 959) (by decide +kernel)⟩
theorem lw_p28 : lw_okq (⟨"IceHarbourModel", "loaded", "(I)I"⟩, 15) := ⟨⟨by decide +kernel, by decide +kernel⟩, List.mem_of_getElem? (i := 812) (by decide +kernel), List.mem_of_getElem? (i := 962) (by decide +kernel), List.mem_of_getElem? (i := 963) (by decide +kernel)⟩
theorem lw_p29 : lw_okq (⟨"IceHarbourModel", "de", "(II)I"⟩, 15) := ⟨⟨by decide +kernel, by decide +kernel⟩, List.mem_of_getElem? (i := 812) (by decide +kernel), List.mem_of_getElem? (i := 966) (by decide +kernel), List.mem_of_getElem? (i := 967) (by decide +kernel)⟩
theorem lw_p30 : lw_okq (⟨"IceHarbourModel", "isBoat", "(I)Z"⟩, 15) := ⟨⟨by decide +kernel, by decide +kernel⟩, List.mem_of_getElem? (i := 812) (by decide +kernel), List.mem_of_getElem? (i := 979) (by decide +kernel), List.mem_of_getElem? (i := 980) (by decide +kernel)⟩
theorem lw_p31 : lw_okq (⟨"IceHarbourModel", "setBo", "(III)V"⟩, 15) := ⟨⟨by decide +kernel, by decide +kernel⟩, List.mem_of_getElem? (i := 812) (by decide +kernel), List.mem_of_getElem? (i := 983) (by decide +kernel), List.mem_of_getElem? (i := 984) (by decide +kernel)⟩
def lw_privs_2 : List (MethodName × Nat) := [(⟨"IceHarbour", "hullBehind", "(III)I"⟩, 4), (⟨"IceHarbourModel", "fail", "(I)I"⟩, 15), (⟨"IceHarbourModel", "isHarbour", "(I)Z"⟩, 15), (⟨"IceHarbourModel", "harbourTold", "(II)I"⟩, 15), (⟨"IceHarbourModel", "there", "(IZ)I"⟩, 15), (⟨"IceHarbourModel", "bo", "(II)I"⟩, 15), (⟨"IceHarbourModel", "isHere", "(I)Z"⟩, 15), (⟨"IceHarbourModel", "iceAt", "(I)I"⟩, 15), (⟨"IceHarbourModel", "legTold", "(II)I"⟩, 15), (⟨"IceHarbourModel", "isOpen", "(I)Z"⟩, 15), (⟨"IceHarbourModel", "isMerchant", "(I)Z"⟩, 15), (⟨"IceHarbourModel", "merchantTold", "(II)I"⟩, 15), (⟨"IceHarbourModel", "loaded", "(I)I"⟩, 15), (⟨"IceHarbourModel", "de", "(II)I"⟩, 15), (⟨"IceHarbourModel", "isBoat", "(I)Z"⟩, 15), (⟨"IceHarbourModel", "setBo", "(III)V"⟩, 15)]
theorem lw_r2 : ∀ q ∈ lw_privs_2, lw_okq q := List.forall_mem_cons.mpr ⟨lw_p16, List.forall_mem_cons.mpr ⟨lw_p17, List.forall_mem_cons.mpr ⟨lw_p18, List.forall_mem_cons.mpr ⟨lw_p19, List.forall_mem_cons.mpr ⟨lw_p20, List.forall_mem_cons.mpr ⟨lw_p21, List.forall_mem_cons.mpr ⟨lw_p22, List.forall_mem_cons.mpr ⟨lw_p23, List.forall_mem_cons.mpr ⟨lw_p24, List.forall_mem_cons.mpr ⟨lw_p25, List.forall_mem_cons.mpr ⟨lw_p26, List.forall_mem_cons.mpr ⟨lw_p27, List.forall_mem_cons.mpr ⟨lw_p28, List.forall_mem_cons.mpr ⟨lw_p29, List.forall_mem_cons.mpr ⟨lw_p30, List.forall_mem_cons.mpr ⟨lw_p31, fun _ h => absurd h List.not_mem_nil⟩⟩⟩⟩⟩⟩⟩⟩⟩⟩⟩⟩⟩⟩⟩⟩
theorem lw_p32 : lw_okq (⟨"IceHarbourModel", "way", "(II)I"⟩, 15) := ⟨⟨by decide +kernel, by decide +kernel⟩, List.mem_of_getElem? (i := 812) (by decide +kernel), List.mem_of_getElem? (i := 991) (by decide +kernel), List.mem_of_getElem? (i := 992) (by decide +kernel)⟩
theorem lw_p33 : lw_okq (⟨"IceHarbourModel", "boatTold", "(II)I"⟩, 15) := ⟨⟨by decide +kernel, by decide +kernel⟩, List.mem_of_getElem? (i := 812) (by decide +kernel), List.mem_of_getElem? (i := 1008) (by decide +kernel), List.mem_of_getElem? (i := 1009) (by decide +kernel)⟩
theorem lw_p34 : lw_okq (⟨"IceHarbourModel", "pays", "(II)Z"⟩, 15) := ⟨⟨by decide +kernel, by decide +kernel⟩, List.mem_of_getElem? (i := 812) (by decide +kernel), List.mem_of_getElem? (i := 1020) (by decide +kernel), List.mem_of_getElem? (i := 1021) (by decide +kernel)⟩
theorem lw_p35 : lw_okq (⟨"IceHarbourModel", "dayOn", "()I"⟩, 15) := ⟨⟨by decide +kernel, by decide +kernel⟩, List.mem_of_getElem? (i := 812) (by decide +kernel), List.mem_of_getElem? (i := 1032) (by decide +kernel), List.mem_of_getElem? (i := 1033) (by decide +kernel)⟩
theorem lw_p36 : lw_okq (⟨"IceHarbourModel", "sunk", "()I"⟩, 15) := ⟨⟨by decide +kernel, by decide +kernel⟩, List.mem_of_getElem? (i := 812) (by decide +kernel), List.mem_of_getElem? (i := 1036) (by decide +kernel), List.mem_of_getElem? (i := 1037) (by decide +kernel)⟩
theorem lw_p37 : lw_okq (⟨"IceHarbourModel", "freeze", "()V"⟩, 15) := ⟨⟨by decide +kernel, by decide +kernel⟩, List.mem_of_getElem? (i := 812) (by decide +kernel), List.mem_of_getElem? (i := 1040) (by decide +kernel), List.mem_of_getElem? (i := 1041) (by decide +kernel)⟩
theorem lw_p38 : lw_okq (⟨"IceHarbourModel", "sail", "(I)V"⟩, 15) := ⟨⟨by decide +kernel, by decide +kernel⟩, List.mem_of_getElem? (i := 812) (by decide +kernel), List.mem_of_getElem? (i := 1044) (by decide +kernel), List.mem_of_getElem? (i := 1045) (by decide +kernel)⟩
theorem lw_p39 : lw_okq (⟨"IceHarbourModel", "counted", "(I)I"⟩, 15) := ⟨⟨by decide +kernel, by decide +kernel⟩, List.mem_of_getElem? (i := 812) (by decide +kernel), List.mem_of_getElem? (i := 1052) (by decide +kernel), List.mem_of_getElem? (i := 1053) (by decide +kernel)⟩
theorem lw_p40 : lw_okq (⟨"IceHarbourModel", "kept", "()[[I"⟩, 15) := ⟨⟨by decide +kernel, by decide +kernel⟩, List.mem_of_getElem? (i := 812) (by decide +kernel), List.mem_of_getElem? (i := 1071) (by decide +kernel), List.mem_of_getElem? (i := 1072) (by decide +kernel)⟩
theorem lw_p41 : lw_okq (⟨"IceHarbourModel", "isThere", "(I)Z"⟩, 15) := ⟨⟨by decide +kernel, by decide +kernel⟩, List.mem_of_getElem? (i := 812) (by decide +kernel), List.mem_of_getElem? (i := 1075) (by decide +kernel), List.mem_of_getElem? (i := 1076) (by decide +kernel)⟩
theorem lw_p42 : lw_okq (⟨"IceHarbourModel", "bringBack", "([[I)V"⟩, 15) := ⟨⟨by decide +kernel, by decide +kernel⟩, List.mem_of_getElem? (i := 812) (by decide +kernel), List.mem_of_getElem? (i := 1079) (by decide +kernel), List.mem_of_getElem? (i := 1080) (by decide +kernel)⟩
theorem lw_p43 : lw_okq (⟨"IceHarbourModel", "goesThrough", "(II)Z"⟩, 15) := ⟨⟨by decide +kernel, by decide +kernel⟩, List.mem_of_getElem? (i := 812) (by decide +kernel), List.mem_of_getElem? (i := 1087) (by decide +kernel), List.mem_of_getElem? (i := 1088) (by decide +kernel)⟩
theorem lw_p44 : lw_okq (⟨"IceHarbourModel", "shelter", "(I)V"⟩, 15) := ⟨⟨by decide +kernel, by decide +kernel⟩, List.mem_of_getElem? (i := 812) (by decide +kernel), List.mem_of_getElem? (i := 1095) (by decide +kernel), List.mem_of_getElem? (i := 1096) (by decide +kernel)⟩
def lw_privs_3 : List (MethodName × Nat) := [(⟨"IceHarbourModel", "way", "(II)I"⟩, 15), (⟨"IceHarbourModel", "boatTold", "(II)I"⟩, 15), (⟨"IceHarbourModel", "pays", "(II)Z"⟩, 15), (⟨"IceHarbourModel", "dayOn", "()I"⟩, 15), (⟨"IceHarbourModel", "sunk", "()I"⟩, 15), (⟨"IceHarbourModel", "freeze", "()V"⟩, 15), (⟨"IceHarbourModel", "sail", "(I)V"⟩, 15), (⟨"IceHarbourModel", "counted", "(I)I"⟩, 15), (⟨"IceHarbourModel", "kept", "()[[I"⟩, 15), (⟨"IceHarbourModel", "isThere", "(I)Z"⟩, 15), (⟨"IceHarbourModel", "bringBack", "([[I)V"⟩, 15), (⟨"IceHarbourModel", "goesThrough", "(II)Z"⟩, 15), (⟨"IceHarbourModel", "shelter", "(I)V"⟩, 15)]
theorem lw_r3 : ∀ q ∈ lw_privs_3, lw_okq q := List.forall_mem_cons.mpr ⟨lw_p32, List.forall_mem_cons.mpr ⟨lw_p33, List.forall_mem_cons.mpr ⟨lw_p34, List.forall_mem_cons.mpr ⟨lw_p35, List.forall_mem_cons.mpr ⟨lw_p36, List.forall_mem_cons.mpr ⟨lw_p37, List.forall_mem_cons.mpr ⟨lw_p38, List.forall_mem_cons.mpr ⟨lw_p39, List.forall_mem_cons.mpr ⟨lw_p40, List.forall_mem_cons.mpr ⟨lw_p41, List.forall_mem_cons.mpr ⟨lw_p42, List.forall_mem_cons.mpr ⟨lw_p43, List.forall_mem_cons.mpr ⟨lw_p44, fun _ h => absurd h List.not_mem_nil⟩⟩⟩⟩⟩⟩⟩⟩⟩⟩⟩⟩⟩
def lw_privs : List (MethodName × Nat) := lw_privs_1 ++ (lw_privs_2 ++ (lw_privs_3))
def lw_tbl : List Cond := k2_sels lw_privs ++ tables_1
theorem lw_privs_ok : ∀ q ∈ lw_privs, lw_okq q := by
  show ∀ q ∈ lw_privs_1 ++ (lw_privs_2 ++ (lw_privs_3)), lw_okq q
  exact List.forall_mem_append.mpr ⟨lw_r1, List.forall_mem_append.mpr ⟨lw_r2, lw_r3⟩⟩
/-- the streams that the claim lets the run draw from -/
abbrev lw_cs : List Choice := [Jvm.Choice.named "NaN.bits"]
theorem lw_bits : nanBits ∈ lw_cs := by first | decide | exact List.mem_cons_self | simp [lw_cs, nanBits]
end
section
/-! ===== BEGIN words of one list among another's, by their places ===== -/
theorem goodIn_r {big : List Cond} (ws : List Cond) (ps : List Nat) (hp : ws = ps.filterMap (fun i => big[i]?)) (h : ws.all goodWord = true) : GoodIn big ws := by
  intro w hw
  have h1 := List.all_eq_true.mp h w hw
  rw [hp] at hw
  obtain ⟨i, -, hi⟩ := List.mem_filterMap.mp hw
  have hm : w ∈ big := by first | exact List.mem_of_getElem? hi | exact List.getElem?_mem hi
  exact ⟨hm, good_of_word h1⟩
theorem goodIn_app {big a b : List Cond} (ha : GoodIn big a) (hb : GoodIn big b) : GoodIn big (a ++ b) := fun w h => (List.mem_append.mp h).elim (ha w) (hb w)
theorem goodIn_ca {big a b : List Cond} {c : Cond} (ha : GoodIn big (c :: a)) (hb : GoodIn big b) : GoodIn big (c :: (a ++ b)) := fun w h => (List.mem_cons.mp h).elim (fun e => ha w (List.mem_cons.mpr (Or.inl e))) (fun h => (List.mem_append.mp h).elim (fun h => ha w (List.mem_cons.mpr (Or.inr h))) (hb w))
theorem goodIn_sub {big ws : List Cond} (hm : ∀ w ∈ ws, w ∈ big) (h : ws.all goodWord = true) : GoodIn big ws := fun w hw => ⟨hm w hw, good_of_word (List.all_eq_true.mp h w hw)⟩
/-! ===== END ===== -/


/-! ===== BEGIN exceptions that leave a method, and their catching by the caller (launches without stack traces) ===== -/
section VXA
/-! The laws vx_back, vx_callV, vx_callS, vx_callSW, vx_throw0, vx_throwS follow proofs of the library, with one case more: JvmDerived/Free/Laws.lean (Back.of_free), Shelf42/LK1.lean (callV, callS), Shelf/KitTraced.lean (throwNew0V, throwNewS). -/
/-- where a method has thrown q: the class by its name, the cell, what was written, the world -/
def vx_T (XC : String → State → State → Prop) (st : State) (q : Addr) (t : State) (mc ms : Nat) (free : Addr → Prop) : Prop :=
  ∃ (E : String) (ce : Cell) (L : List Loc), XC E st t ∧ t.heap[q]? = some ce ∧ ce.vm = .none ∧ st.vm.findClass E = some ce.cls ∧ st.WarmedH t.vm ∧ st.sameButNew ({ t with vm := st.vm } : State) L mc ms ∧ ∀ z ∈ L, free z.base
def vx_Q (Qc : Array Value → State → Outcome → State → Prop) (XC : String → State → State → Prop) (mc ms : Nat) (free : Addr → Prop) : Array Value → State → Outcome → State → Prop := fun a st o t =>
  (Qc a st o t ∧ ∃ L, FrameEnd st o t L mc ms ∧ ∀ q ∈ L, free q.base) ∨ ∃ q, o = .threw q ∧ vx_T XC st q t mc ms free
/-- a callee that returns or throws -/
def vx_Met (l : Launch) (y : MethodName) (ws : List Cond) (rm : Room) (Pc : Array Value → State → Prop) (Qc : Array Value → State → Outcome → State → Prop) (XC : String → State → State → Prop) (mc ms : Nat) (free : Addr → Prop) : Prop :=
  MetFree l y (headSpec ws rm) Pc (fun _ _ _ _ _ => True) (vx_Q Qc XC mc ms free)
def vx_Post (XC : String → State → State → Prop) (mc ms : Nat) (free : Addr → Prop) : Pt → Array Value → Addr → Pt → Prop := fun A a q B =>
  ∃ (g : JFrame) (mk : MethodId) (t : State) (L : List Loc) (E : String) (ce : Cell), B.U.heap = t.heap ∧ B.U.vm = t.vm ∧ XC E (A.U.calling g mk a) t ∧ t.heap[q]? = some ce ∧ ce.vm = .none ∧ A.U.vm.findClass E = some ce.cls ∧ B.locs = A.locs ++ L ∧ (∀ z ∈ L, free z.base) ∧ B.cells = A.cells + mc ∧ B.slots = A.slots + ms
def vx_Back (l : Launch) (R : Room) (p : Program) (e : Env) (below : List Frame) (s : State) (sargs : Array Value) (y : MethodName) (len W9 : Nat)
    (Pre : Pt → Array Value → Prop) (Post : Pt → Array Value → Option Value → Pt → Prop) (PostX : Pt → Array Value → Addr → Pt → Prop) : Prop :=
  ∀ (m : MethodId) (meth : Method) (c : Code) (A : Pt) (g : JFrame) (ig : Instr) (mk : MethodId) (a : Array Value),
    Stand p l e R s m sargs below meth c A.U A.locs A.cells A.slots → g.method = m → g.locals.size = c.maxLocals → decode c.code g.pc = .ok (ig, len) →
    2 * g.monitorRoom + (g.stack.map fun v => v.category).sum ≤ W9 → A.U.methodNamed? y = some mk → Pre A a →
    (∃ (v : Option Value) (B : Pt), Stand p l e R s m sargs below meth c B.U B.locs B.cells B.slots ∧ Post A a v B ∧
      Steps p.tables e below (doInvoke e (A.U.setTop g) [] mk a).1 (B.U.setTop { g with pc := g.pc + len, stack := v.toList ++ g.stack })) ∨
    (∃ (q : Addr) (B : Pt), Stand p l e R s m sargs below meth c B.U B.locs B.cells B.slots ∧ PostX A a q B ∧
      Steps p.tables e below (doInvoke e (A.U.setTop g) [] mk a).1 ((B.U.setTop g).pushFrame (.throwing q)))
section Payer
variable {l : Launch} {R : Room} {p : Program} {e : Env} {below : List Frame} {s : State} {sargs : Array Value} {y : MethodName} {len W9 : Nat}
theorem vx_back {ws : List Cond} {rm : Room} {Pc : Array Value → State → Prop} {Qc : Array Value → State → Outcome → State → Prop} {XC : String → State → State → Prop} {mc ms : Nat} {free : Addr → Prop} {bytes : ByteArray} {maxL : Nat} {ret : Option FieldType}
    (hM : vx_Met l y ws rm Pc Qc XC mc ms free) (hblind : FrameBlind Pc) (hrc : rm.cells = mc) (hrs : rm.slots = ms)
    (hframes : rm.frames + 1 ≤ R.frames) (hlocals : W9 + (maxL + 11) + rm.locals ≤ R.locals)
    (hws : ∀ w ∈ ws, ∀ a' U, s.WarmedH U.vm → w.before a' U = true) (hcode : Cond.code y bytes maxL ret ∈ ws) (hinit : ∀ a' U, s.WarmedH U.vm → (Cond.initialized y.cls).before a' U = true) :
    vx_Back l R p e below s sargs y len W9 (PreOf R mc ms Pc) (PostOf Qc mc ms free) (vx_Post XC mc ms free) := by
  intro m meth c A g ig mk a X hg hsize hdg hW hn hp
  have h1 : (headSpec ws rm).pre.before a A.U = true := atoms_intro fun w hw => hws w hw _ _ X.warmed
  have h2 : (Cond.code y bytes maxL ret).before a A.U = true := hws _ hcode _ _ X.warmed
  have h3 : (Cond.initialized y.cls).before a A.U = true := hinit _ _ X.warmed
  have h4 : A.cells + (headSpec ws rm).room.cells ≤ R.cells := by rw [show (headSpec ws rm).room.cells = mc from hrc]; exact hp.1
  have h5 : A.slots + (headSpec ws rm).room.slots ≤ R.slots := by rw [show (headSpec ws rm).room.slots = ms from hrs]; exact hp.2.1
  have hPc : Pc a (A.U.calling g mk a) := hblind _ _ _ _ hp.2.2
  obtain ⟨U, Ls, c0, s0⟩ := A
  dsimp only [Pt.U, Pt.locs, Pt.cells, Pt.slots] at h1 h2 h3 h4 h5 X hn hPc ⊢
  obtain ⟨methY, cY, hmY, hcY, -, hlY, -, -, -, -⟩ := Cond.code_spec hn h2
  obtain ⟨kY, hkY, -⟩ := className_of_methodNamed hn
  have hinitY : kY.init = .initialized := Cond.initialized_spec (findClass_of_methodNamed hn) hkY h3
  have h : At U g.method c below := by rw [hg]; exact X.here
  have hlocals9 : W9 + (maxL + 11) + (headSpec ws rm).room.locals ≤ R.locals := hlocals
  have happ : (headSpec ws rm).appliesLoose y e.platform (U.calling g mk a) = true :=
    Spec.appliesLoose_calling (g := g) h hdg hn hkY hinitY
      (X.room_calling (g := g) (R' := (headSpec ws rm).room) hsize hmY hcY hframes (by rw [hlY]; omega) h4 h5) h1
  obtain ⟨mid, hmid⟩ := h.above
  have hfr : (U.setTop g).frames = (.java g :: mid) ++ below := by rw [State.frames_setTop' g h.top, hmid]; rfl
  obtain ⟨o, s₂, hsteps, -, hend, hq⟩ := Steps.callFree hM p X.admits X.cas X.clock (acts := []) hfr happ hPc trivial
  have hq' : vx_Q Qc XC mc ms free a (U.calling g mk a) o s₂ := hq
  rw [State.frames_setTop' g h.top] at hend
  obtain ⟨g₀, hg0⟩ := Option.isSome_iff_exists.mp h.top
  obtain ⟨r, hr⟩ := State.topJava?_eq_some.mp hg0
  have hr' : (({ U with heap := s₂.heap, slotsUsed := s₂.slotsUsed } : State).setVm s₂.vm).frames = .java g₀ :: r := hr
  rcases hq' with ⟨hqc, L, hfe, hL⟩ | ⟨q, rfl, E, ce, L, hx, hce, hcv, hcl, hW₂, hsm, hL⟩
  · obtain ⟨⟨v, rfl⟩, hW₂, e2, q2, q3, q4, q5, q6⟩ := id hfe
    have e3 : s₂ = ({ (U.calling g mk a).setFrames s₂.frames with heap := s₂.heap, slotsUsed := s₂.slotsUsed } : State).setVm s₂.vm := by
      have : s₂ = ({ s₂ with vm := (U.calling g mk a).vm } : State).setVm s₂.vm := rfl
      rw [e2] at this
      exact this
    obtain ⟨c₂, i₂, len₂, hc₂, hd₂, hf₂⟩ := hend
    have hW' : U.WarmedH s₂.vm := hW₂
    have hcc : c₂ = c := by
      have h1 : s₂.code? g.method = U.code? g.method := by
        rw [State.code?_eq, State.code?_eq, hW'.alike.method?]
      exact Option.some.inj (hc₂.symm.trans (h1.trans h.code))
    subst hcc
    have hlen : len₂ = len := by rw [hdg] at hd₂; cases hd₂; rfl
    subst hlen
    have hs₂ : s₂ = (({ U with heap := s₂.heap, slotsUsed := s₂.slotsUsed } : State).setVm s₂.vm).setTop { g with pc := g.pc + len₂, stack := v.toList ++ g.stack } := by
      refine e3.trans ?_
      rw [hf₂, State.calling_eq h.top, State.setFrames_setFrames, State.setTop_of_frames _ hr', hr]
      rfl
    have hsame : U.sameButNew ({ U with heap := s₂.heap, slotsUsed := s₂.slotsUsed } : State) L mc ms := by
      refine ⟨?_, q2, q3, q4, q5, q6⟩
      obtain ⟨t, ht, -⟩ := State.frames_cons hr
      show ({ U with heap := s₂.heap, slotsUsed := s₂.slotsUsed } : State) = { U.setFrames U.frames with heap := s₂.heap, slotsUsed := s₂.slotsUsed }
      rw [State.setFrames_self ht]
    subst hg
    refine Or.inl ⟨v, ⟨(({ U with heap := s₂.heap, slotsUsed := s₂.slotsUsed } : State).setVm s₂.vm), Ls ++ L, c0 + mc, s0 + ms⟩,
      ⟨X.admits, X.cas, X.clock, X.frames, X.room, X.hears, X.method, X.code, (X.here.setHeapUsed s₂.heap s₂.slotsUsed).setVm hW'.alike, X.tail, State.WarmedH.trans X.warmed hW', X.limits, X.bytes, X.same.trans (hsame.setVm s.vm)⟩,
      ⟨g, mk, s₂, L, rfl, rfl, hqc, rfl, hL, rfl, rfl⟩, ?_⟩
    show Steps p.tables e below _ ((({ U with heap := s₂.heap, slotsUsed := s₂.slotsUsed } : State).setVm s₂.vm).setTop { g with pc := g.pc + len₂, stack := v.toList ++ g.stack })
    rw [← hs₂]
    exact hsteps
  · obtain ⟨e2, q2, q3, q4, q5, q6⟩ := id hsm
    have e3 : s₂ = ({ (U.calling g mk a).setFrames s₂.frames with heap := s₂.heap, slotsUsed := s₂.slotsUsed } : State).setVm s₂.vm := by
      have : s₂ = ({ s₂ with vm := (U.calling g mk a).vm } : State).setVm s₂.vm := rfl
      rw [e2] at this
      exact this
    have hf₂ : s₂.frames = .throwing q :: .java g :: U.frames.tail := hend
    have hW' : U.WarmedH s₂.vm := hW₂
    have hs₂ : s₂ = ((({ U with heap := s₂.heap, slotsUsed := s₂.slotsUsed } : State).setVm s₂.vm).setTop g).pushFrame (.throwing q) := by
      refine e3.trans ?_
      rw [hf₂, State.calling_eq h.top, State.setFrames_setFrames, State.pushFrame, State.frames_setTop _ hr', State.setTop_of_frames _ hr', State.setFrames_setFrames, hr]
      rfl
    have hsame : U.sameButNew ({ U with heap := s₂.heap, slotsUsed := s₂.slotsUsed } : State) L mc ms := by
      refine ⟨?_, q2, q3, q4, q5, q6⟩
      obtain ⟨t, ht, -⟩ := State.frames_cons hr
      show ({ U with heap := s₂.heap, slotsUsed := s₂.slotsUsed } : State) = { U.setFrames U.frames with heap := s₂.heap, slotsUsed := s₂.slotsUsed }
      rw [State.setFrames_self ht]
    subst hg
    refine Or.inr ⟨q, ⟨(({ U with heap := s₂.heap, slotsUsed := s₂.slotsUsed } : State).setVm s₂.vm), Ls ++ L, c0 + mc, s0 + ms⟩,
      ⟨X.admits, X.cas, X.clock, X.frames, X.room, X.hears, X.method, X.code, (X.here.setHeapUsed s₂.heap s₂.slotsUsed).setVm hW'.alike, X.tail, State.WarmedH.trans X.warmed hW', X.limits, X.bytes, X.same.trans (hsame.setVm s.vm)⟩,
      ⟨g, mk, s₂, L, E, ce, rfl, rfl, hx, hce, hcv, hcl, rfl, hL, rfl, rfl⟩, ?_⟩
    show Steps p.tables e below _ (((({ U with heap := s₂.heap, slotsUsed := s₂.slotsUsed } : State).setVm s₂.vm).setTop g).pushFrame (.throwing q))
    rw [← hs₂]
    exact hsteps
end Payer
section Calls
variable {p : Program} {l : Launch} {e : Env} {R : Room} {s : State} {m : MethodId} {args : Array Value} {below : List Frame} {meth : Method} {c : Code} {T : State} {locs : List Loc} {cells slots : Nat}
theorem vx_callV (X : Stand p l e R s m args below meth c T locs cells slots) (hexec : p.tables.exec = Jvm.exec) {own C : String} {index : Nat} {y : MethodName} {bytes : ByteArray} {maxL : Nat} {ret : Option FieldType}
    (hown : s.vm.findClass own = some m.cls) (hlink : (Cond.methodLink own index y).before args s = true) (hinst : (Cond.instanceMethod y).before args s = true) (hsel : (Cond.selects C y y).before args s = true)
    (hcode : (Cond.code y bytes maxL ret).before args s = true) (hy : y.cls ≠ "java/lang/invoke/MethodHandle" ∧ y.cls ≠ "java/lang/invoke/VarHandle")
    {W9 : Nat} {Pre : Pt → Array Value → Prop} {Post : Pt → Array Value → Option Value → Pt → Prop} {PostX : Pt → Array Value → Addr → Pt → Prop} (hK : vx_Back l R p e below s args y 3 W9 Pre Post PostX)
    {b : Addr} {cellB : Cell} (hcell : T.heap[b]? = some cellB) (hobj : cellB.vm.isStatics = false) (hcls : s.vm.findClass C = some cellB.cls)
    {g : JFrame} (hg : g.method = m) (hsize : g.locals.size = c.maxLocals) {argsL rest : List Value} (hlen : ∀ sig, parseMethodDescriptor y.desc = some sig → argsL.length = sig.parameters.length)
    (hstack : g.stack = argsL.reverse ++ .ref b :: rest) (hW : 2 * g.monitorRoom + (rest.map fun v => v.category).sum ≤ W9) (hdg : decode c.code g.pc = .ok (.invokevirtual index, 3))
    (hpre : ∀ vm₁, s.WarmedH vm₁ → Pre ⟨T.setVm vm₁, locs, cells, slots⟩ (Value.ref b :: argsL).toArray) :
    (∃ (v : Option Value) (vm₁ : Vm) (B : Pt), s.WarmedH vm₁ ∧ Stand p l e R s m args below meth c B.U B.locs B.cells B.slots ∧ Post ⟨T.setVm vm₁, locs, cells, slots⟩ (Value.ref b :: argsL).toArray v B ∧
      ∀ target, Steps p.tables e below (B.U.setTop { g with pc := g.pc + 3, stack := v.toList ++ rest }) target → Steps p.tables e below (T.setTop g) target) ∨
    (∃ (q : Addr) (vm₁ : Vm) (B : Pt), s.WarmedH vm₁ ∧ Stand p l e R s m args below meth c B.U B.locs B.cells B.slots ∧ PostX ⟨T.setVm vm₁, locs, cells, slots⟩ (Value.ref b :: argsL).toArray q B ∧
      Steps p.tables e below (T.setTop g) ((B.U.setTop { g with stack := rest }).pushFrame (.throwing q))) := by
  obtain ⟨mk, methM, hnamed, hmethM, hstM, habM⟩ := Cond.instanceMethod_spec hinst
  obtain ⟨methM', cM, hmethM', -, -, -, -, -, -, hsigM⟩ := Cond.code_spec hnamed hcode
  cases hmethM.symm.trans hmethM'
  obtain ⟨c2, r2, m2, q1, q2, q3, q4, kP, hkP, hkPi⟩ := Cond.selects_spec hsel
  cases hcls.symm.trans q1
  cases (State.methodFound?_of_named hnamed hy).symm.trans q2
  cases hnamed.symm.trans q3
  have hselP : selectMethod e.platform s.vm cellB.cls mk = .method mk := by rw [Launch.admits_selectMethod X.admits]; exact q4
  obtain ⟨vm₁, X₁, hstep₁⟩ := X.invokevirtual hexec hown hlink hnamed hmethM hstM hkP hkPi hy (a := b) (cell := cellB) hcell
    (fun z h => by rw [h] at hobj; cases hobj) hselP hmethM habM hkP hkPi (g := g) hg (argsL := argsL) (rest := rest) (hlen _ hsigM) hstack hdg
  rcases hK m meth c ⟨T.setVm vm₁, locs, cells, slots⟩ { g with stack := rest } (.invokevirtual index) mk (Value.ref b :: argsL).toArray X₁ hg hsize hdg hW (X₁.named hnamed) (hpre vm₁ X₁.warmed) with ⟨v, B, X', hpost, hsteps⟩ | ⟨q, B, X', hpost, hsteps⟩
  · exact Or.inl ⟨v, vm₁, B, X₁.warmed, X', hpost, fun target h => hstep₁ _ fun acts => by rw [doInvoke_state]; exact hsteps.trans h⟩
  · exact Or.inr ⟨q, vm₁, B, X₁.warmed, X', hpost, hstep₁ _ fun acts => by rw [doInvoke_state]; exact hsteps⟩
theorem vx_callS (X : Stand p l e R s m args below meth c T locs cells slots) (hexec : p.tables.exec = Jvm.exec) {own : String} {index : Nat} {y : MethodName} {bytes : ByteArray} {maxL : Nat} {ret : Option FieldType}
    (hown : s.vm.findClass own = some m.cls) (hlink : (Cond.methodLink own index y).before args s = true) (hstat : (Cond.static y).before args s = true) (hinit : (Cond.initialized y.cls).before args s = true)
    (hcode : (Cond.code y bytes maxL ret).before args s = true) (hy : y.cls ≠ "java/lang/invoke/MethodHandle" ∧ y.cls ≠ "java/lang/invoke/VarHandle")
    {W9 : Nat} {Pre : Pt → Array Value → Prop} {Post : Pt → Array Value → Option Value → Pt → Prop} {PostX : Pt → Array Value → Addr → Pt → Prop} (hK : vx_Back l R p e below s args y 3 W9 Pre Post PostX)
    {g : JFrame} (hg : g.method = m) (hsize : g.locals.size = c.maxLocals) {argsL rest : List Value} (hlen : ∀ sig, parseMethodDescriptor y.desc = some sig → argsL.length = sig.parameters.length)
    (hstack : g.stack = argsL.reverse ++ rest) (hW : 2 * g.monitorRoom + (rest.map fun v => v.category).sum ≤ W9) (hdg : decode c.code g.pc = .ok (.invokestatic index, 3))
    (hpre : ∀ vm₁, s.WarmedH vm₁ → Pre ⟨T.setVm vm₁, locs, cells, slots⟩ argsL.toArray) :
    (∃ (v : Option Value) (vm₁ : Vm) (B : Pt), s.WarmedH vm₁ ∧ Stand p l e R s m args below meth c B.U B.locs B.cells B.slots ∧ Post ⟨T.setVm vm₁, locs, cells, slots⟩ argsL.toArray v B ∧
      ∀ target, Steps p.tables e below (B.U.setTop { g with pc := g.pc + 3, stack := v.toList ++ rest }) target → Steps p.tables e below (T.setTop g) target) ∨
    (∃ (q : Addr) (vm₁ : Vm) (B : Pt), s.WarmedH vm₁ ∧ Stand p l e R s m args below meth c B.U B.locs B.cells B.slots ∧ PostX ⟨T.setVm vm₁, locs, cells, slots⟩ argsL.toArray q B ∧
      Steps p.tables e below (T.setTop g) ((B.U.setTop { g with stack := rest }).pushFrame (.throwing q))) := by
  obtain ⟨mk, hnamed⟩ := Cond.code_named hcode
  obtain ⟨methM, cM, hmethM, -, -, -, -, -, -, hsigM⟩ := Cond.code_spec hnamed hcode
  have hstatic : methM.isStatic = true := Cond.static_spec hnamed hmethM hstat
  obtain ⟨kP, hkP, -⟩ := className_of_methodNamed hnamed
  have hinitP : kP.init = .initialized := Cond.initialized_spec (findClass_of_methodNamed hnamed) hkP hinit
  obtain ⟨vm₁, X₁, hstep₁⟩ := X.invokestatic hexec hown hlink hnamed hmethM hstatic hkP hinitP hy (g := g) hg (argsL := argsL) (rest := rest) (hlen _ hsigM) hstack hdg
  rcases hK m meth c ⟨T.setVm vm₁, locs, cells, slots⟩ { g with stack := rest } (.invokestatic index) mk argsL.toArray X₁ hg hsize hdg hW (X₁.named hnamed) (hpre vm₁ X₁.warmed) with ⟨v, B, X', hpost, hsteps⟩ | ⟨q, B, X', hpost, hsteps⟩
  · exact Or.inl ⟨v, vm₁, B, X₁.warmed, X', hpost, fun target h => hstep₁ _ fun acts => by rw [doInvoke_state]; exact hsteps.trans h⟩
  · exact Or.inr ⟨q, vm₁, B, X₁.warmed, X', hpost, hstep₁ _ fun acts => by rw [doInvoke_state]; exact hsteps⟩
end Calls
theorem vx_cls {s : State} {T : State} {vm₁ : Vm} {E : String} {k : ClassId} (hW : s.WarmedH vm₁) (h : (T.setVm vm₁).vm.findClass E = some k) : s.vm.findClass E = some k := by
  have h1 : vm₁.findClass E = some k := h
  rw [hW.alike.findClass] at h1
  exact h1
/-- the method's frame g, with q thrown over it -/
def vx_W (p : Program) (l : Launch) (e : Env) (R : Room) (s : State) (m : MethodId) (args : Array Value) (below : List Frame) (meth : Method) (c : Code) (H : Heap) (locs : List Loc) (cells slots : Nat) (Q : State → Prop) (g : JFrame) (q : Addr) : Prop :=
  ∀ T : State, T.heap = H → Stand p l e R s m args below meth c T locs cells slots → ∃ t, Steps p.tables e below ((T.setTop g).pushFrame (.throwing q)) t ∧ Q t
def vx_Run (p : Program) (l : Launch) (e : Env) (R : Room) (s : State) (m : MethodId) (args : Array Value) (below : List Frame) (meth : Method) (c : Code) (H : Heap) (locs : List Loc) (cells slots mc ms : Nat) (g : JFrame) (rest : List Value) (Qa : State → Outcome → State → Prop) (XC : String → State → State → Prop) (free : Addr → Prop) : Prop :=
  ∀ T : State, T.heap = H → Stand p l e R s m args below meth c T locs cells slots →
    (∃ (v : Option Value) (st₀ t T' : State) (L : List Loc), st₀.heap = H ∧ Stand p l e R s m args below meth c T' (locs ++ L) (cells + mc) (slots + ms) ∧ (∀ q ∈ L, free q.base) ∧ T'.heap = t.heap ∧ T'.vm = t.vm ∧ Qa st₀ (.returned v) t ∧
      Goes p e below T g T' { g with pc := g.pc + 3, stack := v.toList ++ rest }) ∨
    (∃ (q : Addr) (st₀ t T' : State) (L : List Loc) (E : String) (ce : Cell), st₀.heap = H ∧ Stand p l e R s m args below meth c T' (locs ++ L) (cells + mc) (slots + ms) ∧ (∀ z ∈ L, free z.base) ∧ T'.heap = t.heap ∧ T'.vm = t.vm ∧ XC E st₀ t ∧ t.heap[q]? = some ce ∧ ce.vm = .none ∧ s.vm.findClass E = some ce.cls ∧
      Steps p.tables e below (T.setTop g) ((T'.setTop { g with stack := rest }).pushFrame (.throwing q)))
def vx_X {S : Type} (px : S → Prop) (B : String → S → State → Prop) (A : Nat → Prop) : String → State → State → Prop := fun E st t => ∃ u : S, px u ∧ B E u t ∧ va_F A st t
section Runs
variable {p : Program} {l : Launch} {e : Env} {R : Room} {s : State} {m : MethodId} {args : Array Value} {below : List Frame} {meth : Method} {c : Code} {H : Heap} {locs : List Loc} {cells slots : Nat}
variable {y : MethodName} {bytes cc : ByteArray} {maxL nL mc ms n index : Nat} {ret : Option FieldType} {ws : List Cond} {rm : Room} {Pc : Array Value → State → Prop} {Qc : Array Value → State → Outcome → State → Prop} {XC : String → State → State → Prop} {free : Addr → Prop} {Ts : List Cond} {own C : String} {b : Addr} {As rest : List Value} {g : JFrame}
theorem vx_callBack (cb : CallB R s args own index y bytes maxL ret ws rm mc ms n) (hM : vx_Met l y ws rm Pc Qc XC mc ms free) (hbl : FrameBlind Pc) : vx_Back l R p e below s args y 3 8 (PreOf R mc ms Pc) (PostOf Qc mc ms free) (vx_Post XC mc ms free) := by
  obtain ⟨hrc, hrs, hfr, hlo, hws, hcw, -, hini, -⟩ := cb
  exact vx_back (bytes := bytes) (maxL := maxL) (ret := ret) hM hbl hrc hrs hfr hlo hws hcw (fun a' U hW => word_at hW (Or.inl (by first | rfl | simp [Cond.onTables, Cond.keeps, Cond.steady])) hini)
theorem vx_runV (S : CallFix p m c cc nL s args Ts own) (hM : vx_Met l y ws rm Pc Qc XC mc ms free) (cw : CallW R s args own C index y bytes maxL ret ws rm mc ms n) (hp : PreV s H C b Pc As)
    (hg : g.method = m) (hn : As.length = n) (hsize : g.locals.size = nL) (hstack : g.stack = As.reverse ++ .ref b :: rest) (hW : 2 * g.monitorRoom + (rest.map fun v => v.category).sum ≤ 8) (hdg : decode cc g.pc = .ok (.invokevirtual index, 3)) (hf : cells + mc ≤ R.cells ∧ slots + ms ≤ R.slots) :
    vx_Run p l e R s m args below meth c H locs cells slots mc ms g rest (Qc (Value.ref b :: As).toArray) XC free := by
  have hK : vx_Back l R p e below s args y 3 8 (PreOf R mc ms Pc) (PostOf Qc mc ms free) (vx_Post XC mc ms free) := vx_callBack cw.1 hM hp.1
  obtain ⟨⟨-, -, -, -, -, -, hcode, -, hy, hlen, hl⟩, hin, hse⟩ := cw
  obtain ⟨hx, hb, hml, ho, -⟩ := S
  obtain ⟨-, ⟨cellB, hcB, hoB, hclB⟩, hPc⟩ := hp
  intro T hT X
  rcases vx_callV X hx (C := C) (bytes := bytes) (maxL := maxL) (ret := ret) ho hl hin hse hcode hy hK (by rw [hT]; exact hcB) hoB hclB hg (hsize.trans hml.symm) (argsL := As) (rest := rest) (fun sig h => hn.trans (hlen sig h)) hstack hW (by rw [hb]; exact hdg)
    (fun vm₁ hW₁ => ⟨hf.1, hf.2, hPc (T.setVm vm₁) hT hW₁⟩) with ⟨v, vm₁, ⟨U', l2, c2, s2⟩, hW₁, X', ⟨g', mk, t, L, e1, e2, hq, h1, hL, h2, h3⟩, st⟩ | ⟨q, vm₁, ⟨U', l2, c2, s2⟩, hW₁, X', ⟨g', mk, t, L, E, ce, e1, e2, hq, hce, hcv, hcl, h1, hL, h2, h3⟩, st⟩
  · dsimp only [Pt.U, Pt.locs, Pt.cells, Pt.slots] at X' e1 e2 h1 h2 h3 st
    subst h1; subst h2; subst h3
    exact Or.inl ⟨v, (T.setVm vm₁).calling g' mk (Value.ref b :: As).toArray, t, U', L, hT, X', hL, e1, e2, hq, st⟩
  · dsimp only [Pt.U, Pt.locs, Pt.cells, Pt.slots] at X' e1 e2 h1 h2 h3 st hcl
    subst h1; subst h2; subst h3
    exact Or.inr ⟨q, (T.setVm vm₁).calling g' mk (Value.ref b :: As).toArray, t, U', L, E, ce, hT, X', hL, e1, e2, hq, hce, hcv, vx_cls hW₁ hcl, st⟩
theorem vx_runS (S : CallFix p m c cc nL s args Ts own) (hM : vx_Met l y ws rm Pc Qc XC mc ms free) (cw : CallB R s args own index y bytes maxL ret ws rm mc ms n ∧ (Cond.static y).before args s = true) (hp : PreS s H Pc As)
    (hg : g.method = m) (hn : As.length = n) (hsize : g.locals.size = nL) (hstack : g.stack = As.reverse ++ rest) (hW : 2 * g.monitorRoom + (rest.map fun v => v.category).sum ≤ 8) (hdg : decode cc g.pc = .ok (.invokestatic index, 3)) (hf : cells + mc ≤ R.cells ∧ slots + ms ≤ R.slots) :
    vx_Run p l e R s m args below meth c H locs cells slots mc ms g rest (Qc As.toArray) XC free := by
  have hK : vx_Back l R p e below s args y 3 8 (PreOf R mc ms Pc) (PostOf Qc mc ms free) (vx_Post XC mc ms free) := vx_callBack cw.1 hM hp.1
  obtain ⟨⟨-, -, -, -, -, -, hcode, hini, hy, hlen, hl⟩, hstt⟩ := cw
  obtain ⟨hx, hb, hml, ho, -⟩ := S
  intro T hT X
  rcases vx_callS X hx (bytes := bytes) (maxL := maxL) (ret := ret) ho hl hstt hini hcode hy hK hg (hsize.trans hml.symm) (argsL := As) (rest := rest) (fun sig h => hn.trans (hlen sig h)) hstack hW (by rw [hb]; exact hdg)
    (fun vm₁ hW₁ => ⟨hf.1, hf.2, hp.2 (T.setVm vm₁) hT hW₁⟩) with ⟨v, vm₁, ⟨U', l2, c2, s2⟩, hW₁, X', ⟨g', mk, t, L, e1, e2, hq, h1, hL, h2, h3⟩, st⟩ | ⟨q, vm₁, ⟨U', l2, c2, s2⟩, hW₁, X', ⟨g', mk, t, L, E, ce, e1, e2, hq, hce, hcv, hcl, h1, hL, h2, h3⟩, st⟩
  · dsimp only [Pt.U, Pt.locs, Pt.cells, Pt.slots] at X' e1 e2 h1 h2 h3 st
    subst h1; subst h2; subst h3
    exact Or.inl ⟨v, (T.setVm vm₁).calling g' mk As.toArray, t, U', L, hT, X', hL, e1, e2, hq, st⟩
  · dsimp only [Pt.U, Pt.locs, Pt.cells, Pt.slots] at X' e1 e2 h1 h2 h3 st hcl
    subst h1; subst h2; subst h3
    exact Or.inr ⟨q, (T.setVm vm₁).calling g' mk As.toArray, t, U', L, E, ce, hT, X', hL, e1, e2, hq, hce, hcv, vx_cls hW₁ hcl, st⟩
end Runs
section Rows
variable {p : Program} {l : Launch} {e : Env} {R : Room} {s : State} {m : MethodId} {args : Array Value} {below : List Frame} {meth : Method} {c : Code} {H : Heap} {locs : List Loc} {cells slots : Nat} {Q : State → Prop}
variable {mc ms : Nat} {free : Addr → Prop} {A0 A1 : Nat → Prop} {H0 : Heap} {a : Array Value} {pc : Nat} {ls : Array Slot} {st0 rest : List Value}
theorem vx_keep {st₀ t T' : State} {L : List Loc} (h0 : st₀.heap = H) (e1 : T'.heap = t.heap) (hS : va_S A0 H0 H locs) (hA : ∀ q, q < H.size → A1 q → A0 q) (hf : ∀ q, free q → A0 q) (hL : ∀ q ∈ L, free q.base) (hF : va_F A1 st₀ t) :
    H.size ≤ T'.heap.size ∧ (∀ q : Nat, q < H.size → ¬ A1 q → T'.heap[q]? = H[q]?) ∧ va_S A0 H0 T'.heap (locs ++ L) := by
  obtain ⟨hz, hk⟩ := hF
  rw [h0] at hz hk
  exact ⟨by rw [e1]; exact hz, fun q h1 h2 => by rw [e1]; exact hk q h1 h2,
    ⟨Nat.le_trans hS.1 (by rw [e1]; exact hz), fun q h1 h2 => by rw [e1, hk q (Nat.lt_of_lt_of_le h1 hS.1) (fun z => h2 (hA q (Nat.lt_of_lt_of_le h1 hS.1) z))]; exact hS.2.1 q h1 h2, fun q hq => by
      rcases List.mem_append.mp hq with h | h
      · exact hS.2.2 q h
      · exact hf _ (hL q h)⟩⟩
theorem vx_calli {S SX : Type} {post : Int32 → S → Prop} {px : SX → Prop} {B : S → State → Prop} {BX : String → SX → State → Prop} {AX : Nat → Prop} (hr : vx_Run p l e R s m args below meth c H locs cells slots mc ms (F0 m pc ls st0) rest (va_Qi post B A1 a) (vx_X px BX AX) free) (hS : va_S A0 H0 H locs) (hA : ∀ q, q < H.size → A1 q → A0 q) (hf : ∀ q, free q → A0 q) (hAX : ∀ q, q < H.size → AX q → A0 q)
    (kx : ∀ (E : String) (ce : Cell) (q9 : Addr) (u : SX) (t : State) (H1 : Heap) (locs1 : List Loc), t.heap = H1 → s.vm.Alike t.vm → px u → BX E u t → H.size ≤ H1.size → (∀ q : Nat, q < H.size → ¬ AX q → H1[q]? = H[q]?) → va_S A0 H0 H1 locs1 → H1[q9]? = some ce → ce.vm = .none → s.vm.findClass E = some ce.cls → vx_W p l e R s m args below meth c H1 locs1 (cells + mc) (slots + ms) Q (F0 m pc ls rest) q9)
    (kk : ∀ (r : Int32) (u : S) (t : State) (H1 : Heap) (locs1 : List Loc), t.heap = H1 → s.vm.Alike t.vm → post r u → B u t → H.size ≤ H1.size → (∀ q : Nat, q < H.size → ¬ A1 q → H1[q]? = H[q]?) → va_S A0 H0 H1 locs1 → W p l e R s m args below meth c H1 locs1 (cells + mc) (slots + ms) Q (F0 m (pc + 3) ls (.int r :: rest))) : W p l e R s m args below meth c H locs cells slots Q (F0 m pc ls st0) := by
  intro T hT X
  rcases hr T hT X with ⟨v, st₀, t, T', L, h0, X', hL, e1, e2, ⟨⟨r, u, hv, hp, hb⟩, hF⟩, st⟩ | ⟨q, st₀, t, T', L, E, ce, h0, X', hL, e1, e2, ⟨u, hp, hb, hF⟩, hce, hcv, hcl, st⟩
  · cases hv
    obtain ⟨k1, k2, k3⟩ := vx_keep h0 e1 hS hA hf hL hF
    obtain ⟨t2, a1, b1⟩ := kk r u t T'.heap (locs ++ L) e1.symm (by rw [← e2]; exact X'.warmed.alike) hp hb k1 k2 k3 T' rfl X'
    exact ⟨t2, st t2 a1, b1⟩
  · obtain ⟨k1, k2, k3⟩ := vx_keep h0 e1 hS hAX hf hL hF
    obtain ⟨t2, a1, b1⟩ := kx E ce q u t T'.heap (locs ++ L) e1.symm (by rw [← e2]; exact X'.warmed.alike) hp hb k1 k2 k3 (by rw [e1]; exact hce) hcv hcl T' rfl X'
    exact ⟨t2, st.trans a1, b1⟩
theorem vx_calll {S SX : Type} {post : Int64 → S → Prop} {px : SX → Prop} {B : S → State → Prop} {BX : String → SX → State → Prop} {AX : Nat → Prop} (hr : vx_Run p l e R s m args below meth c H locs cells slots mc ms (F0 m pc ls st0) rest (va_Ql post B A1 a) (vx_X px BX AX) free) (hS : va_S A0 H0 H locs) (hA : ∀ q, q < H.size → A1 q → A0 q) (hf : ∀ q, free q → A0 q) (hAX : ∀ q, q < H.size → AX q → A0 q)
    (kx : ∀ (E : String) (ce : Cell) (q9 : Addr) (u : SX) (t : State) (H1 : Heap) (locs1 : List Loc), t.heap = H1 → s.vm.Alike t.vm → px u → BX E u t → H.size ≤ H1.size → (∀ q : Nat, q < H.size → ¬ AX q → H1[q]? = H[q]?) → va_S A0 H0 H1 locs1 → H1[q9]? = some ce → ce.vm = .none → s.vm.findClass E = some ce.cls → vx_W p l e R s m args below meth c H1 locs1 (cells + mc) (slots + ms) Q (F0 m pc ls rest) q9)
    (kk : ∀ (r : Int64) (u : S) (t : State) (H1 : Heap) (locs1 : List Loc), t.heap = H1 → s.vm.Alike t.vm → post r u → B u t → H.size ≤ H1.size → (∀ q : Nat, q < H.size → ¬ A1 q → H1[q]? = H[q]?) → va_S A0 H0 H1 locs1 → W p l e R s m args below meth c H1 locs1 (cells + mc) (slots + ms) Q (F0 m (pc + 3) ls (.long r :: rest))) : W p l e R s m args below meth c H locs cells slots Q (F0 m pc ls st0) := by
  intro T hT X
  rcases hr T hT X with ⟨v, st₀, t, T', L, h0, X', hL, e1, e2, ⟨⟨r, u, hv, hp, hb⟩, hF⟩, st⟩ | ⟨q, st₀, t, T', L, E, ce, h0, X', hL, e1, e2, ⟨u, hp, hb, hF⟩, hce, hcv, hcl, st⟩
  · cases hv
    obtain ⟨k1, k2, k3⟩ := vx_keep h0 e1 hS hA hf hL hF
    obtain ⟨t2, a1, b1⟩ := kk r u t T'.heap (locs ++ L) e1.symm (by rw [← e2]; exact X'.warmed.alike) hp hb k1 k2 k3 T' rfl X'
    exact ⟨t2, st t2 a1, b1⟩
  · obtain ⟨k1, k2, k3⟩ := vx_keep h0 e1 hS hAX hf hL hF
    obtain ⟨t2, a1, b1⟩ := kx E ce q u t T'.heap (locs ++ L) e1.symm (by rw [← e2]; exact X'.warmed.alike) hp hb k1 k2 k3 (by rw [e1]; exact hce) hcv hcl T' rfl X'
    exact ⟨t2, st.trans a1, b1⟩
theorem vx_callf {S SX : Type} {post : UInt32 → S → Prop} {px : SX → Prop} {B : S → State → Prop} {BX : String → SX → State → Prop} {AX : Nat → Prop} (hr : vx_Run p l e R s m args below meth c H locs cells slots mc ms (F0 m pc ls st0) rest (va_Qf post B A1 a) (vx_X px BX AX) free) (hS : va_S A0 H0 H locs) (hA : ∀ q, q < H.size → A1 q → A0 q) (hf : ∀ q, free q → A0 q) (hAX : ∀ q, q < H.size → AX q → A0 q)
    (kx : ∀ (E : String) (ce : Cell) (q9 : Addr) (u : SX) (t : State) (H1 : Heap) (locs1 : List Loc), t.heap = H1 → s.vm.Alike t.vm → px u → BX E u t → H.size ≤ H1.size → (∀ q : Nat, q < H.size → ¬ AX q → H1[q]? = H[q]?) → va_S A0 H0 H1 locs1 → H1[q9]? = some ce → ce.vm = .none → s.vm.findClass E = some ce.cls → vx_W p l e R s m args below meth c H1 locs1 (cells + mc) (slots + ms) Q (F0 m pc ls rest) q9)
    (kk : ∀ (r : UInt32) (u : S) (t : State) (H1 : Heap) (locs1 : List Loc), t.heap = H1 → s.vm.Alike t.vm → post r u → B u t → H.size ≤ H1.size → (∀ q : Nat, q < H.size → ¬ A1 q → H1[q]? = H[q]?) → va_S A0 H0 H1 locs1 → W p l e R s m args below meth c H1 locs1 (cells + mc) (slots + ms) Q (F0 m (pc + 3) ls (.float r :: rest))) : W p l e R s m args below meth c H locs cells slots Q (F0 m pc ls st0) := by
  intro T hT X
  rcases hr T hT X with ⟨v, st₀, t, T', L, h0, X', hL, e1, e2, ⟨⟨r, u, hv, hp, hb⟩, hF⟩, st⟩ | ⟨q, st₀, t, T', L, E, ce, h0, X', hL, e1, e2, ⟨u, hp, hb, hF⟩, hce, hcv, hcl, st⟩
  · cases hv
    obtain ⟨k1, k2, k3⟩ := vx_keep h0 e1 hS hA hf hL hF
    obtain ⟨t2, a1, b1⟩ := kk r u t T'.heap (locs ++ L) e1.symm (by rw [← e2]; exact X'.warmed.alike) hp hb k1 k2 k3 T' rfl X'
    exact ⟨t2, st t2 a1, b1⟩
  · obtain ⟨k1, k2, k3⟩ := vx_keep h0 e1 hS hAX hf hL hF
    obtain ⟨t2, a1, b1⟩ := kx E ce q u t T'.heap (locs ++ L) e1.symm (by rw [← e2]; exact X'.warmed.alike) hp hb k1 k2 k3 (by rw [e1]; exact hce) hcv hcl T' rfl X'
    exact ⟨t2, st.trans a1, b1⟩
theorem vx_calld {S SX : Type} {post : UInt64 → S → Prop} {px : SX → Prop} {B : S → State → Prop} {BX : String → SX → State → Prop} {AX : Nat → Prop} (hr : vx_Run p l e R s m args below meth c H locs cells slots mc ms (F0 m pc ls st0) rest (va_Qd post B A1 a) (vx_X px BX AX) free) (hS : va_S A0 H0 H locs) (hA : ∀ q, q < H.size → A1 q → A0 q) (hf : ∀ q, free q → A0 q) (hAX : ∀ q, q < H.size → AX q → A0 q)
    (kx : ∀ (E : String) (ce : Cell) (q9 : Addr) (u : SX) (t : State) (H1 : Heap) (locs1 : List Loc), t.heap = H1 → s.vm.Alike t.vm → px u → BX E u t → H.size ≤ H1.size → (∀ q : Nat, q < H.size → ¬ AX q → H1[q]? = H[q]?) → va_S A0 H0 H1 locs1 → H1[q9]? = some ce → ce.vm = .none → s.vm.findClass E = some ce.cls → vx_W p l e R s m args below meth c H1 locs1 (cells + mc) (slots + ms) Q (F0 m pc ls rest) q9)
    (kk : ∀ (r : UInt64) (u : S) (t : State) (H1 : Heap) (locs1 : List Loc), t.heap = H1 → s.vm.Alike t.vm → post r u → B u t → H.size ≤ H1.size → (∀ q : Nat, q < H.size → ¬ A1 q → H1[q]? = H[q]?) → va_S A0 H0 H1 locs1 → W p l e R s m args below meth c H1 locs1 (cells + mc) (slots + ms) Q (F0 m (pc + 3) ls (.double r :: rest))) : W p l e R s m args below meth c H locs cells slots Q (F0 m pc ls st0) := by
  intro T hT X
  rcases hr T hT X with ⟨v, st₀, t, T', L, h0, X', hL, e1, e2, ⟨⟨r, u, hv, hp, hb⟩, hF⟩, st⟩ | ⟨q, st₀, t, T', L, E, ce, h0, X', hL, e1, e2, ⟨u, hp, hb, hF⟩, hce, hcv, hcl, st⟩
  · cases hv
    obtain ⟨k1, k2, k3⟩ := vx_keep h0 e1 hS hA hf hL hF
    obtain ⟨t2, a1, b1⟩ := kk r u t T'.heap (locs ++ L) e1.symm (by rw [← e2]; exact X'.warmed.alike) hp hb k1 k2 k3 T' rfl X'
    exact ⟨t2, st t2 a1, b1⟩
  · obtain ⟨k1, k2, k3⟩ := vx_keep h0 e1 hS hAX hf hL hF
    obtain ⟨t2, a1, b1⟩ := kx E ce q u t T'.heap (locs ++ L) e1.symm (by rw [← e2]; exact X'.warmed.alike) hp hb k1 k2 k3 (by rw [e1]; exact hce) hcv hcl T' rfl X'
    exact ⟨t2, st.trans a1, b1⟩
theorem vx_callv {S SX : Type} {post : S → Prop} {px : SX → Prop} {B : S → State → Prop} {BX : String → SX → State → Prop} {AX : Nat → Prop} (hr : vx_Run p l e R s m args below meth c H locs cells slots mc ms (F0 m pc ls st0) rest (va_Qv post B A1 a) (vx_X px BX AX) free) (hS : va_S A0 H0 H locs) (hA : ∀ q, q < H.size → A1 q → A0 q) (hf : ∀ q, free q → A0 q) (hAX : ∀ q, q < H.size → AX q → A0 q)
    (kx : ∀ (E : String) (ce : Cell) (q9 : Addr) (u : SX) (t : State) (H1 : Heap) (locs1 : List Loc), t.heap = H1 → s.vm.Alike t.vm → px u → BX E u t → H.size ≤ H1.size → (∀ q : Nat, q < H.size → ¬ AX q → H1[q]? = H[q]?) → va_S A0 H0 H1 locs1 → H1[q9]? = some ce → ce.vm = .none → s.vm.findClass E = some ce.cls → vx_W p l e R s m args below meth c H1 locs1 (cells + mc) (slots + ms) Q (F0 m pc ls rest) q9)
    (kk : ∀ (u : S) (t : State) (H1 : Heap) (locs1 : List Loc), t.heap = H1 → s.vm.Alike t.vm → post u → B u t → H.size ≤ H1.size → (∀ q : Nat, q < H.size → ¬ A1 q → H1[q]? = H[q]?) → va_S A0 H0 H1 locs1 → W p l e R s m args below meth c H1 locs1 (cells + mc) (slots + ms) Q (F0 m (pc + 3) ls (rest))) : W p l e R s m args below meth c H locs cells slots Q (F0 m pc ls st0) := by
  intro T hT X
  rcases hr T hT X with ⟨v, st₀, t, T', L, h0, X', hL, e1, e2, ⟨⟨u, hv, hp, hb⟩, hF⟩, st⟩ | ⟨q, st₀, t, T', L, E, ce, h0, X', hL, e1, e2, ⟨u, hp, hb, hF⟩, hce, hcv, hcl, st⟩
  · cases hv
    obtain ⟨k1, k2, k3⟩ := vx_keep h0 e1 hS hA hf hL hF
    obtain ⟨t2, a1, b1⟩ := kk u t T'.heap (locs ++ L) e1.symm (by rw [← e2]; exact X'.warmed.alike) hp hb k1 k2 k3 T' rfl X'
    exact ⟨t2, st t2 a1, b1⟩
  · obtain ⟨k1, k2, k3⟩ := vx_keep h0 e1 hS hAX hf hL hF
    obtain ⟨t2, a1, b1⟩ := kx E ce q u t T'.heap (locs ++ L) e1.symm (by rw [← e2]; exact X'.warmed.alike) hp hb k1 k2 k3 (by rw [e1]; exact hce) hcv hcl T' rfl X'
    exact ⟨t2, st.trans a1, b1⟩
/-- caught by the row x of this method's table; the rows ahead don't take it -/
theorem vx_catch {own name : String} {E : String} {ce : Cell} {q : Addr} (hown : s.vm.findClass own = some m.cls) (pre : List ExceptionTableEntry) (x : ExceptionTableEntry) (suf : List ExceptionTableEntry) (hsplit : c.exceptionTable.toList = pre ++ x :: suf)
    (hpass : ∀ z ∈ pre, covers z pc = false ∨ (z.catchType ≠ 0 ∧ ∃ nm : String, (Cond.classLink own z.catchType nm).before args s = true ∧ va_Nc E nm s)) (hx : covers x pc = true) (h0 : x.catchType ≠ 0)
    (hlink : (Cond.classLink own x.catchType name).before args s = true) (hcast : (Cond.castable E name).before args s = true) (hcell : H[q]? = some ce) (hv : ce.vm = .none) (hcl : s.vm.findClass E = some ce.cls)
    (kk : W p l e R s m args below meth c H locs cells slots Q (F0 m x.handlerPc ls [.ref q])) : vx_W p l e R s m args below meth c H locs cells slots Q (F0 m pc ls rest) q := by
  intro T hT X
  have hpl : e.platform.magicAccessors = ({} : Platform).magicAccessors := by rw [X.admits.platform]
  obtain ⟨c3, c4, hc3, hc4, hasg⟩ := Cond.castable_spec hcast
  cases Option.some.inj (hc3.symm.trans hcl)
  obtain ⟨c5, hc5, hcl5⟩ := Cond.classLink_spec hown hlink e.platform hpl
  cases Option.some.inj (hc4.symm.trans hc5)
  obtain ⟨vm', X', st⟩ := X.thenCaughtThrough q (g := F0 m pc ls rest) rfl (Steps.refl _) (by rw [hT]; exact hcell) (by rw [hv]; rfl) (by obtain ⟨k9, h9, -⟩ := Vm.findClass_spec hcl; exact ⟨k9, h9⟩) pre x suf hsplit
    (fun z hz => by
      rcases hpass z hz with h | ⟨hz0, nm, hl1, hn1⟩
      · exact Or.inl h
      · obtain ⟨c6, hc6, hcl6⟩ := Cond.classLink_spec hown hl1 e.platform hpl
        obtain ⟨a8, b8, h1, h2, h3⟩ := hn1
        cases Option.some.inj (h1.symm.trans hcl)
        cases Option.some.inj (h2.symm.trans hc6)
        exact Or.inr ⟨hz0, _, hcl6, h3⟩) hx (Or.inr ⟨h0, c4, hcl5, hasg⟩)
  obtain ⟨t, a1, b1⟩ := kk (T.setVm vm') hT X'
  exact ⟨t, st.trans a1, b1⟩
end Rows
section Ends
variable {p : Program} {l : Launch} {e : Env} {R : Room} {s : State} {m : MethodId} {args : Array Value} {below : List Frame} {meth : Method} {c : Code} {H : Heap} {locs : List Loc} {cells slots : Nat} {Q : State → Prop}
variable {mc ms : Nat} {free : Addr → Prop} {A0 A1 : Nat → Prop} {H0 : Heap} {a : Array Value} {ls : Array Slot} {st0 rest : List Value}
variable {Qc : Array Value → State → Outcome → State → Prop} {XC : String → State → State → Prop}
/-- what a body that may throw owes at its end -/
def vx_MQ (below : List Frame) (Qc : Array Value → State → Outcome → State → Prop) (XC : String → State → State → Prop) (a : Array Value) (s : State) (mc ms : Nat) (free : Addr → Prop) : State → Prop := fun t =>
  ∃ o, t.status = .running ∧ Ended t below o ∧ vx_Q Qc XC mc ms free a s o t
theorem vx_ret {g : JFrame} {mc ms : Nat} (k : W p l e R s m args below meth c H locs cells slots (MQ below Qc args s mc ms free) g) : W p l e R s m args below meth c H locs cells slots (vx_MQ below Qc XC args s mc ms free) g := by
  intro T hT X
  obtain ⟨t, a1, o, b1, b2, b3, b4⟩ := k T hT X
  exact ⟨t, a1, o, b1, b2, Or.inl ⟨b3, b4⟩⟩
/-- not caught here: it goes on to the caller -/
theorem vx_widen {g : JFrame} {q : Addr} {k n : Nat} (h1 : cells ≤ k) (h2 : slots ≤ n) (kk : vx_W p l e R s m args below meth c H locs k n Q g q) : vx_W p l e R s m args below meth c H locs cells slots Q g q := fun T hT X => kk T hT (stand_widen X h1 h2)
theorem vx_out {pc : Nat} {E : String} {ce : Cell} {q : Addr} {mc ms : Nat} (hout : ∀ x ∈ c.exceptionTable.toList, covers x pc = false) (hlocks : meth.locks = false) (hcell : H[q]? = some ce) (hv : ce.vm = .none) (hcl : s.vm.findClass E = some ce.cls)
    (hx : ∀ t : State, t.heap = H → s.vm.Alike t.vm → XC E s t) (hf : ∀ z ∈ locs, free z.base) (hc : cells ≤ mc) (hs : slots ≤ ms) :
    vx_W p l e R s m args below meth c H locs cells slots (vx_MQ below Qc XC args s mc ms free) (F0 m pc ls rest) q := by
  intro T hT X
  obtain ⟨st1, hrun, hend, hW, hsm⟩ := X.leaveThrown q (g := F0 m pc ls rest) rfl rfl rfl hout hlocks
  have hcell9 : (T.setFrames (.throwing q :: below)).heap[q]? = some ce := by
    show T.heap[q]? = some ce
    rw [hT]; exact hcell
  exact ⟨_, st1, .threw q, hrun, hend, Or.inr ⟨q, rfl, E, ce, locs, hx _ hT hW.alike, hcell9, hv, hcl, hW, hsm.mono hc hs, hf⟩⟩
theorem vx_frame {U : State} {k n : Nat} (h : s.sameButNew ({ U with vm := s.vm } : State) locs k n) : s.heap.size ≤ U.heap.size ∧ ∀ q : Nat, q < s.heap.size → (∀ z ∈ locs, z.base ≠ q) → U.heap[q]? = s.heap[q]? := by
  obtain ⟨-, h2, -, -, -, h6⟩ := h
  refine ⟨h2, fun q hq hz => ?_⟩
  obtain ⟨c9, e1, e2, e3, e4⟩ := h6 q _ (Array.getElem?_eq_getElem hq)
  have hs : c9.slots = (s.heap[q]).slots := Array.ext_getElem? fun i => e4 i fun hm => hz _ hm rfl
  have h9 : c9 = s.heap[q] := by
    rw [hs] at e2
    exact e2
  have e5 : U.heap[q]? = some c9 := e1
  rw [e5, h9, Array.getElem?_eq_getElem hq]
/-- the words of a throw but the four that speak of the heap -/
def vx_no (w : Cond) : Bool := decide (w ≠ .isRef (.static Bundle.tN "UNASSIGNED_STACK" Bundle.steD)) && decide (w ≠ .isRef (.static Bundle.tN "SUPPRESSED_SENTINEL" Bundle.listD)) && decide (w ≠ .laysStatic Bundle.tN "UNASSIGNED_STACK" Bundle.steD) && decide (w ≠ .laysStatic Bundle.tN "SUPPRESSED_SENTINEL" Bundle.listD)
def vx_at0 (own : String) (ic : Nat) (X : String) (names : List String) : List Cond := (Bundle.ownAtoms0 own ic X names).filter vx_no
def vx_atS (own : String) (ic : Nat) (X : String) (names : List String) : List Cond := (Bundle.ownAtoms own ic X names).filter vx_no
/-- a word that the tables alone decide, or a good one -/
def vx_ot (w : Cond) : Bool := w.onTables || goodWord w
theorem vx_ot_at {args a' : Array Value} {s U : State} {w : Cond} (hW : s.WarmedH U.vm) (hvm : s.vm = U.vm) (hg : vx_ot w = true) (h : w.before args s = true) : w.before a' U = true := by
  simp only [vx_ot, Bool.or_eq_true] at hg
  rcases hg with hg | hg
  · exact va_tabs hg hvm h
  · exact word_at hW (good_of_word hg) h
/-- a list's words: the good ones out of the method's own list, the others by premises of their own -/
theorem vx_hat {args : Array Value} {s : State} {L B : List Cond} (h1 : ∀ w ∈ L.filter goodWord, w.before args s = true) (h2 : ∀ w ∈ L.filter (fun w => !goodWord w), w ∈ B) (h3 : ∀ w ∈ B, w.before args s = true) : ∀ w ∈ L, w.before args s = true := by
  intro w hw
  by_cases g : goodWord w = true
  · exact h1 w (List.mem_filter.mpr ⟨hw, g⟩)
  · refine h3 w (h2 w (List.mem_filter.mpr ⟨hw, ?_⟩))
    show (!goodWord w) = true
    cases hgw : goodWord w
    · rfl
    · exact absurd hgw g
theorem vx_c {args : Array Value} {s : State} {w : Cond} {B : List Cond} (h : w.before args s = true) (t : ∀ w ∈ B, w.before args s = true) : ∀ w' ∈ w :: B, w'.before args s = true := fun w' h' => (List.mem_cons.mp h').elim (fun e => by rw [e]; exact h) (t w')
theorem vx_n {args : Array Value} {s : State} : ∀ w ∈ ([] : List Cond), w.before args s = true := fun _ h => nomatch h
theorem vx_own {args : Array Value} {s : State} {L : List Cond} (h1 : ∀ w ∈ L.filter vx_no, w.before args s = true)
    (hU : (Cond.isRef (.static Bundle.tN "UNASSIGNED_STACK" Bundle.steD)).before args s = true) (hN : (Cond.isRef (.static Bundle.tN "SUPPRESSED_SENTINEL" Bundle.listD)).before args s = true)
    (lU : (Cond.laysStatic Bundle.tN "UNASSIGNED_STACK" Bundle.steD).before args s = true) (lN : (Cond.laysStatic Bundle.tN "SUPPRESSED_SENTINEL" Bundle.listD).before args s = true) : ∀ w ∈ L, w.before args s = true := by
  intro w hw
  by_cases e1 : w = .isRef (.static Bundle.tN "UNASSIGNED_STACK" Bundle.steD)
  · rw [e1]; exact hU
  · by_cases e2 : w = .isRef (.static Bundle.tN "SUPPRESSED_SENTINEL" Bundle.listD)
    · rw [e2]; exact hN
    · by_cases e3 : w = .laysStatic Bundle.tN "UNASSIGNED_STACK" Bundle.steD
      · rw [e3]; exact lU
      · by_cases e4 : w = .laysStatic Bundle.tN "SUPPRESSED_SENTINEL" Bundle.listD
        · rw [e4]; exact lN
        · exact h1 w (List.mem_filter.mpr ⟨hw, by unfold vx_no; rw [decide_eq_true e1, decide_eq_true e2, decide_eq_true e3, decide_eq_true e4]; rfl⟩)
/-- where a static field lies, its class's statics cell in H -/
def vx_L (C n d : String) (A : Nat → Prop) (U : State) (H : Heap) : Prop := ∃ (c : ClassId) (k : Class) (i : Nat) (f : Field) (a : Nat) (cell : Cell), U.vm.findClass C = some c ∧ U.fieldFound? C n d = some (c, k, i, f) ∧ f.isStatic = true ∧ k.statics = some a ∧ H[a]? = some cell ∧ cell.vm.isStatics = true ∧ cell.cls = c ∧ f.slot < cell.slots.size ∧ k.staticTypes[f.slot]? = some f.type ∧ ¬ A a
theorem vx_L.moved {C n d : String} {A : Nat → Prop} {u U : State} {H : Heap} (hvm : u.vm.Alike U.vm) (h : vx_L C n d A u H) : vx_L C n d A U H := by
  obtain ⟨c, k, i, f, a, cell, h1, h2, h3, h4, h5, h6, h7, h8, h9, h10⟩ := h
  obtain ⟨k', hi', he⟩ := State.fieldFound?_setVm hvm h2
  exact ⟨c, k', i, f, a, cell, by rw [hvm.findClass]; exact h1, hi', h3, by rw [he]; exact h4, h5, h6, h7, h8, by rw [he]; exact h9, h10⟩
theorem vx_L.kept {C n d : String} {A : Nat → Prop} {U : State} {H H1 : Heap} (h : vx_L C n d A U H) (hq : ∀ a : Nat, a < H.size → ¬ A a → H1[a]? = H[a]?) : vx_L C n d A U H1 := by
  obtain ⟨c, k, i, f, a, cell, h1, h2, h3, h4, h5, h6, h7, h8, h9, h10⟩ := h
  exact ⟨c, k, i, f, a, cell, h1, h2, h3, h4, by rw [hq a (Array.getElem?_eq_some_iff.mp h5).1 h10]; exact h5, h6, h7, h8, h9, h10⟩
theorem vx_L.narrow {C n d : String} {A B : Nat → Prop} {U : State} {H : Heap} (h : vx_L C n d A U H) (hAB : ∀ q, B q → A q) : vx_L C n d B U H := by
  obtain ⟨c, k, i, f, a, cell, h1, h2, h3, h4, h5, h6, h7, h8, h9, h10⟩ := h
  exact ⟨c, k, i, f, a, cell, h1, h2, h3, h4, h5, h6, h7, h8, h9, fun z => h10 (hAB _ z)⟩
theorem vx_L.word {C n d : String} {A : Nat → Prop} {s : State} {args : Array Value} (h : vx_L C n d A s s.heap) : (Cond.laysStatic C n d).before args s = true := by
  obtain ⟨c, k, i, f, a, cell, h1, h2, h3, h4, h5, h6, h7, h8, h9, -⟩ := h
  show (Cond.laysStatic C n d).holds args s none s [] = true
  exact Cond.laysStatic_of h1 h2 h3 h4 h5 h6 h7 h8 h9
/-- .. and what it holds: null or some reference -/
def vx_Zq (C n d : String) (A : Nat → Prop) (U : State) (H : Heap) : Prop := va_Zq C n d A U H ∧ vx_L C n d A U H
theorem vx_Zq.moved {C n d : String} {A : Nat → Prop} {u U : State} {H : Heap} (hvm : u.vm.Alike U.vm) (h : vx_Zq C n d A u H) : vx_Zq C n d A U H := ⟨va_Zq.moved hvm h.1, vx_L.moved hvm h.2⟩
theorem vx_Zq.kept {C n d : String} {A : Nat → Prop} {U : State} {H H1 : Heap} (h : vx_Zq C n d A U H) (hq : ∀ a : Nat, a < H.size → ¬ A a → H1[a]? = H[a]?) : vx_Zq C n d A U H1 := ⟨va_Zq.kept h.1 hq, vx_L.kept h.2 hq⟩
theorem vx_Zq.narrow {C n d : String} {A B : Nat → Prop} {U : State} {H : Heap} (h : vx_Zq C n d A U H) (hAB : ∀ q, B q → A q) : vx_Zq C n d B U H := ⟨va_Zq.narrow h.1 hAB, vx_L.narrow h.2 hAB⟩
theorem vx_Zqof {args : Array Value} {s : State} {C n d : String} {A : Nat → Prop} (hl : (Cond.laysStatic C n d).before args s = true) (hini : (Cond.initialized C).before args s = true) (h : (Cond.isRef (.static C n d)).before args s = true) (hA : ∀ a : Nat, a < s.heap.size → ¬ A a) : vx_Zq C n d A s s.heap := by
  refine ⟨va_Zqof hl hini h hA, ?_⟩
  obtain ⟨c, k, i, f, a, cell, h1, h2, h3, h4, h5, h6, h7, h8, h9⟩ := Cond.laysStatic_spec hl
  exact ⟨c, k, i, f, a, cell, h1, h2, h3, h4, h5, h6, h7, h8, h9, hA a (Array.getElem?_eq_some_iff.mp h5).1⟩
theorem vx_isRef {C n d : String} {v : Value} {A : Nat → Prop} {s : State} {args : Array Value} (h : va_Z C n d v A s s.heap) (hv : v.isRef = true) : (Cond.isRef (.static C n d)).before args s = true := by
  obtain ⟨cf, kf, fi, f, a, cell, h1, h2, h3, h4, h5, h6, h7, -⟩ := h
  have he : (Term.static C n d).eval args s none [] s = some v := by
    simp [Term.eval, State.fieldNamed?, h1, h2, h4, h5, h6, h7]
  simp only [Cond.before, Cond.holds, Cond.value, he]
  cases v <;> simp_all [Value.isRef]
theorem vx_isRefq {C n d : String} {A : Nat → Prop} {s : State} {args : Array Value} (h : va_Zq C n d A s s.heap) : (Cond.isRef (.static C n d)).before args s = true := by
  rcases h with h | ⟨t, h⟩
  · exact vx_isRef h rfl
  · exact vx_isRef h rfl
/-- the same frame, seen from here: as if the method were called anew in this heap -/
theorem vx_rebase {T : State} (X : Stand p l e R s m args below meth c T locs cells slots) {R' : Room} (hf : R'.frames ≤ R.frames) (hl : R'.locals ≤ R.locals) (hc : cells + R'.cells ≤ R.cells) (hs : slots + R'.slots ≤ R.slots) :
    Stand p l e R' ((T.setVm s.vm).setFrames (.invoking m args :: below)) m args below meth c T [] 0 0 := by
  have htop : (T.setVm s.vm).topJava?.isSome := X.here.top
  have hF : ((T.setVm s.vm).setFrames (.invoking m args :: below)).frames = .invoking m args :: below := State.frames_setFrames _ (State.cur_lt_of_top htop)
  obtain ⟨g₀, hg0⟩ := Option.isSome_iff_exists.mp htop
  obtain ⟨r, hr⟩ := State.topJava?_eq_some.mp hg0
  have hl9 : e.platform.stackLimits (T.setVm s.vm).me = e.platform.stackLimits s.me := X.limits
  have hb9 : (T.setVm s.vm).me.stackBytes = s.me.stackBytes := X.bytes
  refine ⟨X.admits, X.cas, X.clock, hF, ?_, X.hears, X.method, X.code, X.here, X.tail, X.warmed, ?_, ?_, ?_⟩
  · have h := X.room
    have hU : ((T.setVm s.vm).setFrames (.invoking m args :: below)).localsInUse = s.localsInUse := by
      rw [State.localsInUse_invoking hF (meth := meth) (c := c) X.method X.code, State.localsInUse_invoking X.frames X.method X.code]
    simp only [State.hasRoom, Bool.and_eq_true, decide_eq_true_eq] at h ⊢
    obtain ⟨⟨⟨⟨h1, h2, h3, h4, h5, h6⟩, h7⟩, h8⟩, h9⟩ := h
    rw [X.frames, List.length_cons] at h2 h3
    have q1 := X.heapSize
    have q2 := X.used
    simp only [hF, hU, List.length_cons, State.stackLimits_setFrames, State.stackBytes_setFrames, hl9, hb9]
    refine ⟨⟨⟨⟨by omega, by omega, by omega, by omega, by omega, h6⟩, ?_⟩, ?_⟩, X.book⟩
    · show T.heap.size + R'.cells ≤ e.platform.maxCells
      omega
    · show T.slotsUsed + R'.slots ≤ e.platform.maxSlots
      omega
  · rw [State.stackLimits_setFrames]; rfl
  · rw [State.stackBytes_setFrames]; rfl
  · refine ⟨?_, Nat.le_refl _, Nat.le_refl _, ?_, ?_, fun a c9 h9 => ⟨c9, h9, rfl, rfl, fun _ _ => rfl⟩⟩
    · obtain ⟨t, ht, -⟩ := State.frames_cons hr
      show T.setVm s.vm = { ((T.setVm s.vm).setFrames (.invoking m args :: below)).setFrames (T.setVm s.vm).frames with heap := T.heap, slotsUsed := T.slotsUsed }
      rw [State.setFrames_setFrames, State.setFrames_self ht]
      rfl
    · show T.slotsUsed = T.slotsUsed + ((T.heap.toList.drop T.heap.size).map (·.slots.size)).sum
      rw [List.drop_eq_nil_of_le (Nat.le_of_eq Array.length_toList)]
      rfl
    · show ((T.heap.toList.drop T.heap.size).map (·.slots.size)).sum ≤ 0
      rw [List.drop_eq_nil_of_le (Nat.le_of_eq Array.length_toList)]
      exact Nat.le_refl _
/-- 'throw new E()': new; dup; invokespecial; athrow -/
theorem vx_throw0 {cc : ByteArray} {pc : Nat} (hexec : p.tables.exec = Jvm.exec) (hb : c.code = cc) (hl : l.stackTraces = false) {own cls : String} {names : List String} {ik ic mc ms : Nat} {A : Nat → Prop}
    (hown : s.vm.findClass own = some m.cls) (hcls : Bundle.fit cls = true) (hnames : ∀ n ∈ names, Bundle.fit n = true)
    (hk : (Cond.classLink own ik cls).before args s = true) (hini : (Cond.initialized cls).before args s = true) (hat : ∀ w ∈ vx_at0 own ic cls names, w.before args s = true)
    (hgood : ∀ w ∈ Cond.classLink own ik cls :: Cond.initialized cls :: vx_at0 own ic cls names, vx_ot w = true)
    (hU : vx_Zq Bundle.tN "UNASSIGNED_STACK" Bundle.steD A s s.heap) (hN : vx_Zq Bundle.tN "SUPPRESSED_SENTINEL" Bundle.listD A s s.heap) (hS : va_S A s.heap H locs) (hsize : ls.size = c.maxLocals)
    (d0 : decode cc pc = .ok (.new ik, 3)) (d3 : decode cc (pc + 3) = .ok (.dup, 1)) (d4 : decode cc (pc + 4) = .ok (.invokespecial ic, 3)) (d7 : decode cc (pc + 7) = .ok (.athrow, 1))
    (hout : ∀ x ∈ c.exceptionTable.toList, covers x (pc + 7) = false)
    (hRframes : names.length + 3 < R.frames) (hRlocals : (rest.map fun v => v.category).sum + (13 * (names.length + 1) + 42) ≤ R.locals) (hRcells : cells + 1 ≤ R.cells) (hRslots : slots + 6 ≤ R.slots) (hlocks : meth.locks = false)
    (hx : ∀ t : State, s.vm.Alike t.vm → H.size ≤ t.heap.size → (∀ q : Nat, q < H.size → t.heap[q]? = H[q]?) → XC cls s t)
    (hf : ∀ z ∈ locs, free z.base) (hc : cells + 1 ≤ mc) (hs : slots + 6 ≤ ms) :
    W p l e R s m args below meth c H locs cells slots (vx_MQ below Qc XC args s mc ms free) (F0 m pc ls rest) := by
  intro T hT X
  have htr : e.platform.stackTraces = false := (show e.platform.stackTraces = l.stackTraces by rw [X.admits.platform]).trans hl
  have Y := vx_rebase X (R' := { frames := R.frames, locals := R.locals, cells := 1, slots := 6 }) (Nat.le_refl _) (Nat.le_refl _) hRcells hRslots
  obtain ⟨s', hA⟩ : ∃ z, z = (T.setVm s.vm).setFrames (.invoking m args :: below) := ⟨_, rfl⟩
  rw [← hA] at Y
  have hvm : s'.vm = s.vm := by rw [hA]; rfl
  have hhp : s'.heap = H := by rw [hA]; exact hT
  have hW0 : s.WarmedH s'.vm := by rw [hvm]; exact State.WarmedH.refl s
  have hat' : ∀ w ∈ vx_at0 own ic cls names, w.before args s' = true := fun w hw => vx_ot_at hW0 hvm.symm (hgood w (List.mem_cons_of_mem _ (List.mem_cons_of_mem _ hw))) (hat w hw)
  have hk' : (Cond.classLink own ik cls).before args s' = true := vx_ot_at hW0 hvm.symm (hgood _ List.mem_cons_self) hk
  have hini' : (Cond.initialized cls).before args s' = true := vx_ot_at hW0 hvm.symm (hgood _ (List.mem_cons_of_mem _ List.mem_cons_self)) hini
  have hU' : vx_Zq Bundle.tN "UNASSIGNED_STACK" Bundle.steD A s' s'.heap := by rw [hhp]; exact vx_Zq.moved hW0.alike (hU.kept hS.2.1)
  have hN' : vx_Zq Bundle.tN "SUPPRESSED_SENTINEL" Bundle.listD A s' s'.heap := by rw [hhp]; exact vx_Zq.moved hW0.alike (hN.kept hS.2.1)
  have h : ∀ w ∈ Bundle.ownAtoms0 own ic cls names, w.before args s' = true := vx_own hat' (vx_isRefq hU'.1) (vx_isRefq hN'.1) hU'.2.word hN'.2.word
  have hown' : s'.vm.findClass own = some m.cls := by rw [hvm]; exact hown
  have hins : (Cond.instantiable cls 6).before args s' = true := h _ (by simp [Bundle.ownAtoms0])
  obtain ⟨vm₁, cX, kX, hfX, hkX, -, -, X₁, st1⟩ := Y.newCold hexec (own := own) (C := cls) (index := ik) (n := 6) hown' hk' hins hini'
    (g := F0 m pc ls rest) rfl (by rw [hb]; exact d0) (Nat.le_refl _) (Nat.le_refl _)
  generalize hT1 : (T.setVm vm₁).pushCell { cls := cX, slots := kX.instanceTypes.map defaultValue, vm := .none } = T1 at X₁ st1
  have hcat : (Value.ref T.heap.size).category = 1 := rfl
  have hcellA : T1.heap[T.heap.size]? = some (freshCell cX kX) := by rw [← hT1]; exact State.heap_pushCell_size _ _
  have d3' : decode c.code (pc + 3) = .ok (.dup, 1) := by rw [hb]; exact d3
  obtain ⟨U, hsteps, hrun, hend, hW, hsame, ce, hce, hO⟩ := X₁.ctorThrow0 hexec htr (own := own) (cls := cls) (names := names) (ic := ic) hown' hcls hnames h (fun x hx => nomatch hx) hfX hkX hcellA (by rw [hhp, hT]; exact Nat.le_refl _)
    (g := { method := m, pc := pc + 4, locals := ls, stack := .ref T.heap.size :: .ref T.heap.size :: rest, locked := none }) rfl hsize rfl rfl (rest := rest) rfl
    (by rw [hb]; exact d4) (by rw [hb]; exact d7) hout hRframes (by simp only [List.map_cons, List.sum_cons, hcat]; omega) hlocks
  obtain ⟨f1, f2⟩ := vx_frame hsame
  rw [hhp] at f1 f2
  have hWs : s.WarmedH U.vm := State.WarmedH.trans hW0 hW
  have hcl : s.vm.findClass cls = some ce.cls := by
    have h9 := hO.cls
    rw [hvm] at h9
    exact h9
  have hall : s.sameButNew ({ U with vm := s.vm } : State) locs mc ms := by
    subst hA
    obtain ⟨e1, e2⟩ := hsame
    rw [State.setFrames_setFrames] at e1
    have h2 : (T.setVm s.vm).sameButNew ({ U with vm := s.vm } : State) [] (0 + 1) (0 + 6) := ⟨e1, e2⟩
    have h3 := X.same.trans h2
    rw [List.append_nil] at h3
    exact h3.mono hc hs
  refine ⟨U, ?_, .threw T.heap.size, hrun, hend, Or.inr ⟨T.heap.size, rfl, cls, ce, locs, hx U hWs.alike f1 (fun q hq => f2 q hq (fun z hz => nomatch hz)), hce, hO.vm, hcl, hWs, hall, hf⟩⟩
  refine st1 _ ?_
  show Steps p.tables e below (T1.setTop { method := m, pc := pc + 3, locals := ls, stack := .ref T.heap.size :: rest, locked := none }) _
  jvm_step X₁.here [X₁.here.top, hexec, d3', Value.category]
  exact hsteps
/-- 'throw new E("text")': new; dup; ldc; invokespecial; athrow -/
theorem vx_throwS {cc : ByteArray} {pc : Nat} (hexec : p.tables.exec = Jvm.exec) (hb : c.code = cc) (hl : l.stackTraces = false) {own cls text : String} {names : List String} {ik is ic mc ms sa : Nat} {A : Nat → Prop}
    (hown : s.vm.findClass own = some m.cls) (hcls : Bundle.fit cls = true) (hnames : ∀ n ∈ names, Bundle.fit n = true)
    (hk : (Cond.classLink own ik cls).before args s = true) (hini : (Cond.initialized cls).before args s = true) (hstr : vk_R own is text sa s) (hat : ∀ w ∈ vx_atS own ic cls names, w.before args s = true)
    (hgood : ∀ w ∈ Cond.classLink own ik cls :: Cond.initialized cls :: vx_atS own ic cls names, vx_ot w = true)
    (hU : vx_Zq Bundle.tN "UNASSIGNED_STACK" Bundle.steD A s s.heap) (hN : vx_Zq Bundle.tN "SUPPRESSED_SENTINEL" Bundle.listD A s s.heap) (hS : va_S A s.heap H locs) (hsize : ls.size = c.maxLocals)
    (d0 : decode cc pc = .ok (.new ik, 3)) (d3 : decode cc (pc + 3) = .ok (.dup, 1)) (d4 : decode cc (pc + 4) = .ok (.ldc is, 2)) (d6 : decode cc (pc + 6) = .ok (.invokespecial ic, 3)) (d9 : decode cc (pc + 9) = .ok (.athrow, 1))
    (hout : ∀ x ∈ c.exceptionTable.toList, covers x (pc + 9) = false)
    (hRframes : names.length + 3 < R.frames) (hRlocals : (rest.map fun v => v.category).sum + (13 * (names.length + 1) + 43) ≤ R.locals) (hRcells : cells + 1 ≤ R.cells) (hRslots : slots + 6 ≤ R.slots) (hlocks : meth.locks = false)
    (hx : ∀ t : State, s.vm.Alike t.vm → H.size ≤ t.heap.size → (∀ q : Nat, q < H.size → t.heap[q]? = H[q]?) → XC cls s t)
    (hf : ∀ z ∈ locs, free z.base) (hc : cells + 1 ≤ mc) (hs : slots + 6 ≤ ms) :
    W p l e R s m args below meth c H locs cells slots (vx_MQ below Qc XC args s mc ms free) (F0 m pc ls rest) := by
  intro T hT X
  have htr : e.platform.stackTraces = false := (show e.platform.stackTraces = l.stackTraces by rw [X.admits.platform]).trans hl
  have Y := vx_rebase X (R' := { frames := R.frames, locals := R.locals, cells := 1, slots := 6 }) (Nat.le_refl _) (Nat.le_refl _) hRcells hRslots
  obtain ⟨s', hA⟩ : ∃ z, z = (T.setVm s.vm).setFrames (.invoking m args :: below) := ⟨_, rfl⟩
  rw [← hA] at Y
  have hvm : s'.vm = s.vm := by rw [hA]; rfl
  have hhp : s'.heap = H := by rw [hA]; exact hT
  have hW0 : s.WarmedH s'.vm := by rw [hvm]; exact State.WarmedH.refl s
  have hat' : ∀ w ∈ vx_atS own ic cls names, w.before args s' = true := fun w hw => vx_ot_at hW0 hvm.symm (hgood w (List.mem_cons_of_mem _ (List.mem_cons_of_mem _ hw))) (hat w hw)
  have hk' : (Cond.classLink own ik cls).before args s' = true := vx_ot_at hW0 hvm.symm (hgood _ List.mem_cons_self) hk
  have hini' : (Cond.initialized cls).before args s' = true := vx_ot_at hW0 hvm.symm (hgood _ (List.mem_cons_of_mem _ List.mem_cons_self)) hini
  have hU' : vx_Zq Bundle.tN "UNASSIGNED_STACK" Bundle.steD A s' s'.heap := by rw [hhp]; exact vx_Zq.moved hW0.alike (hU.kept hS.2.1)
  have hN' : vx_Zq Bundle.tN "SUPPRESSED_SENTINEL" Bundle.listD A s' s'.heap := by rw [hhp]; exact vx_Zq.moved hW0.alike (hN.kept hS.2.1)
  have h : ∀ w ∈ Bundle.ownAtoms own ic cls names, w.before args s' = true := vx_own hat' (vx_isRefq hU'.1) (vx_isRefq hN'.1) hU'.2.word hN'.2.word
  have hown' : s'.vm.findClass own = some m.cls := by rw [hvm]; exact hown
  have hins : (Cond.instantiable cls 6).before args s' = true := h _ (by simp [Bundle.ownAtoms])
  obtain ⟨vm₁, cX, kX, hfX, hkX, -, -, X₁, st1⟩ := Y.newCold hexec (own := own) (C := cls) (index := ik) (n := 6) hown' hk' hins hini'
    (g := F0 m pc ls rest) rfl (by rw [hb]; exact d0) (Nat.le_refl _) (Nat.le_refl _)
  generalize hT1 : (T.setVm vm₁).pushCell { cls := cX, slots := kX.instanceTypes.map defaultValue, vm := .none } = T1 at X₁ st1
  have hcat : (Value.ref T.heap.size).category = 1 := rfl
  have hcellA : T1.heap[T.heap.size]? = some (freshCell cX kX) := by rw [← hT1]; exact State.heap_pushCell_size _ _
  have d3' : decode c.code (pc + 3) = .ok (.dup, 1) := by rw [hb]; exact d3
  have d4' : decode c.code (pc + 4) = .ok (.ldc is, 2) := by rw [hb]; exact d4
  have hstr' : vk_R own is text sa s' := vk_R.warm hW0 hstr
  obtain ⟨U, hsteps, hrun, hend, hW, hsame, ce, hce, hO⟩ := X₁.ctorThrowS hexec htr (own := own) (cls := cls) (names := names) (ic := ic) hown' hcls hnames h (fun x hx => nomatch hx) hfX hkX hcellA (by rw [hhp, hT]; exact Nat.le_refl _) (msg := .ref sa) rfl
    (g := { method := m, pc := pc + 6, locals := ls, stack := .ref sa :: .ref T.heap.size :: .ref T.heap.size :: rest, locked := none }) rfl hsize rfl rfl (rest := rest) rfl
    (by rw [hb]; exact d6) (by rw [hb]; exact d9) hout hRframes (by simp only [List.map_cons, List.sum_cons, hcat]; omega) hlocks
  obtain ⟨f1, f2⟩ := vx_frame hsame
  rw [hhp] at f1 f2
  have hWs : s.WarmedH U.vm := State.WarmedH.trans hW0 hW
  have hcl : s.vm.findClass cls = some ce.cls := by
    have h9 := hO.cls
    rw [hvm] at h9
    exact h9
  have hall : s.sameButNew ({ U with vm := s.vm } : State) locs mc ms := by
    subst hA
    obtain ⟨e1, e2⟩ := hsame
    rw [State.setFrames_setFrames] at e1
    have h2 : (T.setVm s.vm).sameButNew ({ U with vm := s.vm } : State) [] (0 + 1) (0 + 6) := ⟨e1, e2⟩
    have h3 := X.same.trans h2
    rw [List.append_nil] at h3
    exact h3.mono hc hs
  refine ⟨U, ?_, .threw T.heap.size, hrun, hend, Or.inr ⟨T.heap.size, rfl, cls, ce, locs, hx U hWs.alike f1 (fun q hq => f2 q hq (fun z hz => nomatch hz)), hce, hO.vm, hcl, hWs, hall, hf⟩⟩
  refine st1 _ ?_
  show Steps p.tables e below (T1.setTop { method := m, pc := pc + 3, locals := ls, stack := .ref T.heap.size :: rest, locked := none }) _
  jvm_step X₁.here [X₁.here.top, hexec, d3', Value.category]
  exact X₁.ldcString hexec (own := own) (text := text) (index := is) (a := sa) hown' hstr'.1 hstr'.2
    (g := { method := m, pc := pc + 4, locals := ls, stack := .ref T.heap.size :: .ref T.heap.size :: rest, locked := none }) rfl d4' _ hsteps
/-- 'throw new E("text")', the text by a wide index -/
theorem vx_throwSW {cc : ByteArray} {pc : Nat} (hexec : p.tables.exec = Jvm.exec) (hb : c.code = cc) (hl : l.stackTraces = false) {own cls text : String} {names : List String} {ik is ic mc ms sa : Nat} {A : Nat → Prop}
    (hown : s.vm.findClass own = some m.cls) (hcls : Bundle.fit cls = true) (hnames : ∀ n ∈ names, Bundle.fit n = true)
    (hk : (Cond.classLink own ik cls).before args s = true) (hini : (Cond.initialized cls).before args s = true) (hstr : vk_R own is text sa s) (hat : ∀ w ∈ vx_atS own ic cls names, w.before args s = true)
    (hgood : ∀ w ∈ Cond.classLink own ik cls :: Cond.initialized cls :: vx_atS own ic cls names, vx_ot w = true)
    (hU : vx_Zq Bundle.tN "UNASSIGNED_STACK" Bundle.steD A s s.heap) (hN : vx_Zq Bundle.tN "SUPPRESSED_SENTINEL" Bundle.listD A s s.heap) (hS : va_S A s.heap H locs) (hsize : ls.size = c.maxLocals)
    (d0 : decode cc pc = .ok (.new ik, 3)) (d3 : decode cc (pc + 3) = .ok (.dup, 1)) (d4 : decode cc (pc + 4) = .ok (.ldc_w is, 3)) (d7 : decode cc (pc + 7) = .ok (.invokespecial ic, 3)) (d10 : decode cc (pc + 10) = .ok (.athrow, 1))
    (hout : ∀ x ∈ c.exceptionTable.toList, covers x (pc + 10) = false)
    (hRframes : names.length + 3 < R.frames) (hRlocals : (rest.map fun v => v.category).sum + (13 * (names.length + 1) + 43) ≤ R.locals) (hRcells : cells + 1 ≤ R.cells) (hRslots : slots + 6 ≤ R.slots) (hlocks : meth.locks = false)
    (hx : ∀ t : State, s.vm.Alike t.vm → H.size ≤ t.heap.size → (∀ q : Nat, q < H.size → t.heap[q]? = H[q]?) → XC cls s t)
    (hf : ∀ z ∈ locs, free z.base) (hc : cells + 1 ≤ mc) (hs : slots + 6 ≤ ms) :
    W p l e R s m args below meth c H locs cells slots (vx_MQ below Qc XC args s mc ms free) (F0 m pc ls rest) := by
  intro T hT X
  have htr : e.platform.stackTraces = false := (show e.platform.stackTraces = l.stackTraces by rw [X.admits.platform]).trans hl
  have Y := vx_rebase X (R' := { frames := R.frames, locals := R.locals, cells := 1, slots := 6 }) (Nat.le_refl _) (Nat.le_refl _) hRcells hRslots
  obtain ⟨s', hA⟩ : ∃ z, z = (T.setVm s.vm).setFrames (.invoking m args :: below) := ⟨_, rfl⟩
  rw [← hA] at Y
  have hvm : s'.vm = s.vm := by rw [hA]; rfl
  have hhp : s'.heap = H := by rw [hA]; exact hT
  have hW0 : s.WarmedH s'.vm := by rw [hvm]; exact State.WarmedH.refl s
  have hat' : ∀ w ∈ vx_atS own ic cls names, w.before args s' = true := fun w hw => vx_ot_at hW0 hvm.symm (hgood w (List.mem_cons_of_mem _ (List.mem_cons_of_mem _ hw))) (hat w hw)
  have hk' : (Cond.classLink own ik cls).before args s' = true := vx_ot_at hW0 hvm.symm (hgood _ List.mem_cons_self) hk
  have hini' : (Cond.initialized cls).before args s' = true := vx_ot_at hW0 hvm.symm (hgood _ (List.mem_cons_of_mem _ List.mem_cons_self)) hini
  have hU' : vx_Zq Bundle.tN "UNASSIGNED_STACK" Bundle.steD A s' s'.heap := by rw [hhp]; exact vx_Zq.moved hW0.alike (hU.kept hS.2.1)
  have hN' : vx_Zq Bundle.tN "SUPPRESSED_SENTINEL" Bundle.listD A s' s'.heap := by rw [hhp]; exact vx_Zq.moved hW0.alike (hN.kept hS.2.1)
  have h : ∀ w ∈ Bundle.ownAtoms own ic cls names, w.before args s' = true := vx_own hat' (vx_isRefq hU'.1) (vx_isRefq hN'.1) hU'.2.word hN'.2.word
  have hown' : s'.vm.findClass own = some m.cls := by rw [hvm]; exact hown
  have hins : (Cond.instantiable cls 6).before args s' = true := h _ (by simp [Bundle.ownAtoms])
  obtain ⟨vm₁, cX, kX, hfX, hkX, -, -, X₁, st1⟩ := Y.newCold hexec (own := own) (C := cls) (index := ik) (n := 6) hown' hk' hins hini'
    (g := F0 m pc ls rest) rfl (by rw [hb]; exact d0) (Nat.le_refl _) (Nat.le_refl _)
  generalize hT1 : (T.setVm vm₁).pushCell { cls := cX, slots := kX.instanceTypes.map defaultValue, vm := .none } = T1 at X₁ st1
  have hcat : (Value.ref T.heap.size).category = 1 := rfl
  have hcellA : T1.heap[T.heap.size]? = some (freshCell cX kX) := by rw [← hT1]; exact State.heap_pushCell_size _ _
  have d3' : decode c.code (pc + 3) = .ok (.dup, 1) := by rw [hb]; exact d3
  have d4' : decode c.code (pc + 4) = .ok (.ldc_w is, 3) := by rw [hb]; exact d4
  have hstr' : vk_R own is text sa s' := vk_R.warm hW0 hstr
  obtain ⟨U, hsteps, hrun, hend, hW, hsame, ce, hce, hO⟩ := X₁.ctorThrowS hexec htr (own := own) (cls := cls) (names := names) (ic := ic) hown' hcls hnames h (fun x hx => nomatch hx) hfX hkX hcellA (by rw [hhp, hT]; exact Nat.le_refl _) (msg := .ref sa) rfl
    (g := { method := m, pc := pc + 7, locals := ls, stack := .ref sa :: .ref T.heap.size :: .ref T.heap.size :: rest, locked := none }) rfl hsize rfl rfl (rest := rest) rfl
    (by rw [hb]; exact d7) (by rw [hb]; exact d10) hout hRframes (by simp only [List.map_cons, List.sum_cons, hcat]; omega) hlocks
  obtain ⟨f1, f2⟩ := vx_frame hsame
  rw [hhp] at f1 f2
  have hWs : s.WarmedH U.vm := State.WarmedH.trans hW0 hW
  have hcl : s.vm.findClass cls = some ce.cls := by
    have h9 := hO.cls
    rw [hvm] at h9
    exact h9
  have hall : s.sameButNew ({ U with vm := s.vm } : State) locs mc ms := by
    subst hA
    obtain ⟨e1, e2⟩ := hsame
    rw [State.setFrames_setFrames] at e1
    have h2 : (T.setVm s.vm).sameButNew ({ U with vm := s.vm } : State) [] (0 + 1) (0 + 6) := ⟨e1, e2⟩
    have h3 := X.same.trans h2
    rw [List.append_nil] at h3
    exact h3.mono hc hs
  refine ⟨U, ?_, .threw T.heap.size, hrun, hend, Or.inr ⟨T.heap.size, rfl, cls, ce, locs, hx U hWs.alike f1 (fun q hq => f2 q hq (fun z hz => nomatch hz)), hce, hO.vm, hcl, hWs, hall, hf⟩⟩
  refine st1 _ ?_
  show Steps p.tables e below (T1.setTop { method := m, pc := pc + 3, locals := ls, stack := .ref T.heap.size :: rest, locked := none }) _
  jvm_step X₁.here [X₁.here.top, hexec, d3', Value.category]
  exact X₁.ldcStringW hexec (own := own) (text := text) (index := is) (a := sa) hown' hstr'.1 hstr'.2
    (g := { method := m, pc := pc + 4, locals := ls, stack := .ref T.heap.size :: .ref T.heap.size :: rest, locked := none }) rfl d4' _ hsteps
end Ends
section Bodies
variable {l : Launch}
theorem vx_ofW {y : MethodName} {ws ws' : List Cond} {rm : Room} {Pc : Array Value → State → Prop} {Qc : Array Value → State → Outcome → State → Prop} {XC : String → State → State → Prop} {mc ms : Nat} {free : Addr → Prop} {cc : ByteArray} {maxL : Nat} {ret : Option FieldType}
    (hy : plainName y.cls = true) (hw : ws = Cond.code y cc maxL ret :: ws')
    (body : ∀ p e s m args below meth c s₁, BodyLoose p l y (headSpec ws rm) cc maxL ret e s m args below meth c s₁ → c.maxLocals = maxL → (∀ x ∈ c.exceptionTable.toList, False) → Pc args s →
      W p l e (headSpec ws rm).room s m args below meth c s.heap [] 0 0 (vx_MQ below Qc XC args s mc ms free) (entryFrame m args maxL)) : vx_Met l y ws rm Pc Qc XC mc ms free := by
  refine MetFree.of_bodyS (code := cc) (maxLocals := maxL) (ret := ret) hy ?_ ?_
  · intro args s m h hn
    obtain ⟨meth, c, h1, h2, h3, h4, h5, h6, -, -⟩ := Cond.code_spec hn (atoms_spec (ws := ws) h _ (by rw [hw]; exact List.mem_cons_self))
    exact ⟨meth, c, h1, h2, h3, h4, h5, h6⟩
  · intro p e s m args below meth c s₁ B hml hP _
    have hh0 : s₁.heap = s.heap := by rw [B.state]; rfl
    have ht : ∀ x ∈ c.exceptionTable.toList, False := by
      obtain ⟨meth9, c9, h1, h2, -, -, -, -, h7, -⟩ := Cond.code_spec B.named (atoms_spec (ws := ws) B.pre _ (by rw [hw]; exact List.mem_cons_self))
      cases Option.some.inj (h1.symm.trans B.method)
      cases Option.some.inj (h2.symm.trans (Stand.of_body B).code)
      intro x hx
      rw [Array.isEmpty_iff.mp h7] at hx
      cases hx
    obtain ⟨t, a1, o, b1, b2, b3⟩ := body p e s m args below meth c s₁ B hml ht hP s₁ hh0 (Stand.of_body B)
    exact ⟨t, o, a1, b1, b2, b3⟩
/-- the table of a body with handlers -/
theorem vx_table {p : Program} {x y : MethodName} {S : Spec} {cc bytes : ByteArray} {maxL maxL' : Nat} {ret ret' : Option FieldType} {e : Env} {s s₁ : State} {m : MethodId} {args : Array Value} {below : List Frame} {meth : Method} {c : Code} {hh : List (Nat × Nat × Nat × Nat)}
    (B : BodyLoose p l y S cc maxL ret e s m args below meth c s₁) (h : (Cond.codeWith y bytes maxL' ret' hh).before args s = true) : c.exceptionTable.toList = tableOf hh := by
  obtain ⟨m9, meth9, c9, hn9, h1, h2, -, -, h6, -⟩ := Cond.codeWith_spec h
  cases Option.some.inj (hn9.symm.trans B.named)
  cases Option.some.inj (h1.symm.trans B.method)
  cases Option.some.inj (h2.symm.trans (Stand.of_body B).code)
  rw [← h6, table_eq]
end Bodies
end VXA
/-! ===== END ===== -/
/-! ===== BEGIN a static call of a method with an exception table ===== -/
section VXS
variable {p : Program} {l : Launch} {e : Env} {R : Room} {s : State} {m : MethodId} {args : Array Value} {below : List Frame} {meth : Method} {c : Code} {T : State} {H : Heap} {locs : List Loc} {cells slots : Nat}
abbrev vx_CSW (R : Room) (s : State) (args : Array Value) (own : String) (index : Nat) (y : MethodName) (bytes : ByteArray) (maxL : Nat) (ret : Option FieldType) (hh : List (Nat × Nat × Nat × Nat)) (ws : List Cond) (rm : Room) (mc ms n : Nat) : Prop :=
  (rm.cells = mc ∧ rm.slots = ms ∧ rm.frames + 1 ≤ R.frames ∧ 8 + (maxL + 11) + rm.locals ≤ R.locals ∧ (∀ w ∈ ws, ∀ (a' : Array Value) (U : State), s.WarmedH U.vm → w.before a' U = true) ∧ Cond.codeWith y bytes maxL ret hh ∈ ws) ∧
  (Cond.codeWith y bytes maxL ret hh).before args s = true ∧ (Cond.initialized y.cls).before args s = true ∧ (y.cls ≠ "java/lang/invoke/MethodHandle" ∧ y.cls ≠ "java/lang/invoke/VarHandle") ∧
  (∀ sig, parseMethodDescriptor y.desc = some sig → n = sig.parameters.length) ∧ (Cond.methodLink own index y).before args s = true ∧ (Cond.static y).before args s = true
theorem vx_cwSW {own : String} {index maxL mc ms : Nat} {y : MethodName} {bytes : ByteArray} {ret : Option FieldType} {hh : List (Nat × Nat × Nat × Nat)} {Ts ws ws' : List Cond} {rm : Room} (n : Nat) (ht : ∀ w ∈ Ts, w.before args s = true) (hT : GoodIn Ts (va_wsS own index y ws)) (hw : ws = Cond.codeWith y bytes maxL ret hh :: ws') (hrc : rm.cells = mc) (hrs : rm.slots = ms)
    (hd : y.cls ≠ "java/lang/invoke/MethodHandle" ∧ y.cls ≠ "java/lang/invoke/VarHandle" ∧ (parseMethodDescriptor y.desc).map (fun d => d.parameters.length) = some n) (hR : rm.frames + 1 ≤ R.frames ∧ 8 + (maxL + 11) + rm.locals ≤ R.locals) :
    vx_CSW R s args own index y bytes maxL ret hh ws rm mc ms n := by
  have ok : ∀ w ∈ va_wsS own index y ws, w.before args s = true := fun w h => ht w (hT w h).1
  have hG : GoodIn Ts ws := fun w h => hT w (by unfold va_wsS; exact List.mem_append_right _ h)
  have hc : Cond.codeWith y bytes maxL ret hh ∈ ws := by rw [hw]; exact List.mem_cons_self
  refine ⟨⟨hrc, hrs, hR.1, hR.2, pay_in ht hG, hc⟩, ht _ (hG _ hc).1, ok _ (by simp [va_wsS]), ⟨hd.1, hd.2.1⟩, fun sig h => ?_, ok _ (by simp [va_wsS]), ok _ (by simp [va_wsS])⟩
  have h2 := hd.2.2
  rw [h] at h2
  exact (Option.some.inj h2).symm
theorem vx_callSW (X : Stand p l e R s m args below meth c T locs cells slots) (hexec : p.tables.exec = Jvm.exec) {own : String} {index : Nat} {y : MethodName} {bytes : ByteArray} {maxL : Nat} {ret : Option FieldType} {hh : List (Nat × Nat × Nat × Nat)}
    (hown : s.vm.findClass own = some m.cls) (hlink : (Cond.methodLink own index y).before args s = true) (hstat : (Cond.static y).before args s = true) (hinit : (Cond.initialized y.cls).before args s = true)
    (hcode : (Cond.codeWith y bytes maxL ret hh).before args s = true) (hy : y.cls ≠ "java/lang/invoke/MethodHandle" ∧ y.cls ≠ "java/lang/invoke/VarHandle")
    {W9 : Nat} {Pre : Pt → Array Value → Prop} {Post : Pt → Array Value → Option Value → Pt → Prop} (hK : Back l R p e below s args y 3 W9 Pre Post)
    {g : JFrame} (hg : g.method = m) (hsize : g.locals.size = c.maxLocals) {argsL rest : List Value} (hlen : ∀ sig, parseMethodDescriptor y.desc = some sig → argsL.length = sig.parameters.length)
    (hstack : g.stack = argsL.reverse ++ rest) (hW : 2 * g.monitorRoom + (rest.map fun v => v.category).sum ≤ W9) (hdg : decode c.code g.pc = .ok (.invokestatic index, 3))
    (hpre : ∀ vm₁, s.WarmedH vm₁ → Pre ⟨T.setVm vm₁, locs, cells, slots⟩ argsL.toArray) :
    ∃ (v : Option Value) (vm₁ : Vm) (B : Pt), s.WarmedH vm₁ ∧ Stand p l e R s m args below meth c B.U B.locs B.cells B.slots ∧ Post ⟨T.setVm vm₁, locs, cells, slots⟩ argsL.toArray v B ∧
      ∀ target, Steps p.tables e below (B.U.setTop { g with pc := g.pc + 3, stack := v.toList ++ rest }) target → Steps p.tables e below (T.setTop g) target := by
  obtain ⟨mk, methM, cM, hnamed, hmethM, -, -, -, -, -, -, hsigM⟩ := Cond.codeWith_spec hcode
  have hstatic : methM.isStatic = true := Cond.static_spec hnamed hmethM hstat
  obtain ⟨kP, hkP, -⟩ := className_of_methodNamed hnamed
  have hinitP : kP.init = .initialized := Cond.initialized_spec (findClass_of_methodNamed hnamed) hkP hinit
  obtain ⟨vm₁, X₁, hstep₁⟩ := X.invokestatic hexec hown hlink hnamed hmethM hstatic hkP hinitP hy (g := g) hg (argsL := argsL) (rest := rest) (hlen _ hsigM) hstack hdg
  obtain ⟨v, B, X', hpost, hsteps⟩ := hK m meth c ⟨T.setVm vm₁, locs, cells, slots⟩ { g with stack := rest } (.invokestatic index) mk argsL.toArray X₁ hg hsize hdg hW (X₁.named hnamed) (hpre vm₁ X₁.warmed)
  exact ⟨v, vm₁, B, X₁.warmed, X', hpost, fun target h => hstep₁ _ fun acts => by rw [doInvoke_state]; exact hsteps.trans h⟩
theorem vx_runSW {y : MethodName} {bytes cc : ByteArray} {maxL nL mc ms n index : Nat} {ret : Option FieldType} {hh : List (Nat × Nat × Nat × Nat)} {ws : List Cond} {rm : Room} {Pc : Array Value → State → Prop} {Qc : Array Value → State → Outcome → State → Prop} {free : Addr → Prop} {Ts : List Cond} {own : String} {As rest : List Value} {g : JFrame}
    (S : CallFix p m c cc nL s args Ts own) (hM : Met l y ws rm Pc Qc mc ms free) (cw : vx_CSW R s args own index y bytes maxL ret hh ws rm mc ms n) (hp : PreS s H Pc As)
    (hg : g.method = m) (hn : As.length = n) (hsize : g.locals.size = nL) (hstack : g.stack = As.reverse ++ rest) (hW : 2 * g.monitorRoom + (rest.map fun v => v.category).sum ≤ 8) (hdg : decode cc g.pc = .ok (.invokestatic index, 3)) (hf : cells + mc ≤ R.cells ∧ slots + ms ≤ R.slots) :
    va_Run p l e R s m args below meth c H locs cells slots mc ms g rest (Qc As.toArray) (free) := by
  obtain ⟨⟨hrc, hrs, hfr, hlo, hws, hcw⟩, hcode, hini, hy, hlen, hl, hstt⟩ := cw
  have hK : Back l R p e below s args y 3 8 (PreOf R mc ms Pc) (PostOf Qc mc ms free) := va_backW (hh := hh) (bytes := bytes) (maxL := maxL) (ret := ret) hM hp.1 hrc hrs hfr hlo hws hcw (fun a' U hW => word_at hW (Or.inl (by first | rfl | simp [Cond.onTables, Cond.keeps, Cond.steady])) hini)
  obtain ⟨hx, hb, hml, ho, -⟩ := S
  intro T hT X
  obtain ⟨v, vm₁, ⟨U', l2, c2, s2⟩, hW₁, X', ⟨g', mk, t, L, e1, e2, hq, h1, hL, h2, h3⟩, st⟩ := vx_callSW X hx (hh := hh) (bytes := bytes) (maxL := maxL) (ret := ret) ho hl hstt hini hcode hy hK hg (hsize.trans hml.symm) (argsL := As) (rest := rest) (fun sig h => hn.trans (hlen sig h)) hstack hW (by rw [hb]; exact hdg)
    (fun vm₁ hW₁ => ⟨hf.1, hf.2, hp.2 (T.setVm vm₁) hT hW₁⟩)
  dsimp only [Pt.U, Pt.locs, Pt.cells, Pt.slots] at X' e1 e2 h1 h2 h3 st
  subst h1; subst h2; subst h3
  exact ⟨v, (T.setVm vm₁).calling g' mk As.toArray, t, U', L, hT, X', hL, e1, e2, hq, st⟩
/-- not caught here, past rows that name other classes: it goes on to the caller -/
theorem vx_outP {p : Program} {l : Launch} {e : Env} {R : Room} {s : State} {m : MethodId} {args : Array Value} {below : List Frame} {meth : Method} {c : Code} {H : Heap} {locs : List Loc} {cells slots : Nat} {free : Addr → Prop} {ls : Array Slot} {rest : List Value} {Qc : Array Value → State → Outcome → State → Prop} {XC : String → State → State → Prop}
    {pc : Nat} {own E : String} {ce : Cell} {q : Addr} {mc ms : Nat} (hown : s.vm.findClass own = some m.cls) (hlocks : meth.locks = false)
    (hpass : ∀ z ∈ c.exceptionTable.toList, covers z pc = false ∨ (z.catchType ≠ 0 ∧ ∃ nm : String, (Cond.classLink own z.catchType nm).before args s = true ∧ va_Nc E nm s)) (hcell : H[q]? = some ce) (hv : ce.vm = .none) (hcl : s.vm.findClass E = some ce.cls)
    (hx : ∀ t : State, t.heap = H → s.vm.Alike t.vm → XC E s t) (hf : ∀ z ∈ locs, free z.base) (hc : cells ≤ mc) (hs : slots ≤ ms) :
    vx_W p l e R s m args below meth c H locs cells slots (vx_MQ below Qc XC args s mc ms free) (F0 m pc ls rest) q := by
  intro T hT X
  have hpl : e.platform.magicAccessors = ({} : Platform).magicAccessors := by rw [X.admits.platform]
  obtain ⟨vm', hW', X', st⟩ := X.outThrough hlocks q (g := F0 m pc ls rest) rfl rfl rfl (cell := ce) (by rw [hT]; exact hcell) (by rw [hv]; rfl)
    (by obtain ⟨k9, h9, -⟩ := Vm.findClass_spec hcl; exact ⟨k9, h9⟩) (fun z hz => by
      rcases hpass z hz with h | ⟨hz0, nm, hl1, hn1⟩
      · exact Or.inl h
      · obtain ⟨c6, hc6, hcl6⟩ := Cond.classLink_spec hown hl1 e.platform hpl
        obtain ⟨a8, b8, h1, h2, h3⟩ := hn1
        cases Option.some.inj (h1.symm.trans hcl)
        cases Option.some.inj (h2.symm.trans hc6)
        exact Or.inr ⟨hz0, _, hcl6, h3⟩)
  obtain ⟨g₀, hfr⟩ := X'.frames_eq
  have hcell9 : ((T.setVm vm').setFrames (.throwing q :: below)).heap[q]? = some ce := by
    show T.heap[q]? = some ce
    rw [hT]; exact hcell
  have hend : Ended ((T.setVm vm').setFrames (.throwing q :: below)) below (.threw q) := State.frames_setFrames _ (State.cur_lt_of_frames hfr)
  refine ⟨(T.setVm vm').setFrames (.throwing q :: below), ?_, .threw q, X'.here.running, hend, Or.inr ⟨q, rfl, E, ce, locs, hx _ hT (X'.ends _).1.alike, hcell9, hv, hcl, (X'.ends _).1, (X'.ends _).2.mono hc hs, hf⟩⟩
  rw [X.pushThrowing_eq]
  exact st
/-- a thing of a world lies in the heap -/
theorem vx_lt {D : va_G} {cl : List vw_C} {ws : va_W} {H1 : Heap} (h : va_P D cl ws H1) {k : Nat} {q : Nat × va_E} (hk : ws[k]? = some q) : q.1 < H1.size := (h k q hk).lt
end VXS
/-! ===== END ===== -/
/-! ===== BEGIN methods with a table of their own: called by a name, returning or throwing ===== -/
section VXH
/-! vx_backW, vx_callVX, vx_callSX, vx_callVW, vx_runVW, vx_runVX, vx_runSX, vx_ofWH follow the same proofs as their sisters above (Free/Laws.lean, Shelf42/LK1.lean); vx_outP calls Shelf42/NT130.lean (outThrough). -/
section
variable {l : Launch} {R : Room} {p : Program} {e : Env} {below : List Frame} {s : State} {sargs : Array Value} {y : MethodName} {len W9 : Nat}
theorem vx_backW {ws : List Cond} {rm : Room} {Pc : Array Value → State → Prop} {Qc : Array Value → State → Outcome → State → Prop} {XC : String → State → State → Prop} {mc ms : Nat} {free : Addr → Prop} {bytes : ByteArray} {maxL : Nat} {ret : Option FieldType} {hh : List (Nat × Nat × Nat × Nat)}
    (hM : vx_Met l y ws rm Pc Qc XC mc ms free) (hblind : FrameBlind Pc) (hrc : rm.cells = mc) (hrs : rm.slots = ms)
    (hframes : rm.frames + 1 ≤ R.frames) (hlocals : W9 + (maxL + 11) + rm.locals ≤ R.locals)
    (hws : ∀ w ∈ ws, ∀ a' U, s.WarmedH U.vm → w.before a' U = true) (hcode : Cond.codeWith y bytes maxL ret hh ∈ ws) (hinit : ∀ a' U, s.WarmedH U.vm → (Cond.initialized y.cls).before a' U = true) :
    vx_Back l R p e below s sargs y len W9 (PreOf R mc ms Pc) (PostOf Qc mc ms free) (vx_Post XC mc ms free) := by
  intro m meth c A g ig mk a X hg hsize hdg hW hn hp
  have h1 : (headSpec ws rm).pre.before a A.U = true := atoms_intro fun w hw => hws w hw _ _ X.warmed
  have h2 : (Cond.codeWith y bytes maxL ret hh).before a A.U = true := hws _ hcode _ _ X.warmed
  have h3 : (Cond.initialized y.cls).before a A.U = true := hinit _ _ X.warmed
  have h4 : A.cells + (headSpec ws rm).room.cells ≤ R.cells := by rw [show (headSpec ws rm).room.cells = mc from hrc]; exact hp.1
  have h5 : A.slots + (headSpec ws rm).room.slots ≤ R.slots := by rw [show (headSpec ws rm).room.slots = ms from hrs]; exact hp.2.1
  have hPc : Pc a (A.U.calling g mk a) := hblind _ _ _ _ hp.2.2
  obtain ⟨U, Ls, c0, s0⟩ := A
  dsimp only [Pt.U, Pt.locs, Pt.cells, Pt.slots] at h1 h2 h3 h4 h5 X hn hPc ⊢
  obtain ⟨m9, methY, cY, hn9, hmY, hcY, -, hlY, -⟩ := Cond.codeWith_spec h2
  cases Option.some.inj (hn9.symm.trans hn)
  obtain ⟨kY, hkY, -⟩ := className_of_methodNamed hn
  have hinitY : kY.init = .initialized := Cond.initialized_spec (findClass_of_methodNamed hn) hkY h3
  have h : At U g.method c below := by rw [hg]; exact X.here
  have hlocals9 : W9 + (maxL + 11) + (headSpec ws rm).room.locals ≤ R.locals := hlocals
  have happ : (headSpec ws rm).appliesLoose y e.platform (U.calling g mk a) = true :=
    Spec.appliesLoose_calling (g := g) h hdg hn hkY hinitY
      (X.room_calling (g := g) (R' := (headSpec ws rm).room) hsize hmY hcY hframes (by rw [hlY]; omega) h4 h5) h1
  obtain ⟨mid, hmid⟩ := h.above
  have hfr : (U.setTop g).frames = (.java g :: mid) ++ below := by rw [State.frames_setTop' g h.top, hmid]; rfl
  obtain ⟨o, s₂, hsteps, -, hend, hq⟩ := Steps.callFree hM p X.admits X.cas X.clock (acts := []) hfr happ hPc trivial
  have hq' : vx_Q Qc XC mc ms free a (U.calling g mk a) o s₂ := hq
  rw [State.frames_setTop' g h.top] at hend
  obtain ⟨g₀, hg0⟩ := Option.isSome_iff_exists.mp h.top
  obtain ⟨r, hr⟩ := State.topJava?_eq_some.mp hg0
  have hr' : (({ U with heap := s₂.heap, slotsUsed := s₂.slotsUsed } : State).setVm s₂.vm).frames = .java g₀ :: r := hr
  rcases hq' with ⟨hqc, L, hfe, hL⟩ | ⟨q, rfl, E, ce, L, hx, hce, hcv, hcl, hW₂, hsm, hL⟩
  · obtain ⟨⟨v, rfl⟩, hW₂, e2, q2, q3, q4, q5, q6⟩ := id hfe
    have e3 : s₂ = ({ (U.calling g mk a).setFrames s₂.frames with heap := s₂.heap, slotsUsed := s₂.slotsUsed } : State).setVm s₂.vm := by
      have : s₂ = ({ s₂ with vm := (U.calling g mk a).vm } : State).setVm s₂.vm := rfl
      rw [e2] at this
      exact this
    obtain ⟨c₂, i₂, len₂, hc₂, hd₂, hf₂⟩ := hend
    have hW' : U.WarmedH s₂.vm := hW₂
    have hcc : c₂ = c := by
      have h1 : s₂.code? g.method = U.code? g.method := by
        rw [State.code?_eq, State.code?_eq, hW'.alike.method?]
      exact Option.some.inj (hc₂.symm.trans (h1.trans h.code))
    subst hcc
    have hlen : len₂ = len := by rw [hdg] at hd₂; cases hd₂; rfl
    subst hlen
    have hs₂ : s₂ = (({ U with heap := s₂.heap, slotsUsed := s₂.slotsUsed } : State).setVm s₂.vm).setTop { g with pc := g.pc + len₂, stack := v.toList ++ g.stack } := by
      refine e3.trans ?_
      rw [hf₂, State.calling_eq h.top, State.setFrames_setFrames, State.setTop_of_frames _ hr', hr]
      rfl
    have hsame : U.sameButNew ({ U with heap := s₂.heap, slotsUsed := s₂.slotsUsed } : State) L mc ms := by
      refine ⟨?_, q2, q3, q4, q5, q6⟩
      obtain ⟨t, ht, -⟩ := State.frames_cons hr
      show ({ U with heap := s₂.heap, slotsUsed := s₂.slotsUsed } : State) = { U.setFrames U.frames with heap := s₂.heap, slotsUsed := s₂.slotsUsed }
      rw [State.setFrames_self ht]
    subst hg
    refine Or.inl ⟨v, ⟨(({ U with heap := s₂.heap, slotsUsed := s₂.slotsUsed } : State).setVm s₂.vm), Ls ++ L, c0 + mc, s0 + ms⟩,
      ⟨X.admits, X.cas, X.clock, X.frames, X.room, X.hears, X.method, X.code, (X.here.setHeapUsed s₂.heap s₂.slotsUsed).setVm hW'.alike, X.tail, State.WarmedH.trans X.warmed hW', X.limits, X.bytes, X.same.trans (hsame.setVm s.vm)⟩,
      ⟨g, mk, s₂, L, rfl, rfl, hqc, rfl, hL, rfl, rfl⟩, ?_⟩
    show Steps p.tables e below _ ((({ U with heap := s₂.heap, slotsUsed := s₂.slotsUsed } : State).setVm s₂.vm).setTop { g with pc := g.pc + len₂, stack := v.toList ++ g.stack })
    rw [← hs₂]
    exact hsteps
  · obtain ⟨e2, q2, q3, q4, q5, q6⟩ := id hsm
    have e3 : s₂ = ({ (U.calling g mk a).setFrames s₂.frames with heap := s₂.heap, slotsUsed := s₂.slotsUsed } : State).setVm s₂.vm := by
      have : s₂ = ({ s₂ with vm := (U.calling g mk a).vm } : State).setVm s₂.vm := rfl
      rw [e2] at this
      exact this
    have hf₂ : s₂.frames = .throwing q :: .java g :: U.frames.tail := hend
    have hW' : U.WarmedH s₂.vm := hW₂
    have hs₂ : s₂ = ((({ U with heap := s₂.heap, slotsUsed := s₂.slotsUsed } : State).setVm s₂.vm).setTop g).pushFrame (.throwing q) := by
      refine e3.trans ?_
      rw [hf₂, State.calling_eq h.top, State.setFrames_setFrames, State.pushFrame, State.frames_setTop _ hr', State.setTop_of_frames _ hr', State.setFrames_setFrames, hr]
      rfl
    have hsame : U.sameButNew ({ U with heap := s₂.heap, slotsUsed := s₂.slotsUsed } : State) L mc ms := by
      refine ⟨?_, q2, q3, q4, q5, q6⟩
      obtain ⟨t, ht, -⟩ := State.frames_cons hr
      show ({ U with heap := s₂.heap, slotsUsed := s₂.slotsUsed } : State) = { U.setFrames U.frames with heap := s₂.heap, slotsUsed := s₂.slotsUsed }
      rw [State.setFrames_self ht]
    subst hg
    refine Or.inr ⟨q, ⟨(({ U with heap := s₂.heap, slotsUsed := s₂.slotsUsed } : State).setVm s₂.vm), Ls ++ L, c0 + mc, s0 + ms⟩,
      ⟨X.admits, X.cas, X.clock, X.frames, X.room, X.hears, X.method, X.code, (X.here.setHeapUsed s₂.heap s₂.slotsUsed).setVm hW'.alike, X.tail, State.WarmedH.trans X.warmed hW', X.limits, X.bytes, X.same.trans (hsame.setVm s.vm)⟩,
      ⟨g, mk, s₂, L, E, ce, rfl, rfl, hx, hce, hcv, hcl, rfl, hL, rfl, rfl⟩, ?_⟩
    show Steps p.tables e below _ (((({ U with heap := s₂.heap, slotsUsed := s₂.slotsUsed } : State).setVm s₂.vm).setTop g).pushFrame (.throwing q))
    rw [← hs₂]
    exact hsteps
end
variable {p : Program} {l : Launch} {e : Env} {R : Room} {s : State} {m : MethodId} {args : Array Value} {below : List Frame} {meth : Method} {c : Code} {T : State} {H : Heap} {locs : List Loc} {cells slots : Nat}
theorem vx_callVX (X : Stand p l e R s m args below meth c T locs cells slots) (hexec : p.tables.exec = Jvm.exec) {own C : String} {index : Nat} {y : MethodName} {bytes : ByteArray} {maxL : Nat} {ret : Option FieldType} {hh : List (Nat × Nat × Nat × Nat)}
    (hown : s.vm.findClass own = some m.cls) (hlink : (Cond.methodLink own index y).before args s = true) (hinst : (Cond.instanceMethod y).before args s = true) (hsel : (Cond.selects C y y).before args s = true)
    (hcode : (Cond.codeWith y bytes maxL ret hh).before args s = true) (hy : y.cls ≠ "java/lang/invoke/MethodHandle" ∧ y.cls ≠ "java/lang/invoke/VarHandle")
    {W9 : Nat} {Pre : Pt → Array Value → Prop} {Post : Pt → Array Value → Option Value → Pt → Prop} {PostX : Pt → Array Value → Addr → Pt → Prop} (hK : vx_Back l R p e below s args y 3 W9 Pre Post PostX)
    {b : Addr} {cellB : Cell} (hcell : T.heap[b]? = some cellB) (hobj : cellB.vm.isStatics = false) (hcls : s.vm.findClass C = some cellB.cls)
    {g : JFrame} (hg : g.method = m) (hsize : g.locals.size = c.maxLocals) {argsL rest : List Value} (hlen : ∀ sig, parseMethodDescriptor y.desc = some sig → argsL.length = sig.parameters.length)
    (hstack : g.stack = argsL.reverse ++ .ref b :: rest) (hW : 2 * g.monitorRoom + (rest.map fun v => v.category).sum ≤ W9) (hdg : decode c.code g.pc = .ok (.invokevirtual index, 3))
    (hpre : ∀ vm₁, s.WarmedH vm₁ → Pre ⟨T.setVm vm₁, locs, cells, slots⟩ (Value.ref b :: argsL).toArray) :
    (∃ (v : Option Value) (vm₁ : Vm) (B : Pt), s.WarmedH vm₁ ∧ Stand p l e R s m args below meth c B.U B.locs B.cells B.slots ∧ Post ⟨T.setVm vm₁, locs, cells, slots⟩ (Value.ref b :: argsL).toArray v B ∧
      ∀ target, Steps p.tables e below (B.U.setTop { g with pc := g.pc + 3, stack := v.toList ++ rest }) target → Steps p.tables e below (T.setTop g) target) ∨
    (∃ (q : Addr) (vm₁ : Vm) (B : Pt), s.WarmedH vm₁ ∧ Stand p l e R s m args below meth c B.U B.locs B.cells B.slots ∧ PostX ⟨T.setVm vm₁, locs, cells, slots⟩ (Value.ref b :: argsL).toArray q B ∧
      Steps p.tables e below (T.setTop g) ((B.U.setTop { g with stack := rest }).pushFrame (.throwing q))) := by
  obtain ⟨mk, methM, hnamed, hmethM, hstM, habM⟩ := Cond.instanceMethod_spec hinst
  obtain ⟨m8, methM', cM, hn8, hmethM', -, -, -, -, -, -, hsigM⟩ := Cond.codeWith_spec hcode
  cases Option.some.inj (hn8.symm.trans hnamed)
  cases hmethM.symm.trans hmethM'
  obtain ⟨c2, r2, m2, q1, q2, q3, q4, kP, hkP, hkPi⟩ := Cond.selects_spec hsel
  cases hcls.symm.trans q1
  cases (State.methodFound?_of_named hnamed hy).symm.trans q2
  cases hnamed.symm.trans q3
  have hselP : selectMethod e.platform s.vm cellB.cls mk = .method mk := by rw [Launch.admits_selectMethod X.admits]; exact q4
  obtain ⟨vm₁, X₁, hstep₁⟩ := X.invokevirtual hexec hown hlink hnamed hmethM hstM hkP hkPi hy (a := b) (cell := cellB) hcell
    (fun z h => by rw [h] at hobj; cases hobj) hselP hmethM habM hkP hkPi (g := g) hg (argsL := argsL) (rest := rest) (hlen _ hsigM) hstack hdg
  rcases hK m meth c ⟨T.setVm vm₁, locs, cells, slots⟩ { g with stack := rest } (.invokevirtual index) mk (Value.ref b :: argsL).toArray X₁ hg hsize hdg hW (X₁.named hnamed) (hpre vm₁ X₁.warmed) with ⟨v, B, X', hpost, hsteps⟩ | ⟨q, B, X', hpost, hsteps⟩
  · exact Or.inl ⟨v, vm₁, B, X₁.warmed, X', hpost, fun target h => hstep₁ _ fun acts => by rw [doInvoke_state]; exact hsteps.trans h⟩
  · exact Or.inr ⟨q, vm₁, B, X₁.warmed, X', hpost, hstep₁ _ fun acts => by rw [doInvoke_state]; exact hsteps⟩
theorem vx_callSX (X : Stand p l e R s m args below meth c T locs cells slots) (hexec : p.tables.exec = Jvm.exec) {own : String} {index : Nat} {y : MethodName} {bytes : ByteArray} {maxL : Nat} {ret : Option FieldType} {hh : List (Nat × Nat × Nat × Nat)}
    (hown : s.vm.findClass own = some m.cls) (hlink : (Cond.methodLink own index y).before args s = true) (hstat : (Cond.static y).before args s = true) (hinit : (Cond.initialized y.cls).before args s = true)
    (hcode : (Cond.codeWith y bytes maxL ret hh).before args s = true) (hy : y.cls ≠ "java/lang/invoke/MethodHandle" ∧ y.cls ≠ "java/lang/invoke/VarHandle")
    {W9 : Nat} {Pre : Pt → Array Value → Prop} {Post : Pt → Array Value → Option Value → Pt → Prop} {PostX : Pt → Array Value → Addr → Pt → Prop} (hK : vx_Back l R p e below s args y 3 W9 Pre Post PostX)
    {g : JFrame} (hg : g.method = m) (hsize : g.locals.size = c.maxLocals) {argsL rest : List Value} (hlen : ∀ sig, parseMethodDescriptor y.desc = some sig → argsL.length = sig.parameters.length)
    (hstack : g.stack = argsL.reverse ++ rest) (hW : 2 * g.monitorRoom + (rest.map fun v => v.category).sum ≤ W9) (hdg : decode c.code g.pc = .ok (.invokestatic index, 3))
    (hpre : ∀ vm₁, s.WarmedH vm₁ → Pre ⟨T.setVm vm₁, locs, cells, slots⟩ argsL.toArray) :
    (∃ (v : Option Value) (vm₁ : Vm) (B : Pt), s.WarmedH vm₁ ∧ Stand p l e R s m args below meth c B.U B.locs B.cells B.slots ∧ Post ⟨T.setVm vm₁, locs, cells, slots⟩ argsL.toArray v B ∧
      ∀ target, Steps p.tables e below (B.U.setTop { g with pc := g.pc + 3, stack := v.toList ++ rest }) target → Steps p.tables e below (T.setTop g) target) ∨
    (∃ (q : Addr) (vm₁ : Vm) (B : Pt), s.WarmedH vm₁ ∧ Stand p l e R s m args below meth c B.U B.locs B.cells B.slots ∧ PostX ⟨T.setVm vm₁, locs, cells, slots⟩ argsL.toArray q B ∧
      Steps p.tables e below (T.setTop g) ((B.U.setTop { g with stack := rest }).pushFrame (.throwing q))) := by
  obtain ⟨mk, methM, cM, hnamed, hmethM, -, -, -, -, -, -, hsigM⟩ := Cond.codeWith_spec hcode
  have hstatic : methM.isStatic = true := Cond.static_spec hnamed hmethM hstat
  obtain ⟨kP, hkP, -⟩ := className_of_methodNamed hnamed
  have hinitP : kP.init = .initialized := Cond.initialized_spec (findClass_of_methodNamed hnamed) hkP hinit
  obtain ⟨vm₁, X₁, hstep₁⟩ := X.invokestatic hexec hown hlink hnamed hmethM hstatic hkP hinitP hy (g := g) hg (argsL := argsL) (rest := rest) (hlen _ hsigM) hstack hdg
  rcases hK m meth c ⟨T.setVm vm₁, locs, cells, slots⟩ { g with stack := rest } (.invokestatic index) mk argsL.toArray X₁ hg hsize hdg hW (X₁.named hnamed) (hpre vm₁ X₁.warmed) with ⟨v, B, X', hpost, hsteps⟩ | ⟨q, B, X', hpost, hsteps⟩
  · exact Or.inl ⟨v, vm₁, B, X₁.warmed, X', hpost, fun target h => hstep₁ _ fun acts => by rw [doInvoke_state]; exact hsteps.trans h⟩
  · exact Or.inr ⟨q, vm₁, B, X₁.warmed, X', hpost, hstep₁ _ fun acts => by rw [doInvoke_state]; exact hsteps⟩
theorem vx_callVW (X : Stand p l e R s m args below meth c T locs cells slots) (hexec : p.tables.exec = Jvm.exec) {own C : String} {index : Nat} {y : MethodName} {bytes : ByteArray} {maxL : Nat} {ret : Option FieldType} {hh : List (Nat × Nat × Nat × Nat)}
    (hown : s.vm.findClass own = some m.cls) (hlink : (Cond.methodLink own index y).before args s = true) (hinst : (Cond.instanceMethod y).before args s = true) (hsel : (Cond.selects C y y).before args s = true)
    (hcode : (Cond.codeWith y bytes maxL ret hh).before args s = true) (hy : y.cls ≠ "java/lang/invoke/MethodHandle" ∧ y.cls ≠ "java/lang/invoke/VarHandle")
    {W9 : Nat} {Pre : Pt → Array Value → Prop} {Post : Pt → Array Value → Option Value → Pt → Prop} (hK : Back l R p e below s args y 3 W9 Pre Post)
    {b : Addr} {cellB : Cell} (hcell : T.heap[b]? = some cellB) (hobj : cellB.vm.isStatics = false) (hcls : s.vm.findClass C = some cellB.cls)
    {g : JFrame} (hg : g.method = m) (hsize : g.locals.size = c.maxLocals) {argsL rest : List Value} (hlen : ∀ sig, parseMethodDescriptor y.desc = some sig → argsL.length = sig.parameters.length)
    (hstack : g.stack = argsL.reverse ++ .ref b :: rest) (hW : 2 * g.monitorRoom + (rest.map fun v => v.category).sum ≤ W9) (hdg : decode c.code g.pc = .ok (.invokevirtual index, 3))
    (hpre : ∀ vm₁, s.WarmedH vm₁ → Pre ⟨T.setVm vm₁, locs, cells, slots⟩ (Value.ref b :: argsL).toArray) :
    ∃ (v : Option Value) (vm₁ : Vm) (B : Pt), s.WarmedH vm₁ ∧ Stand p l e R s m args below meth c B.U B.locs B.cells B.slots ∧ Post ⟨T.setVm vm₁, locs, cells, slots⟩ (Value.ref b :: argsL).toArray v B ∧
      ∀ target, Steps p.tables e below (B.U.setTop { g with pc := g.pc + 3, stack := v.toList ++ rest }) target → Steps p.tables e below (T.setTop g) target := by
  obtain ⟨mk, methM, hnamed, hmethM, hstM, habM⟩ := Cond.instanceMethod_spec hinst
  obtain ⟨m8, methM', cM, hn8, hmethM', -, -, -, -, -, -, hsigM⟩ := Cond.codeWith_spec hcode
  cases Option.some.inj (hn8.symm.trans hnamed)
  cases hmethM.symm.trans hmethM'
  obtain ⟨c2, r2, m2, q1, q2, q3, q4, kP, hkP, hkPi⟩ := Cond.selects_spec hsel
  cases hcls.symm.trans q1
  cases (State.methodFound?_of_named hnamed hy).symm.trans q2
  cases hnamed.symm.trans q3
  have hselP : selectMethod e.platform s.vm cellB.cls mk = .method mk := by rw [Launch.admits_selectMethod X.admits]; exact q4
  obtain ⟨vm₁, X₁, hstep₁⟩ := X.invokevirtual hexec hown hlink hnamed hmethM hstM hkP hkPi hy (a := b) (cell := cellB) hcell
    (fun z h => by rw [h] at hobj; cases hobj) hselP hmethM habM hkP hkPi (g := g) hg (argsL := argsL) (rest := rest) (hlen _ hsigM) hstack hdg
  obtain ⟨v, B, X', hpost, hsteps⟩ := hK m meth c ⟨T.setVm vm₁, locs, cells, slots⟩ { g with stack := rest } (.invokevirtual index) mk (Value.ref b :: argsL).toArray X₁ hg hsize hdg hW (X₁.named hnamed) (hpre vm₁ X₁.warmed)
  exact ⟨v, vm₁, B, X₁.warmed, X', hpost, fun target h => hstep₁ _ fun acts => by rw [doInvoke_state]; exact hsteps.trans h⟩
abbrev vx_CVW (R : Room) (s : State) (args : Array Value) (own C : String) (index : Nat) (y : MethodName) (bytes : ByteArray) (maxL : Nat) (ret : Option FieldType) (hh : List (Nat × Nat × Nat × Nat)) (ws : List Cond) (rm : Room) (mc ms n : Nat) : Prop :=
  (rm.cells = mc ∧ rm.slots = ms ∧ rm.frames + 1 ≤ R.frames ∧ 8 + (maxL + 11) + rm.locals ≤ R.locals ∧ (∀ w ∈ ws, ∀ (a' : Array Value) (U : State), s.WarmedH U.vm → w.before a' U = true) ∧ Cond.codeWith y bytes maxL ret hh ∈ ws) ∧
  (Cond.codeWith y bytes maxL ret hh).before args s = true ∧ (Cond.initialized y.cls).before args s = true ∧ (y.cls ≠ "java/lang/invoke/MethodHandle" ∧ y.cls ≠ "java/lang/invoke/VarHandle") ∧
  (∀ sig, parseMethodDescriptor y.desc = some sig → n = sig.parameters.length) ∧ (Cond.methodLink own index y).before args s = true ∧ (Cond.instanceMethod y).before args s = true ∧ (Cond.selects C y y).before args s = true
theorem vx_cwVW {own C : String} {index maxL mc ms : Nat} {y : MethodName} {bytes : ByteArray} {ret : Option FieldType} {hh : List (Nat × Nat × Nat × Nat)} {Ts ws ws' : List Cond} {rm : Room} (n : Nat) (ht : ∀ w ∈ Ts, w.before args s = true) (hT : GoodIn Ts (wsV own index C y ws)) (hw : ws = Cond.codeWith y bytes maxL ret hh :: ws') (hrc : rm.cells = mc) (hrs : rm.slots = ms)
    (hd : y.cls = C ∧ y.cls ≠ "java/lang/invoke/MethodHandle" ∧ y.cls ≠ "java/lang/invoke/VarHandle" ∧ (parseMethodDescriptor y.desc).map (fun d => d.parameters.length) = some n) (hR : rm.frames + 1 ≤ R.frames ∧ 8 + (maxL + 11) + rm.locals ≤ R.locals) :
    vx_CVW R s args own C index y bytes maxL ret hh ws rm mc ms n := by
  obtain ⟨hC, hd⟩ := hd
  subst hC
  have ok : ∀ w ∈ wsV own index y.cls y ws, w.before args s = true := fun w h => ht w (hT w h).1
  have hG : GoodIn Ts ws := fun w h => hT w (by unfold wsV; exact List.mem_append_right _ h)
  have hc : Cond.codeWith y bytes maxL ret hh ∈ ws := by rw [hw]; exact List.mem_cons_self
  refine ⟨⟨hrc, hrs, hR.1, hR.2, pay_in ht hG, hc⟩, ht _ (hG _ hc).1, ok _ (by simp [wsV]), ⟨hd.1, hd.2.1⟩, fun sig h => ?_, ok _ (by simp [wsV]), ok _ (by simp [wsV]), ok _ (by simp [wsV])⟩
  have h2 := hd.2.2
  rw [h] at h2
  exact (Option.some.inj h2).symm
theorem vx_runVW {y : MethodName} {bytes cc : ByteArray} {maxL nL mc ms n index : Nat} {ret : Option FieldType} {hh : List (Nat × Nat × Nat × Nat)} {ws : List Cond} {rm : Room} {Pc : Array Value → State → Prop} {Qc : Array Value → State → Outcome → State → Prop} {free : Addr → Prop} {Ts : List Cond} {own C : String} {b : Addr} {As rest : List Value} {g : JFrame}
    (S : CallFix p m c cc nL s args Ts own) (hM : Met l y ws rm Pc Qc mc ms free) (cw : vx_CVW R s args own C index y bytes maxL ret hh ws rm mc ms n) (hp : PreV s H C b Pc As)
    (hg : g.method = m) (hn : As.length = n) (hsize : g.locals.size = nL) (hstack : g.stack = As.reverse ++ .ref b :: rest) (hW : 2 * g.monitorRoom + (rest.map fun v => v.category).sum ≤ 8) (hdg : decode cc g.pc = .ok (.invokevirtual index, 3)) (hf : cells + mc ≤ R.cells ∧ slots + ms ≤ R.slots) :
    va_Run p l e R s m args below meth c H locs cells slots mc ms g rest (Qc (Value.ref b :: As).toArray) free := by
  obtain ⟨⟨hrc, hrs, hfr, hlo, hws, hcw⟩, hcode, hini, hy, hlen, hl, hin, hse⟩ := cw
  have hK : Back l R p e below s args y 3 8 (PreOf R mc ms Pc) (PostOf Qc mc ms free) := va_backW (hh := hh) (bytes := bytes) (maxL := maxL) (ret := ret) hM hp.1 hrc hrs hfr hlo hws hcw (fun a' U hW => word_at hW (Or.inl (by first | rfl | simp [Cond.onTables, Cond.keeps, Cond.steady])) hini)
  obtain ⟨hx, hb, hml, ho, -⟩ := S
  obtain ⟨-, ⟨cellB, hcB, hoB, hclB⟩, hPc⟩ := hp
  intro T hT X
  obtain ⟨v, vm₁, ⟨U', l2, c2, s2⟩, hW₁, X', ⟨g', mk, t, L, e1, e2, hq, h1, hL, h2, h3⟩, st⟩ := vx_callVW X hx (C := C) (hh := hh) (bytes := bytes) (maxL := maxL) (ret := ret) ho hl hin hse hcode hy hK (by rw [hT]; exact hcB) hoB hclB hg (hsize.trans hml.symm) (argsL := As) (rest := rest) (fun sig h => hn.trans (hlen sig h)) hstack hW (by rw [hb]; exact hdg)
    (fun vm₁ hW₁ => ⟨hf.1, hf.2, hPc (T.setVm vm₁) hT hW₁⟩)
  dsimp only [Pt.U, Pt.locs, Pt.cells, Pt.slots] at X' e1 e2 h1 h2 h3 st
  subst h1; subst h2; subst h3
  exact ⟨v, (T.setVm vm₁).calling g' mk (Value.ref b :: As).toArray, t, U', L, hT, X', hL, e1, e2, hq, st⟩
section
variable {y : MethodName} {bytes cc : ByteArray} {maxL nL mc ms n index : Nat} {ret : Option FieldType} {ws : List Cond} {rm : Room} {Pc : Array Value → State → Prop} {Qc : Array Value → State → Outcome → State → Prop} {XC : String → State → State → Prop} {free : Addr → Prop} {Ts : List Cond} {own C : String} {b : Addr} {As rest : List Value} {g : JFrame}
theorem vx_runVX {hh : List (Nat × Nat × Nat × Nat)} (S : CallFix p m c cc nL s args Ts own) (hM : vx_Met l y ws rm Pc Qc XC mc ms free) (cw : vx_CVW R s args own C index y bytes maxL ret hh ws rm mc ms n) (hp : PreV s H C b Pc As)
    (hg : g.method = m) (hn : As.length = n) (hsize : g.locals.size = nL) (hstack : g.stack = As.reverse ++ .ref b :: rest) (hW : 2 * g.monitorRoom + (rest.map fun v => v.category).sum ≤ 8) (hdg : decode cc g.pc = .ok (.invokevirtual index, 3)) (hf : cells + mc ≤ R.cells ∧ slots + ms ≤ R.slots) :
    vx_Run p l e R s m args below meth c H locs cells slots mc ms g rest (Qc (Value.ref b :: As).toArray) XC free := by
  obtain ⟨⟨hrc, hrs, hfr, hlo, hws, hcw⟩, hcode, hini, hy, hlen, hl, hin, hse⟩ := cw
  have hK : vx_Back l R p e below s args y 3 8 (PreOf R mc ms Pc) (PostOf Qc mc ms free) (vx_Post XC mc ms free) := vx_backW (hh := hh) (bytes := bytes) (maxL := maxL) (ret := ret) hM hp.1 hrc hrs hfr hlo hws hcw (fun a' U hW => word_at hW (Or.inl (by first | rfl | simp [Cond.onTables, Cond.keeps, Cond.steady])) hini)
  obtain ⟨hx, hb, hml, ho, -⟩ := S
  obtain ⟨-, ⟨cellB, hcB, hoB, hclB⟩, hPc⟩ := hp
  intro T hT X
  rcases vx_callVX X hx (C := C) (hh := hh) (bytes := bytes) (maxL := maxL) (ret := ret) ho hl hin hse hcode hy hK (by rw [hT]; exact hcB) hoB hclB hg (hsize.trans hml.symm) (argsL := As) (rest := rest) (fun sig h => hn.trans (hlen sig h)) hstack hW (by rw [hb]; exact hdg)
    (fun vm₁ hW₁ => ⟨hf.1, hf.2, hPc (T.setVm vm₁) hT hW₁⟩) with ⟨v, vm₁, ⟨U', l2, c2, s2⟩, hW₁, X', ⟨g', mk, t, L, e1, e2, hq, h1, hL, h2, h3⟩, st⟩ | ⟨q, vm₁, ⟨U', l2, c2, s2⟩, hW₁, X', ⟨g', mk, t, L, E, ce, e1, e2, hq, hce, hcv, hcl, h1, hL, h2, h3⟩, st⟩
  · dsimp only [Pt.U, Pt.locs, Pt.cells, Pt.slots] at X' e1 e2 h1 h2 h3 st
    subst h1; subst h2; subst h3
    exact Or.inl ⟨v, (T.setVm vm₁).calling g' mk (Value.ref b :: As).toArray, t, U', L, hT, X', hL, e1, e2, hq, st⟩
  · dsimp only [Pt.U, Pt.locs, Pt.cells, Pt.slots] at X' e1 e2 h1 h2 h3 st hcl
    subst h1; subst h2; subst h3
    exact Or.inr ⟨q, (T.setVm vm₁).calling g' mk (Value.ref b :: As).toArray, t, U', L, E, ce, hT, X', hL, e1, e2, hq, hce, hcv, vx_cls hW₁ hcl, st⟩
theorem vx_runSX {hh : List (Nat × Nat × Nat × Nat)} (S : CallFix p m c cc nL s args Ts own) (hM : vx_Met l y ws rm Pc Qc XC mc ms free) (cw : vx_CSW R s args own index y bytes maxL ret hh ws rm mc ms n) (hp : PreS s H Pc As)
    (hg : g.method = m) (hn : As.length = n) (hsize : g.locals.size = nL) (hstack : g.stack = As.reverse ++ rest) (hW : 2 * g.monitorRoom + (rest.map fun v => v.category).sum ≤ 8) (hdg : decode cc g.pc = .ok (.invokestatic index, 3)) (hf : cells + mc ≤ R.cells ∧ slots + ms ≤ R.slots) :
    vx_Run p l e R s m args below meth c H locs cells slots mc ms g rest (Qc As.toArray) XC free := by
  obtain ⟨⟨hrc, hrs, hfr, hlo, hws, hcw⟩, hcode, hini, hy, hlen, hl, hstt⟩ := cw
  have hK : vx_Back l R p e below s args y 3 8 (PreOf R mc ms Pc) (PostOf Qc mc ms free) (vx_Post XC mc ms free) := vx_backW (hh := hh) (bytes := bytes) (maxL := maxL) (ret := ret) hM hp.1 hrc hrs hfr hlo hws hcw (fun a' U hW => word_at hW (Or.inl (by first | rfl | simp [Cond.onTables, Cond.keeps, Cond.steady])) hini)
  obtain ⟨hx, hb, hml, ho, -⟩ := S
  intro T hT X
  rcases vx_callSX X hx (hh := hh) (bytes := bytes) (maxL := maxL) (ret := ret) ho hl hstt hini hcode hy hK hg (hsize.trans hml.symm) (argsL := As) (rest := rest) (fun sig h => hn.trans (hlen sig h)) hstack hW (by rw [hb]; exact hdg)
    (fun vm₁ hW₁ => ⟨hf.1, hf.2, hp.2 (T.setVm vm₁) hT hW₁⟩) with ⟨v, vm₁, ⟨U', l2, c2, s2⟩, hW₁, X', ⟨g', mk, t, L, e1, e2, hq, h1, hL, h2, h3⟩, st⟩ | ⟨q, vm₁, ⟨U', l2, c2, s2⟩, hW₁, X', ⟨g', mk, t, L, E, ce, e1, e2, hq, hce, hcv, hcl, h1, hL, h2, h3⟩, st⟩
  · dsimp only [Pt.U, Pt.locs, Pt.cells, Pt.slots] at X' e1 e2 h1 h2 h3 st
    subst h1; subst h2; subst h3
    exact Or.inl ⟨v, (T.setVm vm₁).calling g' mk As.toArray, t, U', L, hT, X', hL, e1, e2, hq, st⟩
  · dsimp only [Pt.U, Pt.locs, Pt.cells, Pt.slots] at X' e1 e2 h1 h2 h3 st hcl
    subst h1; subst h2; subst h3
    exact Or.inr ⟨q, (T.setVm vm₁).calling g' mk As.toArray, t, U', L, E, ce, hT, X', hL, e1, e2, hq, hce, hcv, vx_cls hW₁ hcl, st⟩
end
end VXH
theorem vx_ofWH {l : Launch} {y : MethodName} {ws ws' : List Cond} {rm : Room} {Pc : Array Value → State → Prop} {Qc : Array Value → State → Outcome → State → Prop} {XC : String → State → State → Prop} {mc ms : Nat} {free : Addr → Prop} {cc : ByteArray} {maxL : Nat} {ret : Option FieldType} {hh : List (Nat × Nat × Nat × Nat)}
    (hy : plainName y.cls = true) (hw : ws = Cond.codeWith y cc maxL ret hh :: ws')
    (body : ∀ p e s m args below meth c s₁, BodyLoose p l y (headSpec ws rm) cc maxL ret e s m args below meth c s₁ → c.maxLocals = maxL → Pc args s →
      W p l e (headSpec ws rm).room s m args below meth c s.heap [] 0 0 (vx_MQ below Qc XC args s mc ms free) (entryFrame m args maxL)) : vx_Met l y ws rm Pc Qc XC mc ms free := by
  refine MetFree.of_bodyS (code := cc) (maxLocals := maxL) (ret := ret) hy ?_ ?_
  · intro args s m h hn
    obtain ⟨m9, meth, c, hn9, h1, h2, h3, h4, -, h5, h6, -⟩ := Cond.codeWith_spec (atoms_spec (ws := ws) h _ (by rw [hw]; exact List.mem_cons_self))
    cases hn.symm.trans hn9
    exact ⟨meth, c, h1, h2, h3, h4, h5, h6⟩
  · intro p e s m args below meth c s₁ B hml hP _
    have hh0 : s₁.heap = s.heap := by rw [B.state]; rfl
    obtain ⟨t, a1, o, b1, b2, b3⟩ := body p e s m args below meth c s₁ B hml hP s₁ hh0 (Stand.of_body B)
    exact ⟨t, o, a1, b1, b2, b3⟩
/-! ===== END ===== -/
end
section
/-! ===== BEGIN a constructor that throws (launches without stack traces) ===== -/
section VXIA
variable {p : Program} {l : Launch} {e : Env} {R : Room} {s : State} {m : MethodId} {args : Array Value} {below : List Frame} {meth : Method} {c : Code} {T : State} {locs : List Loc} {cells slots : Nat}
theorem vx_callI (X : Stand p l e R s m args below meth c T locs cells slots) (hexec : p.tables.exec = Jvm.exec) {own : String} {index : Nat} {y : MethodName} {bytes : ByteArray} {maxL : Nat}
    (hown : s.vm.findClass own = some m.cls) (hy1 : y.name = "<init>") (hlink : (Cond.methodLink own index y).before args s = true) (hinst : (Cond.instanceMethod y).before args s = true)
    (hcode : (Cond.code y bytes maxL none).before args s = true) (hy : y.cls ≠ "java/lang/invoke/MethodHandle" ∧ y.cls ≠ "java/lang/invoke/VarHandle")
    {W9 : Nat} {Pre : Pt → Array Value → Prop} {Post : Pt → Array Value → Option Value → Pt → Prop} {PostX : Pt → Array Value → Addr → Pt → Prop} (hK : vx_Back l R p e below s args y 3 W9 Pre Post PostX)
    {g : JFrame} (hg : g.method = m) (hsize : g.locals.size = c.maxLocals) {a : Addr} {argsL rest : List Value} (hlen : ∀ sig, parseMethodDescriptor y.desc = some sig → argsL.length = sig.parameters.length)
    (hstack : g.stack = argsL.reverse ++ .ref a :: rest) (hW : 2 * g.monitorRoom + (rest.map fun v => v.category).sum ≤ W9) (hdg : decode c.code g.pc = .ok (.invokespecial index, 3))
    (hpre : ∀ vm₁, s.WarmedH vm₁ → Pre ⟨T.setVm vm₁, locs, cells, slots⟩ (Value.ref a :: argsL).toArray) :
    (∃ (v : Option Value) (vm₁ : Vm) (B : Pt), s.WarmedH vm₁ ∧ Stand p l e R s m args below meth c B.U B.locs B.cells B.slots ∧ Post ⟨T.setVm vm₁, locs, cells, slots⟩ (Value.ref a :: argsL).toArray v B ∧
      ∀ target, Steps p.tables e below (B.U.setTop { g with pc := g.pc + 3, stack := v.toList ++ rest }) target → Steps p.tables e below (T.setTop g) target) ∨
    (∃ (q : Addr) (vm₁ : Vm) (B : Pt), s.WarmedH vm₁ ∧ Stand p l e R s m args below meth c B.U B.locs B.cells B.slots ∧ PostX ⟨T.setVm vm₁, locs, cells, slots⟩ (Value.ref a :: argsL).toArray q B ∧
      Steps p.tables e below (T.setTop g) ((B.U.setTop { g with stack := rest }).pushFrame (.throwing q))) := by
  subst hg
  have hpl : e.platform.magicAccessors = ({} : Platform).magicAccessors := by rw [X.admits.platform]
  obtain ⟨mk, methM, cM, kP, vm₁, hnamed, hmethM, hcodeM, -, hlocalsM, -, hkP, -, hW₁, hstep₁⟩ := Steps.initColdArgs (e := e) X.here hexec X.warmed hpl hown hy1 hy hlink hinst hcode (f := g) rfl hlen hstack hdg
  have X₁ := X.noted hW₁
  rcases hK g.method meth c ⟨T.setVm vm₁, locs, cells, slots⟩ { g with stack := rest } (.invokespecial index) mk (Value.ref a :: argsL).toArray X₁ rfl hsize hdg hW (X₁.named hnamed) (hpre vm₁ X₁.warmed) with ⟨v, B, X', hpost, hsteps⟩ | ⟨q, B, X', hpost, hsteps⟩
  · exact Or.inl ⟨v, vm₁, B, X₁.warmed, X', hpost, fun target h => hstep₁ _ fun acts => by rw [doInvoke_state]; exact hsteps.trans h⟩
  · exact Or.inr ⟨q, vm₁, B, X₁.warmed, X', hpost, hstep₁ _ fun acts => by rw [doInvoke_state]; exact hsteps⟩
end VXIA
section VXIB
variable {p : Program} {l : Launch} {e : Env} {R : Room} {s : State} {m : MethodId} {args : Array Value} {below : List Frame} {meth : Method} {c : Code} {H : Heap} {locs : List Loc} {cells slots : Nat}
variable {y : MethodName} {bytes cc : ByteArray} {maxL nL mc ms n index : Nat} {ret : Option FieldType} {ws : List Cond} {rm : Room} {Pc : Array Value → State → Prop} {Qc : Array Value → State → Outcome → State → Prop} {XC : String → State → State → Prop} {free : Addr → Prop} {Ts : List Cond} {own C : String} {b : Addr} {As rest : List Value} {g : JFrame}
theorem vx_runI (S : CallFix p m c cc nL s args Ts own) (hM : vx_Met l y ws rm Pc Qc XC mc ms free) (cw : CallB R s args own index y bytes maxL none ws rm mc ms n ∧ y.name = "<init>" ∧ (Cond.instanceMethod y).before args s = true) (hp : PreS s H Pc (.ref b :: As))
    (hg : g.method = m) (hn : As.length = n) (hsize : g.locals.size = nL) (hstack : g.stack = As.reverse ++ .ref b :: rest) (hW : 2 * g.monitorRoom + (rest.map fun v => v.category).sum ≤ 8) (hdg : decode cc g.pc = .ok (.invokespecial index, 3)) (hf : cells + mc ≤ R.cells ∧ slots + ms ≤ R.slots) :
    vx_Run p l e R s m args below meth c H locs cells slots mc ms g rest (Qc (Value.ref b :: As).toArray) XC free := by
  have hK : vx_Back l R p e below s args y 3 8 (PreOf R mc ms Pc) (PostOf Qc mc ms free) (vx_Post XC mc ms free) := vx_callBack cw.1 hM hp.1
  obtain ⟨⟨-, -, -, -, -, -, hcode, -, hy, hlen, hl⟩, hy1, hin⟩ := cw
  obtain ⟨hx, hb, hml, ho, -⟩ := S
  have hPc := hp.2
  intro T hT X
  rcases vx_callI X hx (bytes := bytes) (maxL := maxL) ho hy1 hl hin hcode hy hK hg (hsize.trans hml.symm) (a := b) (argsL := As) (rest := rest) (fun sig h => hn.trans (hlen sig h)) hstack hW (by rw [hb]; exact hdg)
    (fun vm₁ hW₁ => ⟨hf.1, hf.2, hPc (T.setVm vm₁) hT hW₁⟩) with ⟨v, vm₁, ⟨U', l2, c2, s2⟩, hW₁, X', ⟨g', mk, t, L, e1, e2, hq, h1, hL, h2, h3⟩, st⟩ | ⟨q, vm₁, ⟨U', l2, c2, s2⟩, hW₁, X', ⟨g', mk, t, L, E, ce, e1, e2, hq, hce, hcv, hcl, h1, hL, h2, h3⟩, st⟩
  · dsimp only [Pt.U, Pt.locs, Pt.cells, Pt.slots] at X' e1 e2 h1 h2 h3 st
    subst h1; subst h2; subst h3
    exact Or.inl ⟨v, (T.setVm vm₁).calling g' mk (Value.ref b :: As).toArray, t, U', L, hT, X', hL, e1, e2, hq, st⟩
  · dsimp only [Pt.U, Pt.locs, Pt.cells, Pt.slots] at X' e1 e2 h1 h2 h3 st hcl
    subst h1; subst h2; subst h3
    exact Or.inr ⟨q, (T.setVm vm₁).calling g' mk (Value.ref b :: As).toArray, t, U', L, E, ce, hT, X', hL, e1, e2, hq, hce, hcv, vx_cls hW₁ hcl, st⟩
end VXIB
/-! ===== END ===== -/
/-! ===== BEGIN a private constructor of a nest mate that throws ===== -/
section VXIC
variable {p : Program} {l : Launch} {e : Env} {R : Room} {s : State} {m : MethodId} {args : Array Value} {below : List Frame} {meth : Method} {c : Code} {T : State} {locs : List Loc} {cells slots : Nat}
theorem vx_callIN (X : Stand p l e R s m args below meth c T locs cells slots) (hexec : p.tables.exec = Jvm.exec) {own : String} {index : Nat} {host : String} {y : MethodName} {bytes : ByteArray} {maxL : Nat}
    (hown : s.vm.findClass own = some m.cls) (hy1 : y.name = "<init>") (hlink : (Cond.methodLinkNest own index y host).before args s = true) (hinst : (Cond.instanceMethod y).before args s = true)
    (hcode : (Cond.code y bytes maxL none).before args s = true) (hy : y.cls ≠ "java/lang/invoke/MethodHandle" ∧ y.cls ≠ "java/lang/invoke/VarHandle")
    {W9 : Nat} {Pre : Pt → Array Value → Prop} {Post : Pt → Array Value → Option Value → Pt → Prop} {PostX : Pt → Array Value → Addr → Pt → Prop} (hK : vx_Back l R p e below s args y 3 W9 Pre Post PostX)
    {g : JFrame} (hg : g.method = m) (hsize : g.locals.size = c.maxLocals) {a : Addr} {argsL rest : List Value} (hlen : ∀ sig, parseMethodDescriptor y.desc = some sig → argsL.length = sig.parameters.length)
    (hstack : g.stack = argsL.reverse ++ .ref a :: rest) (hW : 2 * g.monitorRoom + (rest.map fun v => v.category).sum ≤ W9) (hdg : decode c.code g.pc = .ok (.invokespecial index, 3))
    (hpre : ∀ vm₁, s.WarmedH vm₁ → Pre ⟨T.setVm vm₁, locs, cells, slots⟩ (Value.ref a :: argsL).toArray) :
    (∃ (v : Option Value) (vm₁ : Vm) (B : Pt), s.WarmedH vm₁ ∧ Stand p l e R s m args below meth c B.U B.locs B.cells B.slots ∧ Post ⟨T.setVm vm₁, locs, cells, slots⟩ (Value.ref a :: argsL).toArray v B ∧
      ∀ target, Steps p.tables e below (B.U.setTop { g with pc := g.pc + 3, stack := v.toList ++ rest }) target → Steps p.tables e below (T.setTop g) target) ∨
    (∃ (q : Addr) (vm₁ : Vm) (B : Pt), s.WarmedH vm₁ ∧ Stand p l e R s m args below meth c B.U B.locs B.cells B.slots ∧ PostX ⟨T.setVm vm₁, locs, cells, slots⟩ (Value.ref a :: argsL).toArray q B ∧
      Steps p.tables e below (T.setTop g) ((B.U.setTop { g with stack := rest }).pushFrame (.throwing q))) := by
  subst hg
  have hpl : e.platform.magicAccessors = ({} : Platform).magicAccessors := by rw [X.admits.platform]
  obtain ⟨mk, methM, cM, kP, vm₁, hnamed, hmethM, hcodeM, -, hlocalsM, -, hkP, -, hW₁, hstep₁⟩ := Steps.initColdArgsNest (e := e) X.here hexec X.warmed hpl hown hy1 hy hlink hinst hcode (f := g) rfl hlen hstack hdg
  have X₁ := X.noted hW₁
  rcases hK g.method meth c ⟨T.setVm vm₁, locs, cells, slots⟩ { g with stack := rest } (.invokespecial index) mk (Value.ref a :: argsL).toArray X₁ rfl hsize hdg hW (X₁.named hnamed) (hpre vm₁ X₁.warmed) with ⟨v, B, X', hpost, hsteps⟩ | ⟨q, B, X', hpost, hsteps⟩
  · exact Or.inl ⟨v, vm₁, B, X₁.warmed, X', hpost, fun target h => hstep₁ _ fun acts => by rw [doInvoke_state]; exact hsteps.trans h⟩
  · exact Or.inr ⟨q, vm₁, B, X₁.warmed, X', hpost, hstep₁ _ fun acts => by rw [doInvoke_state]; exact hsteps⟩
end VXIC
section VXID
variable {p : Program} {l : Launch} {e : Env} {R : Room} {s : State} {m : MethodId} {args : Array Value} {below : List Frame} {meth : Method} {c : Code} {H : Heap} {locs : List Loc} {cells slots : Nat}
theorem vx_runIN {y : MethodName} {bytes cc : ByteArray} {maxL nL mc ms n index : Nat} {ws : List Cond} {rm : Room} {Pc : Array Value → State → Prop} {Qc : Array Value → State → Outcome → State → Prop} {XC : String → State → State → Prop} {free : Addr → Prop} {Ts : List Cond} {own host : String} {b : Addr} {As rest : List Value} {g : JFrame}
    (S : CallFix p m c cc nL s args Ts own) (hM : vx_Met l y ws rm Pc Qc XC mc ms free) (cw : va_CN R s args own index y host bytes maxL none ws rm mc ms n ∧ y.name = "<init>" ∧ (Cond.instanceMethod y).before args s = true) (hp : PreS s H Pc (.ref b :: As))
    (hg : g.method = m) (hn : As.length = n) (hsize : g.locals.size = nL) (hstack : g.stack = As.reverse ++ .ref b :: rest) (hW : 2 * g.monitorRoom + (rest.map fun v => v.category).sum ≤ 8) (hdg : decode cc g.pc = .ok (.invokespecial index, 3)) (hf : cells + mc ≤ R.cells ∧ slots + ms ≤ R.slots) :
    vx_Run p l e R s m args below meth c H locs cells slots mc ms g rest (Qc (Value.ref b :: As).toArray) XC free := by
  obtain ⟨⟨⟨hrc, hrs, hfr, hlo, hws, hcw⟩, hcode, hini, hy, hlen, hl⟩, hx1, hx2⟩ := cw
  have hK : vx_Back l R p e below s args y 3 8 (PreOf R mc ms Pc) (PostOf Qc mc ms free) (vx_Post XC mc ms free) := vx_back (bytes := bytes) (maxL := maxL) (ret := none) hM hp.1 hrc hrs hfr hlo hws hcw (fun a' U hW => word_at hW (Or.inl (by first | rfl | simp [Cond.onTables, Cond.keeps, Cond.steady])) hini)
  obtain ⟨hx, hb, hml, ho, -⟩ := S
  have hPc := hp.2
  intro T hT X
  rcases vx_callIN X hx (bytes := bytes) (maxL := maxL) ho hx1 hl hx2 hcode hy hK hg (hsize.trans hml.symm) (a := b) (argsL := As) (rest := rest) (fun sig h => hn.trans (hlen sig h)) hstack hW (by rw [hb]; exact hdg)
    (fun vm₁ hW₁ => ⟨hf.1, hf.2, hPc (T.setVm vm₁) hT hW₁⟩) with ⟨v, vm₁, ⟨U', l2, c2, s2⟩, hW₁, X', ⟨g', mk, t, L, e1, e2, hq, h1, hL, h2, h3⟩, st⟩ | ⟨q, vm₁, ⟨U', l2, c2, s2⟩, hW₁, X', ⟨g', mk, t, L, E, ce, e1, e2, hq, hce, hcv, hcl, h1, hL, h2, h3⟩, st⟩
  · dsimp only [Pt.U, Pt.locs, Pt.cells, Pt.slots] at X' e1 e2 h1 h2 h3 st
    subst h1; subst h2; subst h3
    exact Or.inl ⟨v, (T.setVm vm₁).calling g' mk (Value.ref b :: As).toArray, t, U', L, hT, X', hL, e1, e2, hq, st⟩
  · dsimp only [Pt.U, Pt.locs, Pt.cells, Pt.slots] at X' e1 e2 h1 h2 h3 st hcl
    subst h1; subst h2; subst h3
    exact Or.inr ⟨q, (T.setVm vm₁).calling g' mk (Value.ref b :: As).toArray, t, U', L, E, ce, hT, X', hL, e1, e2, hq, hce, hcv, vx_cls hW₁ hcl, st⟩
end VXID
/-! ===== END ===== -/
/-! ===== BEGIN a private method of a nest mate that may throw (follows va_callVN, va_callSN, va_runVN, va_runSN) ===== -/
section
variable {p : Program} {l : Launch} {e : Env} {R : Room} {s : State} {m : MethodId} {args : Array Value} {below : List Frame} {meth : Method} {c : Code} {H : Heap} {locs : List Loc} {cells slots : Nat}
variable {T : State}
theorem vx_callVN (X : Stand p l e R s m args below meth c T locs cells slots) (hexec : p.tables.exec = Jvm.exec) {own C : String} {index : Nat} {host : String} {y : MethodName} {bytes : ByteArray} {maxL : Nat} {ret : Option FieldType}
    (hown : s.vm.findClass own = some m.cls) (hlink : (Cond.methodLinkNest own index y host).before args s = true) (hinst : (Cond.instanceMethod y).before args s = true) (hsel : (Cond.selects C y y).before args s = true)
    (hcode : (Cond.code y bytes maxL ret).before args s = true) (hy : y.cls ≠ "java/lang/invoke/MethodHandle" ∧ y.cls ≠ "java/lang/invoke/VarHandle")
    {W : Nat} {Pre : Pt → Array Value → Prop} {Post : Pt → Array Value → Option Value → Pt → Prop} {PostX : Pt → Array Value → Addr → Pt → Prop} (hK : vx_Back l R p e below s args y 3 W Pre Post PostX)
    {b : Addr} {cellB : Cell} (hcell : T.heap[b]? = some cellB) (hobj : cellB.vm.isStatics = false) (hcls : s.vm.findClass C = some cellB.cls)
    {g : JFrame} (hg : g.method = m) (hsize : g.locals.size = c.maxLocals) {argsL rest : List Value} (hlen : ∀ sig, parseMethodDescriptor y.desc = some sig → argsL.length = sig.parameters.length)
    (hstack : g.stack = argsL.reverse ++ .ref b :: rest) (hW : 2 * g.monitorRoom + (rest.map fun v => v.category).sum ≤ W) (hdg : decode c.code g.pc = .ok (.invokevirtual index, 3))
    (hpre : ∀ vm₁, s.WarmedH vm₁ → Pre ⟨T.setVm vm₁, locs, cells, slots⟩ (Value.ref b :: argsL).toArray) :
    (∃ (v : Option Value) (vm₁ : Vm) (B : Pt), s.WarmedH vm₁ ∧ Stand p l e R s m args below meth c B.U B.locs B.cells B.slots ∧ Post ⟨T.setVm vm₁, locs, cells, slots⟩ (Value.ref b :: argsL).toArray v B ∧
      ∀ target, Steps p.tables e below (B.U.setTop { g with pc := g.pc + 3, stack := v.toList ++ rest }) target → Steps p.tables e below (T.setTop g) target) ∨
    (∃ (q : Addr) (vm₁ : Vm) (B : Pt), s.WarmedH vm₁ ∧ Stand p l e R s m args below meth c B.U B.locs B.cells B.slots ∧ PostX ⟨T.setVm vm₁, locs, cells, slots⟩ (Value.ref b :: argsL).toArray q B ∧
      Steps p.tables e below (T.setTop g) ((B.U.setTop { g with stack := rest }).pushFrame (.throwing q))) := by
  obtain ⟨mk, methM, hnamed, hmethM, hstM, habM⟩ := Cond.instanceMethod_spec hinst
  obtain ⟨methM', cM, hmethM', -, -, -, -, -, -, hsigM⟩ := Cond.code_spec hnamed hcode
  cases hmethM.symm.trans hmethM'
  obtain ⟨c2, r2, m2, q1, q2, q3, q4, kP, hkP, hkPi⟩ := Cond.selects_spec hsel
  cases hcls.symm.trans q1
  cases (State.methodFound?_of_named hnamed hy).symm.trans q2
  cases hnamed.symm.trans q3
  have hselP : selectMethod e.platform s.vm cellB.cls mk = .method mk := by rw [Launch.admits_selectMethod X.admits]; exact q4
  obtain ⟨vm₁, X₁, hstep₁⟩ := X.invokevirtualNest hexec hown hlink hnamed hmethM hstM hkP hkPi hy (a := b) (cell := cellB) hcell
    (fun z h => by rw [h] at hobj; cases hobj) hselP hmethM habM hkP hkPi (g := g) hg (argsL := argsL) (rest := rest) (hlen _ hsigM) hstack hdg
  rcases hK m meth c ⟨T.setVm vm₁, locs, cells, slots⟩ { g with stack := rest } (.invokevirtual index) mk (Value.ref b :: argsL).toArray X₁ hg hsize hdg hW (X₁.named hnamed) (hpre vm₁ X₁.warmed) with ⟨v, B, X', hpost, hsteps⟩ | ⟨q, B, X', hpost, hsteps⟩
  · exact Or.inl ⟨v, vm₁, B, X₁.warmed, X', hpost, fun target h => hstep₁ _ fun acts => by rw [doInvoke_state]; exact hsteps.trans h⟩
  · exact Or.inr ⟨q, vm₁, B, X₁.warmed, X', hpost, hstep₁ _ fun acts => by rw [doInvoke_state]; exact hsteps⟩
theorem vx_callSN (X : Stand p l e R s m args below meth c T locs cells slots) (hexec : p.tables.exec = Jvm.exec) {own : String} {index : Nat} {host : String} {y : MethodName} {bytes : ByteArray} {maxL : Nat} {ret : Option FieldType}
    (hown : s.vm.findClass own = some m.cls) (hlink : (Cond.methodLinkNest own index y host).before args s = true) (hstat : (Cond.static y).before args s = true) (hinit : (Cond.initialized y.cls).before args s = true)
    (hcode : (Cond.code y bytes maxL ret).before args s = true) (hy : y.cls ≠ "java/lang/invoke/MethodHandle" ∧ y.cls ≠ "java/lang/invoke/VarHandle")
    {W : Nat} {Pre : Pt → Array Value → Prop} {Post : Pt → Array Value → Option Value → Pt → Prop} {PostX : Pt → Array Value → Addr → Pt → Prop} (hK : vx_Back l R p e below s args y 3 W Pre Post PostX)
    {g : JFrame} (hg : g.method = m) (hsize : g.locals.size = c.maxLocals) {argsL rest : List Value} (hlen : ∀ sig, parseMethodDescriptor y.desc = some sig → argsL.length = sig.parameters.length)
    (hstack : g.stack = argsL.reverse ++ rest) (hW : 2 * g.monitorRoom + (rest.map fun v => v.category).sum ≤ W) (hdg : decode c.code g.pc = .ok (.invokestatic index, 3))
    (hpre : ∀ vm₁, s.WarmedH vm₁ → Pre ⟨T.setVm vm₁, locs, cells, slots⟩ argsL.toArray) :
    (∃ (v : Option Value) (vm₁ : Vm) (B : Pt), s.WarmedH vm₁ ∧ Stand p l e R s m args below meth c B.U B.locs B.cells B.slots ∧ Post ⟨T.setVm vm₁, locs, cells, slots⟩ argsL.toArray v B ∧
      ∀ target, Steps p.tables e below (B.U.setTop { g with pc := g.pc + 3, stack := v.toList ++ rest }) target → Steps p.tables e below (T.setTop g) target) ∨
    (∃ (q : Addr) (vm₁ : Vm) (B : Pt), s.WarmedH vm₁ ∧ Stand p l e R s m args below meth c B.U B.locs B.cells B.slots ∧ PostX ⟨T.setVm vm₁, locs, cells, slots⟩ argsL.toArray q B ∧
      Steps p.tables e below (T.setTop g) ((B.U.setTop { g with stack := rest }).pushFrame (.throwing q))) := by
  obtain ⟨mk, hnamed⟩ := Cond.code_named hcode
  obtain ⟨methM, cM, hmethM, -, -, -, -, -, -, hsigM⟩ := Cond.code_spec hnamed hcode
  have hstatic : methM.isStatic = true := Cond.static_spec hnamed hmethM hstat
  obtain ⟨kP, hkP, -⟩ := className_of_methodNamed hnamed
  have hinitP : kP.init = .initialized := Cond.initialized_spec (findClass_of_methodNamed hnamed) hkP hinit
  obtain ⟨vm₁, X₁, hstep₁⟩ := X.invokestaticNest hexec hown hlink hnamed hmethM hstatic hkP hinitP hy (g := g) hg (argsL := argsL) (rest := rest) (hlen _ hsigM) hstack hdg
  rcases hK m meth c ⟨T.setVm vm₁, locs, cells, slots⟩ { g with stack := rest } (.invokestatic index) mk argsL.toArray X₁ hg hsize hdg hW (X₁.named hnamed) (hpre vm₁ X₁.warmed) with ⟨v, B, X', hpost, hsteps⟩ | ⟨q, B, X', hpost, hsteps⟩
  · exact Or.inl ⟨v, vm₁, B, X₁.warmed, X', hpost, fun target h => hstep₁ _ fun acts => by rw [doInvoke_state]; exact hsteps.trans h⟩
  · exact Or.inr ⟨q, vm₁, B, X₁.warmed, X', hpost, hstep₁ _ fun acts => by rw [doInvoke_state]; exact hsteps⟩
theorem vx_runVN {y : MethodName} {bytes cc : ByteArray} {maxL nL mc ms n index : Nat} {ret : Option FieldType} {ws : List Cond} {rm : Room} {Pc : Array Value → State → Prop} {Qc : Array Value → State → Outcome → State → Prop} {XC : String → State → State → Prop} {free : Addr → Prop} {Ts : List Cond} {own C host : String} {b : Addr} {As rest : List Value} {g : JFrame}
    (S : CallFix p m c cc nL s args Ts own) (hM : vx_Met l y ws rm Pc Qc XC mc ms free) (cw : va_CN R s args own index y host bytes maxL ret ws rm mc ms n ∧ (Cond.instanceMethod y).before args s = true ∧ (Cond.selects C y y).before args s = true) (hp : PreV s H C b Pc As)
    (hg : g.method = m) (hn : As.length = n) (hsize : g.locals.size = nL) (hstack : g.stack = As.reverse ++ .ref b :: rest) (hW : 2 * g.monitorRoom + (rest.map fun v => v.category).sum ≤ 8) (hdg : decode cc g.pc = .ok (.invokevirtual index, 3)) (hf : cells + mc ≤ R.cells ∧ slots + ms ≤ R.slots) :
    vx_Run p l e R s m args below meth c H locs cells slots mc ms g rest (Qc (Value.ref b :: As).toArray) XC free := by
  obtain ⟨⟨⟨hrc, hrs, hfr, hlo, hws, hcw⟩, hcode, hini, hy, hlen, hl⟩, hx1, hx2⟩ := cw
  have hK : vx_Back l R p e below s args y 3 8 (PreOf R mc ms Pc) (PostOf Qc mc ms free) (vx_Post XC mc ms free) := vx_back (bytes := bytes) (maxL := maxL) (ret := ret) hM hp.1 hrc hrs hfr hlo hws hcw (fun a' U hW => word_at hW (Or.inl (by first | rfl | simp [Cond.onTables, Cond.keeps, Cond.steady])) hini)
  obtain ⟨hx, hb, hml, ho, -⟩ := S
  obtain ⟨-, ⟨cellB, hcB, hoB, hclB⟩, hPc⟩ := hp
  intro T hT X
  rcases vx_callVN X hx (C := C) (bytes := bytes) (maxL := maxL) (ret := ret) ho hl hx1 hx2 hcode hy hK (by rw [hT]; exact hcB) hoB hclB hg (hsize.trans hml.symm) (argsL := As) (rest := rest) (fun sig h => hn.trans (hlen sig h)) hstack hW (by rw [hb]; exact hdg)
    (fun vm₁ hW₁ => ⟨hf.1, hf.2, hPc (T.setVm vm₁) hT hW₁⟩) with ⟨v, vm₁, ⟨U', l2, c2, s2⟩, hW₁, X', ⟨g', mk, t, L, e1, e2, hq, h1, hL, h2, h3⟩, st⟩ | ⟨q, vm₁, ⟨U', l2, c2, s2⟩, hW₁, X', ⟨g', mk, t, L, E, ce, e1, e2, hq, hce, hcv, hcl, h1, hL, h2, h3⟩, st⟩
  · dsimp only [Pt.U, Pt.locs, Pt.cells, Pt.slots] at X' e1 e2 h1 h2 h3 st
    subst h1; subst h2; subst h3
    exact Or.inl ⟨v, (T.setVm vm₁).calling g' mk (Value.ref b :: As).toArray, t, U', L, hT, X', hL, e1, e2, hq, st⟩
  · dsimp only [Pt.U, Pt.locs, Pt.cells, Pt.slots] at X' e1 e2 h1 h2 h3 st hcl
    subst h1; subst h2; subst h3
    exact Or.inr ⟨q, (T.setVm vm₁).calling g' mk (Value.ref b :: As).toArray, t, U', L, E, ce, hT, X', hL, e1, e2, hq, hce, hcv, vx_cls hW₁ hcl, st⟩
theorem vx_runSN {y : MethodName} {bytes cc : ByteArray} {maxL nL mc ms n index : Nat} {ret : Option FieldType} {ws : List Cond} {rm : Room} {Pc : Array Value → State → Prop} {Qc : Array Value → State → Outcome → State → Prop} {XC : String → State → State → Prop} {free : Addr → Prop} {Ts : List Cond} {own host : String} {As rest : List Value} {g : JFrame}
    (S : CallFix p m c cc nL s args Ts own) (hM : vx_Met l y ws rm Pc Qc XC mc ms free) (cw : va_CN R s args own index y host bytes maxL ret ws rm mc ms n ∧ (Cond.static y).before args s = true ∧ True) (hp : PreS s H Pc As)
    (hg : g.method = m) (hn : As.length = n) (hsize : g.locals.size = nL) (hstack : g.stack = As.reverse ++ rest) (hW : 2 * g.monitorRoom + (rest.map fun v => v.category).sum ≤ 8) (hdg : decode cc g.pc = .ok (.invokestatic index, 3)) (hf : cells + mc ≤ R.cells ∧ slots + ms ≤ R.slots) :
    vx_Run p l e R s m args below meth c H locs cells slots mc ms g rest (Qc As.toArray) XC free := by
  obtain ⟨⟨⟨hrc, hrs, hfr, hlo, hws, hcw⟩, hcode, hini, hy, hlen, hl⟩, hx1, hx2⟩ := cw
  have hK : vx_Back l R p e below s args y 3 8 (PreOf R mc ms Pc) (PostOf Qc mc ms free) (vx_Post XC mc ms free) := vx_back (bytes := bytes) (maxL := maxL) (ret := ret) hM hp.1 hrc hrs hfr hlo hws hcw (fun a' U hW => word_at hW (Or.inl (by first | rfl | simp [Cond.onTables, Cond.keeps, Cond.steady])) hini)
  obtain ⟨hx, hb, hml, ho, -⟩ := S
  have hPc := hp.2
  intro T hT X
  rcases vx_callSN X hx (bytes := bytes) (maxL := maxL) (ret := ret) ho hl hx1 hini hcode hy hK hg (hsize.trans hml.symm) (argsL := As) (rest := rest) (fun sig h => hn.trans (hlen sig h)) hstack hW (by rw [hb]; exact hdg)
    (fun vm₁ hW₁ => ⟨hf.1, hf.2, hPc (T.setVm vm₁) hT hW₁⟩) with ⟨v, vm₁, ⟨U', l2, c2, s2⟩, hW₁, X', ⟨g', mk, t, L, e1, e2, hq, h1, hL, h2, h3⟩, st⟩ | ⟨q, vm₁, ⟨U', l2, c2, s2⟩, hW₁, X', ⟨g', mk, t, L, E, ce, e1, e2, hq, hce, hcv, hcl, h1, hL, h2, h3⟩, st⟩
  · dsimp only [Pt.U, Pt.locs, Pt.cells, Pt.slots] at X' e1 e2 h1 h2 h3 st
    subst h1; subst h2; subst h3
    exact Or.inl ⟨v, (T.setVm vm₁).calling g' mk As.toArray, t, U', L, hT, X', hL, e1, e2, hq, st⟩
  · dsimp only [Pt.U, Pt.locs, Pt.cells, Pt.slots] at X' e1 e2 h1 h2 h3 st hcl
    subst h1; subst h2; subst h3
    exact Or.inr ⟨q, (T.setVm vm₁).calling g' mk As.toArray, t, U', L, E, ce, hT, X', hL, e1, e2, hq, hce, hcv, vx_cls hW₁ hcl, st⟩
end
/-! ===== END ===== -/
end
section
def RX0 : String := "IceHarbour$Boat"
def TX0 : u_T := fun k => match k with
  | 0 => ("IceHarbour$Boat", "owner", "I", false)
  | 1 => ("IceHarbour$Boat", "hull", "I", false)
  | 2 => ("IceHarbour$Boat", "room", "I", false)
  | 3 => ("IceHarbour$Boat", "place", "I", false)
  | 4 => ("IceHarbour$Boat", "harbour", "I", false)
  | 5 => ("IceHarbour$Boat", "onLeg", "I", false)
  | 6 => ("IceHarbour$Boat", "goal", "I", false)
  | 7 => ("IceHarbour$Boat", "daysToGo", "I", false)
  | _ => ("IceHarbour$Boat", "cargo", "[I", true)
def tyX0 : Nat → FieldType := fun k => match k with
  | 0 => .int
  | 1 => .int
  | 2 => .int
  | 3 => .int
  | 4 => .int
  | 5 => .int
  | 6 => .int
  | 7 => .int
  | _ => .array .int
abbrev wsX00 : List Cond := u_ws RX0 TX0 9
theorem nmX0 : ∀ a, a < 9 → ∀ b, b < 9 → a ≠ b → (TX0 a).2.1 ≠ (TX0 b).2.1 := by decide +kernel
theorem tyX0_ok : ∀ k, k < 9 → parseFieldDescriptor (TX0 k).2.2.1 = some (tyX0 k) := by decide +kernel
abbrev cX0_init : ByteArray := prog_2_method_1_code
def yX0_init : MethodName := ⟨RX0, "<init>", "()V"⟩
abbrev cX0_launch : ByteArray := prog_2_method_2_code
def yX0_launch : MethodName := ⟨RX0, "launch", "(III)V"⟩
abbrev cX0_copyFrom : ByteArray := prog_2_method_3_code
def yX0_copyFrom : MethodName := ⟨RX0, "copyFrom", "(LIceHarbour$Boat;)V"⟩
abbrev cX0_isInHarbour : ByteArray := prog_2_method_4_code
def yX0_isInHarbour : MethodName := ⟨RX0, "isInHarbour", "()Z"⟩
abbrev cX0_isAtGoal : ByteArray := prog_2_method_5_code
def yX0_isAtGoal : MethodName := ⟨RX0, "isAtGoal", "()Z"⟩
abbrev cX0_allCargo : ByteArray := prog_2_method_6_code
def yX0_allCargo : MethodName := ⟨RX0, "allCargo", "()I"⟩
abbrev cX0_loseHull : ByteArray := prog_2_method_7_code
def yX0_loseHull : MethodName := ⟨RX0, "loseHull", "()V"⟩
def RX1 : String := "IceHarbour$Debt"
def TX1 : u_T := fun k => match k with
  | 0 => ("IceHarbour$Debt", "lender", "I", false)
  | 1 => ("IceHarbour$Debt", "debtor", "I", false)
  | 2 => ("IceHarbour$Debt", "harbour", "I", false)
  | 3 => ("IceHarbour$Debt", "good", "I", false)
  | 4 => ("IceHarbour$Debt", "many", "I", false)
  | 5 => ("IceHarbour$Debt", "dueDay", "I", false)
  | _ => ("IceHarbour$Debt", "state", "I", false)
def tyX1 : Nat → FieldType := fun k => match k with
  | 0 => .int
  | 1 => .int
  | 2 => .int
  | 3 => .int
  | 4 => .int
  | 5 => .int
  | _ => .int
abbrev wsX10 : List Cond := u_ws RX1 TX1 7
theorem nmX1 : ∀ a, a < 7 → ∀ b, b < 7 → a ≠ b → (TX1 a).2.1 ≠ (TX1 b).2.1 := by decide +kernel
theorem tyX1_ok : ∀ k, k < 7 → parseFieldDescriptor (TX1 k).2.2.1 = some (tyX1 k) := by decide +kernel
abbrev cX1_init : ByteArray := prog_3_method_1_code
def yX1_init : MethodName := ⟨RX1, "<init>", "()V"⟩
abbrev cX1_open : ByteArray := prog_3_method_2_code
def yX1_open : MethodName := ⟨RX1, "open", "(IIIIII)V"⟩
abbrev cX1_copyFrom : ByteArray := prog_3_method_3_code
def yX1_copyFrom : MethodName := ⟨RX1, "copyFrom", "(LIceHarbour$Debt;)V"⟩
def RX2 : String := "IceHarbour$Merchant"
def TX2 : u_T := fun k => match k with
  | 0 => ("IceHarbour$Merchant", "coins", "I", false)
  | _ => ("IceHarbour$Merchant", "stocks", "[I", true)
def tyX2 : Nat → FieldType := fun k => match k with
  | 0 => .int
  | _ => .array .int
abbrev wsX20 : List Cond := u_ws RX2 TX2 2
theorem nmX2 : ∀ a, a < 2 → ∀ b, b < 2 → a ≠ b → (TX2 a).2.1 ≠ (TX2 b).2.1 := by decide +kernel
theorem tyX2_ok : ∀ k, k < 2 → parseFieldDescriptor (TX2 k).2.2.1 = some (tyX2 k) := by decide +kernel
abbrev cX2_init : ByteArray := prog_4_method_1_code
def yX2_init : MethodName := ⟨RX2, "<init>", "()V"⟩
abbrev cX2_copyFrom : ByteArray := prog_4_method_2_code
def yX2_copyFrom : MethodName := ⟨RX2, "copyFrom", "(LIceHarbour$Merchant;)V"⟩
def RX3 : String := "IceHarbour$River"
def TX3 : u_T := fun k => match k with
  | 0 => ("IceHarbour$River", "day", "I", false)
  | 1 => ("IceHarbour$River", "harbours", "I", false)
  | 2 => ("IceHarbour$River", "warm", "[I", true)
  | 3 => ("IceHarbour$River", "legDays", "[I", true)
  | 4 => ("IceHarbour$River", "ice", "[I", true)
  | 5 => ("IceHarbour$River", "berths", "[I", true)
  | _ => ("IceHarbour$River", "prices", "[I", true)
def tyX3 : Nat → FieldType := fun k => match k with
  | 0 => .int
  | 1 => .int
  | 2 => .array .int
  | 3 => .array .int
  | 4 => .array .int
  | 5 => .array .int
  | _ => .array .int
abbrev wsX30 : List Cond := u_ws RX3 TX3 7
theorem nmX3 : ∀ a, a < 7 → ∀ b, b < 7 → a ≠ b → (TX3 a).2.1 ≠ (TX3 b).2.1 := by decide +kernel
theorem tyX3_ok : ∀ k, k < 7 → parseFieldDescriptor (TX3 k).2.2.1 = some (tyX3 k) := by decide +kernel
abbrev cX3_init : ByteArray := prog_5_method_1_code
def yX3_init : MethodName := ⟨RX3, "<init>", "()V"⟩
abbrev cX3_copyFrom : ByteArray := prog_5_method_2_code
def yX3_copyFrom : MethodName := ⟨RX3, "copyFrom", "(LIceHarbour$River;)V"⟩
abbrev cX3_grow : ByteArray := prog_5_method_3_code
def yX3_grow : MethodName := ⟨RX3, "grow", "(II)I"⟩
abbrev cX3_legs : ByteArray := prog_5_method_4_code
def yX3_legs : MethodName := ⟨RX3, "legs", "()I"⟩
abbrev cX3_isOpen : ByteArray := prog_5_method_5_code
def yX3_isOpen : MethodName := ⟨RX3, "isOpen", "(I)Z"⟩
abbrev cX3_openLegs : ByteArray := prog_5_method_6_code
def yX3_openLegs : MethodName := ⟨RX3, "openLegs", "()I"⟩
abbrev cX3_iceAtHarbour : ByteArray := prog_5_method_7_code
def yX3_iceAtHarbour : MethodName := ⟨RX3, "iceAtHarbour", "(I)I"⟩
abbrev cX3_warmOn : ByteArray := prog_5_method_8_code
def yX3_warmOn : MethodName := ⟨RX3, "warmOn", "(I)I"⟩
abbrev cX3_freezeOrThaw : ByteArray := prog_5_method_9_code
def yX3_freezeOrThaw : MethodName := ⟨RX3, "freezeOrThaw", "()V"⟩
abbrev cX3_daysOver : ByteArray := prog_5_method_10_code
def yX3_daysOver : MethodName := ⟨RX3, "daysOver", "(IZ)I"⟩
abbrev cX3_wayDays : ByteArray := prog_5_method_11_code
def yX3_wayDays : MethodName := ⟨RX3, "wayDays", "(II)I"⟩
def RX4 : String := "IceHarbour$World"
def TX4 : u_T := fun k => match k with
  | 0 => ("IceHarbour$World", "river", "LIceHarbour$River;", true)
  | 1 => ("IceHarbour$World", "merchantCount", "I", false)
  | 2 => ("IceHarbour$World", "boatCount", "I", false)
  | 3 => ("IceHarbour$World", "debtCount", "I", false)
  | 4 => ("IceHarbour$World", "merchants", "[LIceHarbour$Merchant;", true)
  | 5 => ("IceHarbour$World", "boats", "[LIceHarbour$Boat;", true)
  | _ => ("IceHarbour$World", "debts", "[LIceHarbour$Debt;", true)
def tyX4 : Nat → FieldType := fun k => match k with
  | 0 => .object "IceHarbour$River"
  | 1 => .int
  | 2 => .int
  | 3 => .int
  | 4 => .array (.object "IceHarbour$Merchant")
  | 5 => .array (.object "IceHarbour$Boat")
  | _ => .array (.object "IceHarbour$Debt")
abbrev wsX40 : List Cond := u_ws RX4 TX4 7
theorem nmX4 : ∀ a, a < 7 → ∀ b, b < 7 → a ≠ b → (TX4 a).2.1 ≠ (TX4 b).2.1 := by decide +kernel
theorem tyX4_ok : ∀ k, k < 7 → parseFieldDescriptor (TX4 k).2.2.1 = some (tyX4 k) := by decide +kernel
abbrev cX4_init : ByteArray := prog_6_method_1_code
def yX4_init : MethodName := ⟨RX4, "<init>", "()V"⟩
abbrev cX4_copyFrom : ByteArray := prog_6_method_2_code
def yX4_copyFrom : MethodName := ⟨RX4, "copyFrom", "(LIceHarbour$World;)V"⟩
abbrev cX4_boatsIn : ByteArray := prog_6_method_3_code
def yX4_boatsIn : MethodName := ⟨RX4, "boatsIn", "(I)I"⟩
abbrev cX4_boatsLying : ByteArray := prog_6_method_4_code
def yX4_boatsLying : MethodName := ⟨RX4, "boatsLying", "(II)I"⟩
abbrev cX4_boatsOnLeg : ByteArray := prog_6_method_5_code
def yX4_boatsOnLeg : MethodName := ⟨RX4, "boatsOnLeg", "(I)I"⟩
abbrev cX4_boatsAfloatOf : ByteArray := prog_6_method_6_code
def yX4_boatsAfloatOf : MethodName := ⟨RX4, "boatsAfloatOf", "(I)I"⟩
abbrev cX4_cargoOf : ByteArray := prog_6_method_7_code
def yX4_cargoOf : MethodName := ⟨RX4, "cargoOf", "(I)I"⟩
abbrev cX4_openDebts : ByteArray := prog_6_method_8_code
def yX4_openDebts : MethodName := ⟨RX4, "openDebts", "()I"⟩
abbrev cX4_debtsOf : ByteArray := prog_6_method_9_code
def yX4_debtsOf : MethodName := ⟨RX4, "debtsOf", "(II)I"⟩
abbrev cX4_allCoins : ByteArray := prog_6_method_10_code
def yX4_allCoins : MethodName := ⟨RX4, "allCoins", "()I"⟩
abbrev cX4_freeBerths : ByteArray := prog_6_method_11_code
def yX4_freeBerths : MethodName := ⟨RX4, "freeBerths", "(I)I"⟩
abbrev cX4_berthAtGoal : ByteArray := prog_6_method_12_code
def yX4_berthAtGoal : MethodName := ⟨RX4, "berthAtGoal", "(LIceHarbour$Boat;)V"⟩
abbrev cX4_hand : ByteArray := prog_6_method_13_code
def yX4_hand : MethodName := ⟨RX4, "hand", "(IIII)V"⟩
abbrev cX4_passDay : ByteArray := prog_6_method_14_code
def yX4_passDay : MethodName := ⟨RX4, "passDay", "()V"⟩
abbrev cX4_payForBerth : ByteArray := prog_6_method_15_code
def yX4_payForBerth : MethodName := ⟨RX4, "payForBerth", "(LIceHarbour$Boat;)V"⟩
abbrev cX4_goOn : ByteArray := prog_6_method_16_code
def yX4_goOn : MethodName := ⟨RX4, "goOn", "(LIceHarbour$Boat;)V"⟩
abbrev cX4_setOut : ByteArray := prog_6_method_17_code
def yX4_setOut : MethodName := ⟨RX4, "setOut", "(LIceHarbour$Boat;)V"⟩
abbrev cX4_bearIce : ByteArray := prog_6_method_18_code
def yX4_bearIce : MethodName := ⟨RX4, "bearIce", "(LIceHarbour$Boat;)V"⟩
abbrev cX4_settle : ByteArray := prog_6_method_19_code
def yX4_settle : MethodName := ⟨RX4, "settle", "(LIceHarbour$Debt;)V"⟩
def RX5 : String := "IceHarbour"
def TX5 : u_T := fun k => match k with
  | 0 => ("IceHarbour", "world", "LIceHarbour$World;", true)
  | 1 => ("IceHarbour", "river", "LIceHarbour$River;", true)
  | 2 => ("IceHarbour", "trial", "LIceHarbour$World;", true)
  | _ => ("IceHarbour", "iceAhead", "[[I", true)
def tyX5 : Nat → FieldType := fun k => match k with
  | 0 => .object "IceHarbour$World"
  | 1 => .object "IceHarbour$River"
  | 2 => .object "IceHarbour$World"
  | _ => .array (.array .int)
abbrev wsX50 : List Cond := u_ws RX5 TX5 4
theorem nmX5 : ∀ a, a < 4 → ∀ b, b < 4 → a ≠ b → (TX5 a).2.1 ≠ (TX5 b).2.1 := by decide +kernel
theorem tyX5_ok : ∀ k, k < 4 → parseFieldDescriptor (TX5 k).2.2.1 = some (tyX5 k) := by decide +kernel
abbrev cX5_init : ByteArray := prog_1_method_1_code
def yX5_init : MethodName := ⟨RX5, "<init>", "()V"⟩
abbrev cX5_setWarm : ByteArray := prog_1_method_2_code
def yX5_setWarm : MethodName := ⟨RX5, "setWarm", "(II)I"⟩
abbrev cX5_addHarbour : ByteArray := prog_1_method_3_code
def yX5_addHarbour : MethodName := ⟨RX5, "addHarbour", "(II)I"⟩
abbrev cX5_setPrice : ByteArray := prog_1_method_4_code
def yX5_setPrice : MethodName := ⟨RX5, "setPrice", "(III)I"⟩
abbrev cX5_harbour : ByteArray := prog_1_method_5_code
def yX5_harbour : MethodName := ⟨RX5, "harbour", "(II)I"⟩
abbrev cX5_leg : ByteArray := prog_1_method_6_code
def yX5_leg : MethodName := ⟨RX5, "leg", "(II)I"⟩
abbrev cX5_addMerchant : ByteArray := prog_1_method_7_code
def yX5_addMerchant : MethodName := ⟨RX5, "addMerchant", "(I)I"⟩
abbrev cX5_bring : ByteArray := prog_1_method_8_code
def yX5_bring : MethodName := ⟨RX5, "bring", "(IIII)I"⟩
abbrev cX5_sell : ByteArray := prog_1_method_9_code
def yX5_sell : MethodName := ⟨RX5, "sell", "(IIII)I"⟩
abbrev cX5_stock : ByteArray := prog_1_method_10_code
def yX5_stock : MethodName := ⟨RX5, "stock", "(III)I"⟩
abbrev cX5_merchant : ByteArray := prog_1_method_11_code
def yX5_merchant : MethodName := ⟨RX5, "merchant", "(II)I"⟩
abbrev cX5_build : ByteArray := prog_1_method_12_code
def yX5_build : MethodName := ⟨RX5, "build", "(III)I"⟩
abbrev cX5_load : ByteArray := prog_1_method_13_code
def yX5_load : MethodName := ⟨RX5, "load", "(III)I"⟩
abbrev cX5_send : ByteArray := prog_1_method_14_code
def yX5_send : MethodName := ⟨RX5, "send", "(II)I"⟩
abbrev cX5_berth : ByteArray := prog_1_method_15_code
def yX5_berth : MethodName := ⟨RX5, "berth", "(IZ)I"⟩
abbrev cX5_mend : ByteArray := prog_1_method_16_code
def yX5_mend : MethodName := ⟨RX5, "mend", "(I)I"⟩
abbrev cX5_boat : ByteArray := prog_1_method_17_code
def yX5_boat : MethodName := ⟨RX5, "boat", "(II)I"⟩
abbrev cX5_lend : ByteArray := prog_1_method_18_code
def yX5_lend : MethodName := ⟨RX5, "lend", "(IIIIII)I"⟩
abbrev cX5_repay : ByteArray := prog_1_method_19_code
def yX5_repay : MethodName := ⟨RX5, "repay", "(II)I"⟩
abbrev cX5_debt : ByteArray := prog_1_method_20_code
def yX5_debt : MethodName := ⟨RX5, "debt", "(II)I"⟩
abbrev cX5_pass : ByteArray := prog_1_method_21_code
def yX5_pass : MethodName := ⟨RX5, "pass", "(I)I"⟩
abbrev cX5_count : ByteArray := prog_1_method_22_code
def yX5_count : MethodName := ⟨RX5, "count", "(I)I"⟩
abbrev cX5_opens : ByteArray := prog_1_method_23_code
def yX5_opens : MethodName := ⟨RX5, "opens", "(I)I"⟩
abbrev cX5_arrives : ByteArray := prog_1_method_24_code
def yX5_arrives : MethodName := ⟨RX5, "arrives", "(I)I"⟩
abbrev cX5_latest : ByteArray := prog_1_method_25_code
def yX5_latest : MethodName := ⟨RX5, "latest", "(II)I"⟩
abbrev cX5_advise : ByteArray := prog_1_method_26_code
def yX5_advise : MethodName := ⟨RX5, "advise", "(II)I"⟩
abbrev cX5_mean : ByteArray := prog_1_method_27_code
def yX5_mean : MethodName := ⟨RX5, "mean", "()D"⟩
abbrev cX5_digest : ByteArray := prog_1_method_28_code
def yX5_digest : MethodName := ⟨RX5, "digest", "()J"⟩
abbrev cX5_needIndex : ByteArray := prog_1_method_29_code
def yX5_needIndex : MethodName := ⟨RX5, "needIndex", "(II)V"⟩
abbrev cX5_needNumber : ByteArray := prog_1_method_30_code
def yX5_needNumber : MethodName := ⟨RX5, "needNumber", "(III)V"⟩
abbrev cX5_needAtLeast : ByteArray := prog_1_method_31_code
def yX5_needAtLeast : MethodName := ⟨RX5, "needAtLeast", "(II)V"⟩
abbrev cX5_needRoomForOneMore : ByteArray := prog_1_method_32_code
def yX5_needRoomForOneMore : MethodName := ⟨RX5, "needRoomForOneMore", "(II)V"⟩
abbrev cX5_needEnough : ByteArray := prog_1_method_33_code
def yX5_needEnough : MethodName := ⟨RX5, "needEnough", "(II)V"⟩
abbrev cX5_needInHarbour : ByteArray := prog_1_method_34_code
def yX5_needInHarbour : MethodName := ⟨RX5, "needInHarbour", "(LIceHarbour$Boat;)V"⟩
abbrev cX5_needHarbour : ByteArray := prog_1_method_35_code
def yX5_needHarbour : MethodName := ⟨RX5, "needHarbour", "(I)V"⟩
abbrev cX5_needLeg : ByteArray := prog_1_method_36_code
def yX5_needLeg : MethodName := ⟨RX5, "needLeg", "(I)V"⟩
abbrev cX5_needMerchant : ByteArray := prog_1_method_37_code
def yX5_needMerchant : MethodName := ⟨RX5, "needMerchant", "(I)V"⟩
abbrev cX5_needBoat : ByteArray := prog_1_method_38_code
def yX5_needBoat : MethodName := ⟨RX5, "needBoat", "(I)V"⟩
abbrev cX5_countFact : ByteArray := prog_1_method_39_code
def yX5_countFact : MethodName := ⟨RX5, "countFact", "(I)I"⟩
abbrev cX5_harbourFact : ByteArray := prog_1_method_40_code
def yX5_harbourFact : MethodName := ⟨RX5, "harbourFact", "(II)I"⟩
abbrev cX5_legFact : ByteArray := prog_1_method_41_code
def yX5_legFact : MethodName := ⟨RX5, "legFact", "(II)I"⟩
abbrev cX5_merchantFact : ByteArray := prog_1_method_42_code
def yX5_merchantFact : MethodName := ⟨RX5, "merchantFact", "(II)I"⟩
abbrev cX5_boatFact : ByteArray := prog_1_method_43_code
def yX5_boatFact : MethodName := ⟨RX5, "boatFact", "(LIceHarbour$Boat;I)I"⟩
abbrev cX5_debtFact : ByteArray := prog_1_method_44_code
def yX5_debtFact : MethodName := ⟨RX5, "debtFact", "(LIceHarbour$Debt;I)I"⟩
abbrev cX5_mix : ByteArray := prog_1_method_45_code
def yX5_mix : MethodName := ⟨RX5, "mix", "(JI)J"⟩
abbrev cX5_mixHarbours : ByteArray := prog_1_method_46_code
def yX5_mixHarbours : MethodName := ⟨RX5, "mixHarbours", "(J)J"⟩
abbrev cX5_mixLegs : ByteArray := prog_1_method_47_code
def yX5_mixLegs : MethodName := ⟨RX5, "mixLegs", "(J)J"⟩
abbrev cX5_mixMerchants : ByteArray := prog_1_method_48_code
def yX5_mixMerchants : MethodName := ⟨RX5, "mixMerchants", "(J)J"⟩
abbrev cX5_mixBoats : ByteArray := prog_1_method_49_code
def yX5_mixBoats : MethodName := ⟨RX5, "mixBoats", "(J)J"⟩
abbrev cX5_mixDebts : ByteArray := prog_1_method_50_code
def yX5_mixDebts : MethodName := ⟨RX5, "mixDebts", "(J)J"⟩
abbrev cX5_foretellIce : ByteArray := prog_1_method_51_code
def yX5_foretellIce : MethodName := ⟨RX5, "foretellIce", "()V"⟩
abbrev cX5_isFreeWay : ByteArray := prog_1_method_52_code
def yX5_isFreeWay : MethodName := ⟨RX5, "isFreeWay", "(III)Z"⟩
abbrev cX5_hullBehind : ByteArray := prog_1_method_53_code
def yX5_hullBehind : MethodName := ⟨RX5, "hullBehind", "(III)I"⟩
abbrev cX5_cellOf : ByteArray := prog_1_method_54_code
def yX5_cellOf : MethodName := ⟨RX5, "cellOf", "(II)I"⟩
abbrev cX5_sum : ByteArray := prog_1_method_55_code
def yX5_sum : MethodName := ⟨RX5, "sum", "([I)I"⟩
abbrev cX5_iceBehind : ByteArray := prog_1_method_56_code
def yX5_iceBehind : MethodName := ⟨RX5, "iceBehind", "(II)I"⟩
abbrev cX5_copyRow : ByteArray := prog_1_method_57_code
def yX5_copyRow : MethodName := ⟨RX5, "copyRow", "([I[I)V"⟩
def RX6 : String := "IceHarbourModel"
def TX6 : u_T := fun k => match k with
  | 0 => ("IceHarbourModel", "thrown", "I", false)
  | 1 => ("IceHarbourModel", "warm", "[I", true)
  | 2 => ("IceHarbourModel", "harbours", "I", false)
  | 3 => ("IceHarbourModel", "legs", "[I", true)
  | 4 => ("IceHarbourModel", "berths", "[I", true)
  | 5 => ("IceHarbourModel", "prices", "[I", true)
  | 6 => ("IceHarbourModel", "merchants", "I", false)
  | 7 => ("IceHarbourModel", "boats", "I", false)
  | 8 => ("IceHarbourModel", "debts", "I", false)
  | 9 => ("IceHarbourModel", "ice", "[I", true)
  | 10 => ("IceHarbourModel", "coins", "[I", true)
  | 11 => ("IceHarbourModel", "stocks", "[I", true)
  | 12 => ("IceHarbourModel", "fleet", "[I", true)
  | 13 => ("IceHarbourModel", "book", "[I", true)
  | _ => ("IceHarbourModel", "day", "[I", true)
def tyX6 : Nat → FieldType := fun k => match k with
  | 0 => .int
  | 1 => .array .int
  | 2 => .int
  | 3 => .array .int
  | 4 => .array .int
  | 5 => .array .int
  | 6 => .int
  | 7 => .int
  | 8 => .int
  | 9 => .array .int
  | 10 => .array .int
  | 11 => .array .int
  | 12 => .array .int
  | 13 => .array .int
  | _ => .array .int
abbrev wsX60 : List Cond := u_ws RX6 TX6 15
theorem nmX6 : ∀ a, a < 15 → ∀ b, b < 15 → a ≠ b → (TX6 a).2.1 ≠ (TX6 b).2.1 := by decide +kernel
theorem tyX6_ok : ∀ k, k < 15 → parseFieldDescriptor (TX6 k).2.2.1 = some (tyX6 k) := by decide +kernel
abbrev cX6_init : ByteArray := prog_8_method_1_code
def yX6_init : MethodName := ⟨RX6, "<init>", "()V"⟩
abbrev cX6_thrown : ByteArray := prog_8_method_2_code
def yX6_thrown : MethodName := ⟨RX6, "thrown", "()I"⟩
abbrev cX6_fail : ByteArray := prog_8_method_3_code
def yX6_fail : MethodName := ⟨RX6, "fail", "(I)I"⟩
abbrev cX6_isIn : ByteArray := prog_8_method_4_code
def yX6_isIn : MethodName := ⟨RX6, "isIn", "(III)Z"⟩
abbrev cX6_isHarbour : ByteArray := prog_8_method_5_code
def yX6_isHarbour : MethodName := ⟨RX6, "isHarbour", "(I)Z"⟩
abbrev cX6_isMerchant : ByteArray := prog_8_method_6_code
def yX6_isMerchant : MethodName := ⟨RX6, "isMerchant", "(I)Z"⟩
abbrev cX6_isBoat : ByteArray := prog_8_method_7_code
def yX6_isBoat : MethodName := ⟨RX6, "isBoat", "(I)Z"⟩
abbrev cX6_isGood : ByteArray := prog_8_method_8_code
def yX6_isGood : MethodName := ⟨RX6, "isGood", "(I)Z"⟩
abbrev cX6_bo : ByteArray := prog_8_method_9_code
def yX6_bo : MethodName := ⟨RX6, "bo", "(II)I"⟩
abbrev cX6_setBo : ByteArray := prog_8_method_10_code
def yX6_setBo : MethodName := ⟨RX6, "setBo", "(III)V"⟩
abbrev cX6_de : ByteArray := prog_8_method_11_code
def yX6_de : MethodName := ⟨RX6, "de", "(II)I"⟩
abbrev cX6_at : ByteArray := prog_8_method_12_code
def yX6_at : MethodName := ⟨RX6, "at", "(III)I"⟩
abbrev cX6_setWarm : ByteArray := prog_8_method_13_code
def yX6_setWarm : MethodName := ⟨RX6, "setWarm", "(II)I"⟩
abbrev cX6_addHarbour : ByteArray := prog_8_method_14_code
def yX6_addHarbour : MethodName := ⟨RX6, "addHarbour", "(II)I"⟩
abbrev cX6_setPrice : ByteArray := prog_8_method_15_code
def yX6_setPrice : MethodName := ⟨RX6, "setPrice", "(III)I"⟩
abbrev cX6_iceAt : ByteArray := prog_8_method_16_code
def yX6_iceAt : MethodName := ⟨RX6, "iceAt", "(I)I"⟩
abbrev cX6_isHere : ByteArray := prog_8_method_17_code
def yX6_isHere : MethodName := ⟨RX6, "isHere", "(I)Z"⟩
abbrev cX6_there : ByteArray := prog_8_method_18_code
def yX6_there : MethodName := ⟨RX6, "there", "(IZ)I"⟩
abbrev cX6_harbourTold : ByteArray := prog_8_method_19_code
def yX6_harbourTold : MethodName := ⟨RX6, "harbourTold", "(II)I"⟩
abbrev cX6_harbour : ByteArray := prog_8_method_20_code
def yX6_harbour : MethodName := ⟨RX6, "harbour", "(II)I"⟩
abbrev cX6_isOpen : ByteArray := prog_8_method_21_code
def yX6_isOpen : MethodName := ⟨RX6, "isOpen", "(I)Z"⟩
abbrev cX6_legTold : ByteArray := prog_8_method_22_code
def yX6_legTold : MethodName := ⟨RX6, "legTold", "(II)I"⟩
abbrev cX6_leg : ByteArray := prog_8_method_23_code
def yX6_leg : MethodName := ⟨RX6, "leg", "(II)I"⟩
abbrev cX6_addMerchant : ByteArray := prog_8_method_24_code
def yX6_addMerchant : MethodName := ⟨RX6, "addMerchant", "(I)I"⟩
abbrev cX6_bring : ByteArray := prog_8_method_25_code
def yX6_bring : MethodName := ⟨RX6, "bring", "(IIII)I"⟩
abbrev cX6_sell : ByteArray := prog_8_method_26_code
def yX6_sell : MethodName := ⟨RX6, "sell", "(IIII)I"⟩
abbrev cX6_stock : ByteArray := prog_8_method_27_code
def yX6_stock : MethodName := ⟨RX6, "stock", "(III)I"⟩
abbrev cX6_loaded : ByteArray := prog_8_method_28_code
def yX6_loaded : MethodName := ⟨RX6, "loaded", "(I)I"⟩
abbrev cX6_merchantTold : ByteArray := prog_8_method_29_code
def yX6_merchantTold : MethodName := ⟨RX6, "merchantTold", "(II)I"⟩
abbrev cX6_merchant : ByteArray := prog_8_method_30_code
def yX6_merchant : MethodName := ⟨RX6, "merchant", "(II)I"⟩
abbrev cX6_build : ByteArray := prog_8_method_31_code
def yX6_build : MethodName := ⟨RX6, "build", "(III)I"⟩
abbrev cX6_load : ByteArray := prog_8_method_32_code
def yX6_load : MethodName := ⟨RX6, "load", "(III)I"⟩
abbrev cX6_way : ByteArray := prog_8_method_33_code
def yX6_way : MethodName := ⟨RX6, "way", "(II)I"⟩
abbrev cX6_send : ByteArray := prog_8_method_34_code
def yX6_send : MethodName := ⟨RX6, "send", "(II)I"⟩
abbrev cX6_berth : ByteArray := prog_8_method_35_code
def yX6_berth : MethodName := ⟨RX6, "berth", "(IZ)I"⟩
abbrev cX6_mend : ByteArray := prog_8_method_36_code
def yX6_mend : MethodName := ⟨RX6, "mend", "(I)I"⟩
abbrev cX6_boatTold : ByteArray := prog_8_method_37_code
def yX6_boatTold : MethodName := ⟨RX6, "boatTold", "(II)I"⟩
abbrev cX6_boat : ByteArray := prog_8_method_38_code
def yX6_boat : MethodName := ⟨RX6, "boat", "(II)I"⟩
abbrev cX6_lend : ByteArray := prog_8_method_39_code
def yX6_lend : MethodName := ⟨RX6, "lend", "(IIIIII)I"⟩
abbrev cX6_pays : ByteArray := prog_8_method_40_code
def yX6_pays : MethodName := ⟨RX6, "pays", "(II)Z"⟩
abbrev cX6_repay : ByteArray := prog_8_method_41_code
def yX6_repay : MethodName := ⟨RX6, "repay", "(II)I"⟩
abbrev cX6_debt : ByteArray := prog_8_method_42_code
def yX6_debt : MethodName := ⟨RX6, "debt", "(II)I"⟩
abbrev cX6_freeze : ByteArray := prog_8_method_43_code
def yX6_freeze : MethodName := ⟨RX6, "freeze", "()V"⟩
abbrev cX6_sail : ByteArray := prog_8_method_44_code
def yX6_sail : MethodName := ⟨RX6, "sail", "(I)V"⟩
abbrev cX6_sunk : ByteArray := prog_8_method_45_code
def yX6_sunk : MethodName := ⟨RX6, "sunk", "()I"⟩
abbrev cX6_dayOn : ByteArray := prog_8_method_46_code
def yX6_dayOn : MethodName := ⟨RX6, "dayOn", "()I"⟩
abbrev cX6_pass : ByteArray := prog_8_method_47_code
def yX6_pass : MethodName := ⟨RX6, "pass", "(I)I"⟩
abbrev cX6_counted : ByteArray := prog_8_method_48_code
def yX6_counted : MethodName := ⟨RX6, "counted", "(I)I"⟩
abbrev cX6_count : ByteArray := prog_8_method_49_code
def yX6_count : MethodName := ⟨RX6, "count", "(I)I"⟩
abbrev cX6_kept : ByteArray := prog_8_method_50_code
def yX6_kept : MethodName := ⟨RX6, "kept", "()[[I"⟩
abbrev cX6_bringBack : ByteArray := prog_8_method_51_code
def yX6_bringBack : MethodName := ⟨RX6, "bringBack", "([[I)V"⟩
abbrev cX6_opens : ByteArray := prog_8_method_52_code
def yX6_opens : MethodName := ⟨RX6, "opens", "(I)I"⟩
abbrev cX6_isThere : ByteArray := prog_8_method_53_code
def yX6_isThere : MethodName := ⟨RX6, "isThere", "(I)Z"⟩
abbrev cX6_arrives : ByteArray := prog_8_method_54_code
def yX6_arrives : MethodName := ⟨RX6, "arrives", "(I)I"⟩
abbrev cX6_goesThrough : ByteArray := prog_8_method_55_code
def yX6_goesThrough : MethodName := ⟨RX6, "goesThrough", "(II)Z"⟩
abbrev cX6_latest : ByteArray := prog_8_method_56_code
def yX6_latest : MethodName := ⟨RX6, "latest", "(II)I"⟩
abbrev cX6_shelter : ByteArray := prog_8_method_57_code
def yX6_shelter : MethodName := ⟨RX6, "shelter", "(I)V"⟩
abbrev cX6_advise : ByteArray := prog_8_method_58_code
def yX6_advise : MethodName := ⟨RX6, "advise", "(II)I"⟩
abbrev cX6_mean : ByteArray := prog_8_method_59_code
def yX6_mean : MethodName := ⟨RX6, "mean", "()D"⟩
abbrev cX6_digest : ByteArray := prog_8_method_60_code
def yX6_digest : MethodName := ⟨RX6, "digest", "()J"⟩
def RJx145de : String := "java/io/Serializable"
def TJx145de : u_T := fun k => match k with
  | _ => ("", "", "", false)
def tyJx145de : Nat → FieldType := fun k => match k with
  | _ => .int
theorem nmJx145de : ∀ a, a < 0 → ∀ b, b < 0 → a ≠ b → (TJx145de a).2.1 ≠ (TJx145de b).2.1 := by decide +kernel
theorem tyJx145de_ok : ∀ k, k < 0 → parseFieldDescriptor (TJx145de k).2.2.1 = some (tyJx145de k) := by decide +kernel
def RJx8e188 : String := "java/lang/Cloneable"
def TJx8e188 : u_T := fun k => match k with
  | _ => ("", "", "", false)
def tyJx8e188 : Nat → FieldType := fun k => match k with
  | _ => .int
theorem nmJx8e188 : ∀ a, a < 0 → ∀ b, b < 0 → a ≠ b → (TJx8e188 a).2.1 ≠ (TJx8e188 b).2.1 := by decide +kernel
theorem tyJx8e188_ok : ∀ k, k < 0 → parseFieldDescriptor (TJx8e188 k).2.2.1 = some (tyJx8e188 k) := by decide +kernel
def RJ9 : String := "java/lang/Math"
def TJ9 : u_T := fun k => match k with
  | _ => ("", "", "", false)
def tyJ9 : Nat → FieldType := fun k => match k with
  | _ => .int
theorem nmJ9 : ∀ a, a < 0 → ∀ b, b < 0 → a ≠ b → (TJ9 a).2.1 ≠ (TJ9 b).2.1 := by decide +kernel
theorem tyJ9_ok : ∀ k, k < 0 → parseFieldDescriptor (TJ9 k).2.2.1 = some (tyJ9 k) := by decide +kernel
abbrev cJ9_floorMod_7cf53 : ByteArray := prog_14_method_50_code
def yJ9_floorMod_7cf53 : MethodName := ⟨RJ9, "floorMod", "(II)I"⟩
abbrev cJ9_abs_0f7a4 : ByteArray := prog_14_method_59_code
def yJ9_abs_0f7a4 : MethodName := ⟨RJ9, "abs", "(I)I"⟩
abbrev cJ9_max_7cf53 : ByteArray := prog_14_method_65_code
def yJ9_max_7cf53 : MethodName := ⟨RJ9, "max", "(II)I"⟩
abbrev cJ9_min_7cf53 : ByteArray := prog_14_method_69_code
def yJ9_min_7cf53 : MethodName := ⟨RJ9, "min", "(II)I"⟩
def RJ0 : String := "java/lang/String"
def TJ0 : u_T := fun k => match k with
  | _ => ("", "", "", false)
def tyJ0 : Nat → FieldType := fun k => match k with
  | _ => .int
theorem nmJ0 : ∀ a, a < 0 → ∀ b, b < 0 → a ≠ b → (TJ0 a).2.1 ≠ (TJ0 b).2.1 := by decide +kernel
theorem tyJ0_ok : ∀ k, k < 0 → parseFieldDescriptor (TJ0 k).2.2.1 = some (tyJ0 k) := by decide +kernel
def RJ10 : String := "java/lang/System"
def TJ10 : u_T := fun k => match k with
  | _ => ("", "", "", false)
def tyJ10 : Nat → FieldType := fun k => match k with
  | _ => .int
theorem nmJ10 : ∀ a, a < 0 → ∀ b, b < 0 → a ≠ b → (TJ10 a).2.1 ≠ (TJ10 b).2.1 := by decide +kernel
theorem tyJ10_ok : ∀ k, k < 0 → parseFieldDescriptor (TJ10 k).2.2.1 = some (tyJ10 k) := by decide +kernel
def RJ7 : String := "java/util/Arrays"
def TJ7 : u_T := fun k => match k with
  | _ => ("", "", "", false)
def tyJ7 : Nat → FieldType := fun k => match k with
  | _ => .int
theorem nmJ7 : ∀ a, a < 0 → ∀ b, b < 0 → a ≠ b → (TJ7 a).2.1 ≠ (TJ7 b).2.1 := by decide +kernel
theorem tyJ7_ok : ∀ k, k < 0 → parseFieldDescriptor (TJ7 k).2.2.1 = some (tyJ7 k) := by decide +kernel
abbrev cJ7_fill_53178 : ByteArray := prog_19_method_103_code
def yJ7_fill_53178 : MethodName := ⟨RJ7, "fill", "([II)V"⟩
def RL : String := "IceHarbourLaw"
abbrev cL_setWarm : ByteArray := method_3_code
def yL_setWarm : MethodName := ⟨RL, "setWarm", "(LIceHarbour;II[J)I"⟩
abbrev cL_addHarbour : ByteArray := method_4_code
def yL_addHarbour : MethodName := ⟨RL, "addHarbour", "(LIceHarbour;II[J)I"⟩
abbrev cL_setPrice : ByteArray := method_5_code
def yL_setPrice : MethodName := ⟨RL, "setPrice", "(LIceHarbour;III[J)I"⟩
abbrev cL_harbour : ByteArray := method_6_code
def yL_harbour : MethodName := ⟨RL, "harbour", "(LIceHarbour;II[J)I"⟩
abbrev cL_leg : ByteArray := method_7_code
def yL_leg : MethodName := ⟨RL, "leg", "(LIceHarbour;II[J)I"⟩
abbrev cL_addMerchant : ByteArray := method_8_code
def yL_addMerchant : MethodName := ⟨RL, "addMerchant", "(LIceHarbour;I[J)I"⟩
abbrev cL_bring : ByteArray := method_9_code
def yL_bring : MethodName := ⟨RL, "bring", "(LIceHarbour;IIII[J)I"⟩
abbrev cL_sell : ByteArray := method_10_code
def yL_sell : MethodName := ⟨RL, "sell", "(LIceHarbour;IIII[J)I"⟩
abbrev cL_stock : ByteArray := method_11_code
def yL_stock : MethodName := ⟨RL, "stock", "(LIceHarbour;III[J)I"⟩
abbrev cL_merchant : ByteArray := method_12_code
def yL_merchant : MethodName := ⟨RL, "merchant", "(LIceHarbour;II[J)I"⟩
abbrev cL_build : ByteArray := method_13_code
def yL_build : MethodName := ⟨RL, "build", "(LIceHarbour;III[J)I"⟩
abbrev cL_load : ByteArray := method_14_code
def yL_load : MethodName := ⟨RL, "load", "(LIceHarbour;III[J)I"⟩
abbrev cL_send : ByteArray := method_15_code
def yL_send : MethodName := ⟨RL, "send", "(LIceHarbour;II[J)I"⟩
abbrev cL_berth : ByteArray := method_16_code
def yL_berth : MethodName := ⟨RL, "berth", "(LIceHarbour;IZ[J)I"⟩
abbrev cL_mend : ByteArray := method_17_code
def yL_mend : MethodName := ⟨RL, "mend", "(LIceHarbour;I[J)I"⟩
abbrev cL_boat : ByteArray := method_18_code
def yL_boat : MethodName := ⟨RL, "boat", "(LIceHarbour;II[J)I"⟩
abbrev cL_lend : ByteArray := method_19_code
def yL_lend : MethodName := ⟨RL, "lend", "(LIceHarbour;IIIIII[J)I"⟩
abbrev cL_repay : ByteArray := method_20_code
def yL_repay : MethodName := ⟨RL, "repay", "(LIceHarbour;II[J)I"⟩
abbrev cL_debt : ByteArray := method_21_code
def yL_debt : MethodName := ⟨RL, "debt", "(LIceHarbour;II[J)I"⟩
abbrev cL_pass : ByteArray := method_22_code
def yL_pass : MethodName := ⟨RL, "pass", "(LIceHarbour;I[J)I"⟩
abbrev cL_count : ByteArray := method_23_code
def yL_count : MethodName := ⟨RL, "count", "(LIceHarbour;I[J)I"⟩
abbrev cL_opens : ByteArray := method_24_code
def yL_opens : MethodName := ⟨RL, "opens", "(LIceHarbour;I[J)I"⟩
abbrev cL_arrives : ByteArray := method_25_code
def yL_arrives : MethodName := ⟨RL, "arrives", "(LIceHarbour;I[J)I"⟩
abbrev cL_latest : ByteArray := method_26_code
def yL_latest : MethodName := ⟨RL, "latest", "(LIceHarbour;II[J)I"⟩
abbrev cL_advise : ByteArray := method_27_code
def yL_advise : MethodName := ⟨RL, "advise", "(LIceHarbour;II[J)I"⟩
abbrev cL_law : ByteArray := code
def yL_law : MethodName := ⟨RL, "law", "([I)Z"⟩
abbrev vwCl : List vw_C := [(RX0, TX0, 9), (RX1, TX1, 7), (RX2, TX2, 2), (RX3, TX3, 7), (RX4, TX4, 7), (RX5, TX5, 4), (RX6, TX6, 15)]
/-- the words of the tables that travel -/
def jj_W : List Cond := lw_tbl.filter goodWord
theorem jj_wsgood (w : Cond) (h : w ∈ jj_W) : (w.onTables && w.keeps) = true ∨ ∃ ty, w = .arrayClass ty := good_of_word (List.mem_filter.mp h).2
theorem jj_Wof {w : Cond} (i : Nat) (h : lw_tbl[i]? = some w) (g : goodWord w = true) : w ∈ jj_W := List.mem_filter.mpr ⟨List.mem_of_getElem? h, g⟩
theorem jj_Wtbl {w : Cond} (h : w ∈ jj_W) : w ∈ lw_tbl := (List.mem_filter.mp h).1
end
section
/-! The run's own memory: addresses counted from the script (0) on, ints, references and longs apart -/
abbrev jj_X : Type := Program × Launch × Env × Room × State × MethodId × Array Value × List Frame × Method × Code
abbrev jj_D : Type := va_G × (Nat → ClassId) × Nat × Nat
abbrev jj_K : Type := Nat → Option (Nat × Nat)
abbrev jj_I : Type := Nat → Nat → Int32
abbrev jj_P : Type := Nat → Nat → Option Nat
abbrev jj_G : Type := Nat → Nat → Int64
def jj_ad (D : jj_D) : Nat → Nat
  | 0 => D.2.2.1
  | i + 1 => D.2.2.2 + i
def jj_tr (D : jj_D) : Value → Value
  | .ref a => .ref (jj_ad D a)
  | v => v
def jj_rf (D : jj_D) (r : Option Nat) : Value := va_rf (r.map (jj_ad D))
def jj_N : Nat → Nat
  | 0 => 9
  | 1 => 7
  | 2 => 2
  | 3 => 7
  | 4 => 7
  | 5 => 4
  | 6 => 15
  | _ => 0
def jj_isR : Nat → Nat → Bool
  | 0, k => k == 8
  | 1, _ => false
  | 2, k => k == 1
  | 3, k => decide (2 ≤ k)
  | 4, k => k == 0 || decide (4 ≤ k)
  | 5, _ => true
  | 6, k => !(k == 0 || k == 2 || k == 6 || k == 7 || k == 8)
  | _, _ => false
def jj_val (D : jj_D) (I : jj_I) (P : jj_P) (c a k : Nat) : Value := if jj_isR c k then jj_rf D (P a k) else .int (I a k)
def jj_fs (D : jj_D) (I : jj_I) (P : jj_P) (c a : Nat) : List Value := (List.range (jj_N c)).map (jj_val D I P c a)
def jj_arr (D : jj_D) (I : jj_I) (P : jj_P) (G : jj_G) (t len a : Nat) : vp_A :=
  if t = 10 then (len, .inl (I a)) else if t = 11 then (len, .inr (.inl (G a))) else (len, .inr (.inr (.inr (.inr (fun k => (P a k).map (jj_ad D))))))
def jj_ent (D : jj_D) (I : jj_I) (P : jj_P) (G : jj_G) (a : Nat) (kd : Nat × Nat) : va_E :=
  if kd.1 < 10 then .inr (kd.1, jj_fs D I P kd.1 a) else .inl (D.2.1 kd.1, jj_arr D I P G kd.1 kd.2 a)
def jj_A (D : jj_D) : Nat → Prop := fun q => D.2.2.2 ≤ q
def jj_tys (D : jj_D) : List (ClassId × FieldType) := [(D.2.1 10, .int), (D.2.1 11, .long), (D.2.1 12, .object "IceHarbour$Boat"), (D.2.1 13, .object "IceHarbour$Debt"), (D.2.1 14, .object "IceHarbour$Merchant"), (D.2.1 15, .array .int)]
def jj_H (D : jj_D) (K : jj_K) (n : Nat) (I : jj_I) (P : jj_P) (G : jj_G) (H : Heap) : Prop :=
  ∀ (a : Nat) (kd : Nat × Nat), K a = some kd → a < n ∧ va_at D.1 vwCl (jj_ad D a, jj_ent D I P G a kd) H
def jj_Z (A : Nat → Prop) (U : State) (H : Heap) : Prop := vx_Zq Bundle.tN "UNASSIGNED_STACK" Bundle.steD A U H ∧ vx_Zq Bundle.tN "SUPPRESSED_SENTINEL" Bundle.listD A U H
def jj_Inn (D : jj_D) (n : Nat) (K : jj_K) (I : jj_I) (P : jj_P) (G : jj_G) (U : State) : Prop :=
  D.2.2.1 < D.2.2.2 ∧ D.2.2.2 ≤ U.heap.size ∧ U.heap.size + 1 = D.2.2.2 + n ∧ va_K D.1 vwCl (jj_tys D) U ∧ jj_H D K n I P G U.heap ∧ jj_Z (jj_A D) U U.heap
/-- memory written at one place -/
def jj_u {α : Type} (I : Nat → Nat → α) (a k : Nat) (v : α) : Nat → Nat → α := fun a' k' => if a' = a ∧ k' = k then v else I a' k'
def jj_uR {α : Type} (I : Nat → Nat → α) (a : Nat) (f : Nat → α) : Nat → Nat → α := fun a' k' => if a' = a then f k' else I a' k'
def jj_uK (K : jj_K) (a : Nat) (kd : Nat × Nat) : jj_K := fun a' => if a' = a then some kd else K a'
/-- the locals, by their slots -/
def jj_L (D : jj_D) (L : List (Option Value)) : List (Nat × Value) := (List.range L.length).filterMap (fun i => (L[i]?.join).map (fun v => (i, jj_tr D v)))
theorem jj_L_mem {D : jj_D} {L : List (Option Value)} {q : Nat × Value} : q ∈ jj_L D L ↔ ∃ v, L[q.1]? = some (some v) ∧ q.2 = jj_tr D v := by
  unfold jj_L
  rw [List.mem_filterMap]
  constructor
  · rintro ⟨i, hi, h⟩
    obtain ⟨v, hv, rfl⟩ := Option.map_eq_some_iff.mp h
    refine ⟨v, ?_, rfl⟩
    simpa [Option.join_eq_some_iff] using hv
  · rintro ⟨v, h1, h2⟩
    refine ⟨q.1, List.mem_range.mpr (List.getElem?_eq_some_iff.mp h1).1, ?_⟩
    rw [h1]
    obtain ⟨a, b⟩ := q
    simp only [Option.join_some, Option.map_some]
    rw [← h2]
theorem jj_has {D : jj_D} {ls : Array Slot} {nL : Nat} {L : List (Option Value)} (h : lv_has ls nL (jj_L D L)) {i : Nat} {v : Value} (hv : L[i]? = some (some v)) : ls[i]? = some (.val (jj_tr D v)) :=
  h.2.2 (i, jj_tr D v) (jj_L_mem.mpr ⟨v, hv, rfl⟩)
def jj_ok (L : List (Option Value)) : Nat → Bool
  | 0 => true
  | i + 1 => match L[i]? with
    | some (some v) => v.category != 2
    | _ => true
theorem jj_cat (D : jj_D) (v : Value) : (jj_tr D v).category = v.category := by cases v <;> rfl
theorem jj_st1 {D : jj_D} {ls : Array Slot} {nL i : Nat} {v : Value} {L : List (Option Value)} (hk : jj_ok L i = true)
    (h : lv_has ls nL ((i, jj_tr D v) :: (jj_L D L).filter (fun q => !(q.1 == i) && !(q.1 + 1 == i && q.2.category == 2)))) : lv_has ls nL (jj_L D (L.set i (some v))) := by
  refine ⟨h.1, h.2.1, fun q hq => h.2.2 q ?_⟩
  obtain ⟨w, h1, h2⟩ := jj_L_mem.mp hq
  obtain ⟨j, x⟩ := q
  dsimp only at h1 h2
  by_cases hj : j = i
  · subst hj
    rw [List.getElem?_set_self' ] at h1
    cases hL : L[j]? with
    | none => rw [hL] at h1; simp at h1
    | some z =>
      rw [hL] at h1
      simp at h1
      subst h1
      rw [h2]
      exact List.mem_cons_self
  · rw [List.getElem?_set_ne (Ne.symm hj)] at h1
    refine List.mem_cons_of_mem _ (List.mem_filter.mpr ⟨jj_L_mem.mpr ⟨w, h1, h2⟩, ?_⟩)
    have h3 : (j == i) = false := by simp [hj]
    by_cases h4 : j + 1 = i
    · subst h4
      simp only [jj_ok, h1] at hk
      have h5 : ¬ w.category = 2 := by simpa using hk
      simp [h2, jj_cat, h5]
    · simp [hj, h4]
theorem jj_st2 {D : jj_D} {ls : Array Slot} {nL i : Nat} {v : Value} {L : List (Option Value)} (hk : jj_ok L i = true)
    (h : lv_has ls nL ((i, jj_tr D v) :: (jj_L D L).filter (fun q => !(q.1 == i) && (!(q.1 == i + 1) && !(q.1 + 1 == i && q.2.category == 2))))) : lv_has ls nL (jj_L D ((L.set i (some v)).set (i + 1) none)) := by
  refine ⟨h.1, h.2.1, fun q hq => h.2.2 q ?_⟩
  obtain ⟨w, h1, h2⟩ := jj_L_mem.mp hq
  obtain ⟨j, x⟩ := q
  dsimp only at h1 h2
  by_cases hj1 : j = i + 1
  · subst hj1
    rw [List.getElem?_set_self'] at h1
    cases hL : (L.set i (some v))[i + 1]? with
    | none => rw [hL] at h1; simp at h1
    | some z => rw [hL] at h1; simp at h1
  · rw [List.getElem?_set_ne (Ne.symm hj1)] at h1
    by_cases hj : j = i
    · subst hj
      rw [List.getElem?_set_self'] at h1
      cases hL : L[j]? with
      | none => rw [hL] at h1; simp at h1
      | some z =>
        rw [hL] at h1
        simp at h1
        subst h1
        rw [h2]
        exact List.mem_cons_self
    · rw [List.getElem?_set_ne (Ne.symm hj)] at h1
      refine List.mem_cons_of_mem _ (List.mem_filter.mpr ⟨jj_L_mem.mpr ⟨w, h1, h2⟩, ?_⟩)
      by_cases h4 : j + 1 = i
      · subst h4
        simp only [jj_ok, h1] at hk
        have h5 : ¬ w.category = 2 := by simpa using hk
        simp [h2, jj_cat, h5]
        omega
      · simp [hj, h4, hj1]
/-- what a method's walk knows of its surroundings -/
def jj_Cx (X : jj_X) (D : jj_D) (cc : ByteArray) (own : String) (nL : Nat) (ret : Option FieldType) (nm : String) (rm : Room) (tb : List ExceptionTableEntry) : Prop :=
  match X with
  | (p, l, _, R, s, m, args, _, meth, c) => p.tables.exec = Jvm.exec ∧ c.code = cc ∧ meth.sig.returnType = ret ∧ meth.name = nm ∧ c.maxLocals = nL ∧ s.vm.findClass own = some m.cls ∧ meth.locks = false ∧ l.stackTraces = false ∧ R = rm ∧
    (∀ w ∈ jj_W, w.before args s = true) ∧ c.exceptionTable.toList = tb ∧ D.2.2.1 < D.2.2.2 ∧ D.2.2.2 ≤ s.heap.size ∧ va_K D.1 vwCl (jj_tys D) s ∧ jj_Z (jj_A D) s s.heap
def jj_J (X : jj_X) (D : jj_D) (nL cs sl : Nat) (Q : State → Prop) (n : Nat) (K : jj_K) (I : jj_I) (P : jj_P) (G : jj_G) (pc : Nat) (L : List (Option Value)) (st : List Value) : Prop :=
  match X with
  | (p, l, e, R, s, m, args, below, meth, c) => ∀ (H : Heap) (locs : List Loc) (ls : Array Slot), H.size + 1 = D.2.2.2 + n → jj_H D K n I P G H → va_S (jj_A D) s.heap H locs → lv_has ls nL (jj_L D L) →
    W p l e R s m args below meth c H locs cs sl Q (F0 m pc ls (st.map (jj_tr D)))
theorem jj_ad_inj {D : jj_D} (h : D.2.2.1 < D.2.2.2) : ∀ {a b : Nat}, jj_ad D a = jj_ad D b → a = b
  | 0, 0, _ => rfl
  | 0, b + 1, e => by simp only [jj_ad] at e; omega
  | a + 1, 0, e => by simp only [jj_ad] at e; omega
  | a + 1, b + 1, e => by simp only [jj_ad] at e; omega
theorem jj_ad_A {D : jj_D} {a : Nat} (h : 0 < a) : jj_A D (jj_ad D a) := by
  obtain ⟨b, rfl⟩ : ∃ b, a = b + 1 := ⟨a - 1, by omega⟩
  show D.2.2.2 ≤ D.2.2.2 + b
  omega
/-- behind a store in the cell a -/
theorem jj_H_st {D : jj_D} {K : jj_K} {n : Nat} {I I' : jj_I} {P P' : jj_P} {G G' : jj_G} {H H1 : Heap} (hK : jj_H D K n I P G H) (hi : D.2.2.1 < D.2.2.2) {a : Nat}
    (he : ∀ kd, K a = some kd → va_at D.1 vwCl (jj_ad D a, jj_ent D I' P' G' a kd) H1) (oq : ∀ q : Nat, q ≠ jj_ad D a → H1[q]? = H[q]?)
    (ho : ∀ (b : Nat) (kd : Nat × Nat), b ≠ a → jj_ent D I' P' G' b kd = jj_ent D I P G b kd) : jj_H D K n I' P' G' H1 := by
  intro b kd hb
  refine ⟨(hK b kd hb).1, ?_⟩
  by_cases h : b = a
  · subst h
    exact he kd hb
  · rw [ho b kd h]
    exact (hK b kd hb).2.kept (oq _ (fun e => h (jj_ad_inj hi e)))
/-- behind a new cell -/
theorem jj_H_nw {D : jj_D} {K : jj_K} {n : Nat} {I I' : jj_I} {P P' : jj_P} {G G' : jj_G} {H H1 : Heap} (hK : jj_H D K n I P G H) {kd0 : Nat × Nat}
    (he : va_at D.1 vwCl (jj_ad D n, jj_ent D I' P' G' n kd0) H1) (o1 : ∀ q : Nat, q < H.size → H1[q]? = H[q]?)
    (ho : ∀ (b : Nat) (kd : Nat × Nat), b ≠ n → jj_ent D I' P' G' b kd = jj_ent D I P G b kd) : jj_H D (jj_uK K n kd0) (n + 1) I' P' G' H1 := by
  intro b kd hb
  unfold jj_uK at hb
  by_cases h : b = n
  · subst h
    rw [if_pos rfl] at hb
    cases hb
    exact ⟨Nat.lt_succ_self _, he⟩
  · rw [if_neg h] at hb
    have h1 := hK b kd hb
    refine ⟨Nat.lt_succ_of_lt h1.1, ?_⟩
    rw [ho b kd h]
    exact h1.2.kept (o1 _ h1.2.lt)
theorem jj_ad_top {D : jj_D} {n : Nat} {H : Heap} (hz : H.size + 1 = D.2.2.2 + n) (h : D.2.2.2 ≤ H.size) : jj_ad D n = H.size := by
  obtain ⟨k, rfl⟩ : ∃ k, n = k + 1 := ⟨n - 1, by omega⟩
  show D.2.2.2 + k = H.size
  omega
theorem jj_ent_o {D : jj_D} {I : jj_I} {P : jj_P} {G : jj_G} {a c z : Nat} (h : c < 10) : jj_ent D I P G a (c, z) = .inr (c, jj_fs D I P c a) := if_pos h
theorem jj_ent_a {D : jj_D} {I : jj_I} {P : jj_P} {G : jj_G} {a t z : Nat} (h : 10 ≤ t) : jj_ent D I P G a (t, z) = .inl (D.2.1 t, jj_arr D I P G t z a) := if_neg (by show ¬ t < 10; omega)
theorem jj_ent_cg {D : jj_D} {I I' : jj_I} {P P' : jj_P} {G G' : jj_G} {b : Nat} (h1 : I' b = I b) (h2 : P' b = P b) (h3 : G' b = G b) (kd : Nat × Nat) : jj_ent D I' P' G' b kd = jj_ent D I P G b kd := by
  have hv : ∀ c, jj_val D I' P' c b = jj_val D I P c b := fun c => funext fun k => by simp only [jj_val, h1, h2]
  simp only [jj_ent, jj_fs, jj_arr, hv, h1, h2, h3]
theorem jj_u_ne {α : Type} {I : Nat → Nat → α} {a k b : Nat} {v : α} (h : b ≠ a) : jj_u I a k v b = I b := funext fun j => if_neg (fun e => h e.1)
theorem jj_u_eq {α : Type} {I : Nat → Nat → α} {a k : Nat} {v : α} : jj_u I a k v a k = v := if_pos ⟨rfl, rfl⟩
theorem jj_u_nk {α : Type} {I : Nat → Nat → α} {a k j : Nat} {v : α} (h : j ≠ k) : jj_u I a k v a j = I a j := if_neg (fun e => h e.2)
theorem jj_uR_ne {α : Type} {I : Nat → Nat → α} {a b : Nat} {f : Nat → α} (h : b ≠ a) : jj_uR I a f b = I b := funext fun j => if_neg h
theorem jj_uR_eq {α : Type} {I : Nat → Nat → α} {a : Nat} {f : Nat → α} : jj_uR I a f a = f := funext fun j => if_pos rfl
theorem jj_fs_at {D : jj_D} {I : jj_I} {P : jj_P} {c a k : Nat} (h : k < jj_N c) : (jj_fs D I P c a)[k]? = some (jj_val D I P c a k) := by
  simp [jj_fs, h]
theorem jj_fs_set {D : jj_D} {I I' : jj_I} {P P' : jj_P} {c a k : Nat} {v : Value} (h : jj_val D I' P' c a k = v) (ho : ∀ j, j ≠ k → jj_val D I' P' c a j = jj_val D I P c a j) : (jj_fs D I P c a).set k v = jj_fs D I' P' c a := by
  apply List.ext_getElem?
  intro j
  by_cases hj : j = k
  · subst hj
    rw [List.getElem?_set_self']
    by_cases hl : j < jj_N c
    · rw [jj_fs_at hl, jj_fs_at hl, h]; rfl
    · simp [jj_fs, hl]
  · rw [List.getElem?_set_ne (Ne.symm hj)]
    simp only [jj_fs, List.getElem?_map]
    by_cases hl : j < jj_N c
    · simp [hl, ho j hj]
    · simp [hl]
theorem jj_va1 {D : jj_D} {q : Nat × va_E} {H : Heap} (h : va_at D.1 vwCl q H) : va_P D.1 vwCl [q] H := by
  intro k x hk
  match k, hk with
  | 0, hk => cases hk; exact h
  | k + 1, hk => simp at hk
end
section
section JR
variable {X : jj_X} {D : jj_D} {cc : ByteArray} {own nm : String} {nL : Nat} {ret : Option FieldType} {rm : Room} {tb : List ExceptionTableEntry} {cs sl : Nat} {Q : State → Prop} {n : Nat} {K : jj_K} {I : jj_I} {P : jj_P} {G : jj_G} {pc : Nat} {L : List (Option Value)} {rest : List Value}
theorem jr_iadd (hX : jj_Cx X D cc own nL ret nm rm tb) {x y : Int32} (hd : decode cc pc = .ok (.iadd, 1)) (k : jj_J X D nL cs sl Q n K I P G (pc + 1) L (.int (x + y) :: rest)) : jj_J X D nL cs sl Q n K I P G pc L (.int y :: .int x :: rest) := by
  obtain ⟨p, l, e, R, s, m, args, below, meth, c⟩ := X
  obtain ⟨hx, hb, -⟩ := hX
  exact fun H locs ls hz hK hS hl => lv_iadd hx hb hd (k H locs ls hz hK hS hl)
theorem jr_isub (hX : jj_Cx X D cc own nL ret nm rm tb) {x y : Int32} (hd : decode cc pc = .ok (.isub, 1)) (k : jj_J X D nL cs sl Q n K I P G (pc + 1) L (.int (x - y) :: rest)) : jj_J X D nL cs sl Q n K I P G pc L (.int y :: .int x :: rest) := by
  obtain ⟨p, l, e, R, s, m, args, below, meth, c⟩ := X
  obtain ⟨hx, hb, -⟩ := hX
  exact fun H locs ls hz hK hS hl => lv_isub hx hb hd (k H locs ls hz hK hS hl)
theorem jr_imul (hX : jj_Cx X D cc own nL ret nm rm tb) {x y : Int32} (hd : decode cc pc = .ok (.imul, 1)) (k : jj_J X D nL cs sl Q n K I P G (pc + 1) L (.int (x * y) :: rest)) : jj_J X D nL cs sl Q n K I P G pc L (.int y :: .int x :: rest) := by
  obtain ⟨p, l, e, R, s, m, args, below, meth, c⟩ := X
  obtain ⟨hx, hb, -⟩ := hX
  exact fun H locs ls hz hK hS hl => lv_imul hx hb hd (k H locs ls hz hK hS hl)
theorem jr_iand (hX : jj_Cx X D cc own nL ret nm rm tb) {x y : Int32} (hd : decode cc pc = .ok (.iand, 1)) (k : jj_J X D nL cs sl Q n K I P G (pc + 1) L (.int (x &&& y) :: rest)) : jj_J X D nL cs sl Q n K I P G pc L (.int y :: .int x :: rest) := by
  obtain ⟨p, l, e, R, s, m, args, below, meth, c⟩ := X
  obtain ⟨hx, hb, -⟩ := hX
  exact fun H locs ls hz hK hS hl => lv_iand hx hb hd (k H locs ls hz hK hS hl)
theorem jr_ixor (hX : jj_Cx X D cc own nL ret nm rm tb) {x y : Int32} (hd : decode cc pc = .ok (.ixor, 1)) (k : jj_J X D nL cs sl Q n K I P G (pc + 1) L (.int (x ^^^ y) :: rest)) : jj_J X D nL cs sl Q n K I P G pc L (.int y :: .int x :: rest) := by
  obtain ⟨p, l, e, R, s, m, args, below, meth, c⟩ := X
  obtain ⟨hx, hb, -⟩ := hX
  exact fun H locs ls hz hK hS hl => lv_ixor hx hb hd (k H locs ls hz hK hS hl)
theorem jr_idiv (hX : jj_Cx X D cc own nL ret nm rm tb) {x y : Int32} (hd : decode cc pc = .ok (.idiv, 1)) (hne : ¬ y = 0) (k : jj_J X D nL cs sl Q n K I P G (pc + 1) L (.int (x / y) :: rest)) : jj_J X D nL cs sl Q n K I P G pc L (.int y :: .int x :: rest) := by
  obtain ⟨p, l, e, R, s, m, args, below, meth, c⟩ := X
  obtain ⟨hx, hb, -⟩ := hX
  exact fun H locs ls hz hK hS hl => lv_idiv hx hb hd hne (k H locs ls hz hK hS hl)
theorem jr_irem (hX : jj_Cx X D cc own nL ret nm rm tb) {x y : Int32} (hd : decode cc pc = .ok (.irem, 1)) (hne : ¬ y = 0) (k : jj_J X D nL cs sl Q n K I P G (pc + 1) L (.int (x - x / y * y) :: rest)) : jj_J X D nL cs sl Q n K I P G pc L (.int y :: .int x :: rest) := by
  obtain ⟨p, l, e, R, s, m, args, below, meth, c⟩ := X
  obtain ⟨hx, hb, -⟩ := hX
  exact fun H locs ls hz hK hS hl => lv_irem hx hb hd hne (k H locs ls hz hK hS hl)
theorem jr_ineg (hX : jj_Cx X D cc own nL ret nm rm tb) {x : Int32} (hd : decode cc pc = .ok (.ineg, 1)) (k : jj_J X D nL cs sl Q n K I P G (pc + 1) L (.int (-x) :: rest)) : jj_J X D nL cs sl Q n K I P G pc L (.int x :: rest) := by
  obtain ⟨p, l, e, R, s, m, args, below, meth, c⟩ := X
  obtain ⟨hx, hb, -⟩ := hX
  exact fun H locs ls hz hK hS hl => lv_ineg hx hb hd (k H locs ls hz hK hS hl)
theorem jr_i2l (hX : jj_Cx X D cc own nL ret nm rm tb) {x : Int32} (hd : decode cc pc = .ok (.i2l, 1)) (k : jj_J X D nL cs sl Q n K I P G (pc + 1) L (.long x.toInt64 :: rest)) : jj_J X D nL cs sl Q n K I P G pc L (.int x :: rest) := by
  obtain ⟨p, l, e, R, s, m, args, below, meth, c⟩ := X
  obtain ⟨hx, hb, -⟩ := hX
  exact fun H locs ls hz hK hS hl => lv_i2l hx hb hd rfl (k H locs ls hz hK hS hl)
theorem jr_ladd (hX : jj_Cx X D cc own nL ret nm rm tb) {x y : Int64} (hd : decode cc pc = .ok (.ladd, 1)) (k : jj_J X D nL cs sl Q n K I P G (pc + 1) L (.long (x + y) :: rest)) : jj_J X D nL cs sl Q n K I P G pc L (.long y :: .long x :: rest) := by
  obtain ⟨p, l, e, R, s, m, args, below, meth, c⟩ := X
  obtain ⟨hx, hb, -⟩ := hX
  exact fun H locs ls hz hK hS hl => lv_ladd hx hb hd (k H locs ls hz hK hS hl)
theorem jr_lmul (hX : jj_Cx X D cc own nL ret nm rm tb) {x y : Int64} (hd : decode cc pc = .ok (.lmul, 1)) (k : jj_J X D nL cs sl Q n K I P G (pc + 1) L (.long (x * y) :: rest)) : jj_J X D nL cs sl Q n K I P G pc L (.long y :: .long x :: rest) := by
  obtain ⟨p, l, e, R, s, m, args, below, meth, c⟩ := X
  obtain ⟨hx, hb, -⟩ := hX
  exact fun H locs ls hz hK hS hl => lv_lmul hx hb hd (k H locs ls hz hK hS hl)
theorem jr_lcmp (hX : jj_Cx X D cc own nL ret nm rm tb) {x y : Int64} (hd : decode cc pc = .ok (.lcmp, 1)) (k : jj_J X D nL cs sl Q n K I P G (pc + 1) L (.int (lg_cmp x y) :: rest)) : jj_J X D nL cs sl Q n K I P G pc L (.long y :: .long x :: rest) := by
  obtain ⟨p, l, e, R, s, m, args, below, meth, c⟩ := X
  obtain ⟨hx, hb, -⟩ := hX
  exact fun H locs ls hz hK hS hl => W.lcmp hx hb hd (k H locs ls hz hK hS hl)
theorem jr_i2d (hX : jj_Cx X D cc own nL ret nm rm tb) {x : Int32} (hd : decode cc pc = .ok (.i2d, 1)) (k : jj_J X D nL cs sl Q n K I P G (pc + 1) L (.double (FP.i2d x) :: rest)) : jj_J X D nL cs sl Q n K I P G pc L (.int x :: rest) := by
  obtain ⟨p, l, e, R, s, m, args, below, meth, c⟩ := X
  obtain ⟨hx, hb, -⟩ := hX
  exact fun H locs ls hz hK hS hl => lv_i2d hx hb hd (k H locs ls hz hK hS hl)
theorem jr_ddiv (hX : jj_Cx X D cc own nL ret nm rm tb) {x y : UInt64} (hd : decode cc pc = .ok (.ddiv, 1)) (hne : vf_n64 (FP.ddiv x y)) (k : jj_J X D nL cs sl Q n K I P G (pc + 1) L (.double (FP.ddiv x y) :: rest)) : jj_J X D nL cs sl Q n K I P G pc L (.double y :: .double x :: rest) := by
  obtain ⟨p, l, e, R, s, m, args, below, meth, c⟩ := X
  obtain ⟨hx, hb, -⟩ := hX
  exact fun H locs ls hz hK hS hl => lv_ddiv hx hb hd hne (k H locs ls hz hK hS hl)
theorem jr_dcmp (hX : jj_Cx X D cc own nL ret nm rm tb) {x y : UInt64} {op : CmpOp} (hd : decode cc pc = .ok (.dcmp op, 1)) (k : jj_J X D nL cs sl Q n K I P G (pc + 1) L (.int (Op.cmpValue (FP.dcmp x y) op) :: rest)) : jj_J X D nL cs sl Q n K I P G pc L (.double y :: .double x :: rest) := by
  obtain ⟨p, l, e, R, s, m, args, below, meth, c⟩ := X
  obtain ⟨hx, hb, -⟩ := hX
  exact fun H locs ls hz hK hS hl => lv_dcmp hx hb hd (k H locs ls hz hK hS hl)
theorem jr_dconst0 (hX : jj_Cx X D cc own nL ret nm rm tb) (hd : decode cc pc = .ok (.dconst 0, 1)) (k : jj_J X D nL cs sl Q n K I P G (pc + 1) L (.double FP.dconst0 :: rest)) : jj_J X D nL cs sl Q n K I P G pc L (rest) := by
  obtain ⟨p, l, e, R, s, m, args, below, meth, c⟩ := X
  obtain ⟨hx, hb, -⟩ := hX
  exact fun H locs ls hz hK hS hl => lv_dconst0 hx hb hd (k H locs ls hz hK hS hl)
theorem jr_iconst (hX : jj_Cx X D cc own nL ret nm rm tb) {i : Int} {v : Int32} (hd : decode cc pc = .ok (.iconst i, 1)) (hv : Int32.ofInt i = v) (k : jj_J X D nL cs sl Q n K I P G (pc + 1) L (.int v :: rest)) : jj_J X D nL cs sl Q n K I P G pc L (rest) := by
  obtain ⟨p, l, e, R, s, m, args, below, meth, c⟩ := X
  obtain ⟨hx, hb, -⟩ := hX
  exact fun H locs ls hz hK hS hl => lv_iconst hx hb hd hv (k H locs ls hz hK hS hl)
theorem jr_bipush (hX : jj_Cx X D cc own nL ret nm rm tb) {i : Int} {v : Int32} (hd : decode cc pc = .ok (.bipush i, 2)) (hv : (Int8.ofInt i).toInt32 = v) (k : jj_J X D nL cs sl Q n K I P G (pc + 2) L (.int v :: rest)) : jj_J X D nL cs sl Q n K I P G pc L (rest) := by
  obtain ⟨p, l, e, R, s, m, args, below, meth, c⟩ := X
  obtain ⟨hx, hb, -⟩ := hX
  exact fun H locs ls hz hK hS hl => lv_bipush hx hb hd hv (k H locs ls hz hK hS hl)
theorem jr_sipush (hX : jj_Cx X D cc own nL ret nm rm tb) {i : Int} {v : Int32} (hd : decode cc pc = .ok (.sipush i, 3)) (hv : (Int16.ofInt i).toInt32 = v) (k : jj_J X D nL cs sl Q n K I P G (pc + 3) L (.int v :: rest)) : jj_J X D nL cs sl Q n K I P G pc L (rest) := by
  obtain ⟨p, l, e, R, s, m, args, below, meth, c⟩ := X
  obtain ⟨hx, hb, -⟩ := hX
  exact fun H locs ls hz hK hS hl => lv_sipush hx hb hd hv (k H locs ls hz hK hS hl)
theorem jr_dup (hX : jj_Cx X D cc own nL ret nm rm tb) {v : Value} (hd : decode cc pc = .ok (.dup, 1)) (hc : v.category = 1) (k : jj_J X D nL cs sl Q n K I P G (pc + 1) L (v :: v :: rest)) : jj_J X D nL cs sl Q n K I P G pc L (v :: rest) := by
  obtain ⟨p, l, e, R, s, m, args, below, meth, c⟩ := X
  obtain ⟨hx, hb, -⟩ := hX
  exact fun H locs ls hz hK hS hl => lv_dup hx hb hd (by rw [jj_cat]; exact hc) (k H locs ls hz hK hS hl)
theorem jr_dup2 (hX : jj_Cx X D cc own nL ret nm rm tb) {v w : Value} (hd : decode cc pc = .ok (.dup2, 1)) (hc : v.category = 1) (hc2 : w.category = 1) (k : jj_J X D nL cs sl Q n K I P G (pc + 1) L (v :: w :: v :: w :: rest)) : jj_J X D nL cs sl Q n K I P G pc L (v :: w :: rest) := by
  obtain ⟨p, l, e, R, s, m, args, below, meth, c⟩ := X
  obtain ⟨hx, hb, -⟩ := hX
  exact fun H locs ls hz hK hS hl => lv_dup2_11 hx hb hd (by rw [jj_cat]; exact hc) (by rw [jj_cat]; exact hc2) (k H locs ls hz hK hS hl)
theorem jr_pop (hX : jj_Cx X D cc own nL ret nm rm tb) {v : Value} (hd : decode cc pc = .ok (.pop, 1)) (hc : v.category = 1) (k : jj_J X D nL cs sl Q n K I P G (pc + 1) L (rest)) : jj_J X D nL cs sl Q n K I P G pc L (v :: rest) := by
  obtain ⟨p, l, e, R, s, m, args, below, meth, c⟩ := X
  obtain ⟨hx, hb, -⟩ := hX
  exact fun H locs ls hz hK hS hl => lv_pop hx hb hd (by rw [jj_cat]; exact hc) (k H locs ls hz hK hS hl)
theorem jr_iload (hX : jj_Cx X D cc own nL ret nm rm tb) {i : Nat} {x : Int32} (hd : decode cc pc = .ok (.iload i, 2)) (hL : L[i]? = some (some (.int x))) (k : jj_J X D nL cs sl Q n K I P G (pc + 2) L (.int x :: rest)) : jj_J X D nL cs sl Q n K I P G pc L (rest) := by
  obtain ⟨p, l, e, R, s, m, args, below, meth, c⟩ := X
  obtain ⟨hx, hb, -⟩ := hX
  exact fun H locs ls hz hK hS hl => lv_iload hx hb hd (jj_has hl hL) (k H locs ls hz hK hS hl)
theorem jr_iload_n (hX : jj_Cx X D cc own nL ret nm rm tb) {i : Fin 4} {x : Int32} (hd : decode cc pc = .ok (.iload_n i, 1)) (hL : L[(i : Nat)]? = some (some (.int x))) (k : jj_J X D nL cs sl Q n K I P G (pc + 1) L (.int x :: rest)) : jj_J X D nL cs sl Q n K I P G pc L (rest) := by
  obtain ⟨p, l, e, R, s, m, args, below, meth, c⟩ := X
  obtain ⟨hx, hb, -⟩ := hX
  exact fun H locs ls hz hK hS hl => lv_iload_n hx hb hd rfl (jj_has hl hL) (k H locs ls hz hK hS hl)
theorem jr_lload (hX : jj_Cx X D cc own nL ret nm rm tb) {i : Nat} {x : Int64} (hd : decode cc pc = .ok (.lload i, 2)) (hL : L[i]? = some (some (.long x))) (k : jj_J X D nL cs sl Q n K I P G (pc + 2) L (.long x :: rest)) : jj_J X D nL cs sl Q n K I P G pc L (rest) := by
  obtain ⟨p, l, e, R, s, m, args, below, meth, c⟩ := X
  obtain ⟨hx, hb, -⟩ := hX
  exact fun H locs ls hz hK hS hl => lv_lload hx hb hd (jj_has hl hL) (k H locs ls hz hK hS hl)
theorem jr_lload_n (hX : jj_Cx X D cc own nL ret nm rm tb) {i : Fin 4} {x : Int64} (hd : decode cc pc = .ok (.lload_n i, 1)) (hL : L[(i : Nat)]? = some (some (.long x))) (k : jj_J X D nL cs sl Q n K I P G (pc + 1) L (.long x :: rest)) : jj_J X D nL cs sl Q n K I P G pc L (rest) := by
  obtain ⟨p, l, e, R, s, m, args, below, meth, c⟩ := X
  obtain ⟨hx, hb, -⟩ := hX
  exact fun H locs ls hz hK hS hl => lv_lload_n hx hb hd rfl (jj_has hl hL) (k H locs ls hz hK hS hl)
theorem jr_aload (hX : jj_Cx X D cc own nL ret nm rm tb) {i : Nat} {x : Nat} (hd : decode cc pc = .ok (.aload i, 2)) (hL : L[i]? = some (some (.ref x))) (k : jj_J X D nL cs sl Q n K I P G (pc + 2) L (.ref x :: rest)) : jj_J X D nL cs sl Q n K I P G pc L (rest) := by
  obtain ⟨p, l, e, R, s, m, args, below, meth, c⟩ := X
  obtain ⟨hx, hb, -⟩ := hX
  exact fun H locs ls hz hK hS hl => lv_aload hx hb hd (jj_has hl hL) (k H locs ls hz hK hS hl)
theorem jr_aload_n (hX : jj_Cx X D cc own nL ret nm rm tb) {i : Fin 4} {x : Nat} (hd : decode cc pc = .ok (.aload_n i, 1)) (hL : L[(i : Nat)]? = some (some (.ref x))) (k : jj_J X D nL cs sl Q n K I P G (pc + 1) L (.ref x :: rest)) : jj_J X D nL cs sl Q n K I P G pc L (rest) := by
  obtain ⟨p, l, e, R, s, m, args, below, meth, c⟩ := X
  obtain ⟨hx, hb, -⟩ := hX
  exact fun H locs ls hz hK hS hl => lv_aload_n hx hb hd rfl (jj_has hl hL) (k H locs ls hz hK hS hl)
theorem jr_dload (hX : jj_Cx X D cc own nL ret nm rm tb) {i : Nat} {x : UInt64} (hd : decode cc pc = .ok (.dload i, 2)) (hL : L[i]? = some (some (.double x))) (k : jj_J X D nL cs sl Q n K I P G (pc + 2) L (.double x :: rest)) : jj_J X D nL cs sl Q n K I P G pc L (rest) := by
  obtain ⟨p, l, e, R, s, m, args, below, meth, c⟩ := X
  obtain ⟨hx, hb, -⟩ := hX
  exact fun H locs ls hz hK hS hl => lv_dload hx hb hd (jj_has hl hL) (k H locs ls hz hK hS hl)
theorem jr_dload_n (hX : jj_Cx X D cc own nL ret nm rm tb) {i : Fin 4} {x : UInt64} (hd : decode cc pc = .ok (.dload_n i, 1)) (hL : L[(i : Nat)]? = some (some (.double x))) (k : jj_J X D nL cs sl Q n K I P G (pc + 1) L (.double x :: rest)) : jj_J X D nL cs sl Q n K I P G pc L (rest) := by
  obtain ⟨p, l, e, R, s, m, args, below, meth, c⟩ := X
  obtain ⟨hx, hb, -⟩ := hX
  exact fun H locs ls hz hK hS hl => lv_dload_n hx hb hd rfl (jj_has hl hL) (k H locs ls hz hK hS hl)
theorem jr_istore (hX : jj_Cx X D cc own nL ret nm rm tb) {i : Nat} {x : Int32} (hd : decode cc pc = .ok (.istore i, 2)) (hk : (jj_ok L i && Nat.ble (i + 1) nL) = true) (k : jj_J X D nL cs sl Q n K I P G (pc + 2) (L.set i (some (.int x))) rest) : jj_J X D nL cs sl Q n K I P G pc L (.int x :: rest) := by
  obtain ⟨p, l, e, R, s, m, args, below, meth, c⟩ := X
  obtain ⟨hx, hb, -⟩ := hX
  have hk1 := (Bool.and_eq_true_iff.mp hk).1
  have hk2 := Nat.le_of_ble_eq_true (Bool.and_eq_true_iff.mp hk).2
  exact fun H locs ls hz hK hS hl => lv_istore hx hb hd hl (by omega) rfl (fun ls1 h1 => k H locs ls1 hz hK hS (jj_st1 (v := .int x) hk1 h1))
theorem jr_istore_n (hX : jj_Cx X D cc own nL ret nm rm tb) {i : Fin 4} {x : Int32} (hd : decode cc pc = .ok (.istore_n i, 1)) (hk : (jj_ok L (i : Nat) && Nat.ble ((i : Nat) + 1) nL) = true) (k : jj_J X D nL cs sl Q n K I P G (pc + 1) (L.set (i : Nat) (some (.int x))) rest) : jj_J X D nL cs sl Q n K I P G pc L (.int x :: rest) := by
  obtain ⟨p, l, e, R, s, m, args, below, meth, c⟩ := X
  obtain ⟨hx, hb, -⟩ := hX
  have hk1 := (Bool.and_eq_true_iff.mp hk).1
  have hk2 := Nat.le_of_ble_eq_true (Bool.and_eq_true_iff.mp hk).2
  exact fun H locs ls hz hK hS hl => lv_istore_n hx hb hd rfl hl (by omega) rfl (fun ls1 h1 => k H locs ls1 hz hK hS (jj_st1 (v := .int x) hk1 h1))
theorem jr_lstore (hX : jj_Cx X D cc own nL ret nm rm tb) {i : Nat} {x : Int64} (hd : decode cc pc = .ok (.lstore i, 2)) (hk : (jj_ok L i && Nat.ble (i + 2) nL) = true) (k : jj_J X D nL cs sl Q n K I P G (pc + 2) ((L.set i (some (.long x))).set (i + 1) none) rest) : jj_J X D nL cs sl Q n K I P G pc L (.long x :: rest) := by
  obtain ⟨p, l, e, R, s, m, args, below, meth, c⟩ := X
  obtain ⟨hx, hb, -⟩ := hX
  have hk1 := (Bool.and_eq_true_iff.mp hk).1
  have hk2 := Nat.le_of_ble_eq_true (Bool.and_eq_true_iff.mp hk).2
  exact fun H locs ls hz hK hS hl => lv_lstore hx hb hd hl (by omega) rfl (fun ls1 h1 => k H locs ls1 hz hK hS (jj_st2 (v := .long x) hk1 h1))
theorem jr_lstore_n (hX : jj_Cx X D cc own nL ret nm rm tb) {i : Fin 4} {x : Int64} (hd : decode cc pc = .ok (.lstore_n i, 1)) (hk : (jj_ok L (i : Nat) && Nat.ble ((i : Nat) + 2) nL) = true) (k : jj_J X D nL cs sl Q n K I P G (pc + 1) ((L.set (i : Nat) (some (.long x))).set ((i : Nat) + 1) none) rest) : jj_J X D nL cs sl Q n K I P G pc L (.long x :: rest) := by
  obtain ⟨p, l, e, R, s, m, args, below, meth, c⟩ := X
  obtain ⟨hx, hb, -⟩ := hX
  have hk1 := (Bool.and_eq_true_iff.mp hk).1
  have hk2 := Nat.le_of_ble_eq_true (Bool.and_eq_true_iff.mp hk).2
  exact fun H locs ls hz hK hS hl => lv_lstore_n hx hb hd rfl hl (by omega) rfl (fun ls1 h1 => k H locs ls1 hz hK hS (jj_st2 (v := .long x) hk1 h1))
theorem jr_astore (hX : jj_Cx X D cc own nL ret nm rm tb) {i : Nat} {x : Nat} (hd : decode cc pc = .ok (.astore i, 2)) (hk : (jj_ok L i && Nat.ble (i + 1) nL) = true) (k : jj_J X D nL cs sl Q n K I P G (pc + 2) (L.set i (some (.ref x))) rest) : jj_J X D nL cs sl Q n K I P G pc L (.ref x :: rest) := by
  obtain ⟨p, l, e, R, s, m, args, below, meth, c⟩ := X
  obtain ⟨hx, hb, -⟩ := hX
  have hk1 := (Bool.and_eq_true_iff.mp hk).1
  have hk2 := Nat.le_of_ble_eq_true (Bool.and_eq_true_iff.mp hk).2
  exact fun H locs ls hz hK hS hl => lv_astore hx hb hd hl (by omega) rfl (fun ls1 h1 => k H locs ls1 hz hK hS (jj_st1 (v := .ref x) hk1 h1))
theorem jr_astore_n (hX : jj_Cx X D cc own nL ret nm rm tb) {i : Fin 4} {x : Nat} (hd : decode cc pc = .ok (.astore_n i, 1)) (hk : (jj_ok L (i : Nat) && Nat.ble ((i : Nat) + 1) nL) = true) (k : jj_J X D nL cs sl Q n K I P G (pc + 1) (L.set (i : Nat) (some (.ref x))) rest) : jj_J X D nL cs sl Q n K I P G pc L (.ref x :: rest) := by
  obtain ⟨p, l, e, R, s, m, args, below, meth, c⟩ := X
  obtain ⟨hx, hb, -⟩ := hX
  have hk1 := (Bool.and_eq_true_iff.mp hk).1
  have hk2 := Nat.le_of_ble_eq_true (Bool.and_eq_true_iff.mp hk).2
  exact fun H locs ls hz hK hS hl => lv_astore_n hx hb hd rfl hl (by omega) rfl (fun ls1 h1 => k H locs ls1 hz hK hS (jj_st1 (v := .ref x) hk1 h1))
theorem jr_dstore (hX : jj_Cx X D cc own nL ret nm rm tb) {i : Nat} {x : UInt64} (hd : decode cc pc = .ok (.dstore i, 2)) (hk : (jj_ok L i && Nat.ble (i + 2) nL) = true) (k : jj_J X D nL cs sl Q n K I P G (pc + 2) ((L.set i (some (.double x))).set (i + 1) none) rest) : jj_J X D nL cs sl Q n K I P G pc L (.double x :: rest) := by
  obtain ⟨p, l, e, R, s, m, args, below, meth, c⟩ := X
  obtain ⟨hx, hb, -⟩ := hX
  have hk1 := (Bool.and_eq_true_iff.mp hk).1
  have hk2 := Nat.le_of_ble_eq_true (Bool.and_eq_true_iff.mp hk).2
  exact fun H locs ls hz hK hS hl => lv_dstore hx hb hd hl (by omega) rfl (fun ls1 h1 => k H locs ls1 hz hK hS (jj_st2 (v := .double x) hk1 h1))
theorem jr_dstore_n (hX : jj_Cx X D cc own nL ret nm rm tb) {i : Fin 4} {x : UInt64} (hd : decode cc pc = .ok (.dstore_n i, 1)) (hk : (jj_ok L (i : Nat) && Nat.ble ((i : Nat) + 2) nL) = true) (k : jj_J X D nL cs sl Q n K I P G (pc + 1) ((L.set (i : Nat) (some (.double x))).set ((i : Nat) + 1) none) rest) : jj_J X D nL cs sl Q n K I P G pc L (.double x :: rest) := by
  obtain ⟨p, l, e, R, s, m, args, below, meth, c⟩ := X
  obtain ⟨hx, hb, -⟩ := hX
  have hk1 := (Bool.and_eq_true_iff.mp hk).1
  have hk2 := Nat.le_of_ble_eq_true (Bool.and_eq_true_iff.mp hk).2
  exact fun H locs ls hz hK hS hl => lv_dstore_n hx hb hd rfl hl (by omega) rfl (fun ls1 h1 => k H locs ls1 hz hK hS (jj_st2 (v := .double x) hk1 h1))
theorem jr_iinc (hX : jj_Cx X D cc own nL ret nm rm tb) {i : Nat} {z : Int} {x v : Int32} (hd : decode cc pc = .ok (.iinc i z, 3)) (hL : L[i]? = some (some (.int x))) (hv : x + Int32.ofInt z = v) (hk : (jj_ok L i && Nat.ble (i + 1) nL) = true) (k : jj_J X D nL cs sl Q n K I P G (pc + 3) (L.set i (some (.int v))) rest) : jj_J X D nL cs sl Q n K I P G pc L rest := by
  obtain ⟨p, l, e, R, s, m, args, below, meth, c⟩ := X
  obtain ⟨hx, hb, -⟩ := hX
  have hk1 := (Bool.and_eq_true_iff.mp hk).1
  have hk2 := Nat.le_of_ble_eq_true (Bool.and_eq_true_iff.mp hk).2
  intro H locs ls hz hK hS hl
  obtain ⟨j, hj⟩ := List.getElem?_of_mem (jj_L_mem (D := D) (L := L) (q := (i, .int x)).mpr ⟨.int x, hL, rfl⟩)
  exact lv_iinc hx hb hd hl hj hv (by omega) rfl (fun ls1 h1 => k H locs ls1 hz hK hS (jj_st1 (v := .int v) hk1 h1))
theorem jr_if_eq (hX : jj_Cx X D cc own nL ret nm rm tb) {x : Int32} {off : Int} {tgt : Nat} (hd : decode cc pc = .ok (.ifCond .eq off, 3)) (ht : (pc : Int) + off = (tgt : Int)) (kt : x = 0 → jj_J X D nL cs sl Q n K I P G tgt L rest) (kf : ¬ x = 0 → jj_J X D nL cs sl Q n K I P G (pc + 3) L rest) : jj_J X D nL cs sl Q n K I P G pc L (.int x :: rest) := by
  obtain ⟨p, l, e, R, s, m, args, below, meth, c⟩ := X
  obtain ⟨hx, hb, -⟩ := hX
  exact fun H locs ls hz hK hS hl => lv_if_eq hx hb hd ht (fun q => kt q H locs ls hz hK hS hl) (fun q => kf q H locs ls hz hK hS hl)
theorem jr_if_ne (hX : jj_Cx X D cc own nL ret nm rm tb) {x : Int32} {off : Int} {tgt : Nat} (hd : decode cc pc = .ok (.ifCond .ne off, 3)) (ht : (pc : Int) + off = (tgt : Int)) (kt : ¬ x = 0 → jj_J X D nL cs sl Q n K I P G tgt L rest) (kf : x = 0 → jj_J X D nL cs sl Q n K I P G (pc + 3) L rest) : jj_J X D nL cs sl Q n K I P G pc L (.int x :: rest) := by
  obtain ⟨p, l, e, R, s, m, args, below, meth, c⟩ := X
  obtain ⟨hx, hb, -⟩ := hX
  exact fun H locs ls hz hK hS hl => lv_if_ne hx hb hd ht (fun q => kt q H locs ls hz hK hS hl) (fun q => kf q H locs ls hz hK hS hl)
theorem jr_if_lt (hX : jj_Cx X D cc own nL ret nm rm tb) {x : Int32} {off : Int} {tgt : Nat} (hd : decode cc pc = .ok (.ifCond .lt off, 3)) (ht : (pc : Int) + off = (tgt : Int)) (kt : x < 0 → jj_J X D nL cs sl Q n K I P G tgt L rest) (kf : ¬ x < 0 → jj_J X D nL cs sl Q n K I P G (pc + 3) L rest) : jj_J X D nL cs sl Q n K I P G pc L (.int x :: rest) := by
  obtain ⟨p, l, e, R, s, m, args, below, meth, c⟩ := X
  obtain ⟨hx, hb, -⟩ := hX
  exact fun H locs ls hz hK hS hl => lv_if_lt hx hb hd ht (fun q => kt q H locs ls hz hK hS hl) (fun q => kf q H locs ls hz hK hS hl)
theorem jr_if_ge (hX : jj_Cx X D cc own nL ret nm rm tb) {x : Int32} {off : Int} {tgt : Nat} (hd : decode cc pc = .ok (.ifCond .ge off, 3)) (ht : (pc : Int) + off = (tgt : Int)) (kt : 0 ≤ x → jj_J X D nL cs sl Q n K I P G tgt L rest) (kf : ¬ 0 ≤ x → jj_J X D nL cs sl Q n K I P G (pc + 3) L rest) : jj_J X D nL cs sl Q n K I P G pc L (.int x :: rest) := by
  obtain ⟨p, l, e, R, s, m, args, below, meth, c⟩ := X
  obtain ⟨hx, hb, -⟩ := hX
  exact fun H locs ls hz hK hS hl => lv_if_ge hx hb hd ht (fun q => kt q H locs ls hz hK hS hl) (fun q => kf q H locs ls hz hK hS hl)
theorem jr_if_gt (hX : jj_Cx X D cc own nL ret nm rm tb) {x : Int32} {off : Int} {tgt : Nat} (hd : decode cc pc = .ok (.ifCond .gt off, 3)) (ht : (pc : Int) + off = (tgt : Int)) (kt : 0 < x → jj_J X D nL cs sl Q n K I P G tgt L rest) (kf : ¬ 0 < x → jj_J X D nL cs sl Q n K I P G (pc + 3) L rest) : jj_J X D nL cs sl Q n K I P G pc L (.int x :: rest) := by
  obtain ⟨p, l, e, R, s, m, args, below, meth, c⟩ := X
  obtain ⟨hx, hb, -⟩ := hX
  exact fun H locs ls hz hK hS hl => lv_if_gt hx hb hd ht (fun q => kt q H locs ls hz hK hS hl) (fun q => kf q H locs ls hz hK hS hl)
theorem jr_if_le (hX : jj_Cx X D cc own nL ret nm rm tb) {x : Int32} {off : Int} {tgt : Nat} (hd : decode cc pc = .ok (.ifCond .le off, 3)) (ht : (pc : Int) + off = (tgt : Int)) (kt : x ≤ 0 → jj_J X D nL cs sl Q n K I P G tgt L rest) (kf : ¬ x ≤ 0 → jj_J X D nL cs sl Q n K I P G (pc + 3) L rest) : jj_J X D nL cs sl Q n K I P G pc L (.int x :: rest) := by
  obtain ⟨p, l, e, R, s, m, args, below, meth, c⟩ := X
  obtain ⟨hx, hb, -⟩ := hX
  exact fun H locs ls hz hK hS hl => lv_if_le hx hb hd ht (fun q => kt q H locs ls hz hK hS hl) (fun q => kf q H locs ls hz hK hS hl)
theorem jr_icmp_eq (hX : jj_Cx X D cc own nL ret nm rm tb) {x y : Int32} {off : Int} {tgt : Nat} (hd : decode cc pc = .ok (.if_icmp .eq off, 3)) (ht : (pc : Int) + off = (tgt : Int)) (kt : x = y → jj_J X D nL cs sl Q n K I P G tgt L rest) (kf : ¬ x = y → jj_J X D nL cs sl Q n K I P G (pc + 3) L rest) : jj_J X D nL cs sl Q n K I P G pc L (.int y :: .int x :: rest) := by
  obtain ⟨p, l, e, R, s, m, args, below, meth, c⟩ := X
  obtain ⟨hx, hb, -⟩ := hX
  exact fun H locs ls hz hK hS hl => lv_icmp_eq hx hb hd ht (fun q => kt q H locs ls hz hK hS hl) (fun q => kf q H locs ls hz hK hS hl)
theorem jr_icmp_ne (hX : jj_Cx X D cc own nL ret nm rm tb) {x y : Int32} {off : Int} {tgt : Nat} (hd : decode cc pc = .ok (.if_icmp .ne off, 3)) (ht : (pc : Int) + off = (tgt : Int)) (kt : ¬ x = y → jj_J X D nL cs sl Q n K I P G tgt L rest) (kf : x = y → jj_J X D nL cs sl Q n K I P G (pc + 3) L rest) : jj_J X D nL cs sl Q n K I P G pc L (.int y :: .int x :: rest) := by
  obtain ⟨p, l, e, R, s, m, args, below, meth, c⟩ := X
  obtain ⟨hx, hb, -⟩ := hX
  exact fun H locs ls hz hK hS hl => lv_icmp_ne hx hb hd ht (fun q => kt q H locs ls hz hK hS hl) (fun q => kf q H locs ls hz hK hS hl)
theorem jr_icmp_lt (hX : jj_Cx X D cc own nL ret nm rm tb) {x y : Int32} {off : Int} {tgt : Nat} (hd : decode cc pc = .ok (.if_icmp .lt off, 3)) (ht : (pc : Int) + off = (tgt : Int)) (kt : x < y → jj_J X D nL cs sl Q n K I P G tgt L rest) (kf : ¬ x < y → jj_J X D nL cs sl Q n K I P G (pc + 3) L rest) : jj_J X D nL cs sl Q n K I P G pc L (.int y :: .int x :: rest) := by
  obtain ⟨p, l, e, R, s, m, args, below, meth, c⟩ := X
  obtain ⟨hx, hb, -⟩ := hX
  exact fun H locs ls hz hK hS hl => lv_icmp_lt hx hb hd ht (fun q => kt q H locs ls hz hK hS hl) (fun q => kf q H locs ls hz hK hS hl)
theorem jr_icmp_ge (hX : jj_Cx X D cc own nL ret nm rm tb) {x y : Int32} {off : Int} {tgt : Nat} (hd : decode cc pc = .ok (.if_icmp .ge off, 3)) (ht : (pc : Int) + off = (tgt : Int)) (kt : y ≤ x → jj_J X D nL cs sl Q n K I P G tgt L rest) (kf : ¬ y ≤ x → jj_J X D nL cs sl Q n K I P G (pc + 3) L rest) : jj_J X D nL cs sl Q n K I P G pc L (.int y :: .int x :: rest) := by
  obtain ⟨p, l, e, R, s, m, args, below, meth, c⟩ := X
  obtain ⟨hx, hb, -⟩ := hX
  exact fun H locs ls hz hK hS hl => lv_icmp_ge hx hb hd ht (fun q => kt q H locs ls hz hK hS hl) (fun q => kf q H locs ls hz hK hS hl)
theorem jr_icmp_gt (hX : jj_Cx X D cc own nL ret nm rm tb) {x y : Int32} {off : Int} {tgt : Nat} (hd : decode cc pc = .ok (.if_icmp .gt off, 3)) (ht : (pc : Int) + off = (tgt : Int)) (kt : y < x → jj_J X D nL cs sl Q n K I P G tgt L rest) (kf : ¬ y < x → jj_J X D nL cs sl Q n K I P G (pc + 3) L rest) : jj_J X D nL cs sl Q n K I P G pc L (.int y :: .int x :: rest) := by
  obtain ⟨p, l, e, R, s, m, args, below, meth, c⟩ := X
  obtain ⟨hx, hb, -⟩ := hX
  exact fun H locs ls hz hK hS hl => lv_icmp_gt hx hb hd ht (fun q => kt q H locs ls hz hK hS hl) (fun q => kf q H locs ls hz hK hS hl)
theorem jr_icmp_le (hX : jj_Cx X D cc own nL ret nm rm tb) {x y : Int32} {off : Int} {tgt : Nat} (hd : decode cc pc = .ok (.if_icmp .le off, 3)) (ht : (pc : Int) + off = (tgt : Int)) (kt : x ≤ y → jj_J X D nL cs sl Q n K I P G tgt L rest) (kf : ¬ x ≤ y → jj_J X D nL cs sl Q n K I P G (pc + 3) L rest) : jj_J X D nL cs sl Q n K I P G pc L (.int y :: .int x :: rest) := by
  obtain ⟨p, l, e, R, s, m, args, below, meth, c⟩ := X
  obtain ⟨hx, hb, -⟩ := hX
  exact fun H locs ls hz hK hS hl => lv_icmp_le hx hb hd ht (fun q => kt q H locs ls hz hK hS hl) (fun q => kf q H locs ls hz hK hS hl)
theorem jr_goto (hX : jj_Cx X D cc own nL ret nm rm tb) {off : Int} {tgt : Nat} (hd : decode cc pc = .ok (.goto off, 3)) (ht : (pc : Int) + off = (tgt : Int)) (k : jj_J X D nL cs sl Q n K I P G tgt L rest) : jj_J X D nL cs sl Q n K I P G pc L rest := by
  obtain ⟨p, l, e, R, s, m, args, below, meth, c⟩ := X
  obtain ⟨hx, hb, -⟩ := hX
  exact fun H locs ls hz hK hS hl => lv_goto hx hb hd ht (k H locs ls hz hK hS hl)
theorem jr_tabIn (hX : jj_Cx X D cc own nL ret nm rm tb) {dflt lo hi : Int} {offs : Array Int} {len : Nat} {x : Int32} {off : Int} {tgt : Nat} (hd : decode cc pc = .ok (.tableswitch dflt lo hi offs, len)) (h1 : ¬ x.toInt < lo) (h2 : ¬ hi < x.toInt) (ho : offs[(x.toInt - lo).toNat]? = some off) (ht : (pc : Int) + off = (tgt : Int)) (k : jj_J X D nL cs sl Q n K I P G tgt L rest) : jj_J X D nL cs sl Q n K I P G pc L (.int x :: rest) := by
  obtain ⟨p, l, e, R, s, m, args, below, meth, c⟩ := X
  obtain ⟨hx, hb, -⟩ := hX
  exact fun H locs ls hz hK hS hl => lv_tableIn hx hb hd h1 h2 ho ht (k H locs ls hz hK hS hl)
theorem jr_tabOut (hX : jj_Cx X D cc own nL ret nm rm tb) {dflt lo hi : Int} {offs : Array Int} {len : Nat} {x : Int32} {tgt : Nat} (hd : decode cc pc = .ok (.tableswitch dflt lo hi offs, len)) (h1 : x.toInt < lo ∨ hi < x.toInt) (ht : (pc : Int) + dflt = (tgt : Int)) (k : jj_J X D nL cs sl Q n K I P G tgt L rest) : jj_J X D nL cs sl Q n K I P G pc L (.int x :: rest) := by
  obtain ⟨p, l, e, R, s, m, args, below, meth, c⟩ := X
  obtain ⟨hx, hb, -⟩ := hX
  exact fun H locs ls hz hK hS hl => lv_tableOut hx hb hd h1 ht (k H locs ls hz hK hS hl)
theorem jr_cg {pc1 : Nat} {L1 : List (Option Value)} {st st1 : List Value} {I1 : jj_I} (k : jj_J X D nL cs sl Q n K I1 P G pc1 L1 st1) (h1 : pc1 = pc) (h2 : L1 = L) (h3 : st1 = st) (h4 : I1 = I) : jj_J X D nL cs sl Q n K I P G pc L st := by
  subst h1; subst h2; subst h3; subst h4; exact k
theorem jr_widen {cs1 sl1 : Nat} {st : List Value} (h1 : cs ≤ cs1) (h2 : sl ≤ sl1) (k : jj_J X D nL cs1 sl1 Q n K I P G pc L st) : jj_J X D nL cs sl Q n K I P G pc L st := by
  obtain ⟨p, l, e, R, s, m, args, below, meth, c⟩ := X
  exact fun H locs ls hz hK hS hl => W.widen h1 h2 (k H locs ls hz hK hS hl)
theorem jr_forget {K1 : jj_K} {L1 : List (Option Value)} {st : List Value} (h1 : ∀ a kd, K1 a = some kd → K a = some kd) (h2 : ∀ (i : Nat) (v : Value), L1[i]? = some (some v) → L[i]? = some (some v)) (k : jj_J X D nL cs sl Q n K1 I P G pc L1 st) : jj_J X D nL cs sl Q n K I P G pc L st := by
  obtain ⟨p, l, e, R, s, m, args, below, meth, c⟩ := X
  exact fun H locs ls hz hK hS hl => k H locs ls hz (fun a kd h => hK a kd (h1 a kd h)) hS ⟨hl.1, hl.2.1, fun q hq => by
    obtain ⟨v, a1, a2⟩ := jj_L_mem.mp hq
    exact hl.2.2 q (jj_L_mem.mpr ⟨v, h2 _ _ a1, a2⟩)⟩
/-- a field that the class file of 'own' links at 'idx': class c, place k -/
def jj_F (own : String) (idx c k : Nat) (fin : Bool) : Prop := ∃ (C : String) (T : u_T) (N : Nat) (ty : Nat → FieldType), vwCl[c]? = some (C, T, N) ∧ jj_N c = N ∧ c < 10 ∧ k < N ∧ (∀ w ∈ u_ws C T N, w ∈ jj_W) ∧ Cond.fieldLink own idx (T k).1 (T k).2.1 (T k).2.2.1 ∈ jj_W ∧ (T k).2.2.2 = fin ∧
  (∀ k, k < N → parseFieldDescriptor (T k).2.2.1 = some (ty k)) ∧ (∀ a, a < N → ∀ b, b < N → a ≠ b → (T a).2.1 ≠ (T b).2.1) ∧ (jj_isR c k = false → ty k = .int) ∧ (jj_isR c k = true → (∃ n, ty k = .object n) ∨ ∃ t, ty k = .array t) ∧ (fin = true → (T k).1 = own)
theorem jr_getv (hX : jj_Cx X D cc own nL ret nm rm tb) {idx ci z k a : Nat} {fin : Bool} (hF : jj_F own idx ci k fin) (hk : K a = some (ci, z)) (hd : decode cc pc = .ok (.getfield idx, 3)) (H : Heap) (hK : jj_H D K n I P G H) : 
  match X with | (p, l, e, R, s, m, args, below, meth, c) => ∀ (locs : List Loc) (ls : Array Slot) (rst : List Value), W p l e R s m args below meth c H locs cs sl Q (F0 m (pc + 3) ls (jj_val D I P ci a k :: rst)) → W p l e R s m args below meth c H locs cs sl Q (F0 m pc ls (.ref (jj_ad D a) :: rst)) := by
  obtain ⟨p, l, e, R, s, m, args, below, meth, c⟩ := X
  obtain ⟨hx, hb, -, hnm, -, hown, -, -, -, hts, -, hi, hi2, hKK, -⟩ := hX
  obtain ⟨C, T, N, ty, hc, hNN, hc10, hkN, hin, hlink, hfin, hty, hnmT, htyi, htyr, hdecl⟩ := hF
  intro locs ls rst kk
  have hat := (hK a _ hk).2
  rw [jj_ent_o hc10] at hat
  exact va_get (D := D.1) (ci := ci) hx hb hts hin hown hKK (jj_va1 hat) 0 rfl hc k hkN (hts _ hlink) (fun _ h => h) (v := jj_val D I P ci a k) (jj_fs_at (by rw [hNN]; exact hkN)) hd kk
theorem jr_geti (hX : jj_Cx X D cc own nL ret nm rm tb) {idx ci z k a : Nat} {fin : Bool} (hF : jj_F own idx ci k fin) (hr : jj_isR ci k = false) (hk : K a = some (ci, z)) (hd : decode cc pc = .ok (.getfield idx, 3)) (kk : jj_J X D nL cs sl Q n K I P G (pc + 3) L (.int (I a k) :: rest)) : jj_J X D nL cs sl Q n K I P G pc L (.ref a :: rest) := by
  have h := fun H hK => jr_getv (cs := cs) (sl := sl) (Q := Q) (n := n) (I := I) (P := P) (G := G) hX hF hk hd H hK
  obtain ⟨p, l, e, R, s, m, args, below, meth, c⟩ := X
  intro H locs ls hz hK hS hl
  refine h H hK locs ls (rest.map (jj_tr D)) ?_
  have := kk H locs ls hz hK hS hl
  rw [show jj_val D I P ci a k = .int (I a k) by simp [jj_val, hr]]
  exact this
theorem jr_getr (hX : jj_Cx X D cc own nL ret nm rm tb) {idx ci z k a q : Nat} {fin : Bool} (hF : jj_F own idx ci k fin) (hr : jj_isR ci k = true) (hk : K a = some (ci, z)) (hq : P a k = some q) (hd : decode cc pc = .ok (.getfield idx, 3)) (kk : jj_J X D nL cs sl Q n K I P G (pc + 3) L (.ref q :: rest)) : jj_J X D nL cs sl Q n K I P G pc L (.ref a :: rest) := by
  have h := fun H hK => jr_getv (cs := cs) (sl := sl) (Q := Q) (n := n) (I := I) (P := P) (G := G) hX hF hk hd H hK
  obtain ⟨p, l, e, R, s, m, args, below, meth, c⟩ := X
  intro H locs ls hz hK hS hl
  refine h H hK locs ls (rest.map (jj_tr D)) ?_
  have := kk H locs ls hz hK hS hl
  rw [show jj_val D I P ci a k = .ref (jj_ad D q) by simp [jj_val, hr, jj_rf, hq, va_rf]]
  exact this
theorem jr_putv (hX : jj_Cx X D cc own nL ret nm rm tb) {idx ci z k a : Nat} (hF : jj_F own idx ci k false) (hk : K a = some (ci, z)) (h0 : 0 < a) (hd : decode cc pc = .ok (.putfield idx, 3)) {v : Value} {I1 : jj_I} {P1 : jj_P} (hv : jj_val D I1 P1 ci a k = v) (hvt : ∀ ty : FieldType, (jj_isR ci k = false → ty = .int) → (jj_isR ci k = true → (∃ n, ty = .object n) ∨ ∃ t, ty = .array t) → narrow ty v = v ∧ fits ty v = true)
  (ho : ∀ j, j ≠ k → jj_val D I1 P1 ci a j = jj_val D I P ci a j) (ho2 : ∀ b, b ≠ a → I1 b = I b ∧ P1 b = P b) (H : Heap) (hz : H.size + 1 = D.2.2.2 + n) (hK : jj_H D K n I P G H) :
  match X with | (p, l, e, R, s, m, args, below, meth, c) => ∀ (locs : List Loc) (ls : Array Slot) (rst : List Value), va_S (jj_A D) s.heap H locs → (∀ (H1 : Heap) (locs1 : List Loc), H1.size + 1 = D.2.2.2 + n → jj_H D K n I1 P1 G H1 → va_S (jj_A D) s.heap H1 locs1 → W p l e R s m args below meth c H1 locs1 cs sl Q (F0 m (pc + 3) ls rst)) → W p l e R s m args below meth c H locs cs sl Q (F0 m pc ls (v :: .ref (jj_ad D a) :: rst)) := by
  obtain ⟨p, l, e, R, s, m, args, below, meth, c⟩ := X
  obtain ⟨hx, hb, -, hnm, -, hown, -, -, -, hts, -, hi, hi2, hKK, -⟩ := hX
  obtain ⟨C, T, N, ty, hc, hNN, hc10, hkN, hin, hlink, hfin, hty, hnmT, htyi, htyr, hdecl⟩ := hF
  intro locs ls rst hS0 kk
  have hat := (hK a _ hk).2
  rw [jj_ent_o hc10] at hat
  have hap := va_apart (own := own) hts hin ty hty hnmT hKK hc
  obtain ⟨r, h1, cell, q1, q2, q3, q4⟩ := hat
  have hr : r = (C, T, N) := Option.some.inj (h1.symm.trans hc)
  subst hr
  obtain ⟨hS', hfc, kC, hkC, hkind⟩ := hKK.1 ci _ hc
  obtain ⟨cf, kf, fi, f, hif, hsl⟩ := hS' k hkN
  have hlay := hts _ (hin _ (u_in_lay hkN))
  unfold u_lay at hlay
  rw [if_neg (by rw [hfin]; decide)] at hlay
  have hst := (u_facts hfc hkC (u_lays hts hin hkN) hif).1
  obtain ⟨hnar, hfit⟩ := hvt (ty k) htyi htyr
  have h6 := u_store hfc hkC hkind hlay hif (hty k hkN) hnar hfit
  have hll : k < (jj_fs D I P ci a).length := by simp [jj_fs, hNN]; exact hkN
  refine W.putK hx hb (f := f) ⟨hown, hts _ hlink, ⟨_, _, _, hif⟩, hst⟩ (by rw [q2]; exact h6) q1 q3 (by rw [hsl]; exact k2_hasslot (q4 k hkN)) rfl rfl hd fun H' e1 e2 e3 => ?_
  rw [hsl] at e1 ⊢
  refine kk H' _ (by rw [e2]; exact hz) (jj_H_st hK hi (a := a) (fun kd hkd => ?_) e3 (fun b kd hb => jj_ent_cg (ho2 b hb).1 (ho2 b hb).2 rfl kd)) (hS0.put e2 e3 (jj_ad_A h0))
  cases hk.symm.trans hkd
  rw [jj_ent_o hc10, ← jj_fs_set hv ho]
  exact ⟨_, hc, t_OB.to (V := updV (vp_V (jj_fs D I P ci a)) k v) ⟨_, e1, q2, q3, t_set q4 hap hkN v⟩ (fun j _ => vp_updV_set hll v j)⟩
theorem jr_puti (hX : jj_Cx X D cc own nL ret nm rm tb) {idx ci z k a : Nat} {x : Int32} (hF : jj_F own idx ci k false) (hr : jj_isR ci k = false) (hk : K a = some (ci, z)) (h0 : 0 < a) (hd : decode cc pc = .ok (.putfield idx, 3)) (kk : jj_J X D nL cs sl Q n K (jj_u I a k x) P G (pc + 3) L rest) : jj_J X D nL cs sl Q n K I P G pc L (.int x :: .ref a :: rest) := by
  have h := fun H hz hK => jr_putv (cs := cs) (sl := sl) (Q := Q) (n := n) (I := I) (P := P) (G := G) (v := .int x) (I1 := jj_u I a k x) (P1 := P) hX hF hk h0 hd (by simp [jj_val, hr, jj_u]) (fun ty h1 _ => by rw [h1 hr]; exact ⟨rfl, rfl⟩)
    (fun j hj => by simp [jj_val, jj_u, hj]) (fun b hb => ⟨jj_u_ne hb, rfl⟩) H hz hK
  obtain ⟨p, l, e, R, s, m, args, below, meth, c⟩ := X
  intro H locs ls hz hK hS hl
  exact h H hz hK locs ls (rest.map (jj_tr D)) hS (fun H1 locs1 hz1 hK1 hS1 => kk H1 locs1 ls hz1 hK1 hS1 hl)
theorem jr_putr (hX : jj_Cx X D cc own nL ret nm rm tb) {idx ci z k a q : Nat} (hF : jj_F own idx ci k false) (hr : jj_isR ci k = true) (hk : K a = some (ci, z)) (h0 : 0 < a) (hd : decode cc pc = .ok (.putfield idx, 3)) (kk : jj_J X D nL cs sl Q n K I (jj_u P a k (some q)) G (pc + 3) L rest) : jj_J X D nL cs sl Q n K I P G pc L (.ref q :: .ref a :: rest) := by
  have h := fun H hz hK => jr_putv (cs := cs) (sl := sl) (Q := Q) (n := n) (I := I) (P := P) (G := G) (v := .ref (jj_ad D q)) (I1 := I) (P1 := jj_u P a k (some q)) hX hF hk h0 hd (by simp [jj_val, hr, jj_u, jj_rf, va_rf]) (fun ty _ h2 => by rcases h2 hr with ⟨n, rfl⟩ | ⟨t, rfl⟩ <;> exact ⟨rfl, rfl⟩)
    (fun j hj => by simp [jj_val, jj_u, hj]) (fun b hb => ⟨rfl, jj_u_ne hb⟩) H hz hK
  obtain ⟨p, l, e, R, s, m, args, below, meth, c⟩ := X
  intro H locs ls hz hK hS hl
  exact h H hz hK locs ls (rest.map (jj_tr D)) hS (fun H1 locs1 hz1 hK1 hS1 => kk H1 locs1 ls hz1 hK1 hS1 hl)
theorem jr_putF (hX : jj_Cx X D cc own nL ret nm rm tb) {idx ci z k a q : Nat} (hF : jj_F own idx ci k true) (hini : nm = "<init>") (hr : jj_isR ci k = true) (hk : K a = some (ci, z)) (h0 : 0 < a) (hd : decode cc pc = .ok (.putfield idx, 3)) (kk : jj_J X D nL cs sl Q n K I (jj_u P a k (some q)) G (pc + 3) L rest) : jj_J X D nL cs sl Q n K I P G pc L (.ref q :: .ref a :: rest) := by
  obtain ⟨p, l, e, R, s, m, args, below, meth, c⟩ := X
  obtain ⟨hx, hb, -, hnm, -, hown, -, -, -, hts, -, hi, hi2, hKK, -⟩ := hX
  obtain ⟨C, T, N, ty, hc, hNN, hc10, hkN, hin, hlink, hfin, hty, hnmT, htyi, htyr, hdecl⟩ := hF
  intro H locs ls hz hK hS0 hl
  have hat := (hK a _ hk).2
  rw [jj_ent_o hc10] at hat
  have hap := va_apart (own := own) hts hin ty hty hnmT hKK hc
  obtain ⟨r, h1, cell, q1, q2, q3, q4⟩ := hat
  have hr0 : r = (C, T, N) := Option.some.inj (h1.symm.trans hc)
  subst hr0
  obtain ⟨hS', hfc, kC, hkC, hkind⟩ := hKK.1 ci _ hc
  obtain ⟨cf, kf, fi, f, hif, hsl⟩ := hS' k hkN
  have hlay := hts _ (hin _ (u_in_lay hkN))
  unfold u_lay at hlay
  rw [if_pos hfin] at hlay
  have hst := (u_facts hfc hkC (u_lays hts hin hkN) hif).1
  have hcf : m.cls = cf := by
    obtain ⟨_, _, c', _, _, _, -, -, hf', -, -, -, hown2, -⟩ := Cond.laysFinal_spec hlay
    have e1 : c' = cf := by have := hif.symm.trans hf'; simp at this; exact this.1.symm
    rw [hdecl rfl] at hown2
    rw [← e1]; exact Option.some.inj (hown.symm.trans hown2)
  have hnar : narrow (ty k) (.ref (jj_ad D q)) = .ref (jj_ad D q) ∧ fits (ty k) (.ref (jj_ad D q)) = true := by
    rcases htyr hr with ⟨n, h⟩ | ⟨t, h⟩ <;> rw [h] <;> exact ⟨rfl, rfl⟩
  have h6 := u_fits hfc hkC hkind (Or.inr hlay) hif (hty k hkN) hnar.1 hnar.2
  have hll : k < (jj_fs D I P ci a).length := by simp [jj_fs, hNN]; exact hkN
  refine W.putFinK hx hb hown (hts _ hlink) hif hst hcf (hnm.trans hini) (by rw [q2]; exact h6) q1 q3 (by rw [hsl]; exact k2_hasslot (q4 k hkN)) rfl rfl hd fun H' e1 e2 e3 => ?_
  rw [hsl] at e1 ⊢
  refine kk H' _ ls (by rw [e2]; exact hz) (jj_H_st hK hi (a := a) (fun kd hkd => ?_) e3 (fun b kd hb => jj_ent_cg rfl (jj_u_ne hb) rfl kd)) (hS0.put e2 e3 (jj_ad_A h0)) hl
  cases hk.symm.trans hkd
  rw [jj_ent_o hc10, ← jj_fs_set (I := I) (P := P) (k := k) (v := .ref (jj_ad D q)) (by simp [jj_val, hr, jj_u, jj_rf, va_rf]) (fun j hj => by simp [jj_val, jj_u, hj])]
  exact ⟨_, hc, t_OB.to (V := updV (vp_V (jj_fs D I P ci a)) k (.ref (jj_ad D q))) ⟨_, e1, q2, q3, t_set q4 hap hkN (.ref (jj_ad D q))⟩ (fun j _ => vp_updV_set hll (.ref (jj_ad D q)) j)⟩
theorem jr_alen (hX : jj_Cx X D cc own nL ret nm rm tb) {t len a : Nat} (ht : 10 ≤ t ∧ t ≤ 15) (hk : K a = some (t, len)) (hd : decode cc pc = .ok (.arraylength, 1)) (kk : jj_J X D nL cs sl Q n K I P G (pc + 1) L (.int (nI len) :: rest)) : jj_J X D nL cs sl Q n K I P G pc L (.ref a :: rest) := by
  obtain ⟨p, l, e, R, s, m, args, below, meth, c⟩ := X
  obtain ⟨hx, hb, -, -, -, hown, -, -, -, hts, -, hi, hi2, hKK, -⟩ := hX
  intro H locs ls hz hK hS hl
  have hat := (hK a _ hk).2
  rw [jj_ent_a ht.1] at hat
  obtain ⟨ty, hty⟩ : ∃ ty, (jj_tys D)[t - 10]? = some (D.2.1 t, ty) := by
    obtain ⟨h1, h2⟩ := ht
    match t, h1, h2 with
    | 10, _, _ => exact ⟨_, rfl⟩
    | 11, _, _ => exact ⟨_, rfl⟩
    | 12, _, _ => exact ⟨_, rfl⟩
    | 13, _, _ => exact ⟨_, rfl⟩
    | 14, _, _ => exact ⟨_, rfl⟩
    | 15, _, _ => exact ⟨_, rfl⟩
  exact va_alen hx hb hKK (jj_va1 hat) 0 (t - 10) rfl hty (v := nI len) (by
    unfold jj_arr
    split
    · rfl
    · split <;> rfl) hd (kk H locs ls hz hK hS hl)
theorem jr_iald (hX : jj_Cx X D cc own nL ret nm rm tb) {x : Int32} {j len a : Nat} (hk : K a = some (10, len)) (hj : x = nI j) (hN : j < len ∧ len < 2147483648) (hd : decode cc pc = .ok (.iaload, 1)) (kk : jj_J X D nL cs sl Q n K I P G (pc + 1) L (.int (I a j) :: rest)) : jj_J X D nL cs sl Q n K I P G pc L (.int x :: .ref a :: rest) := by
  obtain ⟨p, l, e, R, s, m, args, below, meth, c⟩ := X
  obtain ⟨hx, hb, -, -, -, hown, -, -, -, hts, -, hi, hi2, hKK, -⟩ := hX
  subst hj
  intro H locs ls hz hK hS hl
  have hat := (hK a _ hk).2
  rw [jj_ent_a (by decide)] at hat
  refine va_iald (n := len) (f := I a) hx hb hKK (jj_va1 hat) 0 0 rfl rfl (vp_in_nI hN.1 hN.2) hd ?_
  rw [nI_clamp (by omega)]
  exact kk H locs ls hz hK hS hl
theorem jr_iast (hX : jj_Cx X D cc own nL ret nm rm tb) {x y : Int32} {j len a : Nat} (hk : K a = some (10, len)) (h0 : 0 < a) (hj : x = nI j) (hN : j < len ∧ len < 2147483648) (hd : decode cc pc = .ok (.iastore, 1)) (kk : jj_J X D nL cs sl Q n K (jj_u I a j y) P G (pc + 1) L rest) : jj_J X D nL cs sl Q n K I P G pc L (.int y :: .int x :: .ref a :: rest) := by
  obtain ⟨p, l, e, R, s, m, args, below, meth, c⟩ := X
  obtain ⟨hx, hb, -, -, -, hown, -, -, -, hts, -, hi, hi2, hKK, -⟩ := hX
  subst hj
  intro H locs ls hz hK hS hl
  have hat := (hK a _ hk).2
  rw [jj_ent_a (by decide)] at hat
  have hin := vp_in_nI hN.1 hN.2
  refine W.iast hx hb hat ((hKK.2 0 _ rfl).1 len (fun j => .int (I a j))) (fun q => by cases q) (by show ¬ (nI j < 0 ∨ (arrV _ _ _).slots.size ≤ _); rw [arrV_size]; exact hin) rfl rfl hd fun H1 e z oq => ?_
  rw [nI_clamp (by omega)] at e ⊢
  refine kk H1 _ ls (by rw [z]; exact hz) (jj_H_st hK hi (a := a) (fun kd hkd => ?_) oq (fun b kd hb => jj_ent_cg (jj_u_ne hb) rfl rfl kd)) (hS.put z oq (jj_ad_A h0)) hl
  cases hk.symm.trans hkd
  rw [jj_ent_a (by decide)]
  show H1[jj_ad D a]? = some (vp_cell _ (len, .inl (jj_u I a j y a)))
  rw [e]
  show some ((vp_cell (D.2.1 10) (len, .inl (I a))).setSlot j (.int y)) = _
  rw [vp_cell_i, vp_cell_i, arrV_store]
  congr 2
  funext q
  by_cases hq : q = j
  · subst hq
    simp [updV, jj_u]
  · simp [updV, jj_u, hq]
theorem jr_lald (hX : jj_Cx X D cc own nL ret nm rm tb) {x : Int32} {j len a : Nat} (hk : K a = some (11, len)) (hj : x = nI j) (hN : j < len ∧ len < 2147483648) (hd : decode cc pc = .ok (.laload, 1)) (kk : jj_J X D nL cs sl Q n K I P G (pc + 1) L (.long (G a j) :: rest)) : jj_J X D nL cs sl Q n K I P G pc L (.int x :: .ref a :: rest) := by
  obtain ⟨p, l, e, R, s, m, args, below, meth, c⟩ := X
  obtain ⟨hx, hb, -, -, -, hown, -, -, -, hts, -, hi, hi2, hKK, -⟩ := hX
  subst hj
  intro H locs ls hz hK hS hl
  have hat := (hK a _ hk).2
  rw [jj_ent_a (by decide)] at hat
  refine va_lald (n := len) (f := G a) hx hb hKK (jj_va1 hat) 0 1 rfl rfl (vp_in_nI hN.1 hN.2) hd ?_
  rw [nI_clamp (by omega)]
  exact kk H locs ls hz hK hS hl
theorem jr_last (hX : jj_Cx X D cc own nL ret nm rm tb) {x : Int32} {y : Int64} {j len a : Nat} (hk : K a = some (11, len)) (h0 : 0 < a) (hj : x = nI j) (hN : j < len ∧ len < 2147483648) (hd : decode cc pc = .ok (.lastore, 1)) (kk : jj_J X D nL cs sl Q n K I P (jj_u G a j y) (pc + 1) L rest) : jj_J X D nL cs sl Q n K I P G pc L (.long y :: .int x :: .ref a :: rest) := by
  obtain ⟨p, l, e, R, s, m, args, below, meth, c⟩ := X
  obtain ⟨hx, hb, -, -, -, hown, -, -, -, hts, -, hi, hi2, hKK, -⟩ := hX
  subst hj
  intro H locs ls hz hK hS hl
  have hat := (hK a _ hk).2
  rw [jj_ent_a (by decide)] at hat
  have hin := vp_in_nI hN.1 hN.2
  refine W.last hx hb hat ((hKK.2 1 _ rfl).1 len (fun j => .long (G a j))) (fun q => by cases q) (by show ¬ (nI j < 0 ∨ (arrV _ _ _).slots.size ≤ _); rw [arrV_size]; exact hin) rfl rfl hd fun H1 e z oq => ?_
  rw [nI_clamp (by omega)] at e ⊢
  refine kk H1 _ ls (by rw [z]; exact hz) (jj_H_st hK hi (a := a) (fun kd hkd => ?_) oq (fun b kd hb => jj_ent_cg rfl rfl (jj_u_ne hb) kd)) (hS.put z oq (jj_ad_A h0)) hl
  cases hk.symm.trans hkd
  rw [jj_ent_a (by decide)]
  show H1[jj_ad D a]? = some (vp_cell _ (len, .inr (.inl (jj_u G a j y a))))
  rw [e]
  show some ((vp_cell (D.2.1 11) (len, .inr (.inl (G a)))).setSlot j (.long y)) = _
  rw [vp_cell_l, vp_cell_l, arrV_store]
  congr 2
  funext q
  by_cases hq : q = j
  · subst hq
    simp [updV, jj_u]
  · simp [updV, jj_u, hq]
theorem jr_aald (hX : jj_Cx X D cc own nL ret nm rm tb) {x : Int32} {j len a t q : Nat} (ht : 12 ≤ t ∧ t ≤ 15) (hk : K a = some (t, len)) (hj : x = nI j) (hN : j < len ∧ len < 2147483648) (hq : P a j = some q) (hd : decode cc pc = .ok (.aaload, 1)) (kk : jj_J X D nL cs sl Q n K I P G (pc + 1) L (.ref q :: rest)) : jj_J X D nL cs sl Q n K I P G pc L (.int x :: .ref a :: rest) := by
  obtain ⟨p, l, e, R, s, m, args, below, meth, c⟩ := X
  obtain ⟨hx, hb, -, -, -, hown, -, -, -, hts, -, hi, hi2, hKK, -⟩ := hX
  subst hj
  intro H locs ls hz hK hS hl
  have hat := (hK a _ hk).2
  obtain ⟨ty, hty, hre⟩ : ∃ ty, (jj_tys D)[t - 10]? = some (D.2.1 t, ty) ∧ ty.isReference = true := by
    obtain ⟨h1, h2⟩ := ht
    match t, h1, h2 with
    | 12, _, _ => exact ⟨_, rfl, rfl⟩
    | 13, _, _ => exact ⟨_, rfl, rfl⟩
    | 14, _, _ => exact ⟨_, rfl, rfl⟩
    | 15, _, _ => exact ⟨_, rfl, rfl⟩
  have hin := vp_in_nI hN.1 hN.2
  rw [jj_ent_a (by omega), show jj_arr D I P G t len a = (len, .inr (.inr (.inr (.inr (fun k => (P a k).map (jj_ad D)))))) by
    unfold jj_arr; rw [if_neg (by omega), if_neg (by omega)]] at hat
  refine W.aald (v := .ref (jj_ad D q)) (ty := ty) hx hb hat ((hKK.2 (t - 10) _ hty).1 len (fun k => va_rf ((P a k).map (jj_ad D)))) hre (fun q => by cases q) (by show ¬ (nI j < 0 ∨ (arrV _ _ _).slots.size ≤ _); rw [arrV_size]; exact hin) ?_ rfl rfl hd (kk H locs ls hz hK hS hl)
  show (arrV _ _ _).slots[_]? = _
  rw [nI_clamp (by omega), arrV_read _ _ hN.1]
  show some (va_rf ((P a j).map (jj_ad D))) = _
  rw [hq]
  rfl
end JR
end
section
/-! contracts over the run's own memory, and calls of them -/
abbrev jj_post : Type := Option Value → Nat → jj_K → jj_I → jj_P → jj_G → Prop
abbrev jj_px : Type := String → Nat → jj_K → jj_I → jj_P → jj_G → Prop
def jj_Aft (D : jj_D) (n : Nat) (K : jj_K) (I : jj_I) (P : jj_P) (G : jj_G) (t : State) : Prop := t.heap.size + 1 = D.2.2.2 + n ∧ jj_H D K n I P G t.heap
def jj_Q (D : jj_D) (post : jj_post) : Array Value → State → Outcome → State → Prop := fun _ st o t =>
  (∃ (r : Option Value) (n : Nat) (K : jj_K) (I : jj_I) (P : jj_P) (G : jj_G), o = .returned (r.map (jj_tr D)) ∧ post r n K I P G ∧ jj_Aft D n K I P G t) ∧ va_F (jj_A D) st t
def jj_XC (D : jj_D) (px : jj_px) : String → State → State → Prop := fun E st t =>
  (∃ (n : Nat) (K : jj_K) (I : jj_I) (P : jj_P) (G : jj_G), px E n K I P G ∧ jj_Aft D n K I P G t) ∧ va_F (jj_A D) st t
def jj_strs : List (Nat × String) := [(117, "nothing is loaded"), (153, "the boat is sunk"), (178, "nobody lends to himself"), (203, "the debt is not open"), (282, "there is no such number"), (285, "the number is too small or too great"), (287, "the number is too small"), (289, "there are as many as there can be"), (291, "there is not so much"), (296, "the boat is in no harbour")]
def jj_trav : List Cond := [.methodLinkNest RX4 36 yX2_init RX5, .methodLinkNest RX4 37 yX0_init RX5, .methodLinkNest RX4 38 yX1_init RX5, .methodLinkNest RX0 48 yX5_sum RX5, .methodLinkNest RX3 62 yX5_iceBehind RX5, .methodLinkNest RX4 160 yX5_cellOf RX5, .methodLinkNest RX3 34 yX5_copyRow RX5, .methodLinkNest RX2 19 yX5_copyRow RX5, .methodLinkNest RX0 40 yX5_copyRow RX5, .castable "java/lang/IndexOutOfBoundsException" "java/lang/IndexOutOfBoundsException", .castable "java/lang/IllegalArgumentException" "java/lang/IllegalArgumentException", .castable "java/lang/IllegalStateException" "java/lang/IllegalStateException", .castable "[I" "java/lang/Cloneable", .arrayOver (.object "IceHarbour$Boat"), .arrayOver (.object "IceHarbour$Debt"), .arrayOver (.object "IceHarbour$Merchant"), .arrayOver (.array .int)]
def jj_nc : List (String × String) := [("java/lang/IndexOutOfBoundsException", "java/lang/IllegalArgumentException"), ("java/lang/IndexOutOfBoundsException", "java/lang/IllegalStateException"), ("java/lang/IllegalArgumentException", "java/lang/IndexOutOfBoundsException"), ("java/lang/IllegalArgumentException", "java/lang/IllegalStateException"), ("java/lang/IllegalStateException", "java/lang/IndexOutOfBoundsException"), ("java/lang/IllegalStateException", "java/lang/IllegalArgumentException")]
/-- what the frames below hand on besides the good words -/
def jj_Str (U : State) : Prop := (∀ q ∈ jj_strs, ∃ sa, vk_R RX5 q.1 q.2 sa U) ∧ (∀ w ∈ jj_trav, va_Nw w U) ∧ ∀ q ∈ jj_nc, va_Nc q.1 q.2 U
theorem jj_AO_warm {ty : FieldType} {s U : State} (hW : s.WarmedH U.vm) (h : va_Nw (.arrayOver ty) s) : va_Nw (.arrayOver ty) U := by
  show (Cond.arrayOver ty).before #[] (s.setVm U.vm) = true
  rw [Cond.arrayOver_setVmC hW.alike]
  exact h
theorem jj_trav_warm {s U : State} (hW : s.WarmedH U.vm) (h : ∀ w ∈ jj_trav, va_Nw w s) : ∀ w ∈ jj_trav, va_Nw w U := by
  intro w hw
  have h1 := h w hw
  simp only [jj_trav, List.mem_cons, List.not_mem_nil, or_false] at hw
  rcases hw with rfl | rfl | rfl | rfl | rfl | rfl | rfl | rfl | rfl | rfl | rfl | rfl | rfl | rfl | rfl | rfl | rfl
  · exact h1.warmM hW
  · exact h1.warmM hW
  · exact h1.warmM hW
  · exact h1.warmM hW
  · exact h1.warmM hW
  · exact h1.warmM hW
  · exact h1.warmM hW
  · exact h1.warmM hW
  · exact h1.warmM hW
  · exact h1.warmC hW
  · exact h1.warmC hW
  · exact h1.warmC hW
  · exact h1.warmC hW
  · exact jj_AO_warm hW h1
  · exact jj_AO_warm hW h1
  · exact jj_AO_warm hW h1
  · exact jj_AO_warm hW h1
def jj_Bef (D : jj_D) (n : Nat) (K : jj_K) (I : jj_I) (P : jj_P) (G : jj_G) (U : State) : Prop := jj_Inn D n K I P G U ∧ jj_Str U
def jj_Met (l : Launch) (D : jj_D) (y : MethodName) (ws : List Cond) (rm : Room) (av : List Value) (n : Nat) (K : jj_K) (I : jj_I) (P : jj_P) (G : jj_G) (post : jj_post) (px : jj_px) : Prop :=
  vx_Met l y ws rm (va_Pc (av.map (jj_tr D)) (jj_Bef D n K I P G)) (jj_Q D post) (jj_XC D px) rm.cells rm.slots (jj_A D)
def jj_MQ (X : jj_X) (D : jj_D) (rm : Room) (post : jj_post) (px : jj_px) : State → Prop := match X with
  | (_, _, _, _, s, _, args, below, _, _) => vx_MQ below (jj_Q D post) (jj_XC D px) args s rm.cells rm.slots (jj_A D)
def jj_St (X : jj_X) : Prop := match X with
  | (_, _, _, _, s, _, _, _, _, _) => jj_Str s
/-- exactly one answer -/
def jj_R (r0 : Option Value) (n0 : Nat) (K0 : jj_K) (I0 : jj_I) (P0 : jj_P) (G0 : jj_G) : jj_post := fun r n K I P G => r = r0 ∧ n = n0 ∧ K = K0 ∧ I = I0 ∧ P = P0 ∧ G = G0
/-- a throw, all as it was -/
def jj_E (E0 : String) (n0 : Nat) (K0 : jj_K) (I0 : jj_I) (P0 : jj_P) (G0 : jj_G) : jj_px := fun E n K I P G => E = E0 ∧ n0 ≤ n ∧ K = K0 ∧ I = I0 ∧ P = P0 ∧ G = G0
def jj_noR : jj_post := fun _ _ _ _ _ _ => False
def jj_noX : jj_px := fun _ _ _ _ _ _ => False
def jj_ws (y : MethodName) (c : ByteArray) (nL : Nat) (ret : Option FieldType) : List Cond := Cond.code y c nL ret :: jj_W
def jj_args : List Value → List (Option Value)
  | [] => []
  | v :: vs => if v.category = 2 then some v :: none :: jj_args vs else some v :: jj_args vs
theorem jj_args_mem (D : jj_D) : ∀ (av : List Value) (o : Nat) (i : Nat) (v : Value), (jj_args av)[i]? = some (some v) → (o + i, jj_tr D v) ∈ lv_args o (av.map (jj_tr D))
  | [], o, i, v, h => by simp [jj_args] at h
  | w :: vs, o, i, v, h => by
    simp only [jj_args] at h
    simp only [List.map_cons, lv_args, jj_cat]
    by_cases hc : w.category = 2
    · rw [if_pos hc] at h ⊢
      match i, h with
      | 0, h => simp at h; subst h; simp
      | 1, h => simp at h
      | i + 2, h =>
        have h1 : (jj_args vs)[i]? = some (some v) := by simpa using h
        have := jj_args_mem D vs (o + 2) i v h1
        rw [show o + (i + 2) = o + 2 + i by omega]
        exact List.mem_cons_of_mem _ this
    · rw [if_neg hc] at h ⊢
      match i, h with
      | 0, h => simp at h; subst h; simp
      | i + 1, h =>
        have h1 : (jj_args vs)[i]? = some (some v) := by simpa using h
        have := jj_args_mem D vs (o + 1) i v h1
        rw [show o + (i + 1) = o + 1 + i by omega]
        exact List.mem_cons_of_mem _ this
theorem jj_Z_keep {D : jj_D} {s t : State} {H : Heap} {locs : List Loc} (hZ : jj_Z (jj_A D) s s.heap) (hS : va_S (jj_A D) s.heap H locs) (hvm : s.vm.Alike t.vm) : jj_Z (jj_A D) t H :=
  ⟨(hZ.1.moved hvm).kept (fun a h1 h2 => hS.2.1 a h1 h2), (hZ.2.moved hvm).kept (fun a h1 h2 => hS.2.1 a h1 h2)⟩
theorem jj_Str_warm {s U : State} (hW : s.WarmedH U.vm) (h : jj_Str s) : jj_Str U := ⟨fun q hq => by
    obtain ⟨sa, h1⟩ := h.1 q hq
    exact ⟨sa, h1.warm hW⟩, jj_trav_warm hW h.2.1, fun q hq => (h.2.2 q hq).moved hW.alike⟩
theorem jj_fl {X : jj_X} {D : jj_D} {cc : ByteArray} {own : String} {nL : Nat} {ret : Option FieldType} {nm : String} {rm : Room} {tb : List ExceptionTableEntry} (hX : jj_Cx X D cc own nL ret nm rm tb) : X.2.1.stackTraces = false := by
  obtain ⟨p, l, e, R, s, m, args, below, meth, c⟩ := X
  exact hX.2.2.2.2.2.2.2.1
/-- a method's contract out of its walk -/
theorem jj_of {l : Launch} (hfl : l.stackTraces = false) {D : jj_D} {y : MethodName} {cc : ByteArray} {nL : Nat} {ret : Option FieldType} {rm : Room} {av : List Value} {n : Nat} {K : jj_K} {I : jj_I} {P : jj_P} {G : jj_G} {post : jj_post} {px : jj_px}
    (hy : plainName y.cls = true) (L : List (Option Value)) (hL : (jj_args av ++ List.replicate (nL - (jj_args av).length) none) = L) (hle : Nat.ble (lg_sl av).length nL = true)
    (body : ∀ X : jj_X, X.2.1 = l → jj_Cx X D cc y.cls nL ret y.name rm [] → jj_St X → jj_J X D nL 0 0 (jj_MQ X D rm post px) n K I P G 0 L []) : jj_Met l D y (jj_ws y cc nL ret) rm av n K I P G post px := by
  refine vx_ofW (cc := cc) (maxL := nL) (ret := ret) hy rfl ?_
  intro p e s m args below meth c s₁ B hml hout hv
  obtain ⟨rfl, ⟨⟨hi, hi2, hz, hKK, hK, hZ⟩, hstr⟩⟩ := hv
  have hts := atoms_spec (ws := jj_ws y cc nL ret) B.pre
  have hlen : ∀ vs : List Value, (lg_sl (vs.map (jj_tr D))).length = (lg_sl vs).length := by
    intro vs
    induction vs with
    | nil => rfl
    | cons v vs ih =>
      simp only [lg_sl] at ih ⊢
      simp only [List.map_cons, List.flatMap_cons, List.length_append, ih, jj_cat]
      split <;> rfl
  have hl := lv_entry (av.map (jj_tr D)) (n := nL) (by rw [hlen]; exact Nat.le_of_ble_eq_true hle)
  rw [lg_entry_eq]
  refine body (p, l, e, (headSpec (jj_ws y cc nL ret) rm).room, s, m, (av.map (jj_tr D)).toArray, below, meth, c) rfl ⟨B.exec, B.bytes, B.returns, (name_of_methodNamed B.named B.method).1, hml, findClass_of_methodNamed B.named, B.notSynchronized, hfl, rfl, fun w h => hts w (List.mem_cons_of_mem _ h), ?_, hi, hi2, hKK, hZ⟩ hstr s.heap [] _ hz hK va_S.rf ⟨hl.1, hl.2.1, fun q hq => hl.2.2 q ?_⟩
  · cases h : c.exceptionTable.toList with
    | nil => rfl
    | cons x xs => exact (hout x (by rw [h]; exact List.mem_cons_self)).elim
  · obtain ⟨v, h1, h2⟩ := jj_L_mem.mp hq
    rw [← hL] at h1
    by_cases hlt : q.1 < (jj_args av).length
    · rw [List.getElem?_append_left hlt] at h1
      have := jj_args_mem D av 0 q.1 v h1
      obtain ⟨i, w⟩ := q
      dsimp only at h2 this ⊢
      rw [h2]
      simpa using this
    · rw [List.getElem?_append_right (by omega)] at h1
      simp [List.getElem?_replicate] at h1
section JC
variable {X : jj_X} {D : jj_D} {cc : ByteArray} {own nm : String} {nL : Nat} {ret : Option FieldType} {rm : Room} {tb : List ExceptionTableEntry} {cs sl : Nat} {Q : State → Prop} {n : Nat} {K : jj_K} {I : jj_I} {P : jj_P} {G : jj_G} {pc : Nat} {L : List (Option Value)} {rest : List Value} {post : jj_post} {px : jj_px}
theorem jr_iret (hX : jj_Cx X D cc own nL (some .int) nm rm tb) {x : Int32} (hd : decode cc pc = .ok (.ireturn, 1)) (hc : Nat.ble cs rm.cells = true) (hs : Nat.ble sl rm.slots = true) (h : post (some (.int x)) n K I P G) : jj_J X D nL cs sl (jj_MQ X D rm post px) n K I P G pc L [.int x] := by
  obtain ⟨p, l, e, R, s, m, args, below, meth, c⟩ := X
  obtain ⟨hx, hb, hr, -, -, -, hlocks, -⟩ := hX
  intro H locs ls hz hK hS hl
  refine W.widen (Nat.le_of_ble_eq_true hc) (Nat.le_of_ble_eq_true hs) (vx_ret ?_)
  exact W.iret (v := x) hx hb hr (fun t ht hW => ⟨⟨some (.int x), n, K, I, P, G, rfl, h, by rw [ht]; exact hz, by rw [ht]; exact hK⟩, hS.F ht⟩) hS.2.2 hd hlocks
theorem jr_zret (hX : jj_Cx X D cc own nL (some .boolean) nm rm tb) {x : Int32} (hz1 : x = 0 ∨ x = 1) (hd : decode cc pc = .ok (.ireturn, 1)) (hc : Nat.ble cs rm.cells = true) (hs : Nat.ble sl rm.slots = true) (h : post (some (.int x)) n K I P G) : jj_J X D nL cs sl (jj_MQ X D rm post px) n K I P G pc L [.int x] := by
  obtain ⟨p, l, e, R, s, m, args, below, meth, c⟩ := X
  obtain ⟨hx, hb, hr, -, -, -, hlocks, -⟩ := hX
  intro H locs ls hz hK hS hl
  refine W.widen (Nat.le_of_ble_eq_true hc) (Nat.le_of_ble_eq_true hs) (vx_ret ?_)
  exact W.zret (v := x) hx hb hr (by rcases hz1 with rfl | rfl <;> rfl) (fun t ht hW => ⟨⟨some (.int x), n, K, I, P, G, rfl, h, by rw [ht]; exact hz, by rw [ht]; exact hK⟩, hS.F ht⟩) hS.2.2 hd hlocks
theorem jr_lret (hX : jj_Cx X D cc own nL (some .long) nm rm tb) {x : Int64} (hd : decode cc pc = .ok (.lreturn, 1)) (hc : Nat.ble cs rm.cells = true) (hs : Nat.ble sl rm.slots = true) (h : post (some (.long x)) n K I P G) : jj_J X D nL cs sl (jj_MQ X D rm post px) n K I P G pc L [.long x] := by
  obtain ⟨p, l, e, R, s, m, args, below, meth, c⟩ := X
  obtain ⟨hx, hb, hr, -, -, -, hlocks, -⟩ := hX
  intro H locs ls hz hK hS hl
  refine W.widen (Nat.le_of_ble_eq_true hc) (Nat.le_of_ble_eq_true hs) (vx_ret ?_)
  exact W.lret (v := x) hx hb hr (fun t ht hW => ⟨⟨some (.long x), n, K, I, P, G, rfl, h, by rw [ht]; exact hz, by rw [ht]; exact hK⟩, hS.F ht⟩) hS.2.2 hd hlocks
theorem jr_dret (hX : jj_Cx X D cc own nL (some .double) nm rm tb) {x : UInt64} (hd : decode cc pc = .ok (.dreturn, 1)) (hc : Nat.ble cs rm.cells = true) (hs : Nat.ble sl rm.slots = true) (h : post (some (.double x)) n K I P G) : jj_J X D nL cs sl (jj_MQ X D rm post px) n K I P G pc L [.double x] := by
  obtain ⟨p, l, e, R, s, m, args, below, meth, c⟩ := X
  obtain ⟨hx, hb, hr, -, -, -, hlocks, -⟩ := hX
  intro H locs ls hz hK hS hl
  refine W.widen (Nat.le_of_ble_eq_true hc) (Nat.le_of_ble_eq_true hs) (vx_ret ?_)
  exact W.dret (v := x) hx hb hr (fun t ht hW => ⟨⟨some (.double x), n, K, I, P, G, rfl, h, by rw [ht]; exact hz, by rw [ht]; exact hK⟩, hS.F ht⟩) hS.2.2 hd hlocks
theorem jr_aret {rt : FieldType} (hX : jj_Cx X D cc own nL (some rt) nm rm tb) (hrt : (∃ n, rt = .object n) ∨ ∃ t, rt = .array t) {x : Nat} (hd : decode cc pc = .ok (.areturn, 1)) (hc : Nat.ble cs rm.cells = true) (hs : Nat.ble sl rm.slots = true) (h : post (some (.ref x)) n K I P G) : jj_J X D nL cs sl (jj_MQ X D rm post px) n K I P G pc L [.ref x] := by
  obtain ⟨p, l, e, R, s, m, args, below, meth, c⟩ := X
  obtain ⟨hx, hb, hr, -, -, -, hlocks, -⟩ := hX
  intro H locs ls hz hK hS hl
  refine W.widen (Nat.le_of_ble_eq_true hc) (Nat.le_of_ble_eq_true hs) (vx_ret ?_)
  exact W.aret (v := .ref (jj_ad D x)) hx hb hr hrt (Or.inr ⟨_, rfl⟩) (fun t ht hW => ⟨⟨some (.ref x), n, K, I, P, G, rfl, h, by rw [ht]; exact hz, by rw [ht]; exact hK⟩, hS.F ht⟩) hS.2.2 hd hlocks
theorem jr_vret (hX : jj_Cx X D cc own nL none nm rm tb) (hd : decode cc pc = .ok (.return_, 1)) (hc : Nat.ble cs rm.cells = true) (hs : Nat.ble sl rm.slots = true) (h : post none n K I P G) : jj_J X D nL cs sl (jj_MQ X D rm post px) n K I P G pc L [] := by
  obtain ⟨p, l, e, R, s, m, args, below, meth, c⟩ := X
  obtain ⟨hx, hb, hr, -, -, -, hlocks, -⟩ := hX
  intro H locs ls hz hK hS hl
  refine W.widen (Nat.le_of_ble_eq_true hc) (Nat.le_of_ble_eq_true hs) (vx_ret ?_)
  exact W.vret hx hb hr (fun t ht hW => ⟨⟨none, n, K, I, P, G, rfl, h, by rw [ht]; exact hz, by rw [ht]; exact hK⟩, hS.F ht⟩) hS.2.2 hd hlocks
/-- what a call of y from 'own' at 'idx' links to -/
def jj_MS (own : String) (idx : Nat) (y : MethodName) (c : ByteArray) (nL : Nat) (ret : Option FieldType) (ar : Nat) : Prop :=
  Cond.methodLink own idx y ∈ jj_W ∧ Cond.static y ∈ jj_W ∧ Cond.initialized y.cls ∈ jj_W ∧ Cond.code y c nL ret ∈ jj_W ∧ y.cls ≠ "java/lang/invoke/MethodHandle" ∧ y.cls ≠ "java/lang/invoke/VarHandle" ∧ (parseMethodDescriptor y.desc).map (fun d => d.parameters.length) = some ar
def jj_MV (own : String) (idx : Nat) (y : MethodName) (c : ByteArray) (nL : Nat) (ret : Option FieldType) (ar : Nat) : Prop :=
  Cond.methodLink own idx y ∈ jj_W ∧ Cond.instanceMethod y ∈ jj_W ∧ Cond.selects y.cls y y ∈ jj_W ∧ Cond.initialized y.cls ∈ jj_W ∧ Cond.code y c nL ret ∈ jj_W ∧ y.cls ≠ "java/lang/invoke/MethodHandle" ∧ y.cls ≠ "java/lang/invoke/VarHandle" ∧ (parseMethodDescriptor y.desc).map (fun d => d.parameters.length) = some ar
def jj_MI (own : String) (idx : Nat) (y : MethodName) (c : ByteArray) (nL : Nat) (ar : Nat) : Prop :=
  Cond.methodLink own idx y ∈ jj_W ∧ Cond.instanceMethod y ∈ jj_W ∧ y.name = "<init>" ∧ Cond.initialized y.cls ∈ jj_W ∧ Cond.code y c nL none ∈ jj_W ∧ y.cls ≠ "java/lang/invoke/MethodHandle" ∧ y.cls ≠ "java/lang/invoke/VarHandle" ∧ (parseMethodDescriptor y.desc).map (fun d => d.parameters.length) = some ar
theorem jj_good {y : MethodName} {c : ByteArray} {nL : Nat} {ret : Option FieldType} (h : Cond.code y c nL ret ∈ jj_W) : GoodIn jj_W (jj_ws y c nL ret) := by
  intro w hw
  rcases List.mem_cons.mp hw with rfl | hw
  · exact ⟨h, jj_wsgood _ h⟩
  · exact ⟨hw, jj_wsgood _ hw⟩
theorem jj_blind {D : jj_D} {av : List Value} {n : Nat} {K : jj_K} {I : jj_I} {P : jj_P} {G : jj_G} : FrameBlind (va_Pc av (jj_Bef D n K I P G)) := fun a U g mk q => by
  obtain ⟨q0, ⟨⟨h1, h2, h3, h4, h5, h6⟩, h7⟩⟩ := q
  exact ⟨q0, ⟨⟨h1, h2, h3, va_K.moved (u := U) (U := U.calling g mk a) (Vm.Alike.refl U.vm) h4, h5, ⟨h6.1.moved (u := U) (U := U.calling g mk a) (Vm.Alike.refl U.vm), h6.2.moved (u := U) (U := U.calling g mk a) (Vm.Alike.refl U.vm)⟩⟩, ⟨fun q hq => by
    obtain ⟨sa, h8⟩ := h7.1 q hq
    exact ⟨sa, vk_R.same (u := U) (U := U.calling g mk a) rfl h8⟩, jj_trav_warm (s := U) (U := U.calling g mk a) (State.WarmedH.refl U) h7.2.1, fun q hq => va_Nc.moved (u := U) (U := U.calling g mk a) (Vm.Alike.refl U.vm) (h7.2.2 q hq)⟩⟩⟩
/-- a throw on its way out of the frame -/
def jj_JX (X : jj_X) (D : jj_D) (nL cs sl : Nat) (Q : State → Prop) (E : String) (n : Nat) (K : jj_K) (I : jj_I) (P : jj_P) (G : jj_G) (pc : Nat) (L : List (Option Value)) : Prop :=
  match X with
  | (p, l, e, R, s, m, args, below, meth, c) => ∀ (H : Heap) (locs : List Loc) (ls : Array Slot) (rst : List Value) (ce : Cell) (q : Addr), H.size + 1 = D.2.2.2 + n → jj_H D K n I P G H → va_S (jj_A D) s.heap H locs → lv_has ls nL (jj_L D L) → H[q]? = some ce → ce.vm = .none → s.vm.findClass E = some ce.cls →
    vx_W p l e R s m args below meth c H locs cs sl Q (F0 m pc ls rst) q
theorem jr_xout (hX : jj_Cx X D cc own nL ret nm rm []) {E : String} (hc : Nat.ble cs rm.cells = true) (hs : Nat.ble sl rm.slots = true) (h : px E n K I P G) : jj_JX X D nL cs sl (jj_MQ X D rm post px) E n K I P G pc L := by
  obtain ⟨p, l, e, R, s, m, args, below, meth, c⟩ := X
  obtain ⟨hx, hb, -, -, -, hown, hlocks, -, -, hts, htb, -⟩ := hX
  intro H locs ls rst ce q hz hK hS hl h1 h2 h3
  exact vx_out (fun x hx => by rw [htb] at hx; cases hx) hlocks h1 h2 h3 (fun t ht hvm => ⟨⟨n, K, I, P, G, h, by rw [ht]; exact hz, by rw [ht]; exact hK⟩, hS.F ht⟩) hS.2.2 (Nat.le_of_ble_eq_true hc) (Nat.le_of_ble_eq_true hs)
/-- a call as run: from the frame at pc to the next instruction, or to a throw -/
def jj_Run (X : jj_X) (D : jj_D) (nL cs sl n : Nat) (K : jj_K) (I : jj_I) (P : jj_P) (G : jj_G) (pc : Nat) (L : List (Option Value)) (st rest : List Value) (mc ms : Nat) (post1 : jj_post) (px1 : jj_px) : Prop :=
  match X with
  | (p, l, e, R, s, m, args, below, meth, c) => ∀ (H : Heap) (locs : List Loc) (ls : Array Slot), H.size + 1 = D.2.2.2 + n → jj_H D K n I P G H → va_S (jj_A D) s.heap H locs → lv_has ls nL (jj_L D L) →
    ∃ a : Array Value, vx_Run p l e R s m args below meth c H locs cs sl mc ms (F0 m pc ls (st.map (jj_tr D))) (rest.map (jj_tr D)) (jj_Q D post1 a) (jj_XC D px1) (jj_A D)
theorem jr_gen {st : List Value} {mc ms : Nat} {post1 : jj_post} {px1 : jj_px} (hr : jj_Run X D nL cs sl n K I P G pc L st rest mc ms post1 px1)
    (kx : ∀ (E : String) (n1 : Nat) (K1 : jj_K) (I1 : jj_I) (P1 : jj_P) (G1 : jj_G), px1 E n1 K1 I1 P1 G1 → jj_JX X D nL (cs + mc) (sl + ms) Q E n1 K1 I1 P1 G1 pc L)
    (kk : ∀ (r : Option Value) (n1 : Nat) (K1 : jj_K) (I1 : jj_I) (P1 : jj_P) (G1 : jj_G), post1 r n1 K1 I1 P1 G1 → jj_J X D nL (cs + mc) (sl + ms) Q n1 K1 I1 P1 G1 (pc + 3) L (r.toList ++ rest)) : jj_J X D nL cs sl Q n K I P G pc L st := by
  obtain ⟨p, l, e, R, s, m, args, below, meth, c⟩ := X
  intro H locs ls hz hK hS hl
  obtain ⟨a, hr⟩ := hr H locs ls hz hK hS hl
  have kx2 := fun E ce q9 n1 K1 I1 P1 G1 H1 locs1 hp h1 h2 h3 h4 h5 h6 => kx E n1 K1 I1 P1 G1 hp H1 locs1 ls (rest.map (jj_tr D)) ce q9 h1 h2 h3 hl h4 h5 h6
  intro T hT Y
  rcases hr T hT Y with ⟨v, st₀, t, T', L9, h0, X', hL, e1, e2, ⟨⟨r, n1, K1, I1, P1, G1, hv, hp, ha1, ha2⟩, hF⟩, st⟩ | ⟨q, st₀, t, T', L9, E, ce, h0, X', hL, e1, e2, ⟨⟨n1, K1, I1, P1, G1, hp, ha1, ha2⟩, hF⟩, hce, hcv, hcl, st⟩
  · cases hv
    obtain ⟨k1, k2, k3⟩ := vx_keep h0 e1 hS (fun _ _ h => h) (fun _ h => h) hL hF
    have := kk r n1 K1 I1 P1 G1 hp T'.heap (locs ++ L9) ls (by rw [e1]; exact ha1) (by rw [e1]; exact ha2) k3 hl T' rfl X'
    obtain ⟨t2, a1, b1⟩ := this
    refine ⟨t2, st t2 ?_, b1⟩
    rw [List.map_append] at a1
    cases r <;> exact a1
  · obtain ⟨k1, k2, k3⟩ := vx_keep h0 e1 hS (fun _ _ h => h) (fun _ h => h) hL hF
    obtain ⟨t2, a1, b1⟩ := kx2 E ce q n1 K1 I1 P1 G1 T'.heap (locs ++ L9) hp (by rw [e1]; exact ha1) (by rw [e1]; exact ha2) k3 (by rw [e1]; exact hce) hcv hcl T' rfl X'
    exact ⟨t2, Steps.trans st a1, b1⟩
theorem jr_ret {st : List Value} {mc ms : Nat} {v : Value} {n1 : Nat} {K1 : jj_K} {I1 : jj_I} {P1 : jj_P} {G1 : jj_G} (hr : jj_Run X D nL cs sl n K I P G pc L st rest mc ms (jj_R (some v) n1 K1 I1 P1 G1) jj_noX)
    (kk : jj_J X D nL (cs + mc) (sl + ms) Q n1 K1 I1 P1 G1 (pc + 3) L (v :: rest)) : jj_J X D nL cs sl Q n K I P G pc L st :=
  jr_gen hr (fun _ _ _ _ _ _ h => h.elim) (fun r n2 K2 I2 P2 G2 h => by obtain ⟨rfl, rfl, rfl, rfl, rfl, rfl⟩ := h; exact kk)
theorem jr_void {st : List Value} {mc ms : Nat} {n1 : Nat} {K1 : jj_K} {I1 : jj_I} {P1 : jj_P} {G1 : jj_G} (hr : jj_Run X D nL cs sl n K I P G pc L st rest mc ms (jj_R none n1 K1 I1 P1 G1) jj_noX)
    (kk : jj_J X D nL (cs + mc) (sl + ms) Q n1 K1 I1 P1 G1 (pc + 3) L rest) : jj_J X D nL cs sl Q n K I P G pc L st :=
  jr_gen hr (fun _ _ _ _ _ _ h => h.elim) (fun r n2 K2 I2 P2 G2 h => by obtain ⟨rfl, rfl, rfl, rfl, rfl, rfl⟩ := h; exact kk)
/-- a callee throws, and so does this method -/
theorem jr_thr (hX : jj_Cx X D cc own nL ret nm rm []) {st : List Value} {mc ms : Nat} {E : String} (hr : jj_Run X D nL cs sl n K I P G pc L st rest mc ms jj_noR (jj_E E n K I P G)) (hc : Nat.ble (cs + mc) rm.cells = true) (hs : Nat.ble (sl + ms) rm.slots = true) (h : ∀ n1, n ≤ n1 → px E n1 K I P G) : jj_J X D nL cs sl (jj_MQ X D rm post px) n K I P G pc L st :=
  jr_gen hr (fun E1 n1 K1 I1 P1 G1 h1 => by
    obtain ⟨rfl, hn, rfl, rfl, rfl, rfl⟩ := h1
    exact jr_xout hX hc hs (h n1 hn)) (fun _ _ _ _ _ _ h => h.elim)
theorem jj_b1 {a b : Nat} (h : Nat.ble a b = true) : a ≤ b := Nat.le_of_ble_eq_true h
theorem jj_b2 {a b c d : Nat} (h : (Nat.ble a b && Nat.ble c d) = true) : a ≤ b ∧ c ≤ d := ⟨Nat.le_of_ble_eq_true (Bool.and_eq_true_iff.mp h).1, Nat.le_of_ble_eq_true (Bool.and_eq_true_iff.mp h).2⟩
theorem jj_catsum (D : jj_D) (l : List Value) : ((l.map (jj_tr D)).map fun v => v.category).sum = (l.map fun v => v.category).sum := by
  rw [List.map_map]
  congr 1
  exact List.map_congr_left (fun v _ => jj_cat D v)
theorem jr_runS (hX : jj_Cx X D cc own nL ret nm rm tb) (hSt : jj_St X) {idx ny ar : Nat} {y : MethodName} {cy : ByteArray} {rety : Option FieldType} (hm : jj_MS own idx y cy ny rety ar) {rmy : Room} {As st : List Value} {post1 : jj_post} {px1 : jj_px}
    (hM : jj_Met X.2.1 D y (jj_ws y cy ny rety) rmy As n K I P G post1 px1) (har : As.length = ar) (hst : st = As.reverse ++ rest) (hd : decode cc pc = .ok (.invokestatic idx, 3))
    (hR : (Nat.ble (rmy.frames + 1) rm.frames && Nat.ble (8 + (ny + 11) + rmy.locals) rm.locals) = true) (hf : cs + rmy.cells ≤ rm.cells ∧ sl + rmy.slots ≤ rm.slots) (hw : Nat.ble (rest.map fun v => v.category).sum 8 = true) : jj_Run X D nL cs sl n K I P G pc L st rest rmy.cells rmy.slots post1 px1 := by
  obtain ⟨p, l, e, R, s, m, args, below, meth, c⟩ := X
  obtain ⟨hx, hb, -, -, hml, hown, -, -, hRR, hts, -, hi, hi2, hKK, hZ⟩ := hX
  subst hRR
  subst hst
  intro H locs ls hz hK hS hl
  have hbef : ∀ U : State, U.heap = H → s.WarmedH U.vm → jj_Bef D n K I P G U := fun U hU hW => ⟨⟨hi, by rw [hU]; exact Nat.le_trans hi2 hS.1, by rw [hU]; exact hz, va_K.moved hW.alike hKK, by rw [hU]; exact hK, by rw [hU]; exact jj_Z_keep hZ hS hW.alike⟩, jj_Str_warm hW hSt⟩
  have hw2 : 2 * (F0 m pc ls ((As.reverse ++ rest).map (jj_tr D))).monitorRoom + ((rest.map (jj_tr D)).map fun v => v.category).sum ≤ 8 := lv_room (by rw [jj_catsum]; exact Nat.le_of_ble_eq_true hw)
  obtain ⟨hR1, hR2⟩ := jj_b2 hR
  obtain ⟨m1, m2, m3, m4, m5, m6, m7⟩ := hm
  refine ⟨_, vx_runS (nL := nL) (As := As.map (jj_tr D)) ⟨hx, hb, hml, hown, hts⟩ hM ⟨callB_of ar hts (jj_good m4) rfl rfl rfl (hts _ m3) (hts _ m1) ⟨m5, m6, m7⟩ ⟨hR1, hR2⟩, hts _ m2⟩ ⟨jj_blind, fun U hU hW => ⟨rfl, hbef U hU hW⟩⟩ rfl (by rw [List.length_map]; exact har) hl.1 ?_ hw2 hd hf⟩
  show (As.reverse ++ rest).map (jj_tr D) = _
  rw [List.map_append, List.map_reverse]
theorem jr_runV (hX : jj_Cx X D cc own nL ret nm rm tb) (hSt : jj_St X) {idx ny ar : Nat} {y : MethodName} {cy : ByteArray} {rety : Option FieldType} (hm : jj_MV own idx y cy ny rety ar) {rmy : Room} {a ci z : Nat} {As st : List Value} {post1 : jj_post} {px1 : jj_px}
    (hM : jj_Met X.2.1 D y (jj_ws y cy ny rety) rmy (.ref a :: As) n K I P G post1 px1) (har : As.length = ar) (hst : st = As.reverse ++ .ref a :: rest) (hk : K a = some (ci, z)) (hci : ∃ T N, vwCl[ci]? = some (y.cls, T, N) ∧ ci < 10) (hd : decode cc pc = .ok (.invokevirtual idx, 3))
    (hR : (Nat.ble (rmy.frames + 1) rm.frames && Nat.ble (8 + (ny + 11) + rmy.locals) rm.locals) = true) (hf : cs + rmy.cells ≤ rm.cells ∧ sl + rmy.slots ≤ rm.slots) (hw : Nat.ble (rest.map fun v => v.category).sum 8 = true) : jj_Run X D nL cs sl n K I P G pc L st rest rmy.cells rmy.slots post1 px1 := by
  obtain ⟨p, l, e, R, s, m, args, below, meth, c⟩ := X
  obtain ⟨hx, hb, -, -, hml, hown, -, -, hRR, hts, -, hi, hi2, hKK, hZ⟩ := hX
  subst hRR
  subst hst
  intro H locs ls hz hK hS hl
  have hbef : ∀ U : State, U.heap = H → s.WarmedH U.vm → jj_Bef D n K I P G U := fun U hU hW => ⟨⟨hi, by rw [hU]; exact Nat.le_trans hi2 hS.1, by rw [hU]; exact hz, va_K.moved hW.alike hKK, by rw [hU]; exact hK, by rw [hU]; exact jj_Z_keep hZ hS hW.alike⟩, jj_Str_warm hW hSt⟩
  have hw2 : 2 * (F0 m pc ls ((As.reverse ++ Value.ref a :: rest).map (jj_tr D))).monitorRoom + ((rest.map (jj_tr D)).map fun v => v.category).sum ≤ 8 := lv_room (by rw [jj_catsum]; exact Nat.le_of_ble_eq_true hw)
  obtain ⟨hR1, hR2⟩ := jj_b2 hR
  obtain ⟨m1, m2, m3, m3b, m4, m5, m6, m7⟩ := hm
  obtain ⟨TT, NN, hc, hc10⟩ := hci
  have hat := (hK a _ hk).2
  rw [jj_ent_o hc10] at hat
  refine ⟨_, vx_runV (nL := nL) (C := y.cls) (b := jj_ad D a) (As := As.map (jj_tr D)) ⟨hx, hb, hml, hown, hts⟩ hM ⟨callB_of ar hts (jj_good m4) rfl rfl rfl (hts _ m3b) (hts _ m1) ⟨m5, m6, m7⟩ ⟨hR1, hR2⟩, hts _ m2, hts _ m3⟩ ⟨jj_blind, va_recv hKK (jj_va1 hat) (q := (y.cls, TT, NN)) hc (q0 := 0) rfl, fun U hU hW => ⟨rfl, hbef U hU hW⟩⟩ rfl (by rw [List.length_map]; exact har) hl.1 ?_ hw2 hd hf⟩
  show (As.reverse ++ Value.ref a :: rest).map (jj_tr D) = _
  rw [List.map_append, List.map_reverse]
  rfl
theorem jr_runI (hX : jj_Cx X D cc own nL ret nm rm tb) (hSt : jj_St X) {idx ny ar : Nat} {y : MethodName} {cy : ByteArray} (hm : jj_MI own idx y cy ny ar) {rmy : Room} {a : Nat} {As st : List Value} {post1 : jj_post} {px1 : jj_px}
    (hM : jj_Met X.2.1 D y (jj_ws y cy ny none) rmy (.ref a :: As) n K I P G post1 px1) (har : As.length = ar) (hst : st = As.reverse ++ .ref a :: rest) (hd : decode cc pc = .ok (.invokespecial idx, 3))
    (hR : (Nat.ble (rmy.frames + 1) rm.frames && Nat.ble (8 + (ny + 11) + rmy.locals) rm.locals) = true) (hf : cs + rmy.cells ≤ rm.cells ∧ sl + rmy.slots ≤ rm.slots) (hw : Nat.ble (rest.map fun v => v.category).sum 8 = true) : jj_Run X D nL cs sl n K I P G pc L st rest rmy.cells rmy.slots post1 px1 := by
  obtain ⟨p, l, e, R, s, m, args, below, meth, c⟩ := X
  obtain ⟨hx, hb, -, -, hml, hown, -, -, hRR, hts, -, hi, hi2, hKK, hZ⟩ := hX
  subst hRR
  subst hst
  intro H locs ls hz hK hS hl
  have hbef : ∀ U : State, U.heap = H → s.WarmedH U.vm → jj_Bef D n K I P G U := fun U hU hW => ⟨⟨hi, by rw [hU]; exact Nat.le_trans hi2 hS.1, by rw [hU]; exact hz, va_K.moved hW.alike hKK, by rw [hU]; exact hK, by rw [hU]; exact jj_Z_keep hZ hS hW.alike⟩, jj_Str_warm hW hSt⟩
  have hw2 : 2 * (F0 m pc ls ((As.reverse ++ Value.ref a :: rest).map (jj_tr D))).monitorRoom + ((rest.map (jj_tr D)).map fun v => v.category).sum ≤ 8 := lv_room (by rw [jj_catsum]; exact Nat.le_of_ble_eq_true hw)
  obtain ⟨hR1, hR2⟩ := jj_b2 hR
  obtain ⟨m1, m2, m3, m3b, m4, m5, m6, m7⟩ := hm
  refine ⟨_, vx_runI (nL := nL) (b := jj_ad D a) (As := As.map (jj_tr D)) ⟨hx, hb, hml, hown, hts⟩ hM ⟨callB_of ar hts (jj_good m4) rfl rfl rfl (hts _ m3b) (hts _ m1) ⟨m5, m6, m7⟩ ⟨hR1, hR2⟩, m3, hts _ m2⟩ ⟨jj_blind, fun U hU hW => ⟨rfl, hbef U hU hW⟩⟩ rfl (by rw [List.length_map]; exact har) hl.1 ?_ hw2 hd hf⟩
  show (As.reverse ++ Value.ref a :: rest).map (jj_tr D) = _
  rw [List.map_append, List.map_reverse]
  rfl
def jj_MSN (own : String) (idx : Nat) (y : MethodName) (c : ByteArray) (nL : Nat) (ret : Option FieldType) (ar : Nat) : Prop :=
  Cond.methodLinkNest own idx y RX5 ∈ jj_trav ∧ Cond.static y ∈ jj_W ∧ Cond.initialized y.cls ∈ jj_W ∧ Cond.code y c nL ret ∈ jj_W ∧ y.cls ≠ "java/lang/invoke/MethodHandle" ∧ y.cls ≠ "java/lang/invoke/VarHandle" ∧ (parseMethodDescriptor y.desc).map (fun d => d.parameters.length) = some ar
def jj_MIN (own : String) (idx : Nat) (y : MethodName) (c : ByteArray) (nL : Nat) (ar : Nat) : Prop :=
  Cond.methodLinkNest own idx y RX5 ∈ jj_trav ∧ Cond.instanceMethod y ∈ jj_W ∧ y.name = "<init>" ∧ Cond.initialized y.cls ∈ jj_W ∧ Cond.code y c nL none ∈ jj_W ∧ y.cls ≠ "java/lang/invoke/MethodHandle" ∧ y.cls ≠ "java/lang/invoke/VarHandle" ∧ (parseMethodDescriptor y.desc).map (fun d => d.parameters.length) = some ar
theorem jr_runSN (hX : jj_Cx X D cc own nL ret nm rm tb) (hSt : jj_St X) {idx ny ar : Nat} {y : MethodName} {cy : ByteArray} {rety : Option FieldType} (hm : jj_MSN own idx y cy ny rety ar) {rmy : Room} {As st : List Value} {post1 : jj_post} {px1 : jj_px}
    (hM : jj_Met X.2.1 D y (jj_ws y cy ny rety) rmy As n K I P G post1 px1) (har : As.length = ar) (hst : st = As.reverse ++ rest) (hd : decode cc pc = .ok (.invokestatic idx, 3))
    (hR : (Nat.ble (rmy.frames + 1) rm.frames && Nat.ble (8 + (ny + 11) + rmy.locals) rm.locals) = true) (hf : cs + rmy.cells ≤ rm.cells ∧ sl + rmy.slots ≤ rm.slots) (hw : Nat.ble (rest.map fun v => v.category).sum 8 = true) : jj_Run X D nL cs sl n K I P G pc L st rest rmy.cells rmy.slots post1 px1 := by
  obtain ⟨p, l, e, R, s, m, args, below, meth, c⟩ := X
  obtain ⟨hx, hb, -, -, hml, hown, -, -, hRR, hts, -, hi, hi2, hKK, hZ⟩ := hX
  subst hRR
  subst hst
  intro H locs ls hz hK hS hl
  have hbef : ∀ U : State, U.heap = H → s.WarmedH U.vm → jj_Bef D n K I P G U := fun U hU hW => ⟨⟨hi, by rw [hU]; exact Nat.le_trans hi2 hS.1, by rw [hU]; exact hz, va_K.moved hW.alike hKK, by rw [hU]; exact hK, by rw [hU]; exact jj_Z_keep hZ hS hW.alike⟩, jj_Str_warm hW hSt⟩
  have hw2 : 2 * (F0 m pc ls ((As.reverse ++ rest).map (jj_tr D))).monitorRoom + ((rest.map (jj_tr D)).map fun v => v.category).sum ≤ 8 := lv_room (by rw [jj_catsum]; exact Nat.le_of_ble_eq_true hw)
  obtain ⟨hR1, hR2⟩ := jj_b2 hR
  obtain ⟨m1, m2, m3, m4, m5, m6, m7⟩ := hm
  refine ⟨_, vx_runSN (nL := nL) (host := RX5) (As := As.map (jj_tr D)) ⟨hx, hb, hml, hown, hts⟩ hM ⟨va_cnB ar hts (jj_good m4) rfl rfl rfl (hSt.2.1 _ m1) (hts _ m3) ⟨m5, m6, m7⟩ ⟨hR1, hR2⟩, hts _ m2, trivial⟩ ⟨jj_blind, fun U hU hW => ⟨rfl, hbef U hU hW⟩⟩ rfl (by rw [List.length_map]; exact har) hl.1 ?_ hw2 hd hf⟩
  show (As.reverse ++ rest).map (jj_tr D) = _
  rw [List.map_append, List.map_reverse]
theorem jr_runIN (hX : jj_Cx X D cc own nL ret nm rm tb) (hSt : jj_St X) {idx ny ar : Nat} {y : MethodName} {cy : ByteArray} (hm : jj_MIN own idx y cy ny ar) {rmy : Room} {a : Nat} {As st : List Value} {post1 : jj_post} {px1 : jj_px}
    (hM : jj_Met X.2.1 D y (jj_ws y cy ny none) rmy (.ref a :: As) n K I P G post1 px1) (har : As.length = ar) (hst : st = As.reverse ++ .ref a :: rest) (hd : decode cc pc = .ok (.invokespecial idx, 3))
    (hR : (Nat.ble (rmy.frames + 1) rm.frames && Nat.ble (8 + (ny + 11) + rmy.locals) rm.locals) = true) (hf : cs + rmy.cells ≤ rm.cells ∧ sl + rmy.slots ≤ rm.slots) (hw : Nat.ble (rest.map fun v => v.category).sum 8 = true) : jj_Run X D nL cs sl n K I P G pc L st rest rmy.cells rmy.slots post1 px1 := by
  obtain ⟨p, l, e, R, s, m, args, below, meth, c⟩ := X
  obtain ⟨hx, hb, -, -, hml, hown, -, -, hRR, hts, -, hi, hi2, hKK, hZ⟩ := hX
  subst hRR
  subst hst
  intro H locs ls hz hK hS hl
  have hbef : ∀ U : State, U.heap = H → s.WarmedH U.vm → jj_Bef D n K I P G U := fun U hU hW => ⟨⟨hi, by rw [hU]; exact Nat.le_trans hi2 hS.1, by rw [hU]; exact hz, va_K.moved hW.alike hKK, by rw [hU]; exact hK, by rw [hU]; exact jj_Z_keep hZ hS hW.alike⟩, jj_Str_warm hW hSt⟩
  have hw2 : 2 * (F0 m pc ls ((As.reverse ++ Value.ref a :: rest).map (jj_tr D))).monitorRoom + ((rest.map (jj_tr D)).map fun v => v.category).sum ≤ 8 := lv_room (by rw [jj_catsum]; exact Nat.le_of_ble_eq_true hw)
  obtain ⟨hR1, hR2⟩ := jj_b2 hR
  obtain ⟨m1, m2, m3, m3b, m4, m5, m6, m7⟩ := hm
  refine ⟨_, vx_runIN (nL := nL) (host := RX5) (b := jj_ad D a) (As := As.map (jj_tr D)) ⟨hx, hb, hml, hown, hts⟩ hM ⟨va_cnB ar hts (jj_good m4) rfl rfl rfl (hSt.2.1 _ m1) (hts _ m3b) ⟨m5, m6, m7⟩ ⟨hR1, hR2⟩, m3, hts _ m2⟩ ⟨jj_blind, fun U hU hW => ⟨rfl, hbef U hU hW⟩⟩ rfl (by rw [List.length_map]; exact har) hl.1 ?_ hw2 hd hf⟩
  show (As.reverse ++ Value.ref a :: rest).map (jj_tr D) = _
  rw [List.map_append, List.map_reverse]
  rfl
end JC
end
section
theorem zz_look : 1 + 1 = 2 := rfl
end
