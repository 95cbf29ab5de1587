-- ===== PART A: goes FIRST, ahead of the names: the tables' words, and 'selects' of the private methods out of them =====
/-- a private method of a class that the tables say can be made, by its rows of tables_1 -/
def lw_okq (q : MethodName × Nat) : Prop := (q.1.cls ≠ "java/lang/invoke/MethodHandle" ∧ q.1.cls ≠ "java/lang/invoke/VarHandle") ∧ Cond.instantiable q.1.cls q.2 ∈ tables_1 ∧ Cond.privateMethod q.1 ∈ tables_1 ∧ Cond.instanceMethod q.1 ∈ tables_1
theorem lw_p0 : lw_okq (⟨"AlbumHours$Reader", "step", "()V"⟩, 7) := ⟨⟨by decide +kernel, by decide +kernel⟩, List.mem_of_getElem? (i := 149) (by decide +kernel), List.mem_of_getElem? (i := 433) (by decide +kernel), List.mem_of_getElem? (i := 434) (by decide +kernel)⟩
theorem lw_p1 : lw_okq (⟨"AlbumHours$Reader", "readClause", "()Z"⟩, 7) := ⟨⟨by decide +kernel, by decide +kernel⟩, List.mem_of_getElem? (i := 149) (by decide +kernel), List.mem_of_getElem? (i := 444) (by decide +kernel), List.mem_of_getElem? (i := 445) (by decide +kernel)⟩
theorem lw_p2 : lw_okq (⟨"AlbumHours$Reader", "is", "(Ljava/lang/String;)Z"⟩, 7) := ⟨⟨by decide +kernel, by decide +kernel⟩, List.mem_of_getElem? (i := 149) (by decide +kernel), List.mem_of_getElem? (i := 449) (by decide +kernel), List.mem_of_getElem? (i := 450) (by decide +kernel)⟩
theorem lw_p3 : lw_okq (⟨"AlbumHours$Reader", "readAlbum", "()Z"⟩, 7) := ⟨⟨by decide +kernel, by decide +kernel⟩, List.mem_of_getElem? (i := 149) (by decide +kernel), List.mem_of_getElem? (i := 501) (by decide +kernel), List.mem_of_getElem? (i := 502) (by decide +kernel)⟩
theorem lw_p4 : lw_okq (⟨"AlbumHours$Reader", "readSun", "()Z"⟩, 7) := ⟨⟨by decide +kernel, by decide +kernel⟩, List.mem_of_getElem? (i := 149) (by decide +kernel), List.mem_of_getElem? (i := 512) (by decide +kernel), List.mem_of_getElem? (i := 513) (by decide +kernel)⟩
theorem lw_p5 : lw_okq (⟨"AlbumHours$Reader", "readNumber", "(II)Z"⟩, 7) := ⟨⟨by decide +kernel, by decide +kernel⟩, List.mem_of_getElem? (i := 149) (by decide +kernel), List.mem_of_getElem? (i := 516) (by decide +kernel), List.mem_of_getElem? (i := 517) (by decide +kernel)⟩
theorem lw_p6 : lw_okq (⟨"AlbumHours$Reader", "readPicture", "()Z"⟩, 7) := ⟨⟨by decide +kernel, by decide +kernel⟩, List.mem_of_getElem? (i := 149) (by decide +kernel), List.mem_of_getElem? (i := 522) (by decide +kernel), List.mem_of_getElem? (i := 523) (by decide +kernel)⟩
theorem lw_p7 : lw_okq (⟨"AlbumHours$Reader", "readThing", "()Z"⟩, 7) := ⟨⟨by decide +kernel, by decide +kernel⟩, List.mem_of_getElem? (i := 149) (by decide +kernel), List.mem_of_getElem? (i := 538) (by decide +kernel), List.mem_of_getElem? (i := 539) (by decide +kernel)⟩
theorem lw_p8 : lw_okq (⟨"AlbumHours$Reader", "thingKindNamed", "()I"⟩, 7) := ⟨⟨by decide +kernel, by decide +kernel⟩, List.mem_of_getElem? (i := 149) (by decide +kernel), List.mem_of_getElem? (i := 542) (by decide +kernel), List.mem_of_getElem? (i := 543) (by decide +kernel)⟩
theorem lw_p9 : lw_okq (⟨"AlbumHours$Reader", "readShadow", "(I)Z"⟩, 7) := ⟨⟨by decide +kernel, by decide +kernel⟩, List.mem_of_getElem? (i := 149) (by decide +kernel), List.mem_of_getElem? (i := 555) (by decide +kernel), List.mem_of_getElem? (i := 556) (by decide +kernel)⟩
theorem lw_p10 : lw_okq (⟨"AlbumHours$Reader", "readSight", "()Z"⟩, 7) := ⟨⟨by decide +kernel, by decide +kernel⟩, List.mem_of_getElem? (i := 149) (by decide +kernel), List.mem_of_getElem? (i := 583) (by decide +kernel), List.mem_of_getElem? (i := 584) (by decide +kernel)⟩
theorem lw_p11 : lw_okq (⟨"AlbumHours", "forgetFindings", "()V"⟩, 9) := ⟨⟨by decide +kernel, by decide +kernel⟩, List.mem_of_getElem? (i := 25) (by decide +kernel), List.mem_of_getElem? (i := 598) (by decide +kernel), List.mem_of_getElem? (i := 599) (by decide +kernel)⟩
theorem lw_p12 : lw_okq (⟨"AlbumHours", "rulesNow", "()LAlbumHours$Rules;"⟩, 9) := ⟨⟨by decide +kernel, by decide +kernel⟩, List.mem_of_getElem? (i := 25) (by decide +kernel), List.mem_of_getElem? (i := 639) (by decide +kernel), List.mem_of_getElem? (i := 640) (by decide +kernel)⟩
theorem lw_p13 : lw_okq (⟨"AlbumHours$Rules", "readWindow", "(LAlbumHours$Album;LAlbumHours$Pieces;I)V"⟩, 8) := ⟨⟨by decide +kernel, by decide +kernel⟩, List.mem_of_getElem? (i := 207) (by decide +kernel), List.mem_of_getElem? (i := 650) (by decide +kernel), List.mem_of_getElem? (i := 651) (by decide +kernel)⟩
theorem lw_p14 : lw_okq (⟨"AlbumHours$Rules", "readThings", "(LAlbumHours$Album;LAlbumHours$Pieces;)V"⟩, 8) := ⟨⟨by decide +kernel, by decide +kernel⟩, List.mem_of_getElem? (i := 207) (by decide +kernel), List.mem_of_getElem? (i := 683) (by decide +kernel), List.mem_of_getElem? (i := 684) (by decide +kernel)⟩
theorem lw_p15 : lw_okq (⟨"AlbumHours$Rules", "readWear", "()V"⟩, 8) := ⟨⟨by decide +kernel, by decide +kernel⟩, List.mem_of_getElem? (i := 207) (by decide +kernel), List.mem_of_getElem? (i := 689) (by decide +kernel), List.mem_of_getElem? (i := 690) (by decide +kernel)⟩
def lw_privs_1 : List (MethodName × Nat) := [(⟨"AlbumHours$Reader", "step", "()V"⟩, 7), (⟨"AlbumHours$Reader", "readClause", "()Z"⟩, 7), (⟨"AlbumHours$Reader", "is", "(Ljava/lang/String;)Z"⟩, 7), (⟨"AlbumHours$Reader", "readAlbum", "()Z"⟩, 7), (⟨"AlbumHours$Reader", "readSun", "()Z"⟩, 7), (⟨"AlbumHours$Reader", "readNumber", "(II)Z"⟩, 7), (⟨"AlbumHours$Reader", "readPicture", "()Z"⟩, 7), (⟨"AlbumHours$Reader", "readThing", "()Z"⟩, 7), (⟨"AlbumHours$Reader", "thingKindNamed", "()I"⟩, 7), (⟨"AlbumHours$Reader", "readShadow", "(I)Z"⟩, 7), (⟨"AlbumHours$Reader", "readSight", "()Z"⟩, 7), (⟨"AlbumHours", "forgetFindings", "()V"⟩, 9), (⟨"AlbumHours", "rulesNow", "()LAlbumHours$Rules;"⟩, 9), (⟨"AlbumHours$Rules", "readWindow", "(LAlbumHours$Album;LAlbumHours$Pieces;I)V"⟩, 8), (⟨"AlbumHours$Rules", "readThings", "(LAlbumHours$Album;LAlbumHours$Pieces;)V"⟩, 8), (⟨"AlbumHours$Rules", "readWear", "()V"⟩, 8)]
theorem lw_r1 : ∀ q ∈ lw_privs_1, lw_okq q := List.forall_mem_cons.mpr ⟨lw_p0, List.forall_mem_cons.mpr ⟨lw_p1, List.forall_mem_cons.mpr ⟨lw_p2, List.forall_mem_cons.mpr ⟨lw_p3, List.forall_mem_cons.mpr ⟨lw_p4, List.forall_mem_cons.mpr ⟨lw_p5, List.forall_mem_cons.mpr ⟨lw_p6, List.forall_mem_cons.mpr ⟨lw_p7, List.forall_mem_cons.mpr ⟨lw_p8, List.forall_mem_cons.mpr ⟨lw_p9, List.forall_mem_cons.mpr ⟨lw_p10, List.forall_mem_cons.mpr ⟨lw_p11, List.forall_mem_cons.mpr ⟨lw_p12, List.forall_mem_cons.mpr ⟨lw_p13, List.forall_mem_cons.mpr ⟨lw_p14, List.forall_mem_cons.mpr ⟨lw_p15, fun _ h => absurd h List.not_mem_nil⟩⟩⟩⟩⟩⟩⟩⟩⟩⟩⟩⟩⟩⟩⟩⟩
theorem lw_p16 : lw_okq (⟨"AlbumHours$Rules", "readThing", "(II)V"⟩, 8) := ⟨⟨by decide +kernel, by decide +kernel⟩, List.mem_of_getElem? (i := 207) (by decide +kernel), List.mem_of_getElem? (i := 693) (by decide +kernel), List.mem_of_getElem? (i := 694) (by decide +kernel)⟩
theorem lw_p17 : lw_okq (⟨"AlbumHours$Rules", "chainAhead", "()V"⟩, 8) := ⟨⟨by decide +kernel, by decide +kernel⟩, List.mem_of_getElem? (i := 207) (by decide +kernel), List.mem_of_getElem? (i := 704) (by decide +kernel), List.mem_of_getElem? (i := 705) (by decide +kernel)⟩
theorem lw_p18 : lw_okq (⟨"AlbumHours$Pieces", "keyOf", "(I)I"⟩, 5) := ⟨⟨by decide +kernel, by decide +kernel⟩, List.mem_of_getElem? (i := 84) (by decide +kernel), List.mem_of_getElem? (i := 778) (by decide +kernel), List.mem_of_getElem? (i := 779) (by decide +kernel)⟩
theorem lw_p19 : lw_okq (⟨"AlbumHours", "tell", "(IIII)I"⟩, 9) := ⟨⟨by decide +kernel, by decide +kernel⟩, List.mem_of_getElem? (i := 25) (by decide +kernel), List.mem_of_getElem? (i := 796) (by decide +kernel), List.mem_of_getElem? (i := 797) (by decide +kernel)⟩
theorem lw_p20 : lw_okq (⟨"AlbumHours$History", "pastAt", "(I)LAlbumHours$Pieces;"⟩, 5) := ⟨⟨by decide +kernel, by decide +kernel⟩, List.mem_of_getElem? (i := 181) (by decide +kernel), List.mem_of_getElem? (i := 811) (by decide +kernel), List.mem_of_getElem? (i := 812) (by decide +kernel)⟩
theorem lw_p21 : lw_okq (⟨"AlbumHours", "areTwoPictures", "(II)Z"⟩, 9) := ⟨⟨by decide +kernel, by decide +kernel⟩, List.mem_of_getElem? (i := 25) (by decide +kernel), List.mem_of_getElem? (i := 865) (by decide +kernel), List.mem_of_getElem? (i := 866) (by decide +kernel)⟩
theorem lw_p22 : lw_okq (⟨"AlbumHours", "ordersNow", "()LAlbumHours$Orders;"⟩, 9) := ⟨⟨by decide +kernel, by decide +kernel⟩, List.mem_of_getElem? (i := 25) (by decide +kernel), List.mem_of_getElem? (i := 874) (by decide +kernel), List.mem_of_getElem? (i := 875) (by decide +kernel)⟩
theorem lw_p23 : lw_okq (⟨"AlbumHours$Orders", "reachOn", "(LAlbumHours$Rules;II)V"⟩, 6) := ⟨⟨by decide +kernel, by decide +kernel⟩, List.mem_of_getElem? (i := 241) (by decide +kernel), List.mem_of_getElem? (i := 889) (by decide +kernel), List.mem_of_getElem? (i := 890) (by decide +kernel)⟩
theorem lw_p24 : lw_okq (⟨"AlbumHours$Orders", "countOn", "(LAlbumHours$Rules;II)V"⟩, 6) := ⟨⟨by decide +kernel, by decide +kernel⟩, List.mem_of_getElem? (i := 241) (by decide +kernel), List.mem_of_getElem? (i := 908) (by decide +kernel), List.mem_of_getElem? (i := 909) (by decide +kernel)⟩
theorem lw_p25 : lw_okq (⟨"AlbumHours$Orders", "waysBy", "(LAlbumHours$Rules;III)I"⟩, 6) := ⟨⟨by decide +kernel, by decide +kernel⟩, List.mem_of_getElem? (i := 241) (by decide +kernel), List.mem_of_getElem? (i := 912) (by decide +kernel), List.mem_of_getElem? (i := 913) (by decide +kernel)⟩
theorem lw_p26 : lw_okq (⟨"AlbumHours$Orders", "waysFrom", "(II)I"⟩, 6) := ⟨⟨by decide +kernel, by decide +kernel⟩, List.mem_of_getElem? (i := 241) (by decide +kernel), List.mem_of_getElem? (i := 916) (by decide +kernel), List.mem_of_getElem? (i := 917) (by decide +kernel)⟩
theorem lw_p27 : lw_okq (⟨"AlbumHours", "hoursNow", "()LAlbumHours$Hours;"⟩, 9) := ⟨⟨by decide +kernel, by decide +kernel⟩, List.mem_of_getElem? (i := 25) (by decide +kernel), List.mem_of_getElem? (i := 932) (by decide +kernel), List.mem_of_getElem? (i := 933) (by decide +kernel)⟩
theorem lw_p28 : lw_okq (⟨"AlbumHours$Hours", "seekBetween", "(LAlbumHours$Rules;II)V"⟩, 5) := ⟨⟨by decide +kernel, by decide +kernel⟩, List.mem_of_getElem? (i := 269) (by decide +kernel), List.mem_of_getElem? (i := 951) (by decide +kernel), List.mem_of_getElem? (i := 952) (by decide +kernel)⟩
theorem lw_p29 : lw_okq (⟨"AlbumHours$Doubts", "seekKnot", "(LAlbumHours$Rules;)I"⟩, 12) := ⟨⟨by decide +kernel, by decide +kernel⟩, List.mem_of_getElem? (i := 292) (by decide +kernel), List.mem_of_getElem? (i := 995) (by decide +kernel), List.mem_of_getElem? (i := 996) (by decide +kernel)⟩
theorem lw_p30 : lw_okq (⟨"AlbumHours$Doubts", "isLoose", "(LAlbumHours$Album;LAlbumHours$Rules;I)Z"⟩, 12) := ⟨⟨by decide +kernel, by decide +kernel⟩, List.mem_of_getElem? (i := 292) (by decide +kernel), List.mem_of_getElem? (i := 1010) (by decide +kernel), List.mem_of_getElem? (i := 1011) (by decide +kernel)⟩
theorem lw_p31 : lw_okq (⟨"AlbumHours$Strips", "sizeOf", "(I)I"⟩, 3) := ⟨⟨by decide +kernel, by decide +kernel⟩, List.mem_of_getElem? (i := 346) (by decide +kernel), List.mem_of_getElem? (i := 1072) (by decide +kernel), List.mem_of_getElem? (i := 1073) (by decide +kernel)⟩
def lw_privs_2 : List (MethodName × Nat) := [(⟨"AlbumHours$Rules", "readThing", "(II)V"⟩, 8), (⟨"AlbumHours$Rules", "chainAhead", "()V"⟩, 8), (⟨"AlbumHours$Pieces", "keyOf", "(I)I"⟩, 5), (⟨"AlbumHours", "tell", "(IIII)I"⟩, 9), (⟨"AlbumHours$History", "pastAt", "(I)LAlbumHours$Pieces;"⟩, 5), (⟨"AlbumHours", "areTwoPictures", "(II)Z"⟩, 9), (⟨"AlbumHours", "ordersNow", "()LAlbumHours$Orders;"⟩, 9), (⟨"AlbumHours$Orders", "reachOn", "(LAlbumHours$Rules;II)V"⟩, 6), (⟨"AlbumHours$Orders", "countOn", "(LAlbumHours$Rules;II)V"⟩, 6), (⟨"AlbumHours$Orders", "waysBy", "(LAlbumHours$Rules;III)I"⟩, 6), (⟨"AlbumHours$Orders", "waysFrom", "(II)I"⟩, 6), (⟨"AlbumHours", "hoursNow", "()LAlbumHours$Hours;"⟩, 9), (⟨"AlbumHours$Hours", "seekBetween", "(LAlbumHours$Rules;II)V"⟩, 5), (⟨"AlbumHours$Doubts", "seekKnot", "(LAlbumHours$Rules;)I"⟩, 12), (⟨"AlbumHours$Doubts", "isLoose", "(LAlbumHours$Album;LAlbumHours$Rules;I)Z"⟩, 12), (⟨"AlbumHours$Strips", "sizeOf", "(I)I"⟩, 3)]
theorem lw_r2 : ∀ q ∈ lw_privs_2, lw_okq q := List.forall_mem_cons.mpr ⟨lw_p16, List.forall_mem_cons.mpr ⟨lw_p17, List.forall_mem_cons.mpr ⟨lw_p18, List.forall_mem_cons.mpr ⟨lw_p19, List.forall_mem_cons.mpr ⟨lw_p20, List.forall_mem_cons.mpr ⟨lw_p21, List.forall_mem_cons.mpr ⟨lw_p22, List.forall_mem_cons.mpr ⟨lw_p23, List.forall_mem_cons.mpr ⟨lw_p24, List.forall_mem_cons.mpr ⟨lw_p25, List.forall_mem_cons.mpr ⟨lw_p26, List.forall_mem_cons.mpr ⟨lw_p27, List.forall_mem_cons.mpr ⟨lw_p28, List.forall_mem_cons.mpr ⟨lw_p29, List.forall_mem_cons.mpr ⟨lw_p30, List.forall_mem_cons.mpr ⟨lw_p31, fun _ h => absurd h List.not_mem_nil⟩⟩⟩⟩⟩⟩⟩⟩⟩⟩⟩⟩⟩⟩⟩⟩
theorem lw_p32 : lw_okq (⟨"AlbumHoursModel", "read", "()V"⟩, 40) := ⟨⟨by decide +kernel, by decide +kernel⟩, List.mem_of_getElem? (i := 1142) (by decide +kernel), List.mem_of_getElem? (i := 1285) (by decide +kernel), List.mem_of_getElem? (i := 1286) (by decide +kernel)⟩
theorem lw_p33 : lw_okq (⟨"AlbumHoursModel", "readClause", "()V"⟩, 40) := ⟨⟨by decide +kernel, by decide +kernel⟩, List.mem_of_getElem? (i := 1142) (by decide +kernel), List.mem_of_getElem? (i := 1292) (by decide +kernel), List.mem_of_getElem? (i := 1293) (by decide +kernel)⟩
theorem lw_p34 : lw_okq (⟨"AlbumHoursModel", "take", "()V"⟩, 40) := ⟨⟨by decide +kernel, by decide +kernel⟩, List.mem_of_getElem? (i := 1142) (by decide +kernel), List.mem_of_getElem? (i := 1296) (by decide +kernel), List.mem_of_getElem? (i := 1297) (by decide +kernel)⟩
theorem lw_p35 : lw_okq (⟨"AlbumHoursModel", "isWord", "(IIIIIII)Z"⟩, 40) := ⟨⟨by decide +kernel, by decide +kernel⟩, List.mem_of_getElem? (i := 1142) (by decide +kernel), List.mem_of_getElem? (i := 1303) (by decide +kernel), List.mem_of_getElem? (i := 1304) (by decide +kernel)⟩
theorem lw_p36 : lw_okq (⟨"AlbumHoursModel", "at", "(II)Z"⟩, 40) := ⟨⟨by decide +kernel, by decide +kernel⟩, List.mem_of_getElem? (i := 1142) (by decide +kernel), List.mem_of_getElem? (i := 1307) (by decide +kernel), List.mem_of_getElem? (i := 1308) (by decide +kernel)⟩
theorem lw_p37 : lw_okq (⟨"AlbumHoursModel", "lay", "(IIIII)V"⟩, 40) := ⟨⟨by decide +kernel, by decide +kernel⟩, List.mem_of_getElem? (i := 1142) (by decide +kernel), List.mem_of_getElem? (i := 1311) (by decide +kernel), List.mem_of_getElem? (i := 1312) (by decide +kernel)⟩
theorem lw_p38 : lw_okq (⟨"AlbumHoursModel", "readSun", "()V"⟩, 40) := ⟨⟨by decide +kernel, by decide +kernel⟩, List.mem_of_getElem? (i := 1142) (by decide +kernel), List.mem_of_getElem? (i := 1315) (by decide +kernel), List.mem_of_getElem? (i := 1316) (by decide +kernel)⟩
theorem lw_p39 : lw_okq (⟨"AlbumHoursModel", "number", "(II)I"⟩, 40) := ⟨⟨by decide +kernel, by decide +kernel⟩, List.mem_of_getElem? (i := 1142) (by decide +kernel), List.mem_of_getElem? (i := 1319) (by decide +kernel), List.mem_of_getElem? (i := 1320) (by decide +kernel)⟩
theorem lw_p40 : lw_okq (⟨"AlbumHoursModel", "want", "(Z)Z"⟩, 40) := ⟨⟨by decide +kernel, by decide +kernel⟩, List.mem_of_getElem? (i := 1142) (by decide +kernel), List.mem_of_getElem? (i := 1323) (by decide +kernel), List.mem_of_getElem? (i := 1324) (by decide +kernel)⟩
theorem lw_p41 : lw_okq (⟨"AlbumHoursModel", "readPicture", "()V"⟩, 40) := ⟨⟨by decide +kernel, by decide +kernel⟩, List.mem_of_getElem? (i := 1142) (by decide +kernel), List.mem_of_getElem? (i := 1327) (by decide +kernel), List.mem_of_getElem? (i := 1328) (by decide +kernel)⟩
theorem lw_p42 : lw_okq (⟨"AlbumHoursModel", "wordOf", "()I"⟩, 40) := ⟨⟨by decide +kernel, by decide +kernel⟩, List.mem_of_getElem? (i := 1142) (by decide +kernel), List.mem_of_getElem? (i := 1331) (by decide +kernel), List.mem_of_getElem? (i := 1332) (by decide +kernel)⟩
theorem lw_p43 : lw_okq (⟨"AlbumHoursModel", "readThing", "()V"⟩, 40) := ⟨⟨by decide +kernel, by decide +kernel⟩, List.mem_of_getElem? (i := 1142) (by decide +kernel), List.mem_of_getElem? (i := 1335) (by decide +kernel), List.mem_of_getElem? (i := 1336) (by decide +kernel)⟩
theorem lw_p44 : lw_okq (⟨"AlbumHoursModel", "readPiece", "(I)V"⟩, 40) := ⟨⟨by decide +kernel, by decide +kernel⟩, List.mem_of_getElem? (i := 1142) (by decide +kernel), List.mem_of_getElem? (i := 1339) (by decide +kernel), List.mem_of_getElem? (i := 1340) (by decide +kernel)⟩
theorem lw_p45 : lw_okq (⟨"AlbumHoursModel", "readSee", "()V"⟩, 40) := ⟨⟨by decide +kernel, by decide +kernel⟩, List.mem_of_getElem? (i := 1142) (by decide +kernel), List.mem_of_getElem? (i := 1343) (by decide +kernel), List.mem_of_getElem? (i := 1344) (by decide +kernel)⟩
theorem lw_p46 : lw_okq (⟨"AlbumHoursModel", "tell", "(I)V"⟩, 40) := ⟨⟨by decide +kernel, by decide +kernel⟩, List.mem_of_getElem? (i := 1142) (by decide +kernel), List.mem_of_getElem? (i := 1351) (by decide +kernel), List.mem_of_getElem? (i := 1352) (by decide +kernel)⟩
theorem lw_p47 : lw_okq (⟨"AlbumHoursModel", "become", "(IIII)V"⟩, 40) := ⟨⟨by decide +kernel, by decide +kernel⟩, List.mem_of_getElem? (i := 1142) (by decide +kernel), List.mem_of_getElem? (i := 1355) (by decide +kernel), List.mem_of_getElem? (i := 1356) (by decide +kernel)⟩
def lw_privs_3 : List (MethodName × Nat) := [(⟨"AlbumHoursModel", "read", "()V"⟩, 40), (⟨"AlbumHoursModel", "readClause", "()V"⟩, 40), (⟨"AlbumHoursModel", "take", "()V"⟩, 40), (⟨"AlbumHoursModel", "isWord", "(IIIIIII)Z"⟩, 40), (⟨"AlbumHoursModel", "at", "(II)Z"⟩, 40), (⟨"AlbumHoursModel", "lay", "(IIIII)V"⟩, 40), (⟨"AlbumHoursModel", "readSun", "()V"⟩, 40), (⟨"AlbumHoursModel", "number", "(II)I"⟩, 40), (⟨"AlbumHoursModel", "want", "(Z)Z"⟩, 40), (⟨"AlbumHoursModel", "readPicture", "()V"⟩, 40), (⟨"AlbumHoursModel", "wordOf", "()I"⟩, 40), (⟨"AlbumHoursModel", "readThing", "()V"⟩, 40), (⟨"AlbumHoursModel", "readPiece", "(I)V"⟩, 40), (⟨"AlbumHoursModel", "readSee", "()V"⟩, 40), (⟨"AlbumHoursModel", "tell", "(I)V"⟩, 40), (⟨"AlbumHoursModel", "become", "(IIII)V"⟩, 40)]
theorem lw_r3 : ∀ q ∈ lw_privs_3, lw_okq q := List.forall_mem_cons.mpr ⟨lw_p32, List.forall_mem_cons.mpr ⟨lw_p33, List.forall_mem_cons.mpr ⟨lw_p34, List.forall_mem_cons.mpr ⟨lw_p35, List.forall_mem_cons.mpr ⟨lw_p36, List.forall_mem_cons.mpr ⟨lw_p37, List.forall_mem_cons.mpr ⟨lw_p38, List.forall_mem_cons.mpr ⟨lw_p39, List.forall_mem_cons.mpr ⟨lw_p40, List.forall_mem_cons.mpr ⟨lw_p41, List.forall_mem_cons.mpr ⟨lw_p42, List.forall_mem_cons.mpr ⟨lw_p43, List.forall_mem_cons.mpr ⟨lw_p44, List.forall_mem_cons.mpr ⟨lw_p45, List.forall_mem_cons.mpr ⟨lw_p46, List.forall_mem_cons.mpr ⟨lw_p47, fun _ h => absurd h List.not_mem_nil⟩⟩⟩⟩⟩⟩⟩⟩⟩⟩⟩⟩⟩⟩⟩⟩
theorem lw_p48 : lw_okq (⟨"AlbumHoursModel", "pieceAt", "(II)I"⟩, 40) := ⟨⟨by decide +kernel, by decide +kernel⟩, List.mem_of_getElem? (i := 1142) (by decide +kernel), List.mem_of_getElem? (i := 1359) (by decide +kernel), List.mem_of_getElem? (i := 1360) (by decide +kernel)⟩
theorem lw_p49 : lw_okq (⟨"AlbumHoursModel", "isPicture", "(I)Z"⟩, 40) := ⟨⟨by decide +kernel, by decide +kernel⟩, List.mem_of_getElem? (i := 1142) (by decide +kernel), List.mem_of_getElem? (i := 1371) (by decide +kernel), List.mem_of_getElem? (i := 1372) (by decide +kernel)⟩
theorem lw_p50 : lw_okq (⟨"AlbumHoursModel", "layWindow", "(I)V"⟩, 40) := ⟨⟨by decide +kernel, by decide +kernel⟩, List.mem_of_getElem? (i := 1142) (by decide +kernel), List.mem_of_getElem? (i := 1375) (by decide +kernel), List.mem_of_getElem? (i := 1376) (by decide +kernel)⟩
theorem lw_p51 : lw_okq (⟨"AlbumHoursModel", "isIn", "(II)Z"⟩, 40) := ⟨⟨by decide +kernel, by decide +kernel⟩, List.mem_of_getElem? (i := 1142) (by decide +kernel), List.mem_of_getElem? (i := 1379) (by decide +kernel), List.mem_of_getElem? (i := 1380) (by decide +kernel)⟩
theorem lw_p52 : lw_okq (⟨"AlbumHoursModel", "isUp", "(I)Z"⟩, 40) := ⟨⟨by decide +kernel, by decide +kernel⟩, List.mem_of_getElem? (i := 1142) (by decide +kernel), List.mem_of_getElem? (i := 1383) (by decide +kernel), List.mem_of_getElem? (i := 1384) (by decide +kernel)⟩
theorem lw_p53 : lw_okq (⟨"AlbumHoursModel", "pointAt", "(I)I"⟩, 40) := ⟨⟨by decide +kernel, by decide +kernel⟩, List.mem_of_getElem? (i := 1142) (by decide +kernel), List.mem_of_getElem? (i := 1387) (by decide +kernel), List.mem_of_getElem? (i := 1388) (by decide +kernel)⟩
theorem lw_p54 : lw_okq (⟨"AlbumHoursModel", "lengthAt", "(I)I"⟩, 40) := ⟨⟨by decide +kernel, by decide +kernel⟩, List.mem_of_getElem? (i := 1142) (by decide +kernel), List.mem_of_getElem? (i := 1394) (by decide +kernel), List.mem_of_getElem? (i := 1395) (by decide +kernel)⟩
theorem lw_p55 : lw_okq (⟨"AlbumHoursModel", "lettersOf", "(I)I"⟩, 40) := ⟨⟨by decide +kernel, by decide +kernel⟩, List.mem_of_getElem? (i := 1142) (by decide +kernel), List.mem_of_getElem? (i := 1398) (by decide +kernel), List.mem_of_getElem? (i := 1399) (by decide +kernel)⟩
theorem lw_p56 : lw_okq (⟨"AlbumHoursModel", "countOf", "(IZ)I"⟩, 40) := ⟨⟨by decide +kernel, by decide +kernel⟩, List.mem_of_getElem? (i := 1142) (by decide +kernel), List.mem_of_getElem? (i := 1402) (by decide +kernel), List.mem_of_getElem? (i := 1403) (by decide +kernel)⟩
theorem lw_p57 : lw_okq (⟨"AlbumHoursModel", "isBefore", "(II)Z"⟩, 40) := ⟨⟨by decide +kernel, by decide +kernel⟩, List.mem_of_getElem? (i := 1142) (by decide +kernel), List.mem_of_getElem? (i := 1406) (by decide +kernel), List.mem_of_getElem? (i := 1407) (by decide +kernel)⟩
theorem lw_p58 : lw_okq (⟨"AlbumHoursModel", "isAhead", "(II)Z"⟩, 40) := ⟨⟨by decide +kernel, by decide +kernel⟩, List.mem_of_getElem? (i := 1142) (by decide +kernel), List.mem_of_getElem? (i := 1410) (by decide +kernel), List.mem_of_getElem? (i := 1411) (by decide +kernel)⟩
theorem lw_p59 : lw_okq (⟨"AlbumHoursModel", "value", "(II)I"⟩, 40) := ⟨⟨by decide +kernel, by decide +kernel⟩, List.mem_of_getElem? (i := 1142) (by decide +kernel), List.mem_of_getElem? (i := 1414) (by decide +kernel), List.mem_of_getElem? (i := 1415) (by decide +kernel)⟩
theorem lw_p60 : lw_okq (⟨"AlbumHoursModel", "isMatter", "(I)Z"⟩, 40) := ⟨⟨by decide +kernel, by decide +kernel⟩, List.mem_of_getElem? (i := 1142) (by decide +kernel), List.mem_of_getElem? (i := 1441) (by decide +kernel), List.mem_of_getElem? (i := 1442) (by decide +kernel)⟩
theorem lw_p61 : lw_okq (⟨"AlbumHoursModel", "newPiece", "(IIII)I"⟩, 40) := ⟨⟨by decide +kernel, by decide +kernel⟩, List.mem_of_getElem? (i := 1142) (by decide +kernel), List.mem_of_getElem? (i := 1457) (by decide +kernel), List.mem_of_getElem? (i := 1458) (by decide +kernel)⟩
theorem lw_p62 : lw_okq (⟨"AlbumHoursModel", "put", "()V"⟩, 40) := ⟨⟨by decide +kernel, by decide +kernel⟩, List.mem_of_getElem? (i := 1142) (by decide +kernel), List.mem_of_getElem? (i := 1461) (by decide +kernel), List.mem_of_getElem? (i := 1462) (by decide +kernel)⟩
theorem lw_p63 : lw_okq (⟨"AlbumHoursModel", "mostOf", "(I)I"⟩, 40) := ⟨⟨by decide +kernel, by decide +kernel⟩, List.mem_of_getElem? (i := 1142) (by decide +kernel), List.mem_of_getElem? (i := 1473) (by decide +kernel), List.mem_of_getElem? (i := 1474) (by decide +kernel)⟩
def lw_privs_4 : List (MethodName × Nat) := [(⟨"AlbumHoursModel", "pieceAt", "(II)I"⟩, 40), (⟨"AlbumHoursModel", "isPicture", "(I)Z"⟩, 40), (⟨"AlbumHoursModel", "layWindow", "(I)V"⟩, 40), (⟨"AlbumHoursModel", "isIn", "(II)Z"⟩, 40), (⟨"AlbumHoursModel", "isUp", "(I)Z"⟩, 40), (⟨"AlbumHoursModel", "pointAt", "(I)I"⟩, 40), (⟨"AlbumHoursModel", "lengthAt", "(I)I"⟩, 40), (⟨"AlbumHoursModel", "lettersOf", "(I)I"⟩, 40), (⟨"AlbumHoursModel", "countOf", "(IZ)I"⟩, 40), (⟨"AlbumHoursModel", "isBefore", "(II)Z"⟩, 40), (⟨"AlbumHoursModel", "isAhead", "(II)Z"⟩, 40), (⟨"AlbumHoursModel", "value", "(II)I"⟩, 40), (⟨"AlbumHoursModel", "isMatter", "(I)Z"⟩, 40), (⟨"AlbumHoursModel", "newPiece", "(IIII)I"⟩, 40), (⟨"AlbumHoursModel", "put", "()V"⟩, 40), (⟨"AlbumHoursModel", "mostOf", "(I)I"⟩, 40)]
theorem lw_r4 : ∀ q ∈ lw_privs_4, lw_okq q := List.forall_mem_cons.mpr ⟨lw_p48, List.forall_mem_cons.mpr ⟨lw_p49, List.forall_mem_cons.mpr ⟨lw_p50, List.forall_mem_cons.mpr ⟨lw_p51, List.forall_mem_cons.mpr ⟨lw_p52, List.forall_mem_cons.mpr ⟨lw_p53, List.forall_mem_cons.mpr ⟨lw_p54, List.forall_mem_cons.mpr ⟨lw_p55, List.forall_mem_cons.mpr ⟨lw_p56, List.forall_mem_cons.mpr ⟨lw_p57, List.forall_mem_cons.mpr ⟨lw_p58, List.forall_mem_cons.mpr ⟨lw_p59, List.forall_mem_cons.mpr ⟨lw_p60, List.forall_mem_cons.mpr ⟨lw_p61, List.forall_mem_cons.mpr ⟨lw_p62, List.forall_mem_cons.mpr ⟨lw_p63, fun _ h => absurd h List.not_mem_nil⟩⟩⟩⟩⟩⟩⟩⟩⟩⟩⟩⟩⟩⟩⟩⟩
theorem lw_p64 : lw_okq (⟨"AlbumHoursModel", "remove", "(I)V"⟩, 40) := ⟨⟨by decide +kernel, by decide +kernel⟩, List.mem_of_getElem? (i := 1142) (by decide +kernel), List.mem_of_getElem? (i := 1481) (by decide +kernel), List.mem_of_getElem? (i := 1482) (by decide +kernel)⟩
theorem lw_p65 : lw_okq (⟨"AlbumHoursModel", "areTwo", "(II)Z"⟩, 40) := ⟨⟨by decide +kernel, by decide +kernel⟩, List.mem_of_getElem? (i := 1142) (by decide +kernel), List.mem_of_getElem? (i := 1501) (by decide +kernel), List.mem_of_getElem? (i := 1502) (by decide +kernel)⟩
theorem lw_p66 : lw_okq (⟨"AlbumHoursModel", "many", "()I"⟩, 40) := ⟨⟨by decide +kernel, by decide +kernel⟩, List.mem_of_getElem? (i := 1142) (by decide +kernel), List.mem_of_getElem? (i := 1509) (by decide +kernel), List.mem_of_getElem? (i := 1510) (by decide +kernel)⟩
theorem lw_p67 : lw_okq (⟨"AlbumHoursModel", "whole", "()I"⟩, 40) := ⟨⟨by decide +kernel, by decide +kernel⟩, List.mem_of_getElem? (i := 1142) (by decide +kernel), List.mem_of_getElem? (i := 1513) (by decide +kernel), List.mem_of_getElem? (i := 1514) (by decide +kernel)⟩
theorem lw_p68 : lw_okq (⟨"AlbumHoursModel", "layOrders", "(IIIII)I"⟩, 40) := ⟨⟨by decide +kernel, by decide +kernel⟩, List.mem_of_getElem? (i := 1142) (by decide +kernel), List.mem_of_getElem? (i := 1517) (by decide +kernel), List.mem_of_getElem? (i := 1518) (by decide +kernel)⟩
theorem lw_p69 : lw_okq (⟨"AlbumHoursModel", "layAll", "()V"⟩, 40) := ⟨⟨by decide +kernel, by decide +kernel⟩, List.mem_of_getElem? (i := 1142) (by decide +kernel), List.mem_of_getElem? (i := 1521) (by decide +kernel), List.mem_of_getElem? (i := 1522) (by decide +kernel)⟩
theorem lw_p70 : lw_okq (⟨"AlbumHoursModel", "isLast", "(I)Z"⟩, 40) := ⟨⟨by decide +kernel, by decide +kernel⟩, List.mem_of_getElem? (i := 1142) (by decide +kernel), List.mem_of_getElem? (i := 1525) (by decide +kernel), List.mem_of_getElem? (i := 1526) (by decide +kernel)⟩
theorem lw_p71 : lw_okq (⟨"AlbumHoursModel", "isWhole", "(II)Z"⟩, 40) := ⟨⟨by decide +kernel, by decide +kernel⟩, List.mem_of_getElem? (i := 1142) (by decide +kernel), List.mem_of_getElem? (i := 1529) (by decide +kernel), List.mem_of_getElem? (i := 1530) (by decide +kernel)⟩
theorem lw_p72 : lw_okq (⟨"AlbumHoursModel", "isGiven", "(I)Z"⟩, 40) := ⟨⟨by decide +kernel, by decide +kernel⟩, List.mem_of_getElem? (i := 1142) (by decide +kernel), List.mem_of_getElem? (i := 1533) (by decide +kernel), List.mem_of_getElem? (i := 1534) (by decide +kernel)⟩
theorem lw_p73 : lw_okq (⟨"AlbumHoursModel", "weigh", "(IIII)V"⟩, 40) := ⟨⟨by decide +kernel, by decide +kernel⟩, List.mem_of_getElem? (i := 1142) (by decide +kernel), List.mem_of_getElem? (i := 1537) (by decide +kernel), List.mem_of_getElem? (i := 1538) (by decide +kernel)⟩
theorem lw_p74 : lw_okq (⟨"AlbumHoursModel", "note", "(I)V"⟩, 40) := ⟨⟨by decide +kernel, by decide +kernel⟩, List.mem_of_getElem? (i := 1142) (by decide +kernel), List.mem_of_getElem? (i := 1541) (by decide +kernel), List.mem_of_getElem? (i := 1542) (by decide +kernel)⟩
theorem lw_p75 : lw_okq (⟨"AlbumHoursModel", "knotOf", "()I"⟩, 40) := ⟨⟨by decide +kernel, by decide +kernel⟩, List.mem_of_getElem? (i := 1142) (by decide +kernel), List.mem_of_getElem? (i := 1565) (by decide +kernel), List.mem_of_getElem? (i := 1566) (by decide +kernel)⟩
theorem lw_p76 : lw_okq (⟨"AlbumHoursModel", "isAny", "(I)Z"⟩, 40) := ⟨⟨by decide +kernel, by decide +kernel⟩, List.mem_of_getElem? (i := 1142) (by decide +kernel), List.mem_of_getElem? (i := 1569) (by decide +kernel), List.mem_of_getElem? (i := 1570) (by decide +kernel)⟩
theorem lw_p77 : lw_okq (⟨"AlbumHoursModel", "wouldBe", "(III)I"⟩, 40) := ⟨⟨by decide +kernel, by decide +kernel⟩, List.mem_of_getElem? (i := 1142) (by decide +kernel), List.mem_of_getElem? (i := 1581) (by decide +kernel), List.mem_of_getElem? (i := 1582) (by decide +kernel)⟩
theorem lw_p78 : lw_okq (⟨"AlbumHoursModel", "lack", "(II)I"⟩, 40) := ⟨⟨by decide +kernel, by decide +kernel⟩, List.mem_of_getElem? (i := 1142) (by decide +kernel), List.mem_of_getElem? (i := 1600) (by decide +kernel), List.mem_of_getElem? (i := 1601) (by decide +kernel)⟩
theorem lw_p79 : lw_okq (⟨"AlbumHoursModel", "pairs", "()I"⟩, 40) := ⟨⟨by decide +kernel, by decide +kernel⟩, List.mem_of_getElem? (i := 1142) (by decide +kernel), List.mem_of_getElem? (i := 1632) (by decide +kernel), List.mem_of_getElem? (i := 1633) (by decide +kernel)⟩
def lw_privs_5 : List (MethodName × Nat) := [(⟨"AlbumHoursModel", "remove", "(I)V"⟩, 40), (⟨"AlbumHoursModel", "areTwo", "(II)Z"⟩, 40), (⟨"AlbumHoursModel", "many", "()I"⟩, 40), (⟨"AlbumHoursModel", "whole", "()I"⟩, 40), (⟨"AlbumHoursModel", "layOrders", "(IIIII)I"⟩, 40), (⟨"AlbumHoursModel", "layAll", "()V"⟩, 40), (⟨"AlbumHoursModel", "isLast", "(I)Z"⟩, 40), (⟨"AlbumHoursModel", "isWhole", "(II)Z"⟩, 40), (⟨"AlbumHoursModel", "isGiven", "(I)Z"⟩, 40), (⟨"AlbumHoursModel", "weigh", "(IIII)V"⟩, 40), (⟨"AlbumHoursModel", "note", "(I)V"⟩, 40), (⟨"AlbumHoursModel", "knotOf", "()I"⟩, 40), (⟨"AlbumHoursModel", "isAny", "(I)Z"⟩, 40), (⟨"AlbumHoursModel", "wouldBe", "(III)I"⟩, 40), (⟨"AlbumHoursModel", "lack", "(II)I"⟩, 40), (⟨"AlbumHoursModel", "pairs", "()I"⟩, 40)]
theorem lw_r5 : ∀ q ∈ lw_privs_5, lw_okq q := List.forall_mem_cons.mpr ⟨lw_p64, List.forall_mem_cons.mpr ⟨lw_p65, List.forall_mem_cons.mpr ⟨lw_p66, List.forall_mem_cons.mpr ⟨lw_p67, List.forall_mem_cons.mpr ⟨lw_p68, List.forall_mem_cons.mpr ⟨lw_p69, List.forall_mem_cons.mpr ⟨lw_p70, List.forall_mem_cons.mpr ⟨lw_p71, List.forall_mem_cons.mpr ⟨lw_p72, List.forall_mem_cons.mpr ⟨lw_p73, List.forall_mem_cons.mpr ⟨lw_p74, List.forall_mem_cons.mpr ⟨lw_p75, List.forall_mem_cons.mpr ⟨lw_p76, List.forall_mem_cons.mpr ⟨lw_p77, List.forall_mem_cons.mpr ⟨lw_p78, List.forall_mem_cons.mpr ⟨lw_p79, fun _ h => absurd h List.not_mem_nil⟩⟩⟩⟩⟩⟩⟩⟩⟩⟩⟩⟩⟩⟩⟩⟩
theorem lw_p80 : lw_okq (⟨"AlbumHoursModel", "placesOfAll", "()I"⟩, 40) := ⟨⟨by decide +kernel, by decide +kernel⟩, List.mem_of_getElem? (i := 1142) (by decide +kernel), List.mem_of_getElem? (i := 1636) (by decide +kernel), List.mem_of_getElem? (i := 1637) (by decide +kernel)⟩
def lw_privs_6 : List (MethodName × Nat) := [(⟨"AlbumHoursModel", "placesOfAll", "()I"⟩, 40)]
theorem lw_r6 : ∀ q ∈ lw_privs_6, lw_okq q := List.forall_mem_cons.mpr ⟨lw_p80, fun _ h => absurd h List.not_mem_nil⟩
def lw_privs : List (MethodName × Nat) := lw_privs_1 ++ (lw_privs_2 ++ (lw_privs_3 ++ (lw_privs_4 ++ (lw_privs_5 ++ (lw_privs_6)))))
def lw_tbl : List Cond := k2_sels lw_privs ++ tables_1
theorem lw_privs_ok : ∀ q ∈ lw_privs, lw_okq q := by
  show ∀ q ∈ lw_privs_1 ++ (lw_privs_2 ++ (lw_privs_3 ++ (lw_privs_4 ++ (lw_privs_5 ++ (lw_privs_6))))), lw_okq q
  exact List.forall_mem_append.mpr ⟨lw_r1, List.forall_mem_append.mpr ⟨lw_r2, List.forall_mem_append.mpr ⟨lw_r3, List.forall_mem_append.mpr ⟨lw_r4, List.forall_mem_append.mpr ⟨lw_r5, lw_r6⟩⟩⟩⟩⟩
def RX0 : String := "AlbumHours$Album"
def TX0 : u_T := fun k => match k with
  | 0 => ("AlbumHours$Album", "pictures", "I", false)
  | 1 => ("AlbumHours$Album", "things", "I", false)
  | 2 => ("AlbumHours$Album", "sun", "LAlbumHours$Sun;", true)
  | 3 => ("AlbumHours$Album", "pieces", "LAlbumHours$Pieces;", true)
  | 4 => ("AlbumHours$Album", "words", "[I", true)
  | _ => ("AlbumHours$Album", "kinds", "[I", true)
def tyX0 : Nat → FieldType := fun k => match k with
  | 0 => .int
  | 1 => .int
  | 2 => .object "AlbumHours$Sun"
  | 3 => .object "AlbumHours$Pieces"
  | 4 => .array .int
  | _ => .array .int
abbrev wsX00 : List Cond := u_ws RX0 TX0 6
theorem nmX0 : ∀ a, a < 6 → ∀ b, b < 6 → a ≠ b → (TX0 a).2.1 ≠ (TX0 b).2.1 := by decide +kernel
theorem tyX0_ok : ∀ k, k < 6 → parseFieldDescriptor (TX0 k).2.2.1 = some (tyX0 k) := by decide +kernel
abbrev cX0_init : ByteArray := prog_2_method_1_code
def yX0_init : MethodName := ⟨RX0, "<init>", "()V"⟩
abbrev cX0_clear : ByteArray := prog_2_method_2_code
def yX0_clear : MethodName := ⟨RX0, "clear", "()V"⟩
abbrev cX0_copyFrom : ByteArray := prog_2_method_3_code
def yX0_copyFrom : MethodName := ⟨RX0, "copyFrom", "(LAlbumHours$Album;)V"⟩
abbrev cX0_addPicture : ByteArray := prog_2_method_4_code
def yX0_addPicture : MethodName := ⟨RX0, "addPicture", "(I)V"⟩
abbrev cX0_addThing : ByteArray := prog_2_method_5_code
def yX0_addThing : MethodName := ⟨RX0, "addThing", "(I)V"⟩
abbrev cX0_hasPicture : ByteArray := prog_2_method_6_code
def yX0_hasPicture : MethodName := ⟨RX0, "hasPicture", "(I)Z"⟩
abbrev cX0_hasThing : ByteArray := prog_2_method_7_code
def yX0_hasThing : MethodName := ⟨RX0, "hasThing", "(I)Z"⟩
abbrev cX0_hasMatter : ByteArray := prog_2_method_8_code
def yX0_hasMatter : MethodName := ⟨RX0, "hasMatter", "(I)Z"⟩
abbrev cX0_kindOf : ByteArray := prog_2_method_9_code
def yX0_kindOf : MethodName := ⟨RX0, "kindOf", "(I)I"⟩
abbrev cX0_mostValue : ByteArray := prog_2_method_10_code
def yX0_mostValue : MethodName := ⟨RX0, "mostValue", "(I)I"⟩
abbrev cX0_takesValue : ByteArray := prog_2_method_11_code
def yX0_takesValue : MethodName := ⟨RX0, "takesValue", "(II)Z"⟩
abbrev cX0_pictureNamed : ByteArray := prog_2_method_12_code
def yX0_pictureNamed : MethodName := ⟨RX0, "pictureNamed", "(I)I"⟩
abbrev cX0_wordLetters : ByteArray := prog_2_method_13_code
def yX0_wordLetters : MethodName := ⟨RX0, "wordLetters", "(I)I"⟩
abbrev cX0_picturesSeeing : ByteArray := prog_2_method_14_code
def yX0_picturesSeeing : MethodName := ⟨RX0, "picturesSeeing", "(II)I"⟩
def RX1 : String := "AlbumHours$Doubts"
def TX1 : u_T := fun k => match k with
  | 0 => ("AlbumHours$Doubts", "looseMany", "I", false)
  | 1 => ("AlbumHours$Doubts", "askedFor", "I", false)
  | 2 => ("AlbumHours$Doubts", "askWorth", "I", false)
  | 3 => ("AlbumHours$Doubts", "looseNumbers", "[I", true)
  | 4 => ("AlbumHours$Doubts", "knot", "I", false)
  | 5 => ("AlbumHours$Doubts", "knotKnown", "Z", false)
  | 6 => ("AlbumHours$Doubts", "looseKnown", "Z", false)
  | 7 => ("AlbumHours$Doubts", "askKnown", "Z", false)
  | 8 => ("AlbumHours$Doubts", "trial", "LAlbumHours$Pieces;", true)
  | 9 => ("AlbumHours$Doubts", "guess", "LAlbumHours$Rules;", true)
  | 10 => ("AlbumHours$Doubts", "orders", "LAlbumHours$Orders;", true)
  | _ => ("AlbumHours$Doubts", "hours", "LAlbumHours$Hours;", true)
def tyX1 : Nat → FieldType := fun k => match k with
  | 0 => .int
  | 1 => .int
  | 2 => .int
  | 3 => .array .int
  | 4 => .int
  | 5 => .boolean
  | 6 => .boolean
  | 7 => .boolean
  | 8 => .object "AlbumHours$Pieces"
  | 9 => .object "AlbumHours$Rules"
  | 10 => .object "AlbumHours$Orders"
  | _ => .object "AlbumHours$Hours"
abbrev wsX10 : List Cond := u_ws RX1 TX1 12
theorem nmX1 : ∀ a, a < 12 → ∀ b, b < 12 → a ≠ b → (TX1 a).2.1 ≠ (TX1 b).2.1 := by decide +kernel
theorem tyX1_ok : ∀ k, k < 12 → parseFieldDescriptor (TX1 k).2.2.1 = some (tyX1 k) := by decide +kernel
abbrev cX1_init : ByteArray := prog_3_method_1_code
def yX1_init : MethodName := ⟨RX1, "<init>", "()V"⟩
abbrev cX1_forget : ByteArray := prog_3_method_2_code
def yX1_forget : MethodName := ⟨RX1, "forget", "()V"⟩
abbrev cX1_knotOf : ByteArray := prog_3_method_3_code
def yX1_knotOf : MethodName := ⟨RX1, "knotOf", "(LAlbumHours$Rules;)I"⟩
abbrev cX1_seekKnot : ByteArray := prog_3_method_4_code
def yX1_seekKnot : MethodName := ⟨RX1, "seekKnot", "(LAlbumHours$Rules;)I"⟩
abbrev cX1_seekLoose : ByteArray := prog_3_method_5_code
def yX1_seekLoose : MethodName := ⟨RX1, "seekLoose", "(LAlbumHours$Album;LAlbumHours$Rules;)V"⟩
abbrev cX1_isLoose : ByteArray := prog_3_method_6_code
def yX1_isLoose : MethodName := ⟨RX1, "isLoose", "(LAlbumHours$Album;LAlbumHours$Rules;I)Z"⟩
abbrev cX1_looseNumber : ByteArray := prog_3_method_7_code
def yX1_looseNumber : MethodName := ⟨RX1, "looseNumber", "(I)I"⟩
abbrev cX1_ordersWithPiece : ByteArray := prog_3_method_8_code
def yX1_ordersWithPiece : MethodName := ⟨RX1, "ordersWithPiece", "(LAlbumHours$Album;LAlbumHours$Rules;III)I"⟩
abbrev cX1_ordersWithAhead : ByteArray := prog_3_method_9_code
def yX1_ordersWithAhead : MethodName := ⟨RX1, "ordersWithAhead", "(LAlbumHours$Rules;II)I"⟩
abbrev cX1_seekAsk : ByteArray := prog_3_method_10_code
def yX1_seekAsk : MethodName := ⟨RX1, "seekAsk", "(LAlbumHours$Album;LAlbumHours$Rules;I)V"⟩
abbrev cX1_canNarrow : ByteArray := prog_3_method_11_code
def yX1_canNarrow : MethodName := ⟨RX1, "canNarrow", "(LAlbumHours$Album;II)Z"⟩
def RX2 : String := "AlbumHours$History"
def TX2 : u_T := fun k => match k with
  | 0 => ("AlbumHours$History", "many", "I", false)
  | 1 => ("AlbumHours$History", "first", "I", false)
  | 2 => ("AlbumHours$History", "pasts", "[LAlbumHours$Pieces;", true)
  | 3 => ("AlbumHours$History", "kept", "[LAlbumHours$Pieces;", true)
  | _ => ("AlbumHours$History", "keptSet", "I", false)
def tyX2 : Nat → FieldType := fun k => match k with
  | 0 => .int
  | 1 => .int
  | 2 => .array (.object "AlbumHours$Pieces")
  | 3 => .array (.object "AlbumHours$Pieces")
  | _ => .int
abbrev wsX20 : List Cond := u_ws RX2 TX2 5
theorem nmX2 : ∀ a, a < 5 → ∀ b, b < 5 → a ≠ b → (TX2 a).2.1 ≠ (TX2 b).2.1 := by decide +kernel
theorem tyX2_ok : ∀ k, k < 5 → parseFieldDescriptor (TX2 k).2.2.1 = some (tyX2 k) := by decide +kernel
abbrev cX2_init : ByteArray := prog_4_method_1_code
def yX2_init : MethodName := ⟨RX2, "<init>", "()V"⟩
abbrev cX2_clear : ByteArray := prog_4_method_2_code
def yX2_clear : MethodName := ⟨RX2, "clear", "()V"⟩
abbrev cX2_remember : ByteArray := prog_4_method_3_code
def yX2_remember : MethodName := ⟨RX2, "remember", "(LAlbumHours$Pieces;)V"⟩
abbrev cX2_pastAt : ByteArray := prog_4_method_4_code
def yX2_pastAt : MethodName := ⟨RX2, "pastAt", "(I)LAlbumHours$Pieces;"⟩
abbrev cX2_restoreLatest : ByteArray := prog_4_method_5_code
def yX2_restoreLatest : MethodName := ⟨RX2, "restoreLatest", "(LAlbumHours$Pieces;)Z"⟩
abbrev cX2_store : ByteArray := prog_4_method_6_code
def yX2_store : MethodName := ⟨RX2, "store", "(ILAlbumHours$Pieces;)V"⟩
abbrev cX2_restoreKept : ByteArray := prog_4_method_7_code
def yX2_restoreKept : MethodName := ⟨RX2, "restoreKept", "(ILAlbumHours$Pieces;)Z"⟩
def RX3 : String := "AlbumHours$Hours"
def TX3 : u_T := fun k => match k with
  | 0 => ("AlbumHours$Hours", "known", "Z", false)
  | 1 => ("AlbumHours$Hours", "least", "[I", true)
  | 2 => ("AlbumHours$Hours", "most", "[I", true)
  | 3 => ("AlbumHours$Hours", "left", "[J", true)
  | _ => ("AlbumHours$Hours", "places", "[I", true)
def tyX3 : Nat → FieldType := fun k => match k with
  | 0 => .boolean
  | 1 => .array .int
  | 2 => .array .int
  | 3 => .array .long
  | _ => .array .int
abbrev wsX30 : List Cond := u_ws RX3 TX3 5
theorem nmX3 : ∀ a, a < 5 → ∀ b, b < 5 → a ≠ b → (TX3 a).2.1 ≠ (TX3 b).2.1 := by decide +kernel
theorem tyX3_ok : ∀ k, k < 5 → parseFieldDescriptor (TX3 k).2.2.1 = some (tyX3 k) := by decide +kernel
abbrev cX3_init : ByteArray := prog_5_method_1_code
def yX3_init : MethodName := ⟨RX3, "<init>", "()V"⟩
abbrev cX3_canBe : ByteArray := prog_5_method_2_code
def yX3_canBe : MethodName := ⟨RX3, "canBe", "(LAlbumHours$Rules;I)Z"⟩
abbrev cX3_seek : ByteArray := prog_5_method_3_code
def yX3_seek : MethodName := ⟨RX3, "seek", "(LAlbumHours$Rules;)V"⟩
abbrev cX3_seekBetween : ByteArray := prog_5_method_4_code
def yX3_seekBetween : MethodName := ⟨RX3, "seekBetween", "(LAlbumHours$Rules;II)V"⟩
abbrev cX3_leftTo : ByteArray := prog_5_method_5_code
def yX3_leftTo : MethodName := ⟨RX3, "leftTo", "(I)J"⟩
abbrev cX3_placesOf : ByteArray := prog_5_method_6_code
def yX3_placesOf : MethodName := ⟨RX3, "placesOf", "(I)I"⟩
def RX4 : String := "AlbumHours$Orders"
def TX4 : u_T := fun k => match k with
  | 0 => ("AlbumHours$Orders", "known", "Z", false)
  | 1 => ("AlbumHours$Orders", "total", "I", false)
  | 2 => ("AlbumHours$Orders", "rules", "LAlbumHours$Rules;", false)
  | 3 => ("AlbumHours$Orders", "next", "[I", true)
  | 4 => ("AlbumHours$Orders", "reached", "[J", true)
  | _ => ("AlbumHours$Orders", "ways", "[I", true)
def tyX4 : Nat → FieldType := fun k => match k with
  | 0 => .boolean
  | 1 => .int
  | 2 => .object "AlbumHours$Rules"
  | 3 => .array .int
  | 4 => .array .long
  | _ => .array .int
abbrev wsX40 : List Cond := u_ws RX4 TX4 6
theorem nmX4 : ∀ a, a < 6 → ∀ b, b < 6 → a ≠ b → (TX4 a).2.1 ≠ (TX4 b).2.1 := by decide +kernel
theorem tyX4_ok : ∀ k, k < 6 → parseFieldDescriptor (TX4 k).2.2.1 = some (tyX4 k) := by decide +kernel
abbrev cX4_init : ByteArray := prog_6_method_1_code
def yX4_init : MethodName := ⟨RX4, "<init>", "()V"⟩
abbrev cX4_seek : ByteArray := prog_6_method_2_code
def yX4_seek : MethodName := ⟨RX4, "seek", "(LAlbumHours$Rules;)V"⟩
abbrev cX4_reachOn : ByteArray := prog_6_method_3_code
def yX4_reachOn : MethodName := ⟨RX4, "reachOn", "(LAlbumHours$Rules;II)V"⟩
abbrev cX4_freeThen : ByteArray := prog_6_method_4_code
def yX4_freeThen : MethodName := ⟨RX4, "freeThen", "(LAlbumHours$Rules;IJ)J"⟩
abbrev cX4_countOn : ByteArray := prog_6_method_5_code
def yX4_countOn : MethodName := ⟨RX4, "countOn", "(LAlbumHours$Rules;II)V"⟩
abbrev cX4_waysBy : ByteArray := prog_6_method_6_code
def yX4_waysBy : MethodName := ⟨RX4, "waysBy", "(LAlbumHours$Rules;III)I"⟩
abbrev cX4_waysFrom : ByteArray := prog_6_method_7_code
def yX4_waysFrom : MethodName := ⟨RX4, "waysFrom", "(II)I"⟩
abbrev cX4_pictureAt : ByteArray := prog_6_method_8_code
def yX4_pictureAt : MethodName := ⟨RX4, "pictureAt", "(II)I"⟩
def RX5 : String := "AlbumHours$Pieces"
def TX5 : u_T := fun k => match k with
  | 0 => ("AlbumHours$Pieces", "many", "I", false)
  | 1 => ("AlbumHours$Pieces", "keys", "[I", true)
  | 2 => ("AlbumHours$Pieces", "numbers", "[I", true)
  | 3 => ("AlbumHours$Pieces", "values", "[I", true)
  | _ => ("AlbumHours$Pieces", "slacks", "[I", true)
def tyX5 : Nat → FieldType := fun k => match k with
  | 0 => .int
  | 1 => .array .int
  | 2 => .array .int
  | 3 => .array .int
  | _ => .array .int
abbrev wsX50 : List Cond := u_ws RX5 TX5 5
theorem nmX5 : ∀ a, a < 5 → ∀ b, b < 5 → a ≠ b → (TX5 a).2.1 ≠ (TX5 b).2.1 := by decide +kernel
theorem tyX5_ok : ∀ k, k < 5 → parseFieldDescriptor (TX5 k).2.2.1 = some (tyX5 k) := by decide +kernel
abbrev cX5_init : ByteArray := prog_7_method_1_code
def yX5_init : MethodName := ⟨RX5, "<init>", "()V"⟩
abbrev cX5_clear : ByteArray := prog_7_method_2_code
def yX5_clear : MethodName := ⟨RX5, "clear", "()V"⟩
abbrev cX5_copyFrom : ByteArray := prog_7_method_3_code
def yX5_copyFrom : MethodName := ⟨RX5, "copyFrom", "(LAlbumHours$Pieces;)V"⟩
abbrev cX5_isKey : ByteArray := prog_7_method_4_code
def yX5_isKey : MethodName := ⟨RX5, "isKey", "(II)Z"⟩
abbrev cX5_numberOf : ByteArray := prog_7_method_5_code
def yX5_numberOf : MethodName := ⟨RX5, "numberOf", "(II)I"⟩
abbrev cX5_valueOf : ByteArray := prog_7_method_6_code
def yX5_valueOf : MethodName := ⟨RX5, "valueOf", "(II)I"⟩
abbrev cX5_slackOf : ByteArray := prog_7_method_7_code
def yX5_slackOf : MethodName := ⟨RX5, "slackOf", "(II)I"⟩
abbrev cX5_keyOf : ByteArray := prog_7_method_8_code
def yX5_keyOf : MethodName := ⟨RX5, "keyOf", "(I)I"⟩
abbrev cX5_pictureOf : ByteArray := prog_7_method_9_code
def yX5_pictureOf : MethodName := ⟨RX5, "pictureOf", "(I)I"⟩
abbrev cX5_matterOf : ByteArray := prog_7_method_10_code
def yX5_matterOf : MethodName := ⟨RX5, "matterOf", "(I)I"⟩
abbrev cX5_manyOf : ByteArray := prog_7_method_11_code
def yX5_manyOf : MethodName := ⟨RX5, "manyOf", "(I)I"⟩
abbrev cX5_put : ByteArray := prog_7_method_12_code
def yX5_put : MethodName := ⟨RX5, "put", "(IIII)V"⟩
abbrev cX5_remove : ByteArray := prog_7_method_13_code
def yX5_remove : MethodName := ⟨RX5, "remove", "(II)V"⟩
def RX6 : String := "AlbumHours$Reader"
def TX6 : u_T := fun k => match k with
  | 0 => ("AlbumHours$Reader", "draft", "LAlbumHours$Album;", true)
  | 1 => ("AlbumHours$Reader", "clauses", "I", false)
  | 2 => ("AlbumHours$Reader", "text", "LAlbumHours$Text;", true)
  | 3 => ("AlbumHours$Reader", "kind", "I", false)
  | 4 => ("AlbumHours$Reader", "start", "I", false)
  | 5 => ("AlbumHours$Reader", "end", "I", false)
  | _ => ("AlbumHours$Reader", "number", "I", false)
def tyX6 : Nat → FieldType := fun k => match k with
  | 0 => .object "AlbumHours$Album"
  | 1 => .int
  | 2 => .object "AlbumHours$Text"
  | 3 => .int
  | 4 => .int
  | 5 => .int
  | _ => .int
abbrev wsX60 : List Cond := u_ws RX6 TX6 7
theorem nmX6 : ∀ a, a < 7 → ∀ b, b < 7 → a ≠ b → (TX6 a).2.1 ≠ (TX6 b).2.1 := by decide +kernel
theorem tyX6_ok : ∀ k, k < 7 → parseFieldDescriptor (TX6 k).2.2.1 = some (tyX6 k) := by decide +kernel
abbrev cX6_init : ByteArray := prog_8_method_1_code
def yX6_init : MethodName := ⟨RX6, "<init>", "(LAlbumHours$Text;)V"⟩
abbrev cX6_read : ByteArray := prog_8_method_2_code
def yX6_read : MethodName := ⟨RX6, "read", "(LAlbumHours$Album;)I"⟩
abbrev cX6_step : ByteArray := prog_8_method_3_code
def yX6_step : MethodName := ⟨RX6, "step", "()V"⟩
abbrev cX6_readClause : ByteArray := prog_8_method_4_code
def yX6_readClause : MethodName := ⟨RX6, "readClause", "()Z"⟩
abbrev cX6_is : ByteArray := prog_8_method_5_code
def yX6_is : MethodName := ⟨RX6, "is", "(Ljava/lang/String;)Z"⟩
abbrev cX6_readAlbum : ByteArray := prog_8_method_6_code
def yX6_readAlbum : MethodName := ⟨RX6, "readAlbum", "()Z"⟩
abbrev cX6_readSun : ByteArray := prog_8_method_7_code
def yX6_readSun : MethodName := ⟨RX6, "readSun", "()Z"⟩
abbrev cX6_readPicture : ByteArray := prog_8_method_8_code
def yX6_readPicture : MethodName := ⟨RX6, "readPicture", "()Z"⟩
abbrev cX6_readThing : ByteArray := prog_8_method_9_code
def yX6_readThing : MethodName := ⟨RX6, "readThing", "()Z"⟩
abbrev cX6_thingKindNamed : ByteArray := prog_8_method_10_code
def yX6_thingKindNamed : MethodName := ⟨RX6, "thingKindNamed", "()I"⟩
abbrev cX6_readShadow : ByteArray := prog_8_method_11_code
def yX6_readShadow : MethodName := ⟨RX6, "readShadow", "(I)Z"⟩
abbrev cX6_readSight : ByteArray := prog_8_method_12_code
def yX6_readSight : MethodName := ⟨RX6, "readSight", "()Z"⟩
abbrev cX6_readNumber : ByteArray := prog_8_method_13_code
def yX6_readNumber : MethodName := ⟨RX6, "readNumber", "(II)Z"⟩
def RX7 : String := "AlbumHours$Rules"
def TX7 : u_T := fun k => match k with
  | 0 => ("AlbumHours$Rules", "known", "Z", false)
  | 1 => ("AlbumHours$Rules", "pictures", "I", false)
  | 2 => ("AlbumHours$Rules", "windows", "[J", true)
  | 3 => ("AlbumHours$Rules", "ahead", "[I", true)
  | 4 => ("AlbumHours$Rules", "earlier", "[I", true)
  | 5 => ("AlbumHours$Rules", "there", "[I", true)
  | 6 => ("AlbumHours$Rules", "away", "[I", true)
  | _ => ("AlbumHours$Rules", "seen", "[I", true)
def tyX7 : Nat → FieldType := fun k => match k with
  | 0 => .boolean
  | 1 => .int
  | 2 => .array .long
  | 3 => .array .int
  | 4 => .array .int
  | 5 => .array .int
  | 6 => .array .int
  | _ => .array .int
abbrev wsX70 : List Cond := u_ws RX7 TX7 8
theorem nmX7 : ∀ a, a < 8 → ∀ b, b < 8 → a ≠ b → (TX7 a).2.1 ≠ (TX7 b).2.1 := by decide +kernel
theorem tyX7_ok : ∀ k, k < 8 → parseFieldDescriptor (TX7 k).2.2.1 = some (tyX7 k) := by decide +kernel
abbrev cX7_init : ByteArray := prog_9_method_1_code
def yX7_init : MethodName := ⟨RX7, "<init>", "()V"⟩
abbrev cX7_read : ByteArray := prog_9_method_2_code
def yX7_read : MethodName := ⟨RX7, "read", "(LAlbumHours$Album;)V"⟩
abbrev cX7_copyFrom : ByteArray := prog_9_method_3_code
def yX7_copyFrom : MethodName := ⟨RX7, "copyFrom", "(LAlbumHours$Rules;)V"⟩
abbrev cX7_readAgain : ByteArray := prog_9_method_4_code
def yX7_readAgain : MethodName := ⟨RX7, "readAgain", "(LAlbumHours$Album;LAlbumHours$Pieces;II)V"⟩
abbrev cX7_readWindow : ByteArray := prog_9_method_5_code
def yX7_readWindow : MethodName := ⟨RX7, "readWindow", "(LAlbumHours$Album;LAlbumHours$Pieces;I)V"⟩
abbrev cX7_isNear : ByteArray := prog_9_method_6_code
def yX7_isNear : MethodName := ⟨RX7, "isNear", "(III)Z"⟩
abbrev cX7_readThings : ByteArray := prog_9_method_7_code
def yX7_readThings : MethodName := ⟨RX7, "readThings", "(LAlbumHours$Album;LAlbumHours$Pieces;)V"⟩
abbrev cX7_readThing : ByteArray := prog_9_method_8_code
def yX7_readThing : MethodName := ⟨RX7, "readThing", "(II)V"⟩
abbrev cX7_readWear : ByteArray := prog_9_method_9_code
def yX7_readWear : MethodName := ⟨RX7, "readWear", "()V"⟩
abbrev cX7_putAhead : ByteArray := prog_9_method_10_code
def yX7_putAhead : MethodName := ⟨RX7, "putAhead", "(II)V"⟩
abbrev cX7_chainAhead : ByteArray := prog_9_method_11_code
def yX7_chainAhead : MethodName := ⟨RX7, "chainAhead", "()V"⟩
abbrev cX7_everyone : ByteArray := prog_9_method_12_code
def yX7_everyone : MethodName := ⟨RX7, "everyone", "()I"⟩
abbrev cX7_windowOf : ByteArray := prog_9_method_13_code
def yX7_windowOf : MethodName := ⟨RX7, "windowOf", "(I)J"⟩
abbrev cX7_earlierThan : ByteArray := prog_9_method_14_code
def yX7_earlierThan : MethodName := ⟨RX7, "earlierThan", "(I)I"⟩
abbrev cX7_pairsBefore : ByteArray := prog_9_method_15_code
def yX7_pairsBefore : MethodName := ⟨RX7, "pairsBefore", "()I"⟩
abbrev cX7_nextOnes : ByteArray := prog_9_method_16_code
def yX7_nextOnes : MethodName := ⟨RX7, "nextOnes", "(II)I"⟩
abbrev cX7_freeBehind : ByteArray := prog_9_method_17_code
def yX7_freeBehind : MethodName := ⟨RX7, "freeBehind", "(II)I"⟩
def RX8 : String := "AlbumHours$Strips"
def TX8 : u_T := fun k => match k with
  | 0 => ("AlbumHours$Strips", "latest", "J", false)
  | 1 => ("AlbumHours$Strips", "sizes", "[I", true)
  | _ => ("AlbumHours$Strips", "places", "[J", true)
def tyX8 : Nat → FieldType := fun k => match k with
  | 0 => .long
  | 1 => .array .int
  | _ => .array .long
abbrev wsX80 : List Cond := u_ws RX8 TX8 3
theorem nmX8 : ∀ a, a < 3 → ∀ b, b < 3 → a ≠ b → (TX8 a).2.1 ≠ (TX8 b).2.1 := by decide +kernel
theorem tyX8_ok : ∀ k, k < 3 → parseFieldDescriptor (TX8 k).2.2.1 = some (tyX8 k) := by decide +kernel
abbrev cX8_init : ByteArray := prog_10_method_1_code
def yX8_init : MethodName := ⟨RX8, "<init>", "()V"⟩
abbrev cX8_clear : ByteArray := prog_10_method_2_code
def yX8_clear : MethodName := ⟨RX8, "clear", "()V"⟩
abbrev cX8_has : ByteArray := prog_10_method_3_code
def yX8_has : MethodName := ⟨RX8, "has", "(I)Z"⟩
abbrev cX8_sizeOf : ByteArray := prog_10_method_4_code
def yX8_sizeOf : MethodName := ⟨RX8, "sizeOf", "(I)I"⟩
abbrev cX8_isMissing : ByteArray := prog_10_method_5_code
def yX8_isMissing : MethodName := ⟨RX8, "isMissing", "(I)Z"⟩
abbrev cX8_hasPlace : ByteArray := prog_10_method_6_code
def yX8_hasPlace : MethodName := ⟨RX8, "hasPlace", "(II)Z"⟩
abbrev cX8_renew : ByteArray := prog_10_method_7_code
def yX8_renew : MethodName := ⟨RX8, "renew", "(II)V"⟩
abbrev cX8_put : ByteArray := prog_10_method_8_code
def yX8_put : MethodName := ⟨RX8, "put", "(IIJ)V"⟩
abbrev cX8_at : ByteArray := prog_10_method_9_code
def yX8_at : MethodName := ⟨RX8, "at", "(II)J"⟩
abbrev cX8_change : ByteArray := prog_10_method_10_code
def yX8_change : MethodName := ⟨RX8, "change", "(IIII)V"⟩
abbrev cX8_addUp : ByteArray := prog_10_method_11_code
def yX8_addUp : MethodName := ⟨RX8, "addUp", "(I)I"⟩
abbrev cX8_remove : ByteArray := prog_10_method_12_code
def yX8_remove : MethodName := ⟨RX8, "remove", "(I)I"⟩
abbrev cX8_allPlaces : ByteArray := prog_10_method_13_code
def yX8_allPlaces : MethodName := ⟨RX8, "allPlaces", "()I"⟩
def RX9 : String := "AlbumHours$Sun"
def TX9 : u_T := fun k => match k with
  | 0 => ("AlbumHours$Sun", "noon", "I", false)
  | 1 => ("AlbumHours$Sun", "grows", "I", false)
  | _ => ("AlbumHours$Sun", "low", "I", false)
def tyX9 : Nat → FieldType := fun k => match k with
  | 0 => .int
  | 1 => .int
  | _ => .int
abbrev wsX90 : List Cond := u_ws RX9 TX9 3
theorem nmX9 : ∀ a, a < 3 → ∀ b, b < 3 → a ≠ b → (TX9 a).2.1 ≠ (TX9 b).2.1 := by decide +kernel
theorem tyX9_ok : ∀ k, k < 3 → parseFieldDescriptor (TX9 k).2.2.1 = some (tyX9 k) := by decide +kernel
abbrev cX9_init : ByteArray := prog_11_method_1_code
def yX9_init : MethodName := ⟨RX9, "<init>", "()V"⟩
abbrev cX9_clear : ByteArray := prog_11_method_2_code
def yX9_clear : MethodName := ⟨RX9, "clear", "()V"⟩
abbrev cX9_become : ByteArray := prog_11_method_3_code
def yX9_become : MethodName := ⟨RX9, "become", "(III)V"⟩
abbrev cX9_isUp : ByteArray := prog_11_method_4_code
def yX9_isUp : MethodName := ⟨RX9, "isUp", "(I)Z"⟩
abbrev cX9_pointAt : ByteArray := prog_11_method_5_code
def yX9_pointAt : MethodName := ⟨RX9, "pointAt", "(I)I"⟩
abbrev cX9_lengthAt : ByteArray := prog_11_method_6_code
def yX9_lengthAt : MethodName := ⟨RX9, "lengthAt", "(I)I"⟩
def RX10 : String := "AlbumHours$Text"
def TX10 : u_T := fun k => match k with
  | 0 => ("AlbumHours$Text", "many", "I", false)
  | _ => ("AlbumHours$Text", "letters", "[I", true)
def tyX10 : Nat → FieldType := fun k => match k with
  | 0 => .int
  | _ => .array .int
abbrev wsX100 : List Cond := u_ws RX10 TX10 2
theorem nmX10 : ∀ a, a < 2 → ∀ b, b < 2 → a ≠ b → (TX10 a).2.1 ≠ (TX10 b).2.1 := by decide +kernel
theorem tyX10_ok : ∀ k, k < 2 → parseFieldDescriptor (TX10 k).2.2.1 = some (tyX10 k) := by decide +kernel
abbrev cX10_init : ByteArray := prog_12_method_1_code
def yX10_init : MethodName := ⟨RX10, "<init>", "()V"⟩
abbrev cX10_add : ByteArray := prog_12_method_2_code
def yX10_add : MethodName := ⟨RX10, "add", "(I)Z"⟩
abbrev cX10_clear : ByteArray := prog_12_method_3_code
def yX10_clear : MethodName := ⟨RX10, "clear", "()I"⟩
abbrev cX10_letterAt : ByteArray := prog_12_method_4_code
def yX10_letterAt : MethodName := ⟨RX10, "letterAt", "(I)I"⟩
abbrev cX10_kindOf : ByteArray := prog_12_method_5_code
def yX10_kindOf : MethodName := ⟨RX10, "kindOf", "(I)I"⟩
abbrev cX10_wholeWord : ByteArray := prog_12_method_6_code
def yX10_wholeWord : MethodName := ⟨RX10, "wholeWord", "()I"⟩
def RX11 : String := "AlbumHours"
def TX11 : u_T := fun k => match k with
  | 0 => ("AlbumHours", "text", "LAlbumHours$Text;", true)
  | 1 => ("AlbumHours", "now", "LAlbumHours$Album;", true)
  | 2 => ("AlbumHours", "reader", "LAlbumHours$Reader;", true)
  | 3 => ("AlbumHours", "history", "LAlbumHours$History;", true)
  | 4 => ("AlbumHours", "rules", "LAlbumHours$Rules;", true)
  | 5 => ("AlbumHours", "orders", "LAlbumHours$Orders;", true)
  | 6 => ("AlbumHours", "hours", "LAlbumHours$Hours;", true)
  | 7 => ("AlbumHours", "doubts", "LAlbumHours$Doubts;", true)
  | _ => ("AlbumHours", "strips", "LAlbumHours$Strips;", true)
def tyX11 : Nat → FieldType := fun k => match k with
  | 0 => .object "AlbumHours$Text"
  | 1 => .object "AlbumHours$Album"
  | 2 => .object "AlbumHours$Reader"
  | 3 => .object "AlbumHours$History"
  | 4 => .object "AlbumHours$Rules"
  | 5 => .object "AlbumHours$Orders"
  | 6 => .object "AlbumHours$Hours"
  | 7 => .object "AlbumHours$Doubts"
  | _ => .object "AlbumHours$Strips"
abbrev wsX110 : List Cond := u_ws RX11 TX11 9
theorem nmX11 : ∀ a, a < 9 → ∀ b, b < 9 → a ≠ b → (TX11 a).2.1 ≠ (TX11 b).2.1 := by decide +kernel
theorem tyX11_ok : ∀ k, k < 9 → parseFieldDescriptor (TX11 k).2.2.1 = some (tyX11 k) := by decide +kernel
abbrev cX11_init : ByteArray := prog_1_method_1_code
def yX11_init : MethodName := ⟨RX11, "<init>", "()V"⟩
abbrev cX11_write : ByteArray := prog_1_method_2_code
def yX11_write : MethodName := ⟨RX11, "write", "(I)I"⟩
abbrev cX11_erase : ByteArray := prog_1_method_3_code
def yX11_erase : MethodName := ⟨RX11, "erase", "()I"⟩
abbrev cX11_fault : ByteArray := prog_1_method_4_code
def yX11_fault : MethodName := ⟨RX11, "fault", "()I"⟩
abbrev cX11_album : ByteArray := prog_1_method_5_code
def yX11_album : MethodName := ⟨RX11, "album", "()I"⟩
abbrev cX11_find : ByteArray := prog_1_method_6_code
def yX11_find : MethodName := ⟨RX11, "find", "()I"⟩
abbrev cX11_picture : ByteArray := prog_1_method_7_code
def yX11_picture : MethodName := ⟨RX11, "picture", "(II)I"⟩
abbrev cX11_thing : ByteArray := prog_1_method_8_code
def yX11_thing : MethodName := ⟨RX11, "thing", "(II)I"⟩
abbrev cX11_piece : ByteArray := prog_1_method_9_code
def yX11_piece : MethodName := ⟨RX11, "piece", "(III)I"⟩
abbrev cX11_told : ByteArray := prog_1_method_10_code
def yX11_told : MethodName := ⟨RX11, "told", "(II)I"⟩
abbrev cX11_sun : ByteArray := prog_1_method_11_code
def yX11_sun : MethodName := ⟨RX11, "sun", "(II)I"⟩
abbrev cX11_point : ByteArray := prog_1_method_12_code
def yX11_point : MethodName := ⟨RX11, "point", "(III)I"⟩
abbrev cX11_length : ByteArray := prog_1_method_13_code
def yX11_length : MethodName := ⟨RX11, "length", "(III)I"⟩
abbrev cX11_see : ByteArray := prog_1_method_14_code
def yX11_see : MethodName := ⟨RX11, "see", "(III)I"⟩
abbrev cX11_tell : ByteArray := prog_1_method_15_code
def yX11_tell : MethodName := ⟨RX11, "tell", "(IIII)I"⟩
abbrev cX11_strike : ByteArray := prog_1_method_16_code
def yX11_strike : MethodName := ⟨RX11, "strike", "(II)I"⟩
abbrev cX11_undo : ByteArray := prog_1_method_17_code
def yX11_undo : MethodName := ⟨RX11, "undo", "()I"⟩
abbrev cX11_keep : ByteArray := prog_1_method_18_code
def yX11_keep : MethodName := ⟨RX11, "keep", "(I)I"⟩
abbrev cX11_back : ByteArray := prog_1_method_19_code
def yX11_back : MethodName := ⟨RX11, "back", "(I)I"⟩
abbrev cX11_before : ByteArray := prog_1_method_20_code
def yX11_before : MethodName := ⟨RX11, "before", "(II)I"⟩
abbrev cX11_orders : ByteArray := prog_1_method_21_code
def yX11_orders : MethodName := ⟨RX11, "orders", "()I"⟩
abbrev cX11_order : ByteArray := prog_1_method_22_code
def yX11_order : MethodName := ⟨RX11, "order", "(II)I"⟩
abbrev cX11_place : ByteArray := prog_1_method_23_code
def yX11_place : MethodName := ⟨RX11, "place", "(II)I"⟩
abbrev cX11_often : ByteArray := prog_1_method_24_code
def yX11_often : MethodName := ⟨RX11, "often", "(II)I"⟩
abbrev cX11_left : ByteArray := prog_1_method_25_code
def yX11_left : MethodName := ⟨RX11, "left", "(II)I"⟩
abbrev cX11_knot : ByteArray := prog_1_method_26_code
def yX11_knot : MethodName := ⟨RX11, "knot", "(I)I"⟩
abbrev cX11_loose : ByteArray := prog_1_method_27_code
def yX11_loose : MethodName := ⟨RX11, "loose", "(I)I"⟩
abbrev cX11_would : ByteArray := prog_1_method_28_code
def yX11_would : MethodName := ⟨RX11, "would", "(III)I"⟩
abbrev cX11_ask : ByteArray := prog_1_method_29_code
def yX11_ask : MethodName := ⟨RX11, "ask", "(I)I"⟩
abbrev cX11_strip : ByteArray := prog_1_method_30_code
def yX11_strip : MethodName := ⟨RX11, "strip", "(II)I"⟩
abbrev cX11_set : ByteArray := prog_1_method_31_code
def yX11_set : MethodName := ⟨RX11, "set", "(III)I"⟩
abbrev cX11_load : ByteArray := prog_1_method_32_code
def yX11_load : MethodName := ⟨RX11, "load", "(IIII)I"⟩
abbrev cX11_work : ByteArray := prog_1_method_33_code
def yX11_work : MethodName := ⟨RX11, "work", "(IIII)I"⟩
abbrev cX11_bits : ByteArray := prog_1_method_34_code
def yX11_bits : MethodName := ⟨RX11, "bits", "(II)I"⟩
abbrev cX11_sum : ByteArray := prog_1_method_35_code
def yX11_sum : MethodName := ⟨RX11, "sum", "(I)I"⟩
abbrev cX11_drop : ByteArray := prog_1_method_36_code
def yX11_drop : MethodName := ⟨RX11, "drop", "(I)I"⟩
abbrev cX11_latest : ByteArray := prog_1_method_37_code
def yX11_latest : MethodName := ⟨RX11, "latest", "()J"⟩
abbrev cX11_count : ByteArray := prog_1_method_38_code
def yX11_count : MethodName := ⟨RX11, "count", "(I)I"⟩
abbrev cX11_forgetFindings : ByteArray := prog_1_method_39_code
def yX11_forgetFindings : MethodName := ⟨RX11, "forgetFindings", "()V"⟩
abbrev cX11_rulesNow : ByteArray := prog_1_method_40_code
def yX11_rulesNow : MethodName := ⟨RX11, "rulesNow", "()LAlbumHours$Rules;"⟩
abbrev cX11_ordersNow : ByteArray := prog_1_method_41_code
def yX11_ordersNow : MethodName := ⟨RX11, "ordersNow", "()LAlbumHours$Orders;"⟩
abbrev cX11_hoursNow : ByteArray := prog_1_method_42_code
def yX11_hoursNow : MethodName := ⟨RX11, "hoursNow", "()LAlbumHours$Hours;"⟩
abbrev cX11_areTwoPictures : ByteArray := prog_1_method_43_code
def yX11_areTwoPictures : MethodName := ⟨RX11, "areTwoPictures", "(II)Z"⟩
abbrev cX11_mostSlack : ByteArray := prog_1_method_44_code
def yX11_mostSlack : MethodName := ⟨RX11, "mostSlack", "(I)I"⟩
abbrev cX11_hasBit : ByteArray := prog_1_method_45_code
def yX11_hasBit : MethodName := ⟨RX11, "hasBit", "(II)Z"⟩
abbrev cX11_firstSlot : ByteArray := prog_1_method_46_code
def yX11_firstSlot : MethodName := ⟨RX11, "firstSlot", "(J)I"⟩
abbrev cX11_lastSlot : ByteArray := prog_1_method_47_code
def yX11_lastSlot : MethodName := ⟨RX11, "lastSlot", "(J)I"⟩
abbrev cX11_lengthened : ByteArray := prog_1_method_48_code
def yX11_lengthened : MethodName := ⟨RX11, "lengthened", "(II)I"⟩
def RX12 : String := "AlbumHoursModel"
def TX12 : u_T := fun k => match k with
  | 0 => ("AlbumHoursModel", "text", "[I", true)
  | 1 => ("AlbumHoursModel", "letters", "I", false)
  | 2 => ("AlbumHoursModel", "here", "I", false)
  | 3 => ("AlbumHoursModel", "first", "I", false)
  | 4 => ("AlbumHoursModel", "size", "I", false)
  | 5 => ("AlbumHoursModel", "kind", "I", false)
  | 6 => ("AlbumHoursModel", "isBad", "I", false)
  | 7 => ("AlbumHoursModel", "done", "I", false)
  | 8 => ("AlbumHoursModel", "clause", "[I", true)
  | 9 => ("AlbumHoursModel", "newPictures", "I", false)
  | 10 => ("AlbumHoursModel", "newThings", "I", false)
  | 11 => ("AlbumHoursModel", "newWord", "[I", true)
  | 12 => ("AlbumHoursModel", "newKind", "[I", true)
  | 13 => ("AlbumHoursModel", "noon", "I", false)
  | 14 => ("AlbumHoursModel", "grows", "I", false)
  | 15 => ("AlbumHoursModel", "low", "I", false)
  | 16 => ("AlbumHoursModel", "pictures", "I", false)
  | 17 => ("AlbumHoursModel", "word", "[I", true)
  | 18 => ("AlbumHoursModel", "things", "I", false)
  | 19 => ("AlbumHoursModel", "thing", "[I", true)
  | 20 => ("AlbumHoursModel", "now", "[I", true)
  | 21 => ("AlbumHoursModel", "was", "[I", true)
  | 22 => ("AlbumHoursModel", "backs", "I", false)
  | 23 => ("AlbumHoursModel", "back", "[I", true)
  | 24 => ("AlbumHoursModel", "image", "[I", true)
  | 25 => ("AlbumHoursModel", "isKept", "[Z", true)
  | 26 => ("AlbumHoursModel", "window", "[J", true)
  | 27 => ("AlbumHoursModel", "ahead", "[Z", true)
  | 28 => ("AlbumHoursModel", "row", "[I", true)
  | 29 => ("AlbumHoursModel", "early", "[I", true)
  | 30 => ("AlbumHoursModel", "late", "[I", true)
  | 31 => ("AlbumHoursModel", "left", "[J", true)
  | 32 => ("AlbumHoursModel", "least", "[I", true)
  | 33 => ("AlbumHoursModel", "most", "[I", true)
  | 34 => ("AlbumHoursModel", "found", "I", false)
  | 35 => ("AlbumHoursModel", "wanted", "[I", true)
  | 36 => ("AlbumHoursModel", "places", "[I", true)
  | 37 => ("AlbumHoursModel", "strip", "[J", true)
  | 38 => ("AlbumHoursModel", "latest", "J", false)
  | _ => ("AlbumHoursModel", "times", "I", false)
def tyX12 : Nat → FieldType := fun k => match k with
  | 0 => .array .int
  | 1 => .int
  | 2 => .int
  | 3 => .int
  | 4 => .int
  | 5 => .int
  | 6 => .int
  | 7 => .int
  | 8 => .array .int
  | 9 => .int
  | 10 => .int
  | 11 => .array .int
  | 12 => .array .int
  | 13 => .int
  | 14 => .int
  | 15 => .int
  | 16 => .int
  | 17 => .array .int
  | 18 => .int
  | 19 => .array .int
  | 20 => .array .int
  | 21 => .array .int
  | 22 => .int
  | 23 => .array .int
  | 24 => .array .int
  | 25 => .array .boolean
  | 26 => .array .long
  | 27 => .array .boolean
  | 28 => .array .int
  | 29 => .array .int
  | 30 => .array .int
  | 31 => .array .long
  | 32 => .array .int
  | 33 => .array .int
  | 34 => .int
  | 35 => .array .int
  | 36 => .array .int
  | 37 => .array .long
  | 38 => .long
  | _ => .int
abbrev wsX120 : List Cond := u_ws RX12 TX12 40
theorem nmX12 : ∀ a, a < 40 → ∀ b, b < 40 → a ≠ b → (TX12 a).2.1 ≠ (TX12 b).2.1 := by decide +kernel
theorem tyX12_ok : ∀ k, k < 40 → parseFieldDescriptor (TX12 k).2.2.1 = some (tyX12 k) := by decide +kernel
abbrev cX12_init : ByteArray := prog_14_method_1_code
def yX12_init : MethodName := ⟨RX12, "<init>", "()V"⟩
abbrev cX12_within : ByteArray := prog_14_method_2_code
def yX12_within : MethodName := ⟨RX12, "within", "(III)Z"⟩
abbrev cX12_bring : ByteArray := prog_14_method_3_code
def yX12_bring : MethodName := ⟨RX12, "bring", "([II[III)V"⟩
abbrev cX12_write : ByteArray := prog_14_method_4_code
def yX12_write : MethodName := ⟨RX12, "write", "(I)I"⟩
abbrev cX12_erase : ByteArray := prog_14_method_5_code
def yX12_erase : MethodName := ⟨RX12, "erase", "()I"⟩
abbrev cX12_kindOf : ByteArray := prog_14_method_6_code
def yX12_kindOf : MethodName := ⟨RX12, "kindOf", "(I)I"⟩
abbrev cX12_take : ByteArray := prog_14_method_7_code
def yX12_take : MethodName := ⟨RX12, "take", "()V"⟩
abbrev cX12_want : ByteArray := prog_14_method_8_code
def yX12_want : MethodName := ⟨RX12, "want", "(Z)Z"⟩
abbrev cX12_wordOf : ByteArray := prog_14_method_9_code
def yX12_wordOf : MethodName := ⟨RX12, "wordOf", "()I"⟩
abbrev cX12_isWord : ByteArray := prog_14_method_10_code
def yX12_isWord : MethodName := ⟨RX12, "isWord", "(IIIIIII)Z"⟩
abbrev cX12_at : ByteArray := prog_14_method_11_code
def yX12_at : MethodName := ⟨RX12, "at", "(II)Z"⟩
abbrev cX12_number : ByteArray := prog_14_method_12_code
def yX12_number : MethodName := ⟨RX12, "number", "(II)I"⟩
abbrev cX12_lay : ByteArray := prog_14_method_13_code
def yX12_lay : MethodName := ⟨RX12, "lay", "(IIIII)V"⟩
abbrev cX12_readSun : ByteArray := prog_14_method_14_code
def yX12_readSun : MethodName := ⟨RX12, "readSun", "()V"⟩
abbrev cX12_readPicture : ByteArray := prog_14_method_15_code
def yX12_readPicture : MethodName := ⟨RX12, "readPicture", "()V"⟩
abbrev cX12_readThing : ByteArray := prog_14_method_16_code
def yX12_readThing : MethodName := ⟨RX12, "readThing", "()V"⟩
abbrev cX12_readPiece : ByteArray := prog_14_method_17_code
def yX12_readPiece : MethodName := ⟨RX12, "readPiece", "(I)V"⟩
abbrev cX12_readSee : ByteArray := prog_14_method_18_code
def yX12_readSee : MethodName := ⟨RX12, "readSee", "()V"⟩
abbrev cX12_readClause : ByteArray := prog_14_method_19_code
def yX12_readClause : MethodName := ⟨RX12, "readClause", "()V"⟩
abbrev cX12_read : ByteArray := prog_14_method_20_code
def yX12_read : MethodName := ⟨RX12, "read", "()V"⟩
abbrev cX12_fault : ByteArray := prog_14_method_21_code
def yX12_fault : MethodName := ⟨RX12, "fault", "()I"⟩
abbrev cX12_tell : ByteArray := prog_14_method_22_code
def yX12_tell : MethodName := ⟨RX12, "tell", "(I)V"⟩
abbrev cX12_album : ByteArray := prog_14_method_23_code
def yX12_album : MethodName := ⟨RX12, "album", "()I"⟩
abbrev cX12_find : ByteArray := prog_14_method_24_code
def yX12_find : MethodName := ⟨RX12, "find", "()I"⟩
abbrev cX12_isPicture : ByteArray := prog_14_method_25_code
def yX12_isPicture : MethodName := ⟨RX12, "isPicture", "(I)Z"⟩
abbrev cX12_isMatter : ByteArray := prog_14_method_26_code
def yX12_isMatter : MethodName := ⟨RX12, "isMatter", "(I)Z"⟩
abbrev cX12_pieceAt : ByteArray := prog_14_method_27_code
def yX12_pieceAt : MethodName := ⟨RX12, "pieceAt", "(II)I"⟩
abbrev cX12_value : ByteArray := prog_14_method_28_code
def yX12_value : MethodName := ⟨RX12, "value", "(II)I"⟩
abbrev cX12_become : ByteArray := prog_14_method_29_code
def yX12_become : MethodName := ⟨RX12, "become", "(IIII)V"⟩
abbrev cX12_remove : ByteArray := prog_14_method_30_code
def yX12_remove : MethodName := ⟨RX12, "remove", "(I)V"⟩
abbrev cX12_mostOf : ByteArray := prog_14_method_31_code
def yX12_mostOf : MethodName := ⟨RX12, "mostOf", "(I)I"⟩
abbrev cX12_pointAt : ByteArray := prog_14_method_32_code
def yX12_pointAt : MethodName := ⟨RX12, "pointAt", "(I)I"⟩
abbrev cX12_lengthAt : ByteArray := prog_14_method_33_code
def yX12_lengthAt : MethodName := ⟨RX12, "lengthAt", "(I)I"⟩
abbrev cX12_isUp : ByteArray := prog_14_method_34_code
def yX12_isUp : MethodName := ⟨RX12, "isUp", "(I)Z"⟩
abbrev cX12_off : ByteArray := prog_14_method_35_code
def yX12_off : MethodName := ⟨RX12, "off", "(II)I"⟩
abbrev cX12_isIn : ByteArray := prog_14_method_36_code
def yX12_isIn : MethodName := ⟨RX12, "isIn", "(II)Z"⟩
abbrev cX12_has : ByteArray := prog_14_method_37_code
def yX12_has : MethodName := ⟨RX12, "has", "(JI)Z"⟩
abbrev cX12_layWindow : ByteArray := prog_14_method_38_code
def yX12_layWindow : MethodName := ⟨RX12, "layWindow", "(I)V"⟩
abbrev cX12_isAhead : ByteArray := prog_14_method_39_code
def yX12_isAhead : MethodName := ⟨RX12, "isAhead", "(II)Z"⟩
abbrev cX12_layAll : ByteArray := prog_14_method_40_code
def yX12_layAll : MethodName := ⟨RX12, "layAll", "()V"⟩
abbrev cX12_isLast : ByteArray := prog_14_method_41_code
def yX12_isLast : MethodName := ⟨RX12, "isLast", "(I)Z"⟩
abbrev cX12_isWhole : ByteArray := prog_14_method_42_code
def yX12_isWhole : MethodName := ⟨RX12, "isWhole", "(II)Z"⟩
abbrev cX12_firstOf : ByteArray := prog_14_method_43_code
def yX12_firstOf : MethodName := ⟨RX12, "firstOf", "(JI)I"⟩
abbrev cX12_lastOf : ByteArray := prog_14_method_44_code
def yX12_lastOf : MethodName := ⟨RX12, "lastOf", "(JI)I"⟩
abbrev cX12_isGiven : ByteArray := prog_14_method_45_code
def yX12_isGiven : MethodName := ⟨RX12, "isGiven", "(I)Z"⟩
abbrev cX12_note : ByteArray := prog_14_method_46_code
def yX12_note : MethodName := ⟨RX12, "note", "(I)V"⟩
abbrev cX12_layOrders : ByteArray := prog_14_method_47_code
def yX12_layOrders : MethodName := ⟨RX12, "layOrders", "(IIIII)I"⟩
abbrev cX12_weigh : ByteArray := prog_14_method_48_code
def yX12_weigh : MethodName := ⟨RX12, "weigh", "(IIII)V"⟩
abbrev cX12_whole : ByteArray := prog_14_method_49_code
def yX12_whole : MethodName := ⟨RX12, "whole", "()I"⟩
abbrev cX12_many : ByteArray := prog_14_method_50_code
def yX12_many : MethodName := ⟨RX12, "many", "()I"⟩
abbrev cX12_isAny : ByteArray := prog_14_method_51_code
def yX12_isAny : MethodName := ⟨RX12, "isAny", "(I)Z"⟩
abbrev cX12_ones : ByteArray := prog_14_method_52_code
def yX12_ones : MethodName := ⟨RX12, "ones", "(J)I"⟩
abbrev cX12_shown : ByteArray := prog_14_method_53_code
def yX12_shown : MethodName := ⟨RX12, "shown", "(JI)I"⟩
abbrev cX12_isBefore : ByteArray := prog_14_method_54_code
def yX12_isBefore : MethodName := ⟨RX12, "isBefore", "(II)Z"⟩
abbrev cX12_lettersOf : ByteArray := prog_14_method_55_code
def yX12_lettersOf : MethodName := ⟨RX12, "lettersOf", "(I)I"⟩
abbrev cX12_countOf : ByteArray := prog_14_method_56_code
def yX12_countOf : MethodName := ⟨RX12, "countOf", "(IZ)I"⟩
abbrev cX12_picture : ByteArray := prog_14_method_57_code
def yX12_picture : MethodName := ⟨RX12, "picture", "(II)I"⟩
abbrev cX12_thing : ByteArray := prog_14_method_58_code
def yX12_thing : MethodName := ⟨RX12, "thing", "(II)I"⟩
abbrev cX12_piece : ByteArray := prog_14_method_59_code
def yX12_piece : MethodName := ⟨RX12, "piece", "(III)I"⟩
abbrev cX12_told : ByteArray := prog_14_method_60_code
def yX12_told : MethodName := ⟨RX12, "told", "(II)I"⟩
abbrev cX12_sun : ByteArray := prog_14_method_61_code
def yX12_sun : MethodName := ⟨RX12, "sun", "(II)I"⟩
abbrev cX12_put : ByteArray := prog_14_method_62_code
def yX12_put : MethodName := ⟨RX12, "put", "()V"⟩
abbrev cX12_newPiece : ByteArray := prog_14_method_63_code
def yX12_newPiece : MethodName := ⟨RX12, "newPiece", "(IIII)I"⟩
abbrev cX12_point : ByteArray := prog_14_method_64_code
def yX12_point : MethodName := ⟨RX12, "point", "(III)I"⟩
abbrev cX12_length : ByteArray := prog_14_method_65_code
def yX12_length : MethodName := ⟨RX12, "length", "(III)I"⟩
abbrev cX12_see : ByteArray := prog_14_method_66_code
def yX12_see : MethodName := ⟨RX12, "see", "(III)I"⟩
abbrev cX12_strike : ByteArray := prog_14_method_67_code
def yX12_strike : MethodName := ⟨RX12, "strike", "(II)I"⟩
abbrev cX12_undo : ByteArray := prog_14_method_68_code
def yX12_undo : MethodName := ⟨RX12, "undo", "()I"⟩
abbrev cX12_keep : ByteArray := prog_14_method_69_code
def yX12_keep : MethodName := ⟨RX12, "keep", "(I)I"⟩
abbrev cX12_back : ByteArray := prog_14_method_70_code
def yX12_back : MethodName := ⟨RX12, "back", "(I)I"⟩
abbrev cX12_areTwo : ByteArray := prog_14_method_71_code
def yX12_areTwo : MethodName := ⟨RX12, "areTwo", "(II)Z"⟩
abbrev cX12_before : ByteArray := prog_14_method_72_code
def yX12_before : MethodName := ⟨RX12, "before", "(II)I"⟩
abbrev cX12_orders : ByteArray := prog_14_method_73_code
def yX12_orders : MethodName := ⟨RX12, "orders", "()I"⟩
abbrev cX12_order : ByteArray := prog_14_method_74_code
def yX12_order : MethodName := ⟨RX12, "order", "(II)I"⟩
abbrev cX12_place : ByteArray := prog_14_method_75_code
def yX12_place : MethodName := ⟨RX12, "place", "(II)I"⟩
abbrev cX12_often : ByteArray := prog_14_method_76_code
def yX12_often : MethodName := ⟨RX12, "often", "(II)I"⟩
abbrev cX12_left : ByteArray := prog_14_method_77_code
def yX12_left : MethodName := ⟨RX12, "left", "(II)I"⟩
abbrev cX12_knotOf : ByteArray := prog_14_method_78_code
def yX12_knotOf : MethodName := ⟨RX12, "knotOf", "()I"⟩
abbrev cX12_knot : ByteArray := prog_14_method_79_code
def yX12_knot : MethodName := ⟨RX12, "knot", "(I)I"⟩
abbrev cX12_loose : ByteArray := prog_14_method_80_code
def yX12_loose : MethodName := ⟨RX12, "loose", "(I)I"⟩
abbrev cX12_wouldBe : ByteArray := prog_14_method_81_code
def yX12_wouldBe : MethodName := ⟨RX12, "wouldBe", "(III)I"⟩
abbrev cX12_would : ByteArray := prog_14_method_82_code
def yX12_would : MethodName := ⟨RX12, "would", "(III)I"⟩
abbrev cX12_ask : ByteArray := prog_14_method_83_code
def yX12_ask : MethodName := ⟨RX12, "ask", "(I)I"⟩
abbrev cX12_isStrip : ByteArray := prog_14_method_84_code
def yX12_isStrip : MethodName := ⟨RX12, "isStrip", "(I)Z"⟩
abbrev cX12_lack : ByteArray := prog_14_method_85_code
def yX12_lack : MethodName := ⟨RX12, "lack", "(II)I"⟩
abbrev cX12_strip : ByteArray := prog_14_method_86_code
def yX12_strip : MethodName := ⟨RX12, "strip", "(II)I"⟩
abbrev cX12_set : ByteArray := prog_14_method_87_code
def yX12_set : MethodName := ⟨RX12, "set", "(III)I"⟩
abbrev cX12_load : ByteArray := prog_14_method_88_code
def yX12_load : MethodName := ⟨RX12, "load", "(IIII)I"⟩
abbrev cX12_work : ByteArray := prog_14_method_89_code
def yX12_work : MethodName := ⟨RX12, "work", "(IIII)I"⟩
abbrev cX12_bits : ByteArray := prog_14_method_90_code
def yX12_bits : MethodName := ⟨RX12, "bits", "(II)I"⟩
abbrev cX12_sum : ByteArray := prog_14_method_91_code
def yX12_sum : MethodName := ⟨RX12, "sum", "(I)I"⟩
abbrev cX12_drop : ByteArray := prog_14_method_92_code
def yX12_drop : MethodName := ⟨RX12, "drop", "(I)I"⟩
abbrev cX12_latest : ByteArray := prog_14_method_93_code
def yX12_latest : MethodName := ⟨RX12, "latest", "()J"⟩
abbrev cX12_pairs : ByteArray := prog_14_method_94_code
def yX12_pairs : MethodName := ⟨RX12, "pairs", "()I"⟩
abbrev cX12_placesOfAll : ByteArray := prog_14_method_95_code
def yX12_placesOfAll : MethodName := ⟨RX12, "placesOfAll", "()I"⟩
abbrev cX12_count : ByteArray := prog_14_method_96_code
def yX12_count : MethodName := ⟨RX12, "count", "(I)I"⟩
def RJx145de : String := "java/io/Serializable"
def TJx145de : u_T := fun k => match k with
  | _ => ("", "", "", false)
def tyJx145de : Nat → FieldType := fun k => match k with
  | _ => .int
theorem nmJx145de : ∀ a, a < 0 → ∀ b, b < 0 → a ≠ b → (TJx145de a).2.1 ≠ (TJx145de b).2.1 := by decide +kernel
def RJx9f9b0 : String := "java/lang/CharSequence"
def TJx9f9b0 : u_T := fun k => match k with
  | _ => ("", "", "", false)
def tyJx9f9b0 : Nat → FieldType := fun k => match k with
  | _ => .int
theorem nmJx9f9b0 : ∀ a, a < 0 → ∀ b, b < 0 → a ≠ b → (TJx9f9b0 a).2.1 ≠ (TJx9f9b0 b).2.1 := by decide +kernel
def RJxb160c : String := "java/lang/Comparable"
def TJxb160c : u_T := fun k => match k with
  | _ => ("", "", "", false)
def tyJxb160c : Nat → FieldType := fun k => match k with
  | _ => .int
theorem nmJxb160c : ∀ a, a < 0 → ∀ b, b < 0 → a ≠ b → (TJxb160c a).2.1 ≠ (TJxb160c b).2.1 := by decide +kernel
def RJ6 : String := "java/lang/Integer"
def TJ6 : u_T := fun k => match k with
  | _ => ("", "", "", false)
def tyJ6 : Nat → FieldType := fun k => match k with
  | _ => .int
abbrev wsJ60 : List Cond := u_ws RJ6 TJ6 0
theorem nmJ6 : ∀ a, a < 0 → ∀ b, b < 0 → a ≠ b → (TJ6 a).2.1 ≠ (TJ6 b).2.1 := by decide +kernel
theorem tyJ6_ok : ∀ k, k < 0 → parseFieldDescriptor (TJ6 k).2.2.1 = some (tyJ6 k) := by decide +kernel
abbrev cJ6_numberOfLeadingZeros_0f7a4 : ByteArray := prog_15_method_47_code
def yJ6_numberOfLeadingZeros_0f7a4 : MethodName := ⟨RJ6, "numberOfLeadingZeros", "(I)I"⟩
abbrev cJ6_numberOfTrailingZeros_0f7a4 : ByteArray := prog_15_method_48_code
def yJ6_numberOfTrailingZeros_0f7a4 : MethodName := ⟨RJ6, "numberOfTrailingZeros", "(I)I"⟩
abbrev cJ6_bitCount_0f7a4 : ByteArray := prog_15_method_49_code
def yJ6_bitCount_0f7a4 : MethodName := ⟨RJ6, "bitCount", "(I)I"⟩
def RJ13 : String := "java/lang/Long"
def TJ13 : u_T := fun k => match k with
  | _ => ("", "", "", false)
def tyJ13 : Nat → FieldType := fun k => match k with
  | _ => .int
abbrev wsJ130 : List Cond := u_ws RJ13 TJ13 0
theorem nmJ13 : ∀ a, a < 0 → ∀ b, b < 0 → a ≠ b → (TJ13 a).2.1 ≠ (TJ13 b).2.1 := by decide +kernel
theorem tyJ13_ok : ∀ k, k < 0 → parseFieldDescriptor (TJ13 k).2.2.1 = some (tyJ13 k) := by decide +kernel
abbrev cJ13_numberOfLeadingZeros_95d88 : ByteArray := prog_16_method_48_code
def yJ13_numberOfLeadingZeros_95d88 : MethodName := ⟨RJ13, "numberOfLeadingZeros", "(J)I"⟩
abbrev cJ13_numberOfTrailingZeros_95d88 : ByteArray := prog_16_method_49_code
def yJ13_numberOfTrailingZeros_95d88 : MethodName := ⟨RJ13, "numberOfTrailingZeros", "(J)I"⟩
abbrev cJ13_bitCount_95d88 : ByteArray := prog_16_method_50_code
def yJ13_bitCount_95d88 : MethodName := ⟨RJ13, "bitCount", "(J)I"⟩
def RJ9 : String := "java/lang/Math"
def TJ9 : u_T := fun k => match k with
  | _ => ("", "", "", false)
def tyJ9 : Nat → FieldType := fun k => match k with
  | _ => .int
abbrev wsJ90 : List Cond := u_ws RJ9 TJ9 0
theorem nmJ9 : ∀ a, a < 0 → ∀ b, b < 0 → a ≠ b → (TJ9 a).2.1 ≠ (TJ9 b).2.1 := by decide +kernel
theorem tyJ9_ok : ∀ k, k < 0 → parseFieldDescriptor (TJ9 k).2.2.1 = some (tyJ9 k) := by decide +kernel
abbrev cJ9_floorMod_7cf53 : ByteArray := prog_17_method_50_code
def yJ9_floorMod_7cf53 : MethodName := ⟨RJ9, "floorMod", "(II)I"⟩
abbrev cJ9_abs_0f7a4 : ByteArray := prog_17_method_59_code
def yJ9_abs_0f7a4 : MethodName := ⟨RJ9, "abs", "(I)I"⟩
abbrev cJ9_max_7cf53 : ByteArray := prog_17_method_65_code
def yJ9_max_7cf53 : MethodName := ⟨RJ9, "max", "(II)I"⟩
abbrev cJ9_min_7cf53 : ByteArray := prog_17_method_69_code
def yJ9_min_7cf53 : MethodName := ⟨RJ9, "min", "(II)I"⟩
def RJxd2413 : String := "java/lang/Number"
def TJxd2413 : u_T := fun k => match k with
  | _ => ("", "", "", false)
def tyJxd2413 : Nat → FieldType := fun k => match k with
  | _ => .int
theorem nmJxd2413 : ∀ a, a < 0 → ∀ b, b < 0 → a ≠ b → (TJxd2413 a).2.1 ≠ (TJxd2413 b).2.1 := by decide +kernel
def RJ0 : String := "java/lang/String"
def TJ0 : u_T := fun k => match k with
  | _ => ("", "", "", false)
def tyJ0 : Nat → FieldType := fun k => match k with
  | _ => .int
abbrev wsJ00 : List Cond := u_ws RJ0 TJ0 0
theorem nmJ0 : ∀ a, a < 0 → ∀ b, b < 0 → a ≠ b → (TJ0 a).2.1 ≠ (TJ0 b).2.1 := by decide +kernel
theorem tyJ0_ok : ∀ k, k < 0 → parseFieldDescriptor (TJ0 k).2.2.1 = some (tyJ0 k) := by decide +kernel
abbrev cJ0_length_8abf5 : ByteArray := prog_19_method_54_code
def yJ0_length_8abf5 : MethodName := ⟨RJ0, "length", "()I"⟩
abbrev cJ0_charAt_5068e : ByteArray := prog_19_method_56_code
def yJ0_charAt_5068e : MethodName := ⟨RJ0, "charAt", "(I)C"⟩
abbrev cJ0_coder_7d493 : ByteArray := prog_19_method_152_code
def yJ0_coder_7d493 : MethodName := ⟨RJ0, "coder", "()B"⟩
abbrev cJ0_isLatin1_aae02 : ByteArray := prog_19_method_154_code
def yJ0_isLatin1_aae02 : MethodName := ⟨RJ0, "isLatin1", "()Z"⟩
abbrev cJ0_checkIndex_df160 : ByteArray := prog_19_method_155_code
def yJ0_checkIndex_df160 : MethodName := ⟨RJ0, "checkIndex", "(II)V"⟩
def RJ1 : String := "java/lang/StringLatin1"
def TJ1 : u_T := fun k => match k with
  | _ => ("", "", "", false)
def tyJ1 : Nat → FieldType := fun k => match k with
  | _ => .int
abbrev wsJ10 : List Cond := u_ws RJ1 TJ1 0
theorem nmJ1 : ∀ a, a < 0 → ∀ b, b < 0 → a ≠ b → (TJ1 a).2.1 ≠ (TJ1 b).2.1 := by decide +kernel
theorem tyJ1_ok : ∀ k, k < 0 → parseFieldDescriptor (TJ1 k).2.2.1 = some (tyJ1 k) := by decide +kernel
abbrev cJ1_charAt_3b067 : ByteArray := prog_20_method_2_code
def yJ1_charAt_3b067 : MethodName := ⟨RJ1, "charAt", "([BI)C"⟩
def RJ2 : String := "java/lang/StringUTF16"
def TJ2 : u_T := fun k => match k with
  | _ => ("", "", "", false)
def tyJ2 : Nat → FieldType := fun k => match k with
  | _ => .int
abbrev wsJ20 : List Cond := u_ws RJ2 TJ2 0
theorem nmJ2 : ∀ a, a < 0 → ∀ b, b < 0 → a ≠ b → (TJ2 a).2.1 ≠ (TJ2 b).2.1 := by decide +kernel
theorem tyJ2_ok : ∀ k, k < 0 → parseFieldDescriptor (TJ2 k).2.2.1 = some (tyJ2 k) := by decide +kernel
abbrev cJ2_getChar_3b067 : ByteArray := prog_21_method_5_code
def yJ2_getChar_3b067 : MethodName := ⟨RJ2, "getChar", "([BI)C"⟩
abbrev cJ2_length_9d52b : ByteArray := prog_21_method_6_code
def yJ2_length_9d52b : MethodName := ⟨RJ2, "length", "([B)I"⟩
abbrev cJ2_charAt_3b067 : ByteArray := prog_21_method_83_code
def yJ2_charAt_3b067 : MethodName := ⟨RJ2, "charAt", "([BI)C"⟩
abbrev cJ2_checkIndex_2214a : ByteArray := prog_21_method_91_code
def yJ2_checkIndex_2214a : MethodName := ⟨RJ2, "checkIndex", "(I[B)V"⟩
def RJ10 : String := "java/lang/System"
def TJ10 : u_T := fun k => match k with
  | _ => ("", "", "", false)
def tyJ10 : Nat → FieldType := fun k => match k with
  | _ => .int
abbrev wsJ100 : List Cond := u_ws RJ10 TJ10 0
theorem nmJ10 : ∀ a, a < 0 → ∀ b, b < 0 → a ≠ b → (TJ10 a).2.1 ≠ (TJ10 b).2.1 := by decide +kernel
theorem tyJ10_ok : ∀ k, k < 0 → parseFieldDescriptor (TJ10 k).2.2.1 = some (tyJ10 k) := by decide +kernel
def RJxfd54e : String := "java/lang/constant/Constable"
def TJxfd54e : u_T := fun k => match k with
  | _ => ("", "", "", false)
def tyJxfd54e : Nat → FieldType := fun k => match k with
  | _ => .int
theorem nmJxfd54e : ∀ a, a < 0 → ∀ b, b < 0 → a ≠ b → (TJxfd54e a).2.1 ≠ (TJxfd54e b).2.1 := by decide +kernel
def RJx3cf43 : String := "java/lang/constant/ConstantDesc"
def TJx3cf43 : u_T := fun k => match k with
  | _ => ("", "", "", false)
def tyJx3cf43 : Nat → FieldType := fun k => match k with
  | _ => .int
theorem nmJx3cf43 : ∀ a, a < 0 → ∀ b, b < 0 → a ≠ b → (TJx3cf43 a).2.1 ≠ (TJx3cf43 b).2.1 := by decide +kernel
def RJ7 : String := "java/util/Arrays"
def TJ7 : u_T := fun k => match k with
  | _ => ("", "", "", false)
def tyJ7 : Nat → FieldType := fun k => match k with
  | _ => .int
abbrev wsJ70 : List Cond := u_ws RJ7 TJ7 0
theorem nmJ7 : ∀ a, a < 0 → ∀ b, b < 0 → a ≠ b → (TJ7 a).2.1 ≠ (TJ7 b).2.1 := by decide +kernel
theorem tyJ7_ok : ∀ k, k < 0 → parseFieldDescriptor (TJ7 k).2.2.1 = some (tyJ7 k) := by decide +kernel
abbrev cJ7_fill_d0a16 : ByteArray := prog_23_method_101_code
def yJ7_fill_d0a16 : MethodName := ⟨RJ7, "fill", "([JJ)V"⟩
abbrev cJ7_fill_53178 : ByteArray := prog_23_method_103_code
def yJ7_fill_53178 : MethodName := ⟨RJ7, "fill", "([II)V"⟩
def RJ3 : String := "jdk/internal/util/Preconditions"
def TJ3 : u_T := fun k => match k with
  | _ => ("", "", "", false)
def tyJ3 : Nat → FieldType := fun k => match k with
  | _ => .int
abbrev wsJ30 : List Cond := u_ws RJ3 TJ3 0
theorem nmJ3 : ∀ a, a < 0 → ∀ b, b < 0 → a ≠ b → (TJ3 a).2.1 ≠ (TJ3 b).2.1 := by decide +kernel
theorem tyJ3_ok : ∀ k, k < 0 → parseFieldDescriptor (TJ3 k).2.2.1 = some (tyJ3 k) := by decide +kernel
abbrev cJ3_checkIndex_8e157 : ByteArray := prog_24_method_11_code
def yJ3_checkIndex_8e157 : MethodName := ⟨RJ3, "checkIndex", "(IILjava/util/function/BiFunction;)I"⟩
abbrev cL_law : ByteArray := code
theorem dX0_init_0 : decode cX0_init 0 = .ok (.aload_n 0, 1) := by decide +kernel
theorem dX0_init_1 : decode cX0_init 1 = .ok (.invokespecial 3, 3) := by decide +kernel
theorem dX0_init_4 : decode cX0_init 4 = .ok (.aload_n 0, 1) := by decide +kernel
theorem dX0_init_5 : decode cX0_init 5 = .ok (.new 9, 3) := by decide +kernel
theorem dX0_init_8 : decode cX0_init 8 = .ok (.dup, 1) := by decide +kernel
theorem dX0_init_9 : decode cX0_init 9 = .ok (.invokespecial 11, 3) := by decide +kernel
theorem dX0_init_12 : decode cX0_init 12 = .ok (.putfield 12, 3) := by decide +kernel
theorem dX0_init_15 : decode cX0_init 15 = .ok (.aload_n 0, 1) := by decide +kernel
theorem dX0_init_16 : decode cX0_init 16 = .ok (.new 18, 3) := by decide +kernel
theorem dX0_init_19 : decode cX0_init 19 = .ok (.dup, 1) := by decide +kernel
theorem dX0_init_20 : decode cX0_init 20 = .ok (.invokespecial 20, 3) := by decide +kernel
theorem dX0_init_23 : decode cX0_init 23 = .ok (.putfield 21, 3) := by decide +kernel
theorem dX0_init_26 : decode cX0_init 26 = .ok (.aload_n 0, 1) := by decide +kernel
theorem dX0_init_27 : decode cX0_init 27 = .ok (.bipush 7, 2) := by decide +kernel
theorem dX0_init_29 : decode cX0_init 29 = .ok (.newarray .int, 2) := by decide +kernel
theorem dX0_init_31 : decode cX0_init 31 = .ok (.putfield 25, 3) := by decide +kernel
theorem dX0_init_34 : decode cX0_init 34 = .ok (.aload_n 0, 1) := by decide +kernel
theorem dX0_init_35 : decode cX0_init 35 = .ok (.bipush 6, 2) := by decide +kernel
theorem dX0_init_37 : decode cX0_init 37 = .ok (.newarray .int, 2) := by decide +kernel
theorem dX0_init_39 : decode cX0_init 39 = .ok (.putfield 29, 3) := by decide +kernel
theorem dX0_init_42 : decode cX0_init 42 = .ok (.return_, 1) := by decide +kernel
theorem dX0_clear_0 : decode cX0_clear 0 = .ok (.aload_n 0, 1) := by decide +kernel
theorem dX0_clear_1 : decode cX0_clear 1 = .ok (.iconst 0, 1) := by decide +kernel
theorem dX0_clear_2 : decode cX0_clear 2 = .ok (.putfield 32, 3) := by decide +kernel
theorem dX0_clear_5 : decode cX0_clear 5 = .ok (.aload_n 0, 1) := by decide +kernel
theorem dX0_clear_6 : decode cX0_clear 6 = .ok (.iconst 0, 1) := by decide +kernel
theorem dX0_clear_7 : decode cX0_clear 7 = .ok (.putfield 36, 3) := by decide +kernel
theorem dX0_clear_10 : decode cX0_clear 10 = .ok (.aload_n 0, 1) := by decide +kernel
theorem dX0_clear_11 : decode cX0_clear 11 = .ok (.getfield 12, 3) := by decide +kernel
theorem dX0_clear_14 : decode cX0_clear 14 = .ok (.invokevirtual 39, 3) := by decide +kernel
theorem dX0_clear_17 : decode cX0_clear 17 = .ok (.aload_n 0, 1) := by decide +kernel
theorem dX0_clear_18 : decode cX0_clear 18 = .ok (.getfield 21, 3) := by decide +kernel
theorem dX0_clear_21 : decode cX0_clear 21 = .ok (.invokevirtual 42, 3) := by decide +kernel
theorem dX0_clear_24 : decode cX0_clear 24 = .ok (.return_, 1) := by decide +kernel
theorem dX0_copyFrom_0 : decode cX0_copyFrom 0 = .ok (.aload_n 0, 1) := by decide +kernel
theorem dX0_copyFrom_1 : decode cX0_copyFrom 1 = .ok (.aload_n 1, 1) := by decide +kernel
theorem dX0_copyFrom_2 : decode cX0_copyFrom 2 = .ok (.getfield 32, 3) := by decide +kernel
theorem dX0_copyFrom_5 : decode cX0_copyFrom 5 = .ok (.putfield 32, 3) := by decide +kernel
theorem dX0_copyFrom_8 : decode cX0_copyFrom 8 = .ok (.aload_n 0, 1) := by decide +kernel
theorem dX0_copyFrom_9 : decode cX0_copyFrom 9 = .ok (.aload_n 1, 1) := by decide +kernel
theorem dX0_copyFrom_10 : decode cX0_copyFrom 10 = .ok (.getfield 36, 3) := by decide +kernel
theorem dX0_copyFrom_13 : decode cX0_copyFrom 13 = .ok (.putfield 36, 3) := by decide +kernel
theorem dX0_copyFrom_16 : decode cX0_copyFrom 16 = .ok (.aload_n 0, 1) := by decide +kernel
theorem dX0_copyFrom_17 : decode cX0_copyFrom 17 = .ok (.getfield 12, 3) := by decide +kernel
theorem dX0_copyFrom_20 : decode cX0_copyFrom 20 = .ok (.aload_n 1, 1) := by decide +kernel
theorem dX0_copyFrom_21 : decode cX0_copyFrom 21 = .ok (.getfield 12, 3) := by decide +kernel
theorem dX0_copyFrom_24 : decode cX0_copyFrom 24 = .ok (.getfield 43, 3) := by decide +kernel
theorem dX0_copyFrom_27 : decode cX0_copyFrom 27 = .ok (.aload_n 1, 1) := by decide +kernel
theorem dX0_copyFrom_28 : decode cX0_copyFrom 28 = .ok (.getfield 12, 3) := by decide +kernel
theorem dX0_copyFrom_31 : decode cX0_copyFrom 31 = .ok (.getfield 46, 3) := by decide +kernel
theorem dX0_copyFrom_34 : decode cX0_copyFrom 34 = .ok (.aload_n 1, 1) := by decide +kernel
theorem dX0_copyFrom_35 : decode cX0_copyFrom 35 = .ok (.getfield 12, 3) := by decide +kernel
theorem dX0_copyFrom_38 : decode cX0_copyFrom 38 = .ok (.getfield 49, 3) := by decide +kernel
theorem dX0_copyFrom_41 : decode cX0_copyFrom 41 = .ok (.invokevirtual 52, 3) := by decide +kernel
theorem dX0_copyFrom_44 : decode cX0_copyFrom 44 = .ok (.aload_n 0, 1) := by decide +kernel
theorem dX0_copyFrom_45 : decode cX0_copyFrom 45 = .ok (.getfield 21, 3) := by decide +kernel
theorem dX0_copyFrom_48 : decode cX0_copyFrom 48 = .ok (.aload_n 1, 1) := by decide +kernel
theorem dX0_copyFrom_49 : decode cX0_copyFrom 49 = .ok (.getfield 21, 3) := by decide +kernel
theorem dX0_copyFrom_52 : decode cX0_copyFrom 52 = .ok (.invokevirtual 56, 3) := by decide +kernel
theorem dX0_copyFrom_55 : decode cX0_copyFrom 55 = .ok (.aload_n 1, 1) := by decide +kernel
theorem dX0_copyFrom_56 : decode cX0_copyFrom 56 = .ok (.getfield 25, 3) := by decide +kernel
theorem dX0_copyFrom_59 : decode cX0_copyFrom 59 = .ok (.iconst 0, 1) := by decide +kernel
theorem dX0_copyFrom_60 : decode cX0_copyFrom 60 = .ok (.aload_n 0, 1) := by decide +kernel
theorem dX0_copyFrom_61 : decode cX0_copyFrom 61 = .ok (.getfield 25, 3) := by decide +kernel
theorem dX0_copyFrom_64 : decode cX0_copyFrom 64 = .ok (.iconst 0, 1) := by decide +kernel
theorem dX0_copyFrom_65 : decode cX0_copyFrom 65 = .ok (.bipush 7, 2) := by decide +kernel
theorem dX0_copyFrom_67 : decode cX0_copyFrom 67 = .ok (.invokestatic 60, 3) := by decide +kernel
theorem dX0_copyFrom_70 : decode cX0_copyFrom 70 = .ok (.aload_n 1, 1) := by decide +kernel
theorem dX0_copyFrom_71 : decode cX0_copyFrom 71 = .ok (.getfield 29, 3) := by decide +kernel
theorem dX0_copyFrom_74 : decode cX0_copyFrom 74 = .ok (.iconst 0, 1) := by decide +kernel
theorem dX0_copyFrom_75 : decode cX0_copyFrom 75 = .ok (.aload_n 0, 1) := by decide +kernel
theorem dX0_copyFrom_76 : decode cX0_copyFrom 76 = .ok (.getfield 29, 3) := by decide +kernel
theorem dX0_copyFrom_79 : decode cX0_copyFrom 79 = .ok (.iconst 0, 1) := by decide +kernel
theorem dX0_copyFrom_80 : decode cX0_copyFrom 80 = .ok (.bipush 6, 2) := by decide +kernel
theorem dX0_copyFrom_82 : decode cX0_copyFrom 82 = .ok (.invokestatic 60, 3) := by decide +kernel
theorem dX0_copyFrom_85 : decode cX0_copyFrom 85 = .ok (.return_, 1) := by decide +kernel
theorem dX0_addPicture_0 : decode cX0_addPicture 0 = .ok (.aload_n 0, 1) := by decide +kernel
theorem dX0_addPicture_1 : decode cX0_addPicture 1 = .ok (.getfield 32, 3) := by decide +kernel
theorem dX0_addPicture_4 : decode cX0_addPicture 4 = .ok (.ifCond .lt 12, 3) := by decide +kernel
theorem dX0_addPicture_7 : decode cX0_addPicture 7 = .ok (.aload_n 0, 1) := by decide +kernel
theorem dX0_addPicture_8 : decode cX0_addPicture 8 = .ok (.getfield 32, 3) := by decide +kernel
theorem dX0_addPicture_11 : decode cX0_addPicture 11 = .ok (.bipush 7, 2) := by decide +kernel
theorem dX0_addPicture_13 : decode cX0_addPicture 13 = .ok (.if_icmp .lt 4, 3) := by decide +kernel
theorem dX0_addPicture_16 : decode cX0_addPicture 16 = .ok (.return_, 1) := by decide +kernel
theorem dX0_addPicture_17 : decode cX0_addPicture 17 = .ok (.aload_n 0, 1) := by decide +kernel
theorem dX0_addPicture_18 : decode cX0_addPicture 18 = .ok (.getfield 25, 3) := by decide +kernel
theorem dX0_addPicture_21 : decode cX0_addPicture 21 = .ok (.aload_n 0, 1) := by decide +kernel
theorem dX0_addPicture_22 : decode cX0_addPicture 22 = .ok (.getfield 32, 3) := by decide +kernel
theorem dX0_addPicture_25 : decode cX0_addPicture 25 = .ok (.iload_n 1, 1) := by decide +kernel
theorem dX0_addPicture_26 : decode cX0_addPicture 26 = .ok (.iastore, 1) := by decide +kernel
theorem dX0_addPicture_27 : decode cX0_addPicture 27 = .ok (.aload_n 0, 1) := by decide +kernel
theorem dX0_addPicture_28 : decode cX0_addPicture 28 = .ok (.dup, 1) := by decide +kernel
theorem dX0_addPicture_29 : decode cX0_addPicture 29 = .ok (.getfield 32, 3) := by decide +kernel
theorem dX0_addPicture_32 : decode cX0_addPicture 32 = .ok (.iconst 1, 1) := by decide +kernel
theorem dX0_addPicture_33 : decode cX0_addPicture 33 = .ok (.iadd, 1) := by decide +kernel
theorem dX0_addPicture_34 : decode cX0_addPicture 34 = .ok (.putfield 32, 3) := by decide +kernel
theorem dX0_addPicture_37 : decode cX0_addPicture 37 = .ok (.return_, 1) := by decide +kernel
theorem dX0_addThing_0 : decode cX0_addThing 0 = .ok (.aload_n 0, 1) := by decide +kernel
theorem dX0_addThing_1 : decode cX0_addThing 1 = .ok (.getfield 36, 3) := by decide +kernel
theorem dX0_addThing_4 : decode cX0_addThing 4 = .ok (.ifCond .lt 12, 3) := by decide +kernel
theorem dX0_addThing_7 : decode cX0_addThing 7 = .ok (.aload_n 0, 1) := by decide +kernel
theorem dX0_addThing_8 : decode cX0_addThing 8 = .ok (.getfield 36, 3) := by decide +kernel
theorem dX0_addThing_11 : decode cX0_addThing 11 = .ok (.bipush 6, 2) := by decide +kernel
theorem dX0_addThing_13 : decode cX0_addThing 13 = .ok (.if_icmp .lt 4, 3) := by decide +kernel
theorem dX0_addThing_16 : decode cX0_addThing 16 = .ok (.return_, 1) := by decide +kernel
theorem dX0_addThing_17 : decode cX0_addThing 17 = .ok (.aload_n 0, 1) := by decide +kernel
theorem dX0_addThing_18 : decode cX0_addThing 18 = .ok (.getfield 29, 3) := by decide +kernel
theorem dX0_addThing_21 : decode cX0_addThing 21 = .ok (.aload_n 0, 1) := by decide +kernel
theorem dX0_addThing_22 : decode cX0_addThing 22 = .ok (.getfield 36, 3) := by decide +kernel
theorem dX0_addThing_25 : decode cX0_addThing 25 = .ok (.iload_n 1, 1) := by decide +kernel
theorem dX0_addThing_26 : decode cX0_addThing 26 = .ok (.iastore, 1) := by decide +kernel
theorem dX0_addThing_27 : decode cX0_addThing 27 = .ok (.aload_n 0, 1) := by decide +kernel
theorem dX0_addThing_28 : decode cX0_addThing 28 = .ok (.dup, 1) := by decide +kernel
theorem dX0_addThing_29 : decode cX0_addThing 29 = .ok (.getfield 36, 3) := by decide +kernel
theorem dX0_addThing_32 : decode cX0_addThing 32 = .ok (.iconst 1, 1) := by decide +kernel
theorem dX0_addThing_33 : decode cX0_addThing 33 = .ok (.iadd, 1) := by decide +kernel
theorem dX0_addThing_34 : decode cX0_addThing 34 = .ok (.putfield 36, 3) := by decide +kernel
theorem dX0_addThing_37 : decode cX0_addThing 37 = .ok (.return_, 1) := by decide +kernel
theorem dX0_hasPicture_0 : decode cX0_hasPicture 0 = .ok (.iload_n 1, 1) := by decide +kernel
theorem dX0_hasPicture_1 : decode cX0_hasPicture 1 = .ok (.ifCond .lt 15, 3) := by decide +kernel
theorem dX0_hasPicture_4 : decode cX0_hasPicture 4 = .ok (.iload_n 1, 1) := by decide +kernel
theorem dX0_hasPicture_5 : decode cX0_hasPicture 5 = .ok (.aload_n 0, 1) := by decide +kernel
theorem dX0_hasPicture_6 : decode cX0_hasPicture 6 = .ok (.getfield 32, 3) := by decide +kernel
theorem dX0_hasPicture_9 : decode cX0_hasPicture 9 = .ok (.if_icmp .ge 7, 3) := by decide +kernel
theorem dX0_hasPicture_12 : decode cX0_hasPicture 12 = .ok (.iconst 1, 1) := by decide +kernel
theorem dX0_hasPicture_13 : decode cX0_hasPicture 13 = .ok (.goto 4, 3) := by decide +kernel
theorem dX0_hasPicture_16 : decode cX0_hasPicture 16 = .ok (.iconst 0, 1) := by decide +kernel
theorem dX0_hasPicture_17 : decode cX0_hasPicture 17 = .ok (.ireturn, 1) := by decide +kernel
theorem dX0_hasThing_0 : decode cX0_hasThing 0 = .ok (.iload_n 1, 1) := by decide +kernel
theorem dX0_hasThing_1 : decode cX0_hasThing 1 = .ok (.ifCond .lt 15, 3) := by decide +kernel
theorem dX0_hasThing_4 : decode cX0_hasThing 4 = .ok (.iload_n 1, 1) := by decide +kernel
theorem dX0_hasThing_5 : decode cX0_hasThing 5 = .ok (.aload_n 0, 1) := by decide +kernel
theorem dX0_hasThing_6 : decode cX0_hasThing 6 = .ok (.getfield 36, 3) := by decide +kernel
theorem dX0_hasThing_9 : decode cX0_hasThing 9 = .ok (.if_icmp .ge 7, 3) := by decide +kernel
theorem dX0_hasThing_12 : decode cX0_hasThing 12 = .ok (.iconst 1, 1) := by decide +kernel
theorem dX0_hasThing_13 : decode cX0_hasThing 13 = .ok (.goto 4, 3) := by decide +kernel
theorem dX0_hasThing_16 : decode cX0_hasThing 16 = .ok (.iconst 0, 1) := by decide +kernel
theorem dX0_hasThing_17 : decode cX0_hasThing 17 = .ok (.ireturn, 1) := by decide +kernel
theorem dX0_hasMatter_0 : decode cX0_hasMatter 0 = .ok (.iload_n 1, 1) := by decide +kernel
theorem dX0_hasMatter_1 : decode cX0_hasMatter 1 = .ok (.ifCond .lt 17, 3) := by decide +kernel
theorem dX0_hasMatter_4 : decode cX0_hasMatter 4 = .ok (.iload_n 1, 1) := by decide +kernel
theorem dX0_hasMatter_5 : decode cX0_hasMatter 5 = .ok (.iconst 2, 1) := by decide +kernel
theorem dX0_hasMatter_6 : decode cX0_hasMatter 6 = .ok (.aload_n 0, 1) := by decide +kernel
theorem dX0_hasMatter_7 : decode cX0_hasMatter 7 = .ok (.getfield 36, 3) := by decide +kernel
theorem dX0_hasMatter_10 : decode cX0_hasMatter 10 = .ok (.iadd, 1) := by decide +kernel
theorem dX0_hasMatter_11 : decode cX0_hasMatter 11 = .ok (.if_icmp .ge 7, 3) := by decide +kernel
theorem dX0_hasMatter_14 : decode cX0_hasMatter 14 = .ok (.iconst 1, 1) := by decide +kernel
theorem dX0_hasMatter_15 : decode cX0_hasMatter 15 = .ok (.goto 4, 3) := by decide +kernel
theorem dX0_hasMatter_18 : decode cX0_hasMatter 18 = .ok (.iconst 0, 1) := by decide +kernel
theorem dX0_hasMatter_19 : decode cX0_hasMatter 19 = .ok (.ireturn, 1) := by decide +kernel
theorem dX0_kindOf_0 : decode cX0_kindOf 0 = .ok (.aload_n 0, 1) := by decide +kernel
theorem dX0_kindOf_1 : decode cX0_kindOf 1 = .ok (.iload_n 1, 1) := by decide +kernel
theorem dX0_kindOf_2 : decode cX0_kindOf 2 = .ok (.invokevirtual 66, 3) := by decide +kernel
theorem dX0_kindOf_5 : decode cX0_kindOf 5 = .ok (.ifCond .eq 18, 3) := by decide +kernel
theorem dX0_kindOf_8 : decode cX0_kindOf 8 = .ok (.iload_n 1, 1) := by decide +kernel
theorem dX0_kindOf_9 : decode cX0_kindOf 9 = .ok (.bipush 6, 2) := by decide +kernel
theorem dX0_kindOf_11 : decode cX0_kindOf 11 = .ok (.if_icmp .ge 12, 3) := by decide +kernel
theorem dX0_kindOf_14 : decode cX0_kindOf 14 = .ok (.aload_n 0, 1) := by decide +kernel
theorem dX0_kindOf_15 : decode cX0_kindOf 15 = .ok (.getfield 29, 3) := by decide +kernel
theorem dX0_kindOf_18 : decode cX0_kindOf 18 = .ok (.iload_n 1, 1) := by decide +kernel
theorem dX0_kindOf_19 : decode cX0_kindOf 19 = .ok (.iaload, 1) := by decide +kernel
theorem dX0_kindOf_20 : decode cX0_kindOf 20 = .ok (.goto 4, 3) := by decide +kernel
theorem dX0_kindOf_23 : decode cX0_kindOf 23 = .ok (.iconst (-1), 1) := by decide +kernel
theorem dX0_kindOf_24 : decode cX0_kindOf 24 = .ok (.ireturn, 1) := by decide +kernel
theorem dX0_mostValue_0 : decode cX0_mostValue 0 = .ok (.iload_n 1, 1) := by decide +kernel
theorem dX0_mostValue_1 : decode cX0_mostValue 1 = .ok (.ifCond .ne 6, 3) := by decide +kernel
theorem dX0_mostValue_4 : decode cX0_mostValue 4 = .ok (.bipush 24, 2) := by decide +kernel
theorem dX0_mostValue_6 : decode cX0_mostValue 6 = .ok (.ireturn, 1) := by decide +kernel
theorem dX0_mostValue_7 : decode cX0_mostValue 7 = .ok (.iload_n 1, 1) := by decide +kernel
theorem dX0_mostValue_8 : decode cX0_mostValue 8 = .ok (.iconst 1, 1) := by decide +kernel
theorem dX0_mostValue_9 : decode cX0_mostValue 9 = .ok (.if_icmp .ne 7, 3) := by decide +kernel
theorem dX0_mostValue_12 : decode cX0_mostValue 12 = .ok (.sipush 999, 3) := by decide +kernel
theorem dX0_mostValue_15 : decode cX0_mostValue 15 = .ok (.ireturn, 1) := by decide +kernel
theorem dX0_mostValue_16 : decode cX0_mostValue 16 = .ok (.aload_n 0, 1) := by decide +kernel
theorem dX0_mostValue_17 : decode cX0_mostValue 17 = .ok (.iload_n 1, 1) := by decide +kernel
theorem dX0_mostValue_18 : decode cX0_mostValue 18 = .ok (.iconst 2, 1) := by decide +kernel
theorem dX0_mostValue_19 : decode cX0_mostValue 19 = .ok (.isub, 1) := by decide +kernel
theorem dX0_mostValue_20 : decode cX0_mostValue 20 = .ok (.invokevirtual 70, 3) := by decide +kernel
theorem dX0_mostValue_23 : decode cX0_mostValue 23 = .ok (.iconst 3, 1) := by decide +kernel
theorem dX0_mostValue_24 : decode cX0_mostValue 24 = .ok (.if_icmp .ne 8, 3) := by decide +kernel
theorem dX0_mostValue_27 : decode cX0_mostValue 27 = .ok (.bipush 9, 2) := by decide +kernel
theorem dX0_mostValue_29 : decode cX0_mostValue 29 = .ok (.goto 4, 3) := by decide +kernel
theorem dX0_mostValue_32 : decode cX0_mostValue 32 = .ok (.iconst 1, 1) := by decide +kernel
theorem dX0_mostValue_33 : decode cX0_mostValue 33 = .ok (.ireturn, 1) := by decide +kernel
theorem dX0_takesValue_0 : decode cX0_takesValue 0 = .ok (.aload_n 0, 1) := by decide +kernel
theorem dX0_takesValue_1 : decode cX0_takesValue 1 = .ok (.iload_n 1, 1) := by decide +kernel
theorem dX0_takesValue_2 : decode cX0_takesValue 2 = .ok (.invokevirtual 74, 3) := by decide +kernel
theorem dX0_takesValue_5 : decode cX0_takesValue 5 = .ok (.ifCond .eq 20, 3) := by decide +kernel
theorem dX0_takesValue_8 : decode cX0_takesValue 8 = .ok (.iload_n 2, 1) := by decide +kernel
theorem dX0_takesValue_9 : decode cX0_takesValue 9 = .ok (.ifCond .lt 16, 3) := by decide +kernel
theorem dX0_takesValue_12 : decode cX0_takesValue 12 = .ok (.iload_n 2, 1) := by decide +kernel
theorem dX0_takesValue_13 : decode cX0_takesValue 13 = .ok (.aload_n 0, 1) := by decide +kernel
theorem dX0_takesValue_14 : decode cX0_takesValue 14 = .ok (.iload_n 1, 1) := by decide +kernel
theorem dX0_takesValue_15 : decode cX0_takesValue 15 = .ok (.invokevirtual 77, 3) := by decide +kernel
theorem dX0_takesValue_18 : decode cX0_takesValue 18 = .ok (.if_icmp .gt 7, 3) := by decide +kernel
theorem dX0_takesValue_21 : decode cX0_takesValue 21 = .ok (.iconst 1, 1) := by decide +kernel
theorem dX0_takesValue_22 : decode cX0_takesValue 22 = .ok (.goto 4, 3) := by decide +kernel
theorem dX0_takesValue_25 : decode cX0_takesValue 25 = .ok (.iconst 0, 1) := by decide +kernel
theorem dX0_takesValue_26 : decode cX0_takesValue 26 = .ok (.ireturn, 1) := by decide +kernel
theorem dX0_pictureNamed_0 : decode cX0_pictureNamed 0 = .ok (.iconst 0, 1) := by decide +kernel
theorem dX0_pictureNamed_1 : decode cX0_pictureNamed 1 = .ok (.istore_n 2, 1) := by decide +kernel
theorem dX0_pictureNamed_2 : decode cX0_pictureNamed 2 = .ok (.iload_n 2, 1) := by decide +kernel
theorem dX0_pictureNamed_3 : decode cX0_pictureNamed 3 = .ok (.aload_n 0, 1) := by decide +kernel
theorem dX0_pictureNamed_4 : decode cX0_pictureNamed 4 = .ok (.getfield 32, 3) := by decide +kernel
theorem dX0_pictureNamed_7 : decode cX0_pictureNamed 7 = .ok (.if_icmp .ge 27, 3) := by decide +kernel
theorem dX0_pictureNamed_10 : decode cX0_pictureNamed 10 = .ok (.iload_n 2, 1) := by decide +kernel
theorem dX0_pictureNamed_11 : decode cX0_pictureNamed 11 = .ok (.bipush 7, 2) := by decide +kernel
theorem dX0_pictureNamed_13 : decode cX0_pictureNamed 13 = .ok (.if_icmp .ge 21, 3) := by decide +kernel
theorem dX0_pictureNamed_16 : decode cX0_pictureNamed 16 = .ok (.aload_n 0, 1) := by decide +kernel
theorem dX0_pictureNamed_17 : decode cX0_pictureNamed 17 = .ok (.getfield 25, 3) := by decide +kernel
theorem dX0_pictureNamed_20 : decode cX0_pictureNamed 20 = .ok (.iload_n 2, 1) := by decide +kernel
theorem dX0_pictureNamed_21 : decode cX0_pictureNamed 21 = .ok (.iaload, 1) := by decide +kernel
theorem dX0_pictureNamed_22 : decode cX0_pictureNamed 22 = .ok (.iload_n 1, 1) := by decide +kernel
theorem dX0_pictureNamed_23 : decode cX0_pictureNamed 23 = .ok (.if_icmp .ne 5, 3) := by decide +kernel
theorem dX0_pictureNamed_26 : decode cX0_pictureNamed 26 = .ok (.iload_n 2, 1) := by decide +kernel
theorem dX0_pictureNamed_27 : decode cX0_pictureNamed 27 = .ok (.ireturn, 1) := by decide +kernel
theorem dX0_pictureNamed_28 : decode cX0_pictureNamed 28 = .ok (.iinc 2 1, 3) := by decide +kernel
theorem dX0_pictureNamed_31 : decode cX0_pictureNamed 31 = .ok (.goto (-29), 3) := by decide +kernel
theorem dX0_pictureNamed_34 : decode cX0_pictureNamed 34 = .ok (.iconst (-1), 1) := by decide +kernel
theorem dX0_pictureNamed_35 : decode cX0_pictureNamed 35 = .ok (.ireturn, 1) := by decide +kernel
theorem dX0_wordLetters_0 : decode cX0_wordLetters 0 = .ok (.aload_n 0, 1) := by decide +kernel
theorem dX0_wordLetters_1 : decode cX0_wordLetters 1 = .ok (.iload_n 1, 1) := by decide +kernel
theorem dX0_wordLetters_2 : decode cX0_wordLetters 2 = .ok (.invokevirtual 80, 3) := by decide +kernel
theorem dX0_wordLetters_5 : decode cX0_wordLetters 5 = .ok (.ifCond .eq 9, 3) := by decide +kernel
theorem dX0_wordLetters_8 : decode cX0_wordLetters 8 = .ok (.iload_n 1, 1) := by decide +kernel
theorem dX0_wordLetters_9 : decode cX0_wordLetters 9 = .ok (.bipush 7, 2) := by decide +kernel
theorem dX0_wordLetters_11 : decode cX0_wordLetters 11 = .ok (.if_icmp .lt 5, 3) := by decide +kernel
theorem dX0_wordLetters_14 : decode cX0_wordLetters 14 = .ok (.iconst (-1), 1) := by decide +kernel
theorem dX0_wordLetters_15 : decode cX0_wordLetters 15 = .ok (.ireturn, 1) := by decide +kernel
theorem dX0_wordLetters_16 : decode cX0_wordLetters 16 = .ok (.iconst 0, 1) := by decide +kernel
theorem dX0_wordLetters_17 : decode cX0_wordLetters 17 = .ok (.istore_n 2, 1) := by decide +kernel
theorem dX0_wordLetters_18 : decode cX0_wordLetters 18 = .ok (.iconst 0, 1) := by decide +kernel
theorem dX0_wordLetters_19 : decode cX0_wordLetters 19 = .ok (.istore_n 3, 1) := by decide +kernel
theorem dX0_wordLetters_20 : decode cX0_wordLetters 20 = .ok (.iload_n 3, 1) := by decide +kernel
theorem dX0_wordLetters_21 : decode cX0_wordLetters 21 = .ok (.iconst 5, 1) := by decide +kernel
theorem dX0_wordLetters_22 : decode cX0_wordLetters 22 = .ok (.if_icmp .ge 25, 3) := by decide +kernel
theorem dX0_wordLetters_25 : decode cX0_wordLetters 25 = .ok (.aload_n 0, 1) := by decide +kernel
theorem dX0_wordLetters_26 : decode cX0_wordLetters 26 = .ok (.getfield 25, 3) := by decide +kernel
theorem dX0_wordLetters_29 : decode cX0_wordLetters 29 = .ok (.iload_n 1, 1) := by decide +kernel
theorem dX0_wordLetters_30 : decode cX0_wordLetters 30 = .ok (.iaload, 1) := by decide +kernel
theorem dX0_wordLetters_31 : decode cX0_wordLetters 31 = .ok (.iconst 5, 1) := by decide +kernel
theorem dX0_wordLetters_32 : decode cX0_wordLetters 32 = .ok (.iload_n 3, 1) := by decide +kernel
theorem dX0_wordLetters_33 : decode cX0_wordLetters 33 = .ok (.imul, 1) := by decide +kernel
theorem dX0_wordLetters_34 : decode cX0_wordLetters 34 = .ok (.ishr, 1) := by decide +kernel
theorem dX0_wordLetters_35 : decode cX0_wordLetters 35 = .ok (.ifCond .eq 6, 3) := by decide +kernel
theorem dX0_wordLetters_38 : decode cX0_wordLetters 38 = .ok (.iinc 2 1, 3) := by decide +kernel
theorem dX0_wordLetters_41 : decode cX0_wordLetters 41 = .ok (.iinc 3 1, 3) := by decide +kernel
theorem dX0_wordLetters_44 : decode cX0_wordLetters 44 = .ok (.goto (-24), 3) := by decide +kernel
theorem dX0_wordLetters_47 : decode cX0_wordLetters 47 = .ok (.iload_n 2, 1) := by decide +kernel
theorem dX0_wordLetters_48 : decode cX0_wordLetters 48 = .ok (.ireturn, 1) := by decide +kernel
theorem dX0_picturesSeeing_0 : decode cX0_picturesSeeing 0 = .ok (.iconst 0, 1) := by decide +kernel
theorem dX0_picturesSeeing_1 : decode cX0_picturesSeeing 1 = .ok (.istore_n 3, 1) := by decide +kernel
theorem dX0_picturesSeeing_2 : decode cX0_picturesSeeing 2 = .ok (.iconst 0, 1) := by decide +kernel
theorem dX0_picturesSeeing_3 : decode cX0_picturesSeeing 3 = .ok (.istore 4, 2) := by decide +kernel
theorem dX0_picturesSeeing_5 : decode cX0_picturesSeeing 5 = .ok (.iload 4, 2) := by decide +kernel
theorem dX0_picturesSeeing_7 : decode cX0_picturesSeeing 7 = .ok (.aload_n 0, 1) := by decide +kernel
theorem dX0_picturesSeeing_8 : decode cX0_picturesSeeing 8 = .ok (.getfield 32, 3) := by decide +kernel
theorem dX0_picturesSeeing_11 : decode cX0_picturesSeeing 11 = .ok (.if_icmp .ge 32, 3) := by decide +kernel
theorem dX0_picturesSeeing_14 : decode cX0_picturesSeeing 14 = .ok (.aload_n 0, 1) := by decide +kernel
theorem dX0_picturesSeeing_15 : decode cX0_picturesSeeing 15 = .ok (.getfield 21, 3) := by decide +kernel
theorem dX0_picturesSeeing_18 : decode cX0_picturesSeeing 18 = .ok (.iload 4, 2) := by decide +kernel
theorem dX0_picturesSeeing_20 : decode cX0_picturesSeeing 20 = .ok (.iconst 2, 1) := by decide +kernel
theorem dX0_picturesSeeing_21 : decode cX0_picturesSeeing 21 = .ok (.iload_n 1, 1) := by decide +kernel
theorem dX0_picturesSeeing_22 : decode cX0_picturesSeeing 22 = .ok (.iadd, 1) := by decide +kernel
theorem dX0_picturesSeeing_23 : decode cX0_picturesSeeing 23 = .ok (.invokevirtual 83, 3) := by decide +kernel
theorem dX0_picturesSeeing_26 : decode cX0_picturesSeeing 26 = .ok (.iload_n 2, 1) := by decide +kernel
theorem dX0_picturesSeeing_27 : decode cX0_picturesSeeing 27 = .ok (.if_icmp .lt 10, 3) := by decide +kernel
theorem dX0_picturesSeeing_30 : decode cX0_picturesSeeing 30 = .ok (.iload_n 3, 1) := by decide +kernel
theorem dX0_picturesSeeing_31 : decode cX0_picturesSeeing 31 = .ok (.iconst 1, 1) := by decide +kernel
theorem dX0_picturesSeeing_32 : decode cX0_picturesSeeing 32 = .ok (.iload 4, 2) := by decide +kernel
theorem dX0_picturesSeeing_34 : decode cX0_picturesSeeing 34 = .ok (.ishl, 1) := by decide +kernel
theorem dX0_picturesSeeing_35 : decode cX0_picturesSeeing 35 = .ok (.ior, 1) := by decide +kernel
theorem dX0_picturesSeeing_36 : decode cX0_picturesSeeing 36 = .ok (.istore_n 3, 1) := by decide +kernel
theorem dX0_picturesSeeing_37 : decode cX0_picturesSeeing 37 = .ok (.iinc 4 1, 3) := by decide +kernel
theorem dX0_picturesSeeing_40 : decode cX0_picturesSeeing 40 = .ok (.goto (-35), 3) := by decide +kernel
theorem dX0_picturesSeeing_43 : decode cX0_picturesSeeing 43 = .ok (.iload_n 3, 1) := by decide +kernel
theorem dX0_picturesSeeing_44 : decode cX0_picturesSeeing 44 = .ok (.ireturn, 1) := by decide +kernel
theorem dX1_init_0 : decode cX1_init 0 = .ok (.aload_n 0, 1) := by decide +kernel
theorem dX1_init_1 : decode cX1_init 1 = .ok (.invokespecial 3, 3) := by decide +kernel
theorem dX1_init_4 : decode cX1_init 4 = .ok (.aload_n 0, 1) := by decide +kernel
theorem dX1_init_5 : decode cX1_init 5 = .ok (.bipush 56, 2) := by decide +kernel
theorem dX1_init_7 : decode cX1_init 7 = .ok (.newarray .int, 2) := by decide +kernel
theorem dX1_init_9 : decode cX1_init 9 = .ok (.putfield 9, 3) := by decide +kernel
theorem dX1_init_12 : decode cX1_init 12 = .ok (.aload_n 0, 1) := by decide +kernel
theorem dX1_init_13 : decode cX1_init 13 = .ok (.new 15, 3) := by decide +kernel
theorem dX1_init_16 : decode cX1_init 16 = .ok (.dup, 1) := by decide +kernel
theorem dX1_init_17 : decode cX1_init 17 = .ok (.invokespecial 17, 3) := by decide +kernel
theorem dX1_init_20 : decode cX1_init 20 = .ok (.putfield 18, 3) := by decide +kernel
theorem dX1_init_23 : decode cX1_init 23 = .ok (.aload_n 0, 1) := by decide +kernel
theorem dX1_init_24 : decode cX1_init 24 = .ok (.new 22, 3) := by decide +kernel
theorem dX1_init_27 : decode cX1_init 27 = .ok (.dup, 1) := by decide +kernel
theorem dX1_init_28 : decode cX1_init 28 = .ok (.invokespecial 24, 3) := by decide +kernel
theorem dX1_init_31 : decode cX1_init 31 = .ok (.putfield 25, 3) := by decide +kernel
theorem dX1_init_34 : decode cX1_init 34 = .ok (.aload_n 0, 1) := by decide +kernel
theorem dX1_init_35 : decode cX1_init 35 = .ok (.new 29, 3) := by decide +kernel
theorem dX1_init_38 : decode cX1_init 38 = .ok (.dup, 1) := by decide +kernel
theorem dX1_init_39 : decode cX1_init 39 = .ok (.invokespecial 31, 3) := by decide +kernel
theorem dX1_init_42 : decode cX1_init 42 = .ok (.putfield 32, 3) := by decide +kernel
theorem dX1_init_45 : decode cX1_init 45 = .ok (.aload_n 0, 1) := by decide +kernel
theorem dX1_init_46 : decode cX1_init 46 = .ok (.new 36, 3) := by decide +kernel
theorem dX1_init_49 : decode cX1_init 49 = .ok (.dup, 1) := by decide +kernel
theorem dX1_init_50 : decode cX1_init 50 = .ok (.invokespecial 38, 3) := by decide +kernel
theorem dX1_init_53 : decode cX1_init 53 = .ok (.putfield 39, 3) := by decide +kernel
theorem dX1_init_56 : decode cX1_init 56 = .ok (.return_, 1) := by decide +kernel
theorem dX1_forget_0 : decode cX1_forget 0 = .ok (.aload_n 0, 1) := by decide +kernel
theorem dX1_forget_1 : decode cX1_forget 1 = .ok (.iconst 0, 1) := by decide +kernel
theorem dX1_forget_2 : decode cX1_forget 2 = .ok (.putfield 43, 3) := by decide +kernel
theorem dX1_forget_5 : decode cX1_forget 5 = .ok (.aload_n 0, 1) := by decide +kernel
theorem dX1_forget_6 : decode cX1_forget 6 = .ok (.iconst 0, 1) := by decide +kernel
theorem dX1_forget_7 : decode cX1_forget 7 = .ok (.putfield 47, 3) := by decide +kernel
theorem dX1_forget_10 : decode cX1_forget 10 = .ok (.aload_n 0, 1) := by decide +kernel
theorem dX1_forget_11 : decode cX1_forget 11 = .ok (.iconst 0, 1) := by decide +kernel
theorem dX1_forget_12 : decode cX1_forget 12 = .ok (.putfield 50, 3) := by decide +kernel
theorem dX1_forget_15 : decode cX1_forget 15 = .ok (.return_, 1) := by decide +kernel
theorem dX1_knotOf_0 : decode cX1_knotOf 0 = .ok (.aload_n 0, 1) := by decide +kernel
theorem dX1_knotOf_1 : decode cX1_knotOf 1 = .ok (.getfield 43, 3) := by decide +kernel
theorem dX1_knotOf_4 : decode cX1_knotOf 4 = .ok (.ifCond .ne 12, 3) := by decide +kernel
theorem dX1_knotOf_7 : decode cX1_knotOf 7 = .ok (.aload_n 0, 1) := by decide +kernel
theorem dX1_knotOf_8 : decode cX1_knotOf 8 = .ok (.aload_n 0, 1) := by decide +kernel
theorem dX1_knotOf_9 : decode cX1_knotOf 9 = .ok (.aload_n 1, 1) := by decide +kernel
theorem dX1_knotOf_10 : decode cX1_knotOf 10 = .ok (.invokevirtual 53, 3) := by decide +kernel
theorem dX1_knotOf_13 : decode cX1_knotOf 13 = .ok (.putfield 57, 3) := by decide +kernel
theorem dX1_knotOf_16 : decode cX1_knotOf 16 = .ok (.aload_n 0, 1) := by decide +kernel
theorem dX1_knotOf_17 : decode cX1_knotOf 17 = .ok (.iconst 1, 1) := by decide +kernel
theorem dX1_knotOf_18 : decode cX1_knotOf 18 = .ok (.putfield 43, 3) := by decide +kernel
theorem dX1_knotOf_21 : decode cX1_knotOf 21 = .ok (.aload_n 0, 1) := by decide +kernel
theorem dX1_knotOf_22 : decode cX1_knotOf 22 = .ok (.getfield 57, 3) := by decide +kernel
theorem dX1_knotOf_25 : decode cX1_knotOf 25 = .ok (.ireturn, 1) := by decide +kernel
theorem dX1_seekKnot_0 : decode cX1_seekKnot 0 = .ok (.aload_n 1, 1) := by decide +kernel
theorem dX1_seekKnot_1 : decode cX1_seekKnot 1 = .ok (.invokevirtual 61, 3) := by decide +kernel
theorem dX1_seekKnot_4 : decode cX1_seekKnot 4 = .ok (.istore_n 2, 1) := by decide +kernel
theorem dX1_seekKnot_5 : decode cX1_seekKnot 5 = .ok (.aload_n 0, 1) := by decide +kernel
theorem dX1_seekKnot_6 : decode cX1_seekKnot 6 = .ok (.getfield 39, 3) := by decide +kernel
theorem dX1_seekKnot_9 : decode cX1_seekKnot 9 = .ok (.aload_n 1, 1) := by decide +kernel
theorem dX1_seekKnot_10 : decode cX1_seekKnot 10 = .ok (.iload_n 2, 1) := by decide +kernel
theorem dX1_seekKnot_11 : decode cX1_seekKnot 11 = .ok (.invokevirtual 65, 3) := by decide +kernel
theorem dX1_seekKnot_14 : decode cX1_seekKnot 14 = .ok (.ifCond .eq 5, 3) := by decide +kernel
theorem dX1_seekKnot_17 : decode cX1_seekKnot 17 = .ok (.iconst (-1), 1) := by decide +kernel
theorem dX1_seekKnot_18 : decode cX1_seekKnot 18 = .ok (.ireturn, 1) := by decide +kernel
theorem dX1_seekKnot_19 : decode cX1_seekKnot 19 = .ok (.iconst 1, 1) := by decide +kernel
theorem dX1_seekKnot_20 : decode cX1_seekKnot 20 = .ok (.istore_n 3, 1) := by decide +kernel
theorem dX1_seekKnot_21 : decode cX1_seekKnot 21 = .ok (.iload_n 3, 1) := by decide +kernel
theorem dX1_seekKnot_22 : decode cX1_seekKnot 22 = .ok (.bipush 7, 2) := by decide +kernel
theorem dX1_seekKnot_24 : decode cX1_seekKnot 24 = .ok (.if_icmp .gt 49, 3) := by decide +kernel
theorem dX1_seekKnot_27 : decode cX1_seekKnot 27 = .ok (.iconst 1, 1) := by decide +kernel
theorem dX1_seekKnot_28 : decode cX1_seekKnot 28 = .ok (.istore 4, 2) := by decide +kernel
theorem dX1_seekKnot_30 : decode cX1_seekKnot 30 = .ok (.iload 4, 2) := by decide +kernel
theorem dX1_seekKnot_32 : decode cX1_seekKnot 32 = .ok (.iload_n 2, 1) := by decide +kernel
theorem dX1_seekKnot_33 : decode cX1_seekKnot 33 = .ok (.if_icmp .gt 34, 3) := by decide +kernel
theorem dX1_seekKnot_36 : decode cX1_seekKnot 36 = .ok (.iload 4, 2) := by decide +kernel
theorem dX1_seekKnot_38 : decode cX1_seekKnot 38 = .ok (.invokestatic 69, 3) := by decide +kernel
theorem dX1_seekKnot_41 : decode cX1_seekKnot 41 = .ok (.iload_n 3, 1) := by decide +kernel
theorem dX1_seekKnot_42 : decode cX1_seekKnot 42 = .ok (.if_icmp .ne 19, 3) := by decide +kernel
theorem dX1_seekKnot_45 : decode cX1_seekKnot 45 = .ok (.aload_n 0, 1) := by decide +kernel
theorem dX1_seekKnot_46 : decode cX1_seekKnot 46 = .ok (.getfield 39, 3) := by decide +kernel
theorem dX1_seekKnot_49 : decode cX1_seekKnot 49 = .ok (.aload_n 1, 1) := by decide +kernel
theorem dX1_seekKnot_50 : decode cX1_seekKnot 50 = .ok (.iload 4, 2) := by decide +kernel
theorem dX1_seekKnot_52 : decode cX1_seekKnot 52 = .ok (.invokevirtual 65, 3) := by decide +kernel
theorem dX1_seekKnot_55 : decode cX1_seekKnot 55 = .ok (.ifCond .ne 6, 3) := by decide +kernel
theorem dX1_seekKnot_58 : decode cX1_seekKnot 58 = .ok (.iload 4, 2) := by decide +kernel
theorem dX1_seekKnot_60 : decode cX1_seekKnot 60 = .ok (.ireturn, 1) := by decide +kernel
theorem dX1_seekKnot_61 : decode cX1_seekKnot 61 = .ok (.iinc 4 1, 3) := by decide +kernel
theorem dX1_seekKnot_64 : decode cX1_seekKnot 64 = .ok (.goto (-34), 3) := by decide +kernel
theorem dX1_seekKnot_67 : decode cX1_seekKnot 67 = .ok (.iinc 3 1, 3) := by decide +kernel
theorem dX1_seekKnot_70 : decode cX1_seekKnot 70 = .ok (.goto (-49), 3) := by decide +kernel
theorem dX1_seekKnot_73 : decode cX1_seekKnot 73 = .ok (.iconst (-1), 1) := by decide +kernel
theorem dX1_seekKnot_74 : decode cX1_seekKnot 74 = .ok (.ireturn, 1) := by decide +kernel
theorem dX1_seekLoose_0 : decode cX1_seekLoose 0 = .ok (.aload_n 0, 1) := by decide +kernel
theorem dX1_seekLoose_1 : decode cX1_seekLoose 1 = .ok (.getfield 47, 3) := by decide +kernel
theorem dX1_seekLoose_4 : decode cX1_seekLoose 4 = .ok (.ifCond .eq 4, 3) := by decide +kernel
theorem dX1_seekLoose_7 : decode cX1_seekLoose 7 = .ok (.return_, 1) := by decide +kernel
theorem dX1_seekLoose_8 : decode cX1_seekLoose 8 = .ok (.aload_n 0, 1) := by decide +kernel
theorem dX1_seekLoose_9 : decode cX1_seekLoose 9 = .ok (.iconst 1, 1) := by decide +kernel
theorem dX1_seekLoose_10 : decode cX1_seekLoose 10 = .ok (.putfield 47, 3) := by decide +kernel
theorem dX1_seekLoose_13 : decode cX1_seekLoose 13 = .ok (.aload_n 0, 1) := by decide +kernel
theorem dX1_seekLoose_14 : decode cX1_seekLoose 14 = .ok (.iconst 0, 1) := by decide +kernel
theorem dX1_seekLoose_15 : decode cX1_seekLoose 15 = .ok (.putfield 75, 3) := by decide +kernel
theorem dX1_seekLoose_18 : decode cX1_seekLoose 18 = .ok (.aload_n 0, 1) := by decide +kernel
theorem dX1_seekLoose_19 : decode cX1_seekLoose 19 = .ok (.getfield 39, 3) := by decide +kernel
theorem dX1_seekLoose_22 : decode cX1_seekLoose 22 = .ok (.aload_n 2, 1) := by decide +kernel
theorem dX1_seekLoose_23 : decode cX1_seekLoose 23 = .ok (.aload_n 2, 1) := by decide +kernel
theorem dX1_seekLoose_24 : decode cX1_seekLoose 24 = .ok (.invokevirtual 61, 3) := by decide +kernel
theorem dX1_seekLoose_27 : decode cX1_seekLoose 27 = .ok (.invokevirtual 65, 3) := by decide +kernel
theorem dX1_seekLoose_30 : decode cX1_seekLoose 30 = .ok (.ifCond .eq 4, 3) := by decide +kernel
theorem dX1_seekLoose_33 : decode cX1_seekLoose 33 = .ok (.return_, 1) := by decide +kernel
theorem dX1_seekLoose_34 : decode cX1_seekLoose 34 = .ok (.iconst 0, 1) := by decide +kernel
theorem dX1_seekLoose_35 : decode cX1_seekLoose 35 = .ok (.istore_n 3, 1) := by decide +kernel
theorem dX1_seekLoose_36 : decode cX1_seekLoose 36 = .ok (.iload_n 3, 1) := by decide +kernel
theorem dX1_seekLoose_37 : decode cX1_seekLoose 37 = .ok (.aload_n 1, 1) := by decide +kernel
theorem dX1_seekLoose_38 : decode cX1_seekLoose 38 = .ok (.getfield 78, 3) := by decide +kernel
theorem dX1_seekLoose_41 : decode cX1_seekLoose 41 = .ok (.getfield 83, 3) := by decide +kernel
theorem dX1_seekLoose_44 : decode cX1_seekLoose 44 = .ok (.if_icmp .ge 51, 3) := by decide +kernel
theorem dX1_seekLoose_47 : decode cX1_seekLoose 47 = .ok (.aload_n 0, 1) := by decide +kernel
theorem dX1_seekLoose_48 : decode cX1_seekLoose 48 = .ok (.getfield 75, 3) := by decide +kernel
theorem dX1_seekLoose_51 : decode cX1_seekLoose 51 = .ok (.bipush 56, 2) := by decide +kernel
theorem dX1_seekLoose_53 : decode cX1_seekLoose 53 = .ok (.if_icmp .ge 42, 3) := by decide +kernel
theorem dX1_seekLoose_56 : decode cX1_seekLoose 56 = .ok (.aload_n 0, 1) := by decide +kernel
theorem dX1_seekLoose_57 : decode cX1_seekLoose 57 = .ok (.aload_n 1, 1) := by decide +kernel
theorem dX1_seekLoose_58 : decode cX1_seekLoose 58 = .ok (.aload_n 2, 1) := by decide +kernel
theorem dX1_seekLoose_59 : decode cX1_seekLoose 59 = .ok (.iload_n 3, 1) := by decide +kernel
theorem dX1_seekLoose_60 : decode cX1_seekLoose 60 = .ok (.invokevirtual 86, 3) := by decide +kernel
theorem dX1_seekLoose_63 : decode cX1_seekLoose 63 = .ok (.ifCond .ne 6, 3) := by decide +kernel
theorem dX1_seekLoose_66 : decode cX1_seekLoose 66 = .ok (.goto 23, 3) := by decide +kernel
theorem dX1_seekLoose_69 : decode cX1_seekLoose 69 = .ok (.aload_n 0, 1) := by decide +kernel
theorem dX1_seekLoose_70 : decode cX1_seekLoose 70 = .ok (.getfield 9, 3) := by decide +kernel
theorem dX1_seekLoose_73 : decode cX1_seekLoose 73 = .ok (.aload_n 0, 1) := by decide +kernel
theorem dX1_seekLoose_74 : decode cX1_seekLoose 74 = .ok (.getfield 75, 3) := by decide +kernel
theorem dX1_seekLoose_77 : decode cX1_seekLoose 77 = .ok (.iload_n 3, 1) := by decide +kernel
theorem dX1_seekLoose_78 : decode cX1_seekLoose 78 = .ok (.iastore, 1) := by decide +kernel
theorem dX1_seekLoose_79 : decode cX1_seekLoose 79 = .ok (.aload_n 0, 1) := by decide +kernel
theorem dX1_seekLoose_80 : decode cX1_seekLoose 80 = .ok (.dup, 1) := by decide +kernel
theorem dX1_seekLoose_81 : decode cX1_seekLoose 81 = .ok (.getfield 75, 3) := by decide +kernel
theorem dX1_seekLoose_84 : decode cX1_seekLoose 84 = .ok (.iconst 1, 1) := by decide +kernel
theorem dX1_seekLoose_85 : decode cX1_seekLoose 85 = .ok (.iadd, 1) := by decide +kernel
theorem dX1_seekLoose_86 : decode cX1_seekLoose 86 = .ok (.putfield 75, 3) := by decide +kernel
theorem dX1_seekLoose_89 : decode cX1_seekLoose 89 = .ok (.iinc 3 1, 3) := by decide +kernel
theorem dX1_seekLoose_92 : decode cX1_seekLoose 92 = .ok (.goto (-56), 3) := by decide +kernel
theorem dX1_seekLoose_95 : decode cX1_seekLoose 95 = .ok (.return_, 1) := by decide +kernel
theorem dX1_isLoose_0 : decode cX1_isLoose 0 = .ok (.aload_n 1, 1) := by decide +kernel
theorem dX1_isLoose_1 : decode cX1_isLoose 1 = .ok (.getfield 78, 3) := by decide +kernel
theorem dX1_isLoose_4 : decode cX1_isLoose 4 = .ok (.iload_n 3, 1) := by decide +kernel
theorem dX1_isLoose_5 : decode cX1_isLoose 5 = .ok (.invokevirtual 90, 3) := by decide +kernel
theorem dX1_isLoose_8 : decode cX1_isLoose 8 = .ok (.istore 4, 2) := by decide +kernel
theorem dX1_isLoose_10 : decode cX1_isLoose 10 = .ok (.aload_n 1, 1) := by decide +kernel
theorem dX1_isLoose_11 : decode cX1_isLoose 11 = .ok (.getfield 78, 3) := by decide +kernel
theorem dX1_isLoose_14 : decode cX1_isLoose 14 = .ok (.iload_n 3, 1) := by decide +kernel
theorem dX1_isLoose_15 : decode cX1_isLoose 15 = .ok (.invokevirtual 93, 3) := by decide +kernel
theorem dX1_isLoose_18 : decode cX1_isLoose 18 = .ok (.istore 5, 2) := by decide +kernel
theorem dX1_isLoose_20 : decode cX1_isLoose 20 = .ok (.aload_n 0, 1) := by decide +kernel
theorem dX1_isLoose_21 : decode cX1_isLoose 21 = .ok (.getfield 18, 3) := by decide +kernel
theorem dX1_isLoose_24 : decode cX1_isLoose 24 = .ok (.aload_n 1, 1) := by decide +kernel
theorem dX1_isLoose_25 : decode cX1_isLoose 25 = .ok (.getfield 78, 3) := by decide +kernel
theorem dX1_isLoose_28 : decode cX1_isLoose 28 = .ok (.invokevirtual 96, 3) := by decide +kernel
theorem dX1_isLoose_31 : decode cX1_isLoose 31 = .ok (.aload_n 0, 1) := by decide +kernel
theorem dX1_isLoose_32 : decode cX1_isLoose 32 = .ok (.getfield 18, 3) := by decide +kernel
theorem dX1_isLoose_35 : decode cX1_isLoose 35 = .ok (.iload 4, 2) := by decide +kernel
theorem dX1_isLoose_37 : decode cX1_isLoose 37 = .ok (.iload 5, 2) := by decide +kernel
theorem dX1_isLoose_39 : decode cX1_isLoose 39 = .ok (.invokevirtual 100, 3) := by decide +kernel
theorem dX1_isLoose_42 : decode cX1_isLoose 42 = .ok (.aload_n 0, 1) := by decide +kernel
theorem dX1_isLoose_43 : decode cX1_isLoose 43 = .ok (.getfield 25, 3) := by decide +kernel
theorem dX1_isLoose_46 : decode cX1_isLoose 46 = .ok (.aload_n 2, 1) := by decide +kernel
theorem dX1_isLoose_47 : decode cX1_isLoose 47 = .ok (.invokevirtual 104, 3) := by decide +kernel
theorem dX1_isLoose_50 : decode cX1_isLoose 50 = .ok (.aload_n 0, 1) := by decide +kernel
theorem dX1_isLoose_51 : decode cX1_isLoose 51 = .ok (.getfield 25, 3) := by decide +kernel
theorem dX1_isLoose_54 : decode cX1_isLoose 54 = .ok (.aload_n 1, 1) := by decide +kernel
theorem dX1_isLoose_55 : decode cX1_isLoose 55 = .ok (.aload_n 0, 1) := by decide +kernel
theorem dX1_isLoose_56 : decode cX1_isLoose 56 = .ok (.getfield 18, 3) := by decide +kernel
theorem dX1_isLoose_59 : decode cX1_isLoose 59 = .ok (.iload 4, 2) := by decide +kernel
theorem dX1_isLoose_61 : decode cX1_isLoose 61 = .ok (.iload 5, 2) := by decide +kernel
theorem dX1_isLoose_63 : decode cX1_isLoose 63 = .ok (.invokevirtual 107, 3) := by decide +kernel
theorem dX1_isLoose_66 : decode cX1_isLoose 66 = .ok (.aload_n 0, 1) := by decide +kernel
theorem dX1_isLoose_67 : decode cX1_isLoose 67 = .ok (.getfield 39, 3) := by decide +kernel
theorem dX1_isLoose_70 : decode cX1_isLoose 70 = .ok (.aload_n 0, 1) := by decide +kernel
theorem dX1_isLoose_71 : decode cX1_isLoose 71 = .ok (.getfield 25, 3) := by decide +kernel
theorem dX1_isLoose_74 : decode cX1_isLoose 74 = .ok (.aload_n 0, 1) := by decide +kernel
theorem dX1_isLoose_75 : decode cX1_isLoose 75 = .ok (.getfield 25, 3) := by decide +kernel
theorem dX1_isLoose_78 : decode cX1_isLoose 78 = .ok (.invokevirtual 61, 3) := by decide +kernel
theorem dX1_isLoose_81 : decode cX1_isLoose 81 = .ok (.invokevirtual 65, 3) := by decide +kernel
theorem dX1_isLoose_84 : decode cX1_isLoose 84 = .ok (.ireturn, 1) := by decide +kernel
theorem dX1_looseNumber_0 : decode cX1_looseNumber 0 = .ok (.iload_n 1, 1) := by decide +kernel
theorem dX1_looseNumber_1 : decode cX1_looseNumber 1 = .ok (.ifCond .lt 26, 3) := by decide +kernel
theorem dX1_looseNumber_4 : decode cX1_looseNumber 4 = .ok (.iload_n 1, 1) := by decide +kernel
theorem dX1_looseNumber_5 : decode cX1_looseNumber 5 = .ok (.aload_n 0, 1) := by decide +kernel
theorem dX1_looseNumber_6 : decode cX1_looseNumber 6 = .ok (.getfield 75, 3) := by decide +kernel
theorem dX1_looseNumber_9 : decode cX1_looseNumber 9 = .ok (.if_icmp .ge 18, 3) := by decide +kernel
theorem dX1_looseNumber_12 : decode cX1_looseNumber 12 = .ok (.iload_n 1, 1) := by decide +kernel
theorem dX1_looseNumber_13 : decode cX1_looseNumber 13 = .ok (.bipush 56, 2) := by decide +kernel
theorem dX1_looseNumber_15 : decode cX1_looseNumber 15 = .ok (.if_icmp .ge 12, 3) := by decide +kernel
theorem dX1_looseNumber_18 : decode cX1_looseNumber 18 = .ok (.aload_n 0, 1) := by decide +kernel
theorem dX1_looseNumber_19 : decode cX1_looseNumber 19 = .ok (.getfield 9, 3) := by decide +kernel
theorem dX1_looseNumber_22 : decode cX1_looseNumber 22 = .ok (.iload_n 1, 1) := by decide +kernel
theorem dX1_looseNumber_23 : decode cX1_looseNumber 23 = .ok (.iaload, 1) := by decide +kernel
theorem dX1_looseNumber_24 : decode cX1_looseNumber 24 = .ok (.goto 4, 3) := by decide +kernel
theorem dX1_looseNumber_27 : decode cX1_looseNumber 27 = .ok (.iconst (-1), 1) := by decide +kernel
theorem dX1_looseNumber_28 : decode cX1_looseNumber 28 = .ok (.ireturn, 1) := by decide +kernel
theorem dX1_ordersWithPiece_0 : decode cX1_ordersWithPiece 0 = .ok (.aload_n 0, 1) := by decide +kernel
theorem dX1_ordersWithPiece_1 : decode cX1_ordersWithPiece 1 = .ok (.getfield 18, 3) := by decide +kernel
theorem dX1_ordersWithPiece_4 : decode cX1_ordersWithPiece 4 = .ok (.aload_n 1, 1) := by decide +kernel
theorem dX1_ordersWithPiece_5 : decode cX1_ordersWithPiece 5 = .ok (.getfield 78, 3) := by decide +kernel
theorem dX1_ordersWithPiece_8 : decode cX1_ordersWithPiece 8 = .ok (.invokevirtual 96, 3) := by decide +kernel
theorem dX1_ordersWithPiece_11 : decode cX1_ordersWithPiece 11 = .ok (.aload_n 0, 1) := by decide +kernel
theorem dX1_ordersWithPiece_12 : decode cX1_ordersWithPiece 12 = .ok (.getfield 18, 3) := by decide +kernel
theorem dX1_ordersWithPiece_15 : decode cX1_ordersWithPiece 15 = .ok (.iload_n 3, 1) := by decide +kernel
theorem dX1_ordersWithPiece_16 : decode cX1_ordersWithPiece 16 = .ok (.iload 4, 2) := by decide +kernel
theorem dX1_ordersWithPiece_18 : decode cX1_ordersWithPiece 18 = .ok (.iload 5, 2) := by decide +kernel
theorem dX1_ordersWithPiece_20 : decode cX1_ordersWithPiece 20 = .ok (.iconst 0, 1) := by decide +kernel
theorem dX1_ordersWithPiece_21 : decode cX1_ordersWithPiece 21 = .ok (.invokevirtual 111, 3) := by decide +kernel
theorem dX1_ordersWithPiece_24 : decode cX1_ordersWithPiece 24 = .ok (.aload_n 0, 1) := by decide +kernel
theorem dX1_ordersWithPiece_25 : decode cX1_ordersWithPiece 25 = .ok (.getfield 25, 3) := by decide +kernel
theorem dX1_ordersWithPiece_28 : decode cX1_ordersWithPiece 28 = .ok (.aload_n 2, 1) := by decide +kernel
theorem dX1_ordersWithPiece_29 : decode cX1_ordersWithPiece 29 = .ok (.invokevirtual 104, 3) := by decide +kernel
theorem dX1_ordersWithPiece_32 : decode cX1_ordersWithPiece 32 = .ok (.aload_n 0, 1) := by decide +kernel
theorem dX1_ordersWithPiece_33 : decode cX1_ordersWithPiece 33 = .ok (.getfield 25, 3) := by decide +kernel
theorem dX1_ordersWithPiece_36 : decode cX1_ordersWithPiece 36 = .ok (.aload_n 1, 1) := by decide +kernel
theorem dX1_ordersWithPiece_37 : decode cX1_ordersWithPiece 37 = .ok (.aload_n 0, 1) := by decide +kernel
theorem dX1_ordersWithPiece_38 : decode cX1_ordersWithPiece 38 = .ok (.getfield 18, 3) := by decide +kernel
theorem dX1_ordersWithPiece_41 : decode cX1_ordersWithPiece 41 = .ok (.iload_n 3, 1) := by decide +kernel
theorem dX1_ordersWithPiece_42 : decode cX1_ordersWithPiece 42 = .ok (.iload 4, 2) := by decide +kernel
theorem dX1_ordersWithPiece_44 : decode cX1_ordersWithPiece 44 = .ok (.invokevirtual 107, 3) := by decide +kernel
theorem dX1_ordersWithPiece_47 : decode cX1_ordersWithPiece 47 = .ok (.aload_n 0, 1) := by decide +kernel
theorem dX1_ordersWithPiece_48 : decode cX1_ordersWithPiece 48 = .ok (.getfield 32, 3) := by decide +kernel
theorem dX1_ordersWithPiece_51 : decode cX1_ordersWithPiece 51 = .ok (.aload_n 0, 1) := by decide +kernel
theorem dX1_ordersWithPiece_52 : decode cX1_ordersWithPiece 52 = .ok (.getfield 25, 3) := by decide +kernel
theorem dX1_ordersWithPiece_55 : decode cX1_ordersWithPiece 55 = .ok (.invokevirtual 115, 3) := by decide +kernel
theorem dX1_ordersWithPiece_58 : decode cX1_ordersWithPiece 58 = .ok (.aload_n 0, 1) := by decide +kernel
theorem dX1_ordersWithPiece_59 : decode cX1_ordersWithPiece 59 = .ok (.getfield 32, 3) := by decide +kernel
theorem dX1_ordersWithPiece_62 : decode cX1_ordersWithPiece 62 = .ok (.getfield 118, 3) := by decide +kernel
theorem dX1_ordersWithPiece_65 : decode cX1_ordersWithPiece 65 = .ok (.ireturn, 1) := by decide +kernel
theorem dX1_ordersWithAhead_0 : decode cX1_ordersWithAhead 0 = .ok (.aload_n 0, 1) := by decide +kernel
theorem dX1_ordersWithAhead_1 : decode cX1_ordersWithAhead 1 = .ok (.getfield 25, 3) := by decide +kernel
theorem dX1_ordersWithAhead_4 : decode cX1_ordersWithAhead 4 = .ok (.aload_n 1, 1) := by decide +kernel
theorem dX1_ordersWithAhead_5 : decode cX1_ordersWithAhead 5 = .ok (.invokevirtual 104, 3) := by decide +kernel
theorem dX1_ordersWithAhead_8 : decode cX1_ordersWithAhead 8 = .ok (.aload_n 0, 1) := by decide +kernel
theorem dX1_ordersWithAhead_9 : decode cX1_ordersWithAhead 9 = .ok (.getfield 25, 3) := by decide +kernel
theorem dX1_ordersWithAhead_12 : decode cX1_ordersWithAhead 12 = .ok (.iconst 1, 1) := by decide +kernel
theorem dX1_ordersWithAhead_13 : decode cX1_ordersWithAhead 13 = .ok (.iload_n 2, 1) := by decide +kernel
theorem dX1_ordersWithAhead_14 : decode cX1_ordersWithAhead 14 = .ok (.ishl, 1) := by decide +kernel
theorem dX1_ordersWithAhead_15 : decode cX1_ordersWithAhead 15 = .ok (.iconst 1, 1) := by decide +kernel
theorem dX1_ordersWithAhead_16 : decode cX1_ordersWithAhead 16 = .ok (.iload_n 3, 1) := by decide +kernel
theorem dX1_ordersWithAhead_17 : decode cX1_ordersWithAhead 17 = .ok (.ishl, 1) := by decide +kernel
theorem dX1_ordersWithAhead_18 : decode cX1_ordersWithAhead 18 = .ok (.invokevirtual 121, 3) := by decide +kernel
theorem dX1_ordersWithAhead_21 : decode cX1_ordersWithAhead 21 = .ok (.aload_n 0, 1) := by decide +kernel
theorem dX1_ordersWithAhead_22 : decode cX1_ordersWithAhead 22 = .ok (.getfield 32, 3) := by decide +kernel
theorem dX1_ordersWithAhead_25 : decode cX1_ordersWithAhead 25 = .ok (.aload_n 0, 1) := by decide +kernel
theorem dX1_ordersWithAhead_26 : decode cX1_ordersWithAhead 26 = .ok (.getfield 25, 3) := by decide +kernel
theorem dX1_ordersWithAhead_29 : decode cX1_ordersWithAhead 29 = .ok (.invokevirtual 115, 3) := by decide +kernel
theorem dX1_ordersWithAhead_32 : decode cX1_ordersWithAhead 32 = .ok (.aload_n 0, 1) := by decide +kernel
theorem dX1_ordersWithAhead_33 : decode cX1_ordersWithAhead 33 = .ok (.getfield 32, 3) := by decide +kernel
theorem dX1_ordersWithAhead_36 : decode cX1_ordersWithAhead 36 = .ok (.getfield 118, 3) := by decide +kernel
theorem dX1_ordersWithAhead_39 : decode cX1_ordersWithAhead 39 = .ok (.ireturn, 1) := by decide +kernel
theorem dX1_seekAsk_0 : decode cX1_seekAsk 0 = .ok (.aload_n 0, 1) := by decide +kernel
theorem dX1_seekAsk_1 : decode cX1_seekAsk 1 = .ok (.getfield 50, 3) := by decide +kernel
theorem dX1_seekAsk_4 : decode cX1_seekAsk 4 = .ok (.ifCond .eq 4, 3) := by decide +kernel
theorem dX1_seekAsk_7 : decode cX1_seekAsk 7 = .ok (.return_, 1) := by decide +kernel
theorem dX1_seekAsk_8 : decode cX1_seekAsk 8 = .ok (.aload_n 0, 1) := by decide +kernel
theorem dX1_seekAsk_9 : decode cX1_seekAsk 9 = .ok (.iconst 1, 1) := by decide +kernel
theorem dX1_seekAsk_10 : decode cX1_seekAsk 10 = .ok (.putfield 50, 3) := by decide +kernel
theorem dX1_seekAsk_13 : decode cX1_seekAsk 13 = .ok (.aload_n 0, 1) := by decide +kernel
theorem dX1_seekAsk_14 : decode cX1_seekAsk 14 = .ok (.iconst (-1), 1) := by decide +kernel
theorem dX1_seekAsk_15 : decode cX1_seekAsk 15 = .ok (.putfield 124, 3) := by decide +kernel
theorem dX1_seekAsk_18 : decode cX1_seekAsk 18 = .ok (.aload_n 0, 1) := by decide +kernel
theorem dX1_seekAsk_19 : decode cX1_seekAsk 19 = .ok (.iconst (-1), 1) := by decide +kernel
theorem dX1_seekAsk_20 : decode cX1_seekAsk 20 = .ok (.putfield 127, 3) := by decide +kernel
theorem dX1_seekAsk_23 : decode cX1_seekAsk 23 = .ok (.iload_n 3, 1) := by decide +kernel
theorem dX1_seekAsk_24 : decode cX1_seekAsk 24 = .ok (.istore 4, 2) := by decide +kernel
theorem dX1_seekAsk_26 : decode cX1_seekAsk 26 = .ok (.iconst 0, 1) := by decide +kernel
theorem dX1_seekAsk_27 : decode cX1_seekAsk 27 = .ok (.istore 5, 2) := by decide +kernel
theorem dX1_seekAsk_29 : decode cX1_seekAsk 29 = .ok (.iload 5, 2) := by decide +kernel
theorem dX1_seekAsk_31 : decode cX1_seekAsk 31 = .ok (.aload_n 1, 1) := by decide +kernel
theorem dX1_seekAsk_32 : decode cX1_seekAsk 32 = .ok (.getfield 130, 3) := by decide +kernel
theorem dX1_seekAsk_35 : decode cX1_seekAsk 35 = .ok (.if_icmp .ge 120, 3) := by decide +kernel
theorem dX1_seekAsk_38 : decode cX1_seekAsk 38 = .ok (.iconst 0, 1) := by decide +kernel
theorem dX1_seekAsk_39 : decode cX1_seekAsk 39 = .ok (.istore 6, 2) := by decide +kernel
theorem dX1_seekAsk_41 : decode cX1_seekAsk 41 = .ok (.iload 6, 2) := by decide +kernel
theorem dX1_seekAsk_43 : decode cX1_seekAsk 43 = .ok (.aload_n 1, 1) := by decide +kernel
theorem dX1_seekAsk_44 : decode cX1_seekAsk 44 = .ok (.getfield 133, 3) := by decide +kernel
theorem dX1_seekAsk_47 : decode cX1_seekAsk 47 = .ok (.if_icmp .ge 102, 3) := by decide +kernel
theorem dX1_seekAsk_50 : decode cX1_seekAsk 50 = .ok (.aload_n 1, 1) := by decide +kernel
theorem dX1_seekAsk_51 : decode cX1_seekAsk 51 = .ok (.iload 5, 2) := by decide +kernel
theorem dX1_seekAsk_53 : decode cX1_seekAsk 53 = .ok (.iload 6, 2) := by decide +kernel
theorem dX1_seekAsk_55 : decode cX1_seekAsk 55 = .ok (.invokestatic 136, 3) := by decide +kernel
theorem dX1_seekAsk_58 : decode cX1_seekAsk 58 = .ok (.ifCond .ne 6, 3) := by decide +kernel
theorem dX1_seekAsk_61 : decode cX1_seekAsk 61 = .ok (.goto 82, 3) := by decide +kernel
theorem dX1_seekAsk_64 : decode cX1_seekAsk 64 = .ok (.iconst 2, 1) := by decide +kernel
theorem dX1_seekAsk_65 : decode cX1_seekAsk 65 = .ok (.iload 6, 2) := by decide +kernel
theorem dX1_seekAsk_67 : decode cX1_seekAsk 67 = .ok (.iadd, 1) := by decide +kernel
theorem dX1_seekAsk_68 : decode cX1_seekAsk 68 = .ok (.istore 7, 2) := by decide +kernel
theorem dX1_seekAsk_70 : decode cX1_seekAsk 70 = .ok (.aload_n 0, 1) := by decide +kernel
theorem dX1_seekAsk_71 : decode cX1_seekAsk 71 = .ok (.aload_n 1, 1) := by decide +kernel
theorem dX1_seekAsk_72 : decode cX1_seekAsk 72 = .ok (.aload_n 2, 1) := by decide +kernel
theorem dX1_seekAsk_73 : decode cX1_seekAsk 73 = .ok (.iload 5, 2) := by decide +kernel
theorem dX1_seekAsk_75 : decode cX1_seekAsk 75 = .ok (.iload 7, 2) := by decide +kernel
theorem dX1_seekAsk_77 : decode cX1_seekAsk 77 = .ok (.iconst 0, 1) := by decide +kernel
theorem dX1_seekAsk_78 : decode cX1_seekAsk 78 = .ok (.invokevirtual 140, 3) := by decide +kernel
theorem dX1_seekAsk_81 : decode cX1_seekAsk 81 = .ok (.istore 8, 2) := by decide +kernel
theorem dX1_seekAsk_83 : decode cX1_seekAsk 83 = .ok (.iload 8, 2) := by decide +kernel
theorem dX1_seekAsk_85 : decode cX1_seekAsk 85 = .ok (.iload 4, 2) := by decide +kernel
theorem dX1_seekAsk_87 : decode cX1_seekAsk 87 = .ok (.if_icmp .lt 6, 3) := by decide +kernel
theorem dX1_seekAsk_90 : decode cX1_seekAsk 90 = .ok (.goto 53, 3) := by decide +kernel
theorem dX1_seekAsk_93 : decode cX1_seekAsk 93 = .ok (.iload 8, 2) := by decide +kernel
theorem dX1_seekAsk_95 : decode cX1_seekAsk 95 = .ok (.aload_n 0, 1) := by decide +kernel
theorem dX1_seekAsk_96 : decode cX1_seekAsk 96 = .ok (.aload_n 1, 1) := by decide +kernel
theorem dX1_seekAsk_97 : decode cX1_seekAsk 97 = .ok (.aload_n 2, 1) := by decide +kernel
theorem dX1_seekAsk_98 : decode cX1_seekAsk 98 = .ok (.iload 5, 2) := by decide +kernel
theorem dX1_seekAsk_100 : decode cX1_seekAsk 100 = .ok (.iload 7, 2) := by decide +kernel
theorem dX1_seekAsk_102 : decode cX1_seekAsk 102 = .ok (.iconst 1, 1) := by decide +kernel
theorem dX1_seekAsk_103 : decode cX1_seekAsk 103 = .ok (.invokevirtual 140, 3) := by decide +kernel
theorem dX1_seekAsk_106 : decode cX1_seekAsk 106 = .ok (.invokestatic 144, 3) := by decide +kernel
theorem dX1_seekAsk_109 : decode cX1_seekAsk 109 = .ok (.istore 8, 2) := by decide +kernel
theorem dX1_seekAsk_111 : decode cX1_seekAsk 111 = .ok (.iload 8, 2) := by decide +kernel
theorem dX1_seekAsk_113 : decode cX1_seekAsk 113 = .ok (.iload 4, 2) := by decide +kernel
theorem dX1_seekAsk_115 : decode cX1_seekAsk 115 = .ok (.if_icmp .lt 6, 3) := by decide +kernel
theorem dX1_seekAsk_118 : decode cX1_seekAsk 118 = .ok (.goto 25, 3) := by decide +kernel
theorem dX1_seekAsk_121 : decode cX1_seekAsk 121 = .ok (.iload 8, 2) := by decide +kernel
theorem dX1_seekAsk_123 : decode cX1_seekAsk 123 = .ok (.istore 4, 2) := by decide +kernel
theorem dX1_seekAsk_125 : decode cX1_seekAsk 125 = .ok (.aload_n 0, 1) := by decide +kernel
theorem dX1_seekAsk_126 : decode cX1_seekAsk 126 = .ok (.iload 8, 2) := by decide +kernel
theorem dX1_seekAsk_128 : decode cX1_seekAsk 128 = .ok (.putfield 127, 3) := by decide +kernel
theorem dX1_seekAsk_131 : decode cX1_seekAsk 131 = .ok (.aload_n 0, 1) := by decide +kernel
theorem dX1_seekAsk_132 : decode cX1_seekAsk 132 = .ok (.bipush 10, 2) := by decide +kernel
theorem dX1_seekAsk_134 : decode cX1_seekAsk 134 = .ok (.iload 5, 2) := by decide +kernel
theorem dX1_seekAsk_136 : decode cX1_seekAsk 136 = .ok (.imul, 1) := by decide +kernel
theorem dX1_seekAsk_137 : decode cX1_seekAsk 137 = .ok (.iload 7, 2) := by decide +kernel
theorem dX1_seekAsk_139 : decode cX1_seekAsk 139 = .ok (.iadd, 1) := by decide +kernel
theorem dX1_seekAsk_140 : decode cX1_seekAsk 140 = .ok (.putfield 124, 3) := by decide +kernel
theorem dX1_seekAsk_143 : decode cX1_seekAsk 143 = .ok (.iinc 6 1, 3) := by decide +kernel
theorem dX1_seekAsk_146 : decode cX1_seekAsk 146 = .ok (.goto (-105), 3) := by decide +kernel
theorem dX1_seekAsk_149 : decode cX1_seekAsk 149 = .ok (.iinc 5 1, 3) := by decide +kernel
theorem dX1_seekAsk_152 : decode cX1_seekAsk 152 = .ok (.goto (-123), 3) := by decide +kernel
theorem dX1_seekAsk_155 : decode cX1_seekAsk 155 = .ok (.return_, 1) := by decide +kernel
theorem dX1_canNarrow_0 : decode cX1_canNarrow 0 = .ok (.aload_n 0, 1) := by decide +kernel
theorem dX1_canNarrow_1 : decode cX1_canNarrow 1 = .ok (.iload_n 2, 1) := by decide +kernel
theorem dX1_canNarrow_2 : decode cX1_canNarrow 2 = .ok (.invokevirtual 150, 3) := by decide +kernel
theorem dX1_canNarrow_5 : decode cX1_canNarrow 5 = .ok (.iconst 3, 1) := by decide +kernel
theorem dX1_canNarrow_6 : decode cX1_canNarrow 6 = .ok (.if_icmp .ne 5, 3) := by decide +kernel
theorem dX1_canNarrow_9 : decode cX1_canNarrow 9 = .ok (.iconst 0, 1) := by decide +kernel
theorem dX1_canNarrow_10 : decode cX1_canNarrow 10 = .ok (.ireturn, 1) := by decide +kernel
theorem dX1_canNarrow_11 : decode cX1_canNarrow 11 = .ok (.aload_n 0, 1) := by decide +kernel
theorem dX1_canNarrow_12 : decode cX1_canNarrow 12 = .ok (.iload_n 2, 1) := by decide +kernel
theorem dX1_canNarrow_13 : decode cX1_canNarrow 13 = .ok (.iconst 0, 1) := by decide +kernel
theorem dX1_canNarrow_14 : decode cX1_canNarrow 14 = .ok (.invokevirtual 153, 3) := by decide +kernel
theorem dX1_canNarrow_17 : decode cX1_canNarrow 17 = .ok (.istore_n 3, 1) := by decide +kernel
theorem dX1_canNarrow_18 : decode cX1_canNarrow 18 = .ok (.aload_n 0, 1) := by decide +kernel
theorem dX1_canNarrow_19 : decode cX1_canNarrow 19 = .ok (.iload_n 2, 1) := by decide +kernel
theorem dX1_canNarrow_20 : decode cX1_canNarrow 20 = .ok (.iconst 1, 1) := by decide +kernel
theorem dX1_canNarrow_21 : decode cX1_canNarrow 21 = .ok (.invokevirtual 153, 3) := by decide +kernel
theorem dX1_canNarrow_24 : decode cX1_canNarrow 24 = .ok (.istore 4, 2) := by decide +kernel
theorem dX1_canNarrow_26 : decode cX1_canNarrow 26 = .ok (.iload_n 3, 1) := by decide +kernel
theorem dX1_canNarrow_27 : decode cX1_canNarrow 27 = .ok (.iload_n 1, 1) := by decide +kernel
theorem dX1_canNarrow_28 : decode cX1_canNarrow 28 = .ok (.invokestatic 156, 3) := by decide +kernel
theorem dX1_canNarrow_31 : decode cX1_canNarrow 31 = .ok (.ifCond .ne 18, 3) := by decide +kernel
theorem dX1_canNarrow_34 : decode cX1_canNarrow 34 = .ok (.iload 4, 2) := by decide +kernel
theorem dX1_canNarrow_36 : decode cX1_canNarrow 36 = .ok (.ifCond .eq 13, 3) := by decide +kernel
theorem dX1_canNarrow_39 : decode cX1_canNarrow 39 = .ok (.iload 4, 2) := by decide +kernel
theorem dX1_canNarrow_41 : decode cX1_canNarrow 41 = .ok (.iload_n 3, 1) := by decide +kernel
theorem dX1_canNarrow_42 : decode cX1_canNarrow 42 = .ok (.if_icmp .eq 7, 3) := by decide +kernel
theorem dX1_canNarrow_45 : decode cX1_canNarrow 45 = .ok (.iconst 1, 1) := by decide +kernel
theorem dX1_canNarrow_46 : decode cX1_canNarrow 46 = .ok (.goto 4, 3) := by decide +kernel
theorem dX1_canNarrow_49 : decode cX1_canNarrow 49 = .ok (.iconst 0, 1) := by decide +kernel
theorem dX1_canNarrow_50 : decode cX1_canNarrow 50 = .ok (.ireturn, 1) := by decide +kernel
theorem dX2_init_0 : decode cX2_init 0 = .ok (.aload_n 0, 1) := by decide +kernel
theorem dX2_init_1 : decode cX2_init 1 = .ok (.invokespecial 3, 3) := by decide +kernel
theorem dX2_init_4 : decode cX2_init 4 = .ok (.aload_n 0, 1) := by decide +kernel
theorem dX2_init_5 : decode cX2_init 5 = .ok (.bipush 8, 2) := by decide +kernel
theorem dX2_init_7 : decode cX2_init 7 = .ok (.anewarray 9, 3) := by decide +kernel
theorem dX2_init_10 : decode cX2_init 10 = .ok (.putfield 11, 3) := by decide +kernel
theorem dX2_init_13 : decode cX2_init 13 = .ok (.aload_n 0, 1) := by decide +kernel
theorem dX2_init_14 : decode cX2_init 14 = .ok (.iconst 2, 1) := by decide +kernel
theorem dX2_init_15 : decode cX2_init 15 = .ok (.anewarray 9, 3) := by decide +kernel
theorem dX2_init_18 : decode cX2_init 18 = .ok (.putfield 17, 3) := by decide +kernel
theorem dX2_init_21 : decode cX2_init 21 = .ok (.iconst 0, 1) := by decide +kernel
theorem dX2_init_22 : decode cX2_init 22 = .ok (.istore_n 1, 1) := by decide +kernel
theorem dX2_init_23 : decode cX2_init 23 = .ok (.iload_n 1, 1) := by decide +kernel
theorem dX2_init_24 : decode cX2_init 24 = .ok (.bipush 8, 2) := by decide +kernel
theorem dX2_init_26 : decode cX2_init 26 = .ok (.if_icmp .ge 22, 3) := by decide +kernel
theorem dX2_init_29 : decode cX2_init 29 = .ok (.aload_n 0, 1) := by decide +kernel
theorem dX2_init_30 : decode cX2_init 30 = .ok (.getfield 11, 3) := by decide +kernel
theorem dX2_init_33 : decode cX2_init 33 = .ok (.iload_n 1, 1) := by decide +kernel
theorem dX2_init_34 : decode cX2_init 34 = .ok (.new 9, 3) := by decide +kernel
theorem dX2_init_37 : decode cX2_init 37 = .ok (.dup, 1) := by decide +kernel
theorem dX2_init_38 : decode cX2_init 38 = .ok (.invokespecial 20, 3) := by decide +kernel
theorem dX2_init_41 : decode cX2_init 41 = .ok (.aastore, 1) := by decide +kernel
theorem dX2_init_42 : decode cX2_init 42 = .ok (.iinc 1 1, 3) := by decide +kernel
theorem dX2_init_45 : decode cX2_init 45 = .ok (.goto (-22), 3) := by decide +kernel
theorem dX2_init_48 : decode cX2_init 48 = .ok (.iconst 0, 1) := by decide +kernel
theorem dX2_init_49 : decode cX2_init 49 = .ok (.istore_n 1, 1) := by decide +kernel
theorem dX2_init_50 : decode cX2_init 50 = .ok (.iload_n 1, 1) := by decide +kernel
theorem dX2_init_51 : decode cX2_init 51 = .ok (.iconst 2, 1) := by decide +kernel
theorem dX2_init_52 : decode cX2_init 52 = .ok (.if_icmp .ge 22, 3) := by decide +kernel
theorem dX2_init_55 : decode cX2_init 55 = .ok (.aload_n 0, 1) := by decide +kernel
theorem dX2_init_56 : decode cX2_init 56 = .ok (.getfield 17, 3) := by decide +kernel
theorem dX2_init_59 : decode cX2_init 59 = .ok (.iload_n 1, 1) := by decide +kernel
theorem dX2_init_60 : decode cX2_init 60 = .ok (.new 9, 3) := by decide +kernel
theorem dX2_init_63 : decode cX2_init 63 = .ok (.dup, 1) := by decide +kernel
theorem dX2_init_64 : decode cX2_init 64 = .ok (.invokespecial 20, 3) := by decide +kernel
theorem dX2_init_67 : decode cX2_init 67 = .ok (.aastore, 1) := by decide +kernel
theorem dX2_init_68 : decode cX2_init 68 = .ok (.iinc 1 1, 3) := by decide +kernel
theorem dX2_init_71 : decode cX2_init 71 = .ok (.goto (-21), 3) := by decide +kernel
theorem dX2_init_74 : decode cX2_init 74 = .ok (.return_, 1) := by decide +kernel
theorem dX2_clear_0 : decode cX2_clear 0 = .ok (.aload_n 0, 1) := by decide +kernel
theorem dX2_clear_1 : decode cX2_clear 1 = .ok (.iconst 0, 1) := by decide +kernel
theorem dX2_clear_2 : decode cX2_clear 2 = .ok (.putfield 21, 3) := by decide +kernel
theorem dX2_clear_5 : decode cX2_clear 5 = .ok (.aload_n 0, 1) := by decide +kernel
theorem dX2_clear_6 : decode cX2_clear 6 = .ok (.iconst 0, 1) := by decide +kernel
theorem dX2_clear_7 : decode cX2_clear 7 = .ok (.putfield 25, 3) := by decide +kernel
theorem dX2_clear_10 : decode cX2_clear 10 = .ok (.return_, 1) := by decide +kernel
theorem dX2_remember_0 : decode cX2_remember 0 = .ok (.aload_n 0, 1) := by decide +kernel
theorem dX2_remember_1 : decode cX2_remember 1 = .ok (.getfield 21, 3) := by decide +kernel
theorem dX2_remember_4 : decode cX2_remember 4 = .ok (.bipush 8, 2) := by decide +kernel
theorem dX2_remember_6 : decode cX2_remember 6 = .ok (.if_icmp .ne 26, 3) := by decide +kernel
theorem dX2_remember_9 : decode cX2_remember 9 = .ok (.aload_n 0, 1) := by decide +kernel
theorem dX2_remember_10 : decode cX2_remember 10 = .ok (.aload_n 0, 1) := by decide +kernel
theorem dX2_remember_11 : decode cX2_remember 11 = .ok (.getfield 28, 3) := by decide +kernel
theorem dX2_remember_14 : decode cX2_remember 14 = .ok (.iconst 1, 1) := by decide +kernel
theorem dX2_remember_15 : decode cX2_remember 15 = .ok (.iadd, 1) := by decide +kernel
theorem dX2_remember_16 : decode cX2_remember 16 = .ok (.bipush 8, 2) := by decide +kernel
theorem dX2_remember_18 : decode cX2_remember 18 = .ok (.irem, 1) := by decide +kernel
theorem dX2_remember_19 : decode cX2_remember 19 = .ok (.putfield 28, 3) := by decide +kernel
theorem dX2_remember_22 : decode cX2_remember 22 = .ok (.aload_n 0, 1) := by decide +kernel
theorem dX2_remember_23 : decode cX2_remember 23 = .ok (.dup, 1) := by decide +kernel
theorem dX2_remember_24 : decode cX2_remember 24 = .ok (.getfield 21, 3) := by decide +kernel
theorem dX2_remember_27 : decode cX2_remember 27 = .ok (.iconst 1, 1) := by decide +kernel
theorem dX2_remember_28 : decode cX2_remember 28 = .ok (.isub, 1) := by decide +kernel
theorem dX2_remember_29 : decode cX2_remember 29 = .ok (.putfield 21, 3) := by decide +kernel
theorem dX2_remember_32 : decode cX2_remember 32 = .ok (.aload_n 0, 1) := by decide +kernel
theorem dX2_remember_33 : decode cX2_remember 33 = .ok (.aload_n 0, 1) := by decide +kernel
theorem dX2_remember_34 : decode cX2_remember 34 = .ok (.getfield 21, 3) := by decide +kernel
theorem dX2_remember_37 : decode cX2_remember 37 = .ok (.invokevirtual 31, 3) := by decide +kernel
theorem dX2_remember_40 : decode cX2_remember 40 = .ok (.astore_n 2, 1) := by decide +kernel
theorem dX2_remember_41 : decode cX2_remember 41 = .ok (.aload_n 2, 1) := by decide +kernel
theorem dX2_remember_42 : decode cX2_remember 42 = .ok (.ifnull 8, 3) := by decide +kernel
theorem dX2_remember_45 : decode cX2_remember 45 = .ok (.aload_n 2, 1) := by decide +kernel
theorem dX2_remember_46 : decode cX2_remember 46 = .ok (.aload_n 1, 1) := by decide +kernel
theorem dX2_remember_47 : decode cX2_remember 47 = .ok (.invokevirtual 35, 3) := by decide +kernel
theorem dX2_remember_50 : decode cX2_remember 50 = .ok (.aload_n 0, 1) := by decide +kernel
theorem dX2_remember_51 : decode cX2_remember 51 = .ok (.dup, 1) := by decide +kernel
theorem dX2_remember_52 : decode cX2_remember 52 = .ok (.getfield 21, 3) := by decide +kernel
theorem dX2_remember_55 : decode cX2_remember 55 = .ok (.iconst 1, 1) := by decide +kernel
theorem dX2_remember_56 : decode cX2_remember 56 = .ok (.iadd, 1) := by decide +kernel
theorem dX2_remember_57 : decode cX2_remember 57 = .ok (.putfield 21, 3) := by decide +kernel
theorem dX2_remember_60 : decode cX2_remember 60 = .ok (.return_, 1) := by decide +kernel
theorem dX2_pastAt_0 : decode cX2_pastAt 0 = .ok (.aload_n 0, 1) := by decide +kernel
theorem dX2_pastAt_1 : decode cX2_pastAt 1 = .ok (.getfield 28, 3) := by decide +kernel
theorem dX2_pastAt_4 : decode cX2_pastAt 4 = .ok (.iload_n 1, 1) := by decide +kernel
theorem dX2_pastAt_5 : decode cX2_pastAt 5 = .ok (.iadd, 1) := by decide +kernel
theorem dX2_pastAt_6 : decode cX2_pastAt 6 = .ok (.bipush 8, 2) := by decide +kernel
theorem dX2_pastAt_8 : decode cX2_pastAt 8 = .ok (.invokestatic 39, 3) := by decide +kernel
theorem dX2_pastAt_11 : decode cX2_pastAt 11 = .ok (.istore_n 2, 1) := by decide +kernel
theorem dX2_pastAt_12 : decode cX2_pastAt 12 = .ok (.iload_n 2, 1) := by decide +kernel
theorem dX2_pastAt_13 : decode cX2_pastAt 13 = .ok (.bipush 8, 2) := by decide +kernel
theorem dX2_pastAt_15 : decode cX2_pastAt 15 = .ok (.if_icmp .ge 12, 3) := by decide +kernel
theorem dX2_pastAt_18 : decode cX2_pastAt 18 = .ok (.aload_n 0, 1) := by decide +kernel
theorem dX2_pastAt_19 : decode cX2_pastAt 19 = .ok (.getfield 11, 3) := by decide +kernel
theorem dX2_pastAt_22 : decode cX2_pastAt 22 = .ok (.iload_n 2, 1) := by decide +kernel
theorem dX2_pastAt_23 : decode cX2_pastAt 23 = .ok (.aaload, 1) := by decide +kernel
theorem dX2_pastAt_24 : decode cX2_pastAt 24 = .ok (.goto 4, 3) := by decide +kernel
theorem dX2_pastAt_27 : decode cX2_pastAt 27 = .ok (.aconst_null, 1) := by decide +kernel
theorem dX2_pastAt_28 : decode cX2_pastAt 28 = .ok (.areturn, 1) := by decide +kernel
theorem dX2_restoreLatest_0 : decode cX2_restoreLatest 0 = .ok (.aload_n 0, 1) := by decide +kernel
theorem dX2_restoreLatest_1 : decode cX2_restoreLatest 1 = .ok (.getfield 21, 3) := by decide +kernel
theorem dX2_restoreLatest_4 : decode cX2_restoreLatest 4 = .ok (.ifCond .gt 5, 3) := by decide +kernel
theorem dX2_restoreLatest_7 : decode cX2_restoreLatest 7 = .ok (.iconst 0, 1) := by decide +kernel
theorem dX2_restoreLatest_8 : decode cX2_restoreLatest 8 = .ok (.ireturn, 1) := by decide +kernel
theorem dX2_restoreLatest_9 : decode cX2_restoreLatest 9 = .ok (.aload_n 0, 1) := by decide +kernel
theorem dX2_restoreLatest_10 : decode cX2_restoreLatest 10 = .ok (.dup, 1) := by decide +kernel
theorem dX2_restoreLatest_11 : decode cX2_restoreLatest 11 = .ok (.getfield 21, 3) := by decide +kernel
theorem dX2_restoreLatest_14 : decode cX2_restoreLatest 14 = .ok (.iconst 1, 1) := by decide +kernel
theorem dX2_restoreLatest_15 : decode cX2_restoreLatest 15 = .ok (.isub, 1) := by decide +kernel
theorem dX2_restoreLatest_16 : decode cX2_restoreLatest 16 = .ok (.putfield 21, 3) := by decide +kernel
theorem dX2_restoreLatest_19 : decode cX2_restoreLatest 19 = .ok (.aload_n 0, 1) := by decide +kernel
theorem dX2_restoreLatest_20 : decode cX2_restoreLatest 20 = .ok (.aload_n 0, 1) := by decide +kernel
theorem dX2_restoreLatest_21 : decode cX2_restoreLatest 21 = .ok (.getfield 21, 3) := by decide +kernel
theorem dX2_restoreLatest_24 : decode cX2_restoreLatest 24 = .ok (.invokevirtual 31, 3) := by decide +kernel
theorem dX2_restoreLatest_27 : decode cX2_restoreLatest 27 = .ok (.astore_n 2, 1) := by decide +kernel
theorem dX2_restoreLatest_28 : decode cX2_restoreLatest 28 = .ok (.aload_n 2, 1) := by decide +kernel
theorem dX2_restoreLatest_29 : decode cX2_restoreLatest 29 = .ok (.ifnull 8, 3) := by decide +kernel
theorem dX2_restoreLatest_32 : decode cX2_restoreLatest 32 = .ok (.aload_n 1, 1) := by decide +kernel
theorem dX2_restoreLatest_33 : decode cX2_restoreLatest 33 = .ok (.aload_n 2, 1) := by decide +kernel
theorem dX2_restoreLatest_34 : decode cX2_restoreLatest 34 = .ok (.invokevirtual 35, 3) := by decide +kernel
theorem dX2_restoreLatest_37 : decode cX2_restoreLatest 37 = .ok (.iconst 1, 1) := by decide +kernel
theorem dX2_restoreLatest_38 : decode cX2_restoreLatest 38 = .ok (.ireturn, 1) := by decide +kernel
theorem dX2_store_0 : decode cX2_store 0 = .ok (.iload_n 1, 1) := by decide +kernel
theorem dX2_store_1 : decode cX2_store 1 = .ok (.ifCond .lt 17, 3) := by decide +kernel
theorem dX2_store_4 : decode cX2_store 4 = .ok (.iload_n 1, 1) := by decide +kernel
theorem dX2_store_5 : decode cX2_store 5 = .ok (.iconst 2, 1) := by decide +kernel
theorem dX2_store_6 : decode cX2_store 6 = .ok (.if_icmp .ge 12, 3) := by decide +kernel
theorem dX2_store_9 : decode cX2_store 9 = .ok (.aload_n 0, 1) := by decide +kernel
theorem dX2_store_10 : decode cX2_store 10 = .ok (.getfield 17, 3) := by decide +kernel
theorem dX2_store_13 : decode cX2_store 13 = .ok (.iload_n 1, 1) := by decide +kernel
theorem dX2_store_14 : decode cX2_store 14 = .ok (.aaload, 1) := by decide +kernel
theorem dX2_store_15 : decode cX2_store 15 = .ok (.ifnonnull 4, 3) := by decide +kernel
theorem dX2_store_18 : decode cX2_store 18 = .ok (.return_, 1) := by decide +kernel
theorem dX2_store_19 : decode cX2_store 19 = .ok (.aload_n 0, 1) := by decide +kernel
theorem dX2_store_20 : decode cX2_store 20 = .ok (.getfield 17, 3) := by decide +kernel
theorem dX2_store_23 : decode cX2_store 23 = .ok (.iload_n 1, 1) := by decide +kernel
theorem dX2_store_24 : decode cX2_store 24 = .ok (.aaload, 1) := by decide +kernel
theorem dX2_store_25 : decode cX2_store 25 = .ok (.aload_n 2, 1) := by decide +kernel
theorem dX2_store_26 : decode cX2_store 26 = .ok (.invokevirtual 35, 3) := by decide +kernel
theorem dX2_store_29 : decode cX2_store 29 = .ok (.aload_n 0, 1) := by decide +kernel
theorem dX2_store_30 : decode cX2_store 30 = .ok (.dup, 1) := by decide +kernel
theorem dX2_store_31 : decode cX2_store 31 = .ok (.getfield 25, 3) := by decide +kernel
theorem dX2_store_34 : decode cX2_store 34 = .ok (.iconst 1, 1) := by decide +kernel
theorem dX2_store_35 : decode cX2_store 35 = .ok (.iload_n 1, 1) := by decide +kernel
theorem dX2_store_36 : decode cX2_store 36 = .ok (.ishl, 1) := by decide +kernel
theorem dX2_store_37 : decode cX2_store 37 = .ok (.ior, 1) := by decide +kernel
theorem dX2_store_38 : decode cX2_store 38 = .ok (.putfield 25, 3) := by decide +kernel
theorem dX2_store_41 : decode cX2_store 41 = .ok (.return_, 1) := by decide +kernel
theorem dX2_restoreKept_0 : decode cX2_restoreKept 0 = .ok (.iload_n 1, 1) := by decide +kernel
theorem dX2_restoreKept_1 : decode cX2_restoreKept 1 = .ok (.ifCond .lt 28, 3) := by decide +kernel
theorem dX2_restoreKept_4 : decode cX2_restoreKept 4 = .ok (.iload_n 1, 1) := by decide +kernel
theorem dX2_restoreKept_5 : decode cX2_restoreKept 5 = .ok (.iconst 2, 1) := by decide +kernel
theorem dX2_restoreKept_6 : decode cX2_restoreKept 6 = .ok (.if_icmp .ge 23, 3) := by decide +kernel
theorem dX2_restoreKept_9 : decode cX2_restoreKept 9 = .ok (.aload_n 0, 1) := by decide +kernel
theorem dX2_restoreKept_10 : decode cX2_restoreKept 10 = .ok (.getfield 17, 3) := by decide +kernel
theorem dX2_restoreKept_13 : decode cX2_restoreKept 13 = .ok (.iload_n 1, 1) := by decide +kernel
theorem dX2_restoreKept_14 : decode cX2_restoreKept 14 = .ok (.aaload, 1) := by decide +kernel
theorem dX2_restoreKept_15 : decode cX2_restoreKept 15 = .ok (.ifnull 14, 3) := by decide +kernel
theorem dX2_restoreKept_18 : decode cX2_restoreKept 18 = .ok (.aload_n 0, 1) := by decide +kernel
theorem dX2_restoreKept_19 : decode cX2_restoreKept 19 = .ok (.getfield 25, 3) := by decide +kernel
theorem dX2_restoreKept_22 : decode cX2_restoreKept 22 = .ok (.iload_n 1, 1) := by decide +kernel
theorem dX2_restoreKept_23 : decode cX2_restoreKept 23 = .ok (.invokestatic 45, 3) := by decide +kernel
theorem dX2_restoreKept_26 : decode cX2_restoreKept 26 = .ok (.ifCond .ne 5, 3) := by decide +kernel
theorem dX2_restoreKept_29 : decode cX2_restoreKept 29 = .ok (.iconst 0, 1) := by decide +kernel
theorem dX2_restoreKept_30 : decode cX2_restoreKept 30 = .ok (.ireturn, 1) := by decide +kernel
theorem dX2_restoreKept_31 : decode cX2_restoreKept 31 = .ok (.aload_n 2, 1) := by decide +kernel
theorem dX2_restoreKept_32 : decode cX2_restoreKept 32 = .ok (.aload_n 0, 1) := by decide +kernel
theorem dX2_restoreKept_33 : decode cX2_restoreKept 33 = .ok (.getfield 17, 3) := by decide +kernel
theorem dX2_restoreKept_36 : decode cX2_restoreKept 36 = .ok (.iload_n 1, 1) := by decide +kernel
theorem dX2_restoreKept_37 : decode cX2_restoreKept 37 = .ok (.aaload, 1) := by decide +kernel
theorem dX2_restoreKept_38 : decode cX2_restoreKept 38 = .ok (.invokevirtual 35, 3) := by decide +kernel
theorem dX2_restoreKept_41 : decode cX2_restoreKept 41 = .ok (.aload_n 0, 1) := by decide +kernel
theorem dX2_restoreKept_42 : decode cX2_restoreKept 42 = .ok (.iconst 0, 1) := by decide +kernel
theorem dX2_restoreKept_43 : decode cX2_restoreKept 43 = .ok (.putfield 21, 3) := by decide +kernel
theorem dX2_restoreKept_46 : decode cX2_restoreKept 46 = .ok (.iconst 1, 1) := by decide +kernel
theorem dX2_restoreKept_47 : decode cX2_restoreKept 47 = .ok (.ireturn, 1) := by decide +kernel
theorem dX3_init_0 : decode cX3_init 0 = .ok (.aload_n 0, 1) := by decide +kernel
theorem dX3_init_1 : decode cX3_init 1 = .ok (.invokespecial 3, 3) := by decide +kernel
theorem dX3_init_4 : decode cX3_init 4 = .ok (.aload_n 0, 1) := by decide +kernel
theorem dX3_init_5 : decode cX3_init 5 = .ok (.sipush 128, 3) := by decide +kernel
theorem dX3_init_8 : decode cX3_init 8 = .ok (.newarray .int, 2) := by decide +kernel
theorem dX3_init_10 : decode cX3_init 10 = .ok (.putfield 9, 3) := by decide +kernel
theorem dX3_init_13 : decode cX3_init 13 = .ok (.aload_n 0, 1) := by decide +kernel
theorem dX3_init_14 : decode cX3_init 14 = .ok (.sipush 128, 3) := by decide +kernel
theorem dX3_init_17 : decode cX3_init 17 = .ok (.newarray .int, 2) := by decide +kernel
theorem dX3_init_19 : decode cX3_init 19 = .ok (.putfield 15, 3) := by decide +kernel
theorem dX3_init_22 : decode cX3_init 22 = .ok (.aload_n 0, 1) := by decide +kernel
theorem dX3_init_23 : decode cX3_init 23 = .ok (.bipush 7, 2) := by decide +kernel
theorem dX3_init_25 : decode cX3_init 25 = .ok (.newarray .long, 2) := by decide +kernel
theorem dX3_init_27 : decode cX3_init 27 = .ok (.putfield 18, 3) := by decide +kernel
theorem dX3_init_30 : decode cX3_init 30 = .ok (.aload_n 0, 1) := by decide +kernel
theorem dX3_init_31 : decode cX3_init 31 = .ok (.bipush 7, 2) := by decide +kernel
theorem dX3_init_33 : decode cX3_init 33 = .ok (.newarray .int, 2) := by decide +kernel
theorem dX3_init_35 : decode cX3_init 35 = .ok (.putfield 22, 3) := by decide +kernel
theorem dX3_init_38 : decode cX3_init 38 = .ok (.return_, 1) := by decide +kernel
theorem dX3_canBe_0 : decode cX3_canBe 0 = .ok (.iload_n 2, 1) := by decide +kernel
theorem dX3_canBe_1 : decode cX3_canBe 1 = .ok (.ifCond .lt 10, 3) := by decide +kernel
theorem dX3_canBe_4 : decode cX3_canBe 4 = .ok (.iload_n 2, 1) := by decide +kernel
theorem dX3_canBe_5 : decode cX3_canBe 5 = .ok (.sipush 128, 3) := by decide +kernel
theorem dX3_canBe_8 : decode cX3_canBe 8 = .ok (.if_icmp .lt 5, 3) := by decide +kernel
theorem dX3_canBe_11 : decode cX3_canBe 11 = .ok (.iconst 0, 1) := by decide +kernel
theorem dX3_canBe_12 : decode cX3_canBe 12 = .ok (.ireturn, 1) := by decide +kernel
theorem dX3_canBe_13 : decode cX3_canBe 13 = .ok (.aload_n 0, 1) := by decide +kernel
theorem dX3_canBe_14 : decode cX3_canBe 14 = .ok (.getfield 9, 3) := by decide +kernel
theorem dX3_canBe_17 : decode cX3_canBe 17 = .ok (.bipush 49, 2) := by decide +kernel
theorem dX3_canBe_19 : decode cX3_canBe 19 = .ok (.invokestatic 25, 3) := by decide +kernel
theorem dX3_canBe_22 : decode cX3_canBe 22 = .ok (.aload_n 0, 1) := by decide +kernel
theorem dX3_canBe_23 : decode cX3_canBe 23 = .ok (.getfield 9, 3) := by decide +kernel
theorem dX3_canBe_26 : decode cX3_canBe 26 = .ok (.iconst 0, 1) := by decide +kernel
theorem dX3_canBe_27 : decode cX3_canBe 27 = .ok (.iconst 0, 1) := by decide +kernel
theorem dX3_canBe_28 : decode cX3_canBe 28 = .ok (.iastore, 1) := by decide +kernel
theorem dX3_canBe_29 : decode cX3_canBe 29 = .ok (.iconst 0, 1) := by decide +kernel
theorem dX3_canBe_30 : decode cX3_canBe 30 = .ok (.istore_n 3, 1) := by decide +kernel
theorem dX3_canBe_31 : decode cX3_canBe 31 = .ok (.iload_n 3, 1) := by decide +kernel
theorem dX3_canBe_32 : decode cX3_canBe 32 = .ok (.iload_n 2, 1) := by decide +kernel
theorem dX3_canBe_33 : decode cX3_canBe 33 = .ok (.if_icmp .ge 123, 3) := by decide +kernel
theorem dX3_canBe_36 : decode cX3_canBe 36 = .ok (.iload_n 3, 1) := by decide +kernel
theorem dX3_canBe_37 : decode cX3_canBe 37 = .ok (.iload_n 2, 1) := by decide +kernel
theorem dX3_canBe_38 : decode cX3_canBe 38 = .ok (.iconst (-1), 1) := by decide +kernel
theorem dX3_canBe_39 : decode cX3_canBe 39 = .ok (.ixor, 1) := by decide +kernel
theorem dX3_canBe_40 : decode cX3_canBe 40 = .ok (.iand, 1) := by decide +kernel
theorem dX3_canBe_41 : decode cX3_canBe 41 = .ok (.ifCond .ne 109, 3) := by decide +kernel
theorem dX3_canBe_44 : decode cX3_canBe 44 = .ok (.aload_n 0, 1) := by decide +kernel
theorem dX3_canBe_45 : decode cX3_canBe 45 = .ok (.getfield 9, 3) := by decide +kernel
theorem dX3_canBe_48 : decode cX3_canBe 48 = .ok (.iload_n 3, 1) := by decide +kernel
theorem dX3_canBe_49 : decode cX3_canBe 49 = .ok (.iaload, 1) := by decide +kernel
theorem dX3_canBe_50 : decode cX3_canBe 50 = .ok (.bipush 49, 2) := by decide +kernel
theorem dX3_canBe_52 : decode cX3_canBe 52 = .ok (.if_icmp .ne 6, 3) := by decide +kernel
theorem dX3_canBe_55 : decode cX3_canBe 55 = .ok (.goto 95, 3) := by decide +kernel
theorem dX3_canBe_58 : decode cX3_canBe 58 = .ok (.aload_n 1, 1) := by decide +kernel
theorem dX3_canBe_59 : decode cX3_canBe 59 = .ok (.iload_n 3, 1) := by decide +kernel
theorem dX3_canBe_60 : decode cX3_canBe 60 = .ok (.iload_n 2, 1) := by decide +kernel
theorem dX3_canBe_61 : decode cX3_canBe 61 = .ok (.invokevirtual 31, 3) := by decide +kernel
theorem dX3_canBe_64 : decode cX3_canBe 64 = .ok (.istore 4, 2) := by decide +kernel
theorem dX3_canBe_66 : decode cX3_canBe 66 = .ok (.iconst 0, 1) := by decide +kernel
theorem dX3_canBe_67 : decode cX3_canBe 67 = .ok (.istore 5, 2) := by decide +kernel
theorem dX3_canBe_69 : decode cX3_canBe 69 = .ok (.iload 5, 2) := by decide +kernel
theorem dX3_canBe_71 : decode cX3_canBe 71 = .ok (.bipush 7, 2) := by decide +kernel
theorem dX3_canBe_73 : decode cX3_canBe 73 = .ok (.if_icmp .ge 77, 3) := by decide +kernel
theorem dX3_canBe_76 : decode cX3_canBe 76 = .ok (.iload 4, 2) := by decide +kernel
theorem dX3_canBe_78 : decode cX3_canBe 78 = .ok (.iload 5, 2) := by decide +kernel
theorem dX3_canBe_80 : decode cX3_canBe 80 = .ok (.invokestatic 37, 3) := by decide +kernel
theorem dX3_canBe_83 : decode cX3_canBe 83 = .ok (.ifCond .ne 6, 3) := by decide +kernel
theorem dX3_canBe_86 : decode cX3_canBe 86 = .ok (.goto 58, 3) := by decide +kernel
theorem dX3_canBe_89 : decode cX3_canBe 89 = .ok (.aload_n 1, 1) := by decide +kernel
theorem dX3_canBe_90 : decode cX3_canBe 90 = .ok (.iload 5, 2) := by decide +kernel
theorem dX3_canBe_92 : decode cX3_canBe 92 = .ok (.aload_n 0, 1) := by decide +kernel
theorem dX3_canBe_93 : decode cX3_canBe 93 = .ok (.getfield 9, 3) := by decide +kernel
theorem dX3_canBe_96 : decode cX3_canBe 96 = .ok (.iload_n 3, 1) := by decide +kernel
theorem dX3_canBe_97 : decode cX3_canBe 97 = .ok (.iaload, 1) := by decide +kernel
theorem dX3_canBe_98 : decode cX3_canBe 98 = .ok (.invokevirtual 41, 3) := by decide +kernel
theorem dX3_canBe_101 : decode cX3_canBe 101 = .ok (.istore 6, 2) := by decide +kernel
theorem dX3_canBe_103 : decode cX3_canBe 103 = .ok (.iload_n 3, 1) := by decide +kernel
theorem dX3_canBe_104 : decode cX3_canBe 104 = .ok (.iconst 1, 1) := by decide +kernel
theorem dX3_canBe_105 : decode cX3_canBe 105 = .ok (.iload 5, 2) := by decide +kernel
theorem dX3_canBe_107 : decode cX3_canBe 107 = .ok (.ishl, 1) := by decide +kernel
theorem dX3_canBe_108 : decode cX3_canBe 108 = .ok (.ior, 1) := by decide +kernel
theorem dX3_canBe_109 : decode cX3_canBe 109 = .ok (.istore 7, 2) := by decide +kernel
theorem dX3_canBe_111 : decode cX3_canBe 111 = .ok (.iload 6, 2) := by decide +kernel
theorem dX3_canBe_113 : decode cX3_canBe 113 = .ok (.iconst (-1), 1) := by decide +kernel
theorem dX3_canBe_114 : decode cX3_canBe 114 = .ok (.if_icmp .eq 30, 3) := by decide +kernel
theorem dX3_canBe_117 : decode cX3_canBe 117 = .ok (.iload 7, 2) := by decide +kernel
theorem dX3_canBe_119 : decode cX3_canBe 119 = .ok (.sipush 128, 3) := by decide +kernel
theorem dX3_canBe_122 : decode cX3_canBe 122 = .ok (.if_icmp .ge 22, 3) := by decide +kernel
theorem dX3_canBe_125 : decode cX3_canBe 125 = .ok (.aload_n 0, 1) := by decide +kernel
theorem dX3_canBe_126 : decode cX3_canBe 126 = .ok (.getfield 9, 3) := by decide +kernel
theorem dX3_canBe_129 : decode cX3_canBe 129 = .ok (.iload 7, 2) := by decide +kernel
theorem dX3_canBe_131 : decode cX3_canBe 131 = .ok (.aload_n 0, 1) := by decide +kernel
theorem dX3_canBe_132 : decode cX3_canBe 132 = .ok (.getfield 9, 3) := by decide +kernel
theorem dX3_canBe_135 : decode cX3_canBe 135 = .ok (.iload 7, 2) := by decide +kernel
theorem dX3_canBe_137 : decode cX3_canBe 137 = .ok (.iaload, 1) := by decide +kernel
theorem dX3_canBe_138 : decode cX3_canBe 138 = .ok (.iload 6, 2) := by decide +kernel
theorem dX3_canBe_140 : decode cX3_canBe 140 = .ok (.invokestatic 44, 3) := by decide +kernel
theorem dX3_canBe_143 : decode cX3_canBe 143 = .ok (.iastore, 1) := by decide +kernel
theorem dX3_canBe_144 : decode cX3_canBe 144 = .ok (.iinc 5 1, 3) := by decide +kernel
theorem dX3_canBe_147 : decode cX3_canBe 147 = .ok (.goto (-78), 3) := by decide +kernel
theorem dX3_canBe_150 : decode cX3_canBe 150 = .ok (.iinc 3 1, 3) := by decide +kernel
theorem dX3_canBe_153 : decode cX3_canBe 153 = .ok (.goto (-122), 3) := by decide +kernel
theorem dX3_canBe_156 : decode cX3_canBe 156 = .ok (.aload_n 0, 1) := by decide +kernel
theorem dX3_canBe_157 : decode cX3_canBe 157 = .ok (.getfield 9, 3) := by decide +kernel
theorem dX3_canBe_160 : decode cX3_canBe 160 = .ok (.iload_n 2, 1) := by decide +kernel
theorem dX3_canBe_161 : decode cX3_canBe 161 = .ok (.iaload, 1) := by decide +kernel
theorem dX3_canBe_162 : decode cX3_canBe 162 = .ok (.bipush 49, 2) := by decide +kernel
theorem dX3_canBe_164 : decode cX3_canBe 164 = .ok (.if_icmp .eq 7, 3) := by decide +kernel
theorem dX3_canBe_167 : decode cX3_canBe 167 = .ok (.iconst 1, 1) := by decide +kernel
theorem dX3_canBe_168 : decode cX3_canBe 168 = .ok (.goto 4, 3) := by decide +kernel
theorem dX3_canBe_171 : decode cX3_canBe 171 = .ok (.iconst 0, 1) := by decide +kernel
theorem dX3_canBe_172 : decode cX3_canBe 172 = .ok (.ireturn, 1) := by decide +kernel
theorem dX3_seek_0 : decode cX3_seek 0 = .ok (.aload_n 1, 1) := by decide +kernel
theorem dX3_seek_1 : decode cX3_seek 1 = .ok (.invokevirtual 49, 3) := by decide +kernel
theorem dX3_seek_4 : decode cX3_seek 4 = .ok (.istore_n 2, 1) := by decide +kernel
theorem dX3_seek_5 : decode cX3_seek 5 = .ok (.aload_n 0, 1) := by decide +kernel
theorem dX3_seek_6 : decode cX3_seek 6 = .ok (.getfield 18, 3) := by decide +kernel
theorem dX3_seek_9 : decode cX3_seek 9 = .ok (.lconst 0, 1) := by decide +kernel
theorem dX3_seek_10 : decode cX3_seek 10 = .ok (.invokestatic 53, 3) := by decide +kernel
theorem dX3_seek_13 : decode cX3_seek 13 = .ok (.aload_n 0, 1) := by decide +kernel
theorem dX3_seek_14 : decode cX3_seek 14 = .ok (.getfield 22, 3) := by decide +kernel
theorem dX3_seek_17 : decode cX3_seek 17 = .ok (.iconst 0, 1) := by decide +kernel
theorem dX3_seek_18 : decode cX3_seek 18 = .ok (.invokestatic 25, 3) := by decide +kernel
theorem dX3_seek_21 : decode cX3_seek 21 = .ok (.aload_n 0, 1) := by decide +kernel
theorem dX3_seek_22 : decode cX3_seek 22 = .ok (.iconst 1, 1) := by decide +kernel
theorem dX3_seek_23 : decode cX3_seek 23 = .ok (.putfield 56, 3) := by decide +kernel
theorem dX3_seek_26 : decode cX3_seek 26 = .ok (.aload_n 0, 1) := by decide +kernel
theorem dX3_seek_27 : decode cX3_seek 27 = .ok (.aload_n 1, 1) := by decide +kernel
theorem dX3_seek_28 : decode cX3_seek 28 = .ok (.iload_n 2, 1) := by decide +kernel
theorem dX3_seek_29 : decode cX3_seek 29 = .ok (.invokevirtual 60, 3) := by decide +kernel
theorem dX3_seek_32 : decode cX3_seek 32 = .ok (.ifCond .ne 4, 3) := by decide +kernel
theorem dX3_seek_35 : decode cX3_seek 35 = .ok (.return_, 1) := by decide +kernel
theorem dX3_seek_36 : decode cX3_seek 36 = .ok (.aload_n 0, 1) := by decide +kernel
theorem dX3_seek_37 : decode cX3_seek 37 = .ok (.getfield 15, 3) := by decide +kernel
theorem dX3_seek_40 : decode cX3_seek 40 = .ok (.iconst (-1), 1) := by decide +kernel
theorem dX3_seek_41 : decode cX3_seek 41 = .ok (.invokestatic 25, 3) := by decide +kernel
theorem dX3_seek_44 : decode cX3_seek 44 = .ok (.iload_n 2, 1) := by decide +kernel
theorem dX3_seek_45 : decode cX3_seek 45 = .ok (.sipush 128, 3) := by decide +kernel
theorem dX3_seek_48 : decode cX3_seek 48 = .ok (.if_icmp .ge 11, 3) := by decide +kernel
theorem dX3_seek_51 : decode cX3_seek 51 = .ok (.aload_n 0, 1) := by decide +kernel
theorem dX3_seek_52 : decode cX3_seek 52 = .ok (.getfield 15, 3) := by decide +kernel
theorem dX3_seek_55 : decode cX3_seek 55 = .ok (.iload_n 2, 1) := by decide +kernel
theorem dX3_seek_56 : decode cX3_seek 56 = .ok (.bipush 48, 2) := by decide +kernel
theorem dX3_seek_58 : decode cX3_seek 58 = .ok (.iastore, 1) := by decide +kernel
theorem dX3_seek_59 : decode cX3_seek 59 = .ok (.iload_n 2, 1) := by decide +kernel
theorem dX3_seek_60 : decode cX3_seek 60 = .ok (.sipush 128, 3) := by decide +kernel
theorem dX3_seek_63 : decode cX3_seek 63 = .ok (.invokestatic 44, 3) := by decide +kernel
theorem dX3_seek_66 : decode cX3_seek 66 = .ok (.iconst 1, 1) := by decide +kernel
theorem dX3_seek_67 : decode cX3_seek 67 = .ok (.isub, 1) := by decide +kernel
theorem dX3_seek_68 : decode cX3_seek 68 = .ok (.istore_n 3, 1) := by decide +kernel
theorem dX3_seek_69 : decode cX3_seek 69 = .ok (.iload_n 3, 1) := by decide +kernel
theorem dX3_seek_70 : decode cX3_seek 70 = .ok (.ifCond .lt 51, 3) := by decide +kernel
theorem dX3_seek_73 : decode cX3_seek 73 = .ok (.aload_n 1, 1) := by decide +kernel
theorem dX3_seek_74 : decode cX3_seek 74 = .ok (.iload_n 3, 1) := by decide +kernel
theorem dX3_seek_75 : decode cX3_seek 75 = .ok (.iload_n 2, 1) := by decide +kernel
theorem dX3_seek_76 : decode cX3_seek 76 = .ok (.invokevirtual 31, 3) := by decide +kernel
theorem dX3_seek_79 : decode cX3_seek 79 = .ok (.istore 4, 2) := by decide +kernel
theorem dX3_seek_81 : decode cX3_seek 81 = .ok (.iconst 0, 1) := by decide +kernel
theorem dX3_seek_82 : decode cX3_seek 82 = .ok (.istore 5, 2) := by decide +kernel
theorem dX3_seek_84 : decode cX3_seek 84 = .ok (.iload 5, 2) := by decide +kernel
theorem dX3_seek_86 : decode cX3_seek 86 = .ok (.bipush 7, 2) := by decide +kernel
theorem dX3_seek_88 : decode cX3_seek 88 = .ok (.if_icmp .ge 27, 3) := by decide +kernel
theorem dX3_seek_91 : decode cX3_seek 91 = .ok (.iload 4, 2) := by decide +kernel
theorem dX3_seek_93 : decode cX3_seek 93 = .ok (.iload 5, 2) := by decide +kernel
theorem dX3_seek_95 : decode cX3_seek 95 = .ok (.invokestatic 37, 3) := by decide +kernel
theorem dX3_seek_98 : decode cX3_seek 98 = .ok (.ifCond .eq 11, 3) := by decide +kernel
theorem dX3_seek_101 : decode cX3_seek 101 = .ok (.aload_n 0, 1) := by decide +kernel
theorem dX3_seek_102 : decode cX3_seek 102 = .ok (.aload_n 1, 1) := by decide +kernel
theorem dX3_seek_103 : decode cX3_seek 103 = .ok (.iload_n 3, 1) := by decide +kernel
theorem dX3_seek_104 : decode cX3_seek 104 = .ok (.iload 5, 2) := by decide +kernel
theorem dX3_seek_106 : decode cX3_seek 106 = .ok (.invokevirtual 64, 3) := by decide +kernel
theorem dX3_seek_109 : decode cX3_seek 109 = .ok (.iinc 5 1, 3) := by decide +kernel
theorem dX3_seek_112 : decode cX3_seek 112 = .ok (.goto (-28), 3) := by decide +kernel
theorem dX3_seek_115 : decode cX3_seek 115 = .ok (.iinc 3 (-1), 3) := by decide +kernel
theorem dX3_seek_118 : decode cX3_seek 118 = .ok (.goto (-49), 3) := by decide +kernel
theorem dX3_seek_121 : decode cX3_seek 121 = .ok (.return_, 1) := by decide +kernel
theorem dX3_seekBetween_0 : decode cX3_seekBetween 0 = .ok (.iload_n 2, 1) := by decide +kernel
theorem dX3_seekBetween_1 : decode cX3_seekBetween 1 = .ok (.iconst 1, 1) := by decide +kernel
theorem dX3_seekBetween_2 : decode cX3_seekBetween 2 = .ok (.iload_n 3, 1) := by decide +kernel
theorem dX3_seekBetween_3 : decode cX3_seekBetween 3 = .ok (.ishl, 1) := by decide +kernel
theorem dX3_seekBetween_4 : decode cX3_seekBetween 4 = .ok (.ior, 1) := by decide +kernel
theorem dX3_seekBetween_5 : decode cX3_seekBetween 5 = .ok (.istore 4, 2) := by decide +kernel
theorem dX3_seekBetween_7 : decode cX3_seekBetween 7 = .ok (.iload_n 2, 1) := by decide +kernel
theorem dX3_seekBetween_8 : decode cX3_seekBetween 8 = .ok (.ifCond .lt 28, 3) := by decide +kernel
theorem dX3_seekBetween_11 : decode cX3_seekBetween 11 = .ok (.iload 4, 2) := by decide +kernel
theorem dX3_seekBetween_13 : decode cX3_seekBetween 13 = .ok (.sipush 128, 3) := by decide +kernel
theorem dX3_seekBetween_16 : decode cX3_seekBetween 16 = .ok (.if_icmp .ge 20, 3) := by decide +kernel
theorem dX3_seekBetween_19 : decode cX3_seekBetween 19 = .ok (.iload_n 3, 1) := by decide +kernel
theorem dX3_seekBetween_20 : decode cX3_seekBetween 20 = .ok (.bipush 7, 2) := by decide +kernel
theorem dX3_seekBetween_22 : decode cX3_seekBetween 22 = .ok (.if_icmp .ge 14, 3) := by decide +kernel
theorem dX3_seekBetween_25 : decode cX3_seekBetween 25 = .ok (.aload_n 0, 1) := by decide +kernel
theorem dX3_seekBetween_26 : decode cX3_seekBetween 26 = .ok (.getfield 15, 3) := by decide +kernel
theorem dX3_seekBetween_29 : decode cX3_seekBetween 29 = .ok (.iload 4, 2) := by decide +kernel
theorem dX3_seekBetween_31 : decode cX3_seekBetween 31 = .ok (.iaload, 1) := by decide +kernel
theorem dX3_seekBetween_32 : decode cX3_seekBetween 32 = .ok (.iconst (-1), 1) := by decide +kernel
theorem dX3_seekBetween_33 : decode cX3_seekBetween 33 = .ok (.if_icmp .ne 4, 3) := by decide +kernel
theorem dX3_seekBetween_36 : decode cX3_seekBetween 36 = .ok (.return_, 1) := by decide +kernel
theorem dX3_seekBetween_37 : decode cX3_seekBetween 37 = .ok (.aload_n 1, 1) := by decide +kernel
theorem dX3_seekBetween_38 : decode cX3_seekBetween 38 = .ok (.iload_n 3, 1) := by decide +kernel
theorem dX3_seekBetween_39 : decode cX3_seekBetween 39 = .ok (.invokevirtual 68, 3) := by decide +kernel
theorem dX3_seekBetween_42 : decode cX3_seekBetween 42 = .ok (.lconst 1, 1) := by decide +kernel
theorem dX3_seekBetween_43 : decode cX3_seekBetween 43 = .ok (.aload_n 0, 1) := by decide +kernel
theorem dX3_seekBetween_44 : decode cX3_seekBetween 44 = .ok (.getfield 15, 3) := by decide +kernel
theorem dX3_seekBetween_47 : decode cX3_seekBetween 47 = .ok (.iload 4, 2) := by decide +kernel
theorem dX3_seekBetween_49 : decode cX3_seekBetween 49 = .ok (.iaload, 1) := by decide +kernel
theorem dX3_seekBetween_50 : decode cX3_seekBetween 50 = .ok (.lshl, 1) := by decide +kernel
theorem dX3_seekBetween_51 : decode cX3_seekBetween 51 = .ok (.lconst 1, 1) := by decide +kernel
theorem dX3_seekBetween_52 : decode cX3_seekBetween 52 = .ok (.lsub, 1) := by decide +kernel
theorem dX3_seekBetween_53 : decode cX3_seekBetween 53 = .ok (.land, 1) := by decide +kernel
theorem dX3_seekBetween_54 : decode cX3_seekBetween 54 = .ok (.lstore 5, 2) := by decide +kernel
theorem dX3_seekBetween_56 : decode cX3_seekBetween 56 = .ok (.aload_n 0, 1) := by decide +kernel
theorem dX3_seekBetween_57 : decode cX3_seekBetween 57 = .ok (.getfield 15, 3) := by decide +kernel
theorem dX3_seekBetween_60 : decode cX3_seekBetween 60 = .ok (.iload_n 2, 1) := by decide +kernel
theorem dX3_seekBetween_61 : decode cX3_seekBetween 61 = .ok (.aload_n 0, 1) := by decide +kernel
theorem dX3_seekBetween_62 : decode cX3_seekBetween 62 = .ok (.getfield 15, 3) := by decide +kernel
theorem dX3_seekBetween_65 : decode cX3_seekBetween 65 = .ok (.iload_n 2, 1) := by decide +kernel
theorem dX3_seekBetween_66 : decode cX3_seekBetween 66 = .ok (.iaload, 1) := by decide +kernel
theorem dX3_seekBetween_67 : decode cX3_seekBetween 67 = .ok (.lload 5, 2) := by decide +kernel
theorem dX3_seekBetween_69 : decode cX3_seekBetween 69 = .ok (.invokestatic 72, 3) := by decide +kernel
theorem dX3_seekBetween_72 : decode cX3_seekBetween 72 = .ok (.invokestatic 76, 3) := by decide +kernel
theorem dX3_seekBetween_75 : decode cX3_seekBetween 75 = .ok (.iastore, 1) := by decide +kernel
theorem dX3_seekBetween_76 : decode cX3_seekBetween 76 = .ok (.aload_n 0, 1) := by decide +kernel
theorem dX3_seekBetween_77 : decode cX3_seekBetween 77 = .ok (.getfield 9, 3) := by decide +kernel
theorem dX3_seekBetween_80 : decode cX3_seekBetween 80 = .ok (.iload_n 2, 1) := by decide +kernel
theorem dX3_seekBetween_81 : decode cX3_seekBetween 81 = .ok (.iaload, 1) := by decide +kernel
theorem dX3_seekBetween_82 : decode cX3_seekBetween 82 = .ok (.bipush 49, 2) := by decide +kernel
theorem dX3_seekBetween_84 : decode cX3_seekBetween 84 = .ok (.if_icmp .ne 4, 3) := by decide +kernel
theorem dX3_seekBetween_87 : decode cX3_seekBetween 87 = .ok (.return_, 1) := by decide +kernel
theorem dX3_seekBetween_88 : decode cX3_seekBetween 88 = .ok (.lload 5, 2) := by decide +kernel
theorem dX3_seekBetween_90 : decode cX3_seekBetween 90 = .ok (.aload_n 0, 1) := by decide +kernel
theorem dX3_seekBetween_91 : decode cX3_seekBetween 91 = .ok (.getfield 9, 3) := by decide +kernel
theorem dX3_seekBetween_94 : decode cX3_seekBetween 94 = .ok (.iload_n 2, 1) := by decide +kernel
theorem dX3_seekBetween_95 : decode cX3_seekBetween 95 = .ok (.iaload, 1) := by decide +kernel
theorem dX3_seekBetween_96 : decode cX3_seekBetween 96 = .ok (.lushr, 1) := by decide +kernel
theorem dX3_seekBetween_97 : decode cX3_seekBetween 97 = .ok (.aload_n 0, 1) := by decide +kernel
theorem dX3_seekBetween_98 : decode cX3_seekBetween 98 = .ok (.getfield 9, 3) := by decide +kernel
theorem dX3_seekBetween_101 : decode cX3_seekBetween 101 = .ok (.iload_n 2, 1) := by decide +kernel
theorem dX3_seekBetween_102 : decode cX3_seekBetween 102 = .ok (.iaload, 1) := by decide +kernel
theorem dX3_seekBetween_103 : decode cX3_seekBetween 103 = .ok (.lshl, 1) := by decide +kernel
theorem dX3_seekBetween_104 : decode cX3_seekBetween 104 = .ok (.lstore 7, 2) := by decide +kernel
theorem dX3_seekBetween_106 : decode cX3_seekBetween 106 = .ok (.lload 7, 2) := by decide +kernel
theorem dX3_seekBetween_108 : decode cX3_seekBetween 108 = .ok (.lconst 0, 1) := by decide +kernel
theorem dX3_seekBetween_109 : decode cX3_seekBetween 109 = .ok (.lcmp, 1) := by decide +kernel
theorem dX3_seekBetween_110 : decode cX3_seekBetween 110 = .ok (.ifCond .ne 4, 3) := by decide +kernel
theorem dX3_seekBetween_113 : decode cX3_seekBetween 113 = .ok (.return_, 1) := by decide +kernel
theorem dX3_seekBetween_114 : decode cX3_seekBetween 114 = .ok (.aload_n 0, 1) := by decide +kernel
theorem dX3_seekBetween_115 : decode cX3_seekBetween 115 = .ok (.getfield 18, 3) := by decide +kernel
theorem dX3_seekBetween_118 : decode cX3_seekBetween 118 = .ok (.iload_n 3, 1) := by decide +kernel
theorem dX3_seekBetween_119 : decode cX3_seekBetween 119 = .ok (.dup2, 1) := by decide +kernel
theorem dX3_seekBetween_120 : decode cX3_seekBetween 120 = .ok (.laload, 1) := by decide +kernel
theorem dX3_seekBetween_121 : decode cX3_seekBetween 121 = .ok (.lload 7, 2) := by decide +kernel
theorem dX3_seekBetween_123 : decode cX3_seekBetween 123 = .ok (.lor, 1) := by decide +kernel
theorem dX3_seekBetween_124 : decode cX3_seekBetween 124 = .ok (.lastore, 1) := by decide +kernel
theorem dX3_seekBetween_125 : decode cX3_seekBetween 125 = .ok (.aload_n 0, 1) := by decide +kernel
theorem dX3_seekBetween_126 : decode cX3_seekBetween 126 = .ok (.getfield 22, 3) := by decide +kernel
theorem dX3_seekBetween_129 : decode cX3_seekBetween 129 = .ok (.iload_n 3, 1) := by decide +kernel
theorem dX3_seekBetween_130 : decode cX3_seekBetween 130 = .ok (.dup2, 1) := by decide +kernel
theorem dX3_seekBetween_131 : decode cX3_seekBetween 131 = .ok (.iaload, 1) := by decide +kernel
theorem dX3_seekBetween_132 : decode cX3_seekBetween 132 = .ok (.iconst 1, 1) := by decide +kernel
theorem dX3_seekBetween_133 : decode cX3_seekBetween 133 = .ok (.iload_n 2, 1) := by decide +kernel
theorem dX3_seekBetween_134 : decode cX3_seekBetween 134 = .ok (.invokestatic 79, 3) := by decide +kernel
theorem dX3_seekBetween_137 : decode cX3_seekBetween 137 = .ok (.ishl, 1) := by decide +kernel
theorem dX3_seekBetween_138 : decode cX3_seekBetween 138 = .ok (.ior, 1) := by decide +kernel
theorem dX3_seekBetween_139 : decode cX3_seekBetween 139 = .ok (.iastore, 1) := by decide +kernel
theorem dX3_seekBetween_140 : decode cX3_seekBetween 140 = .ok (.return_, 1) := by decide +kernel
theorem dX3_leftTo_0 : decode cX3_leftTo 0 = .ok (.iload_n 1, 1) := by decide +kernel
theorem dX3_leftTo_1 : decode cX3_leftTo 1 = .ok (.ifCond .lt 18, 3) := by decide +kernel
theorem dX3_leftTo_4 : decode cX3_leftTo 4 = .ok (.iload_n 1, 1) := by decide +kernel
theorem dX3_leftTo_5 : decode cX3_leftTo 5 = .ok (.bipush 7, 2) := by decide +kernel
theorem dX3_leftTo_7 : decode cX3_leftTo 7 = .ok (.if_icmp .ge 12, 3) := by decide +kernel
theorem dX3_leftTo_10 : decode cX3_leftTo 10 = .ok (.aload_n 0, 1) := by decide +kernel
theorem dX3_leftTo_11 : decode cX3_leftTo 11 = .ok (.getfield 18, 3) := by decide +kernel
theorem dX3_leftTo_14 : decode cX3_leftTo 14 = .ok (.iload_n 1, 1) := by decide +kernel
theorem dX3_leftTo_15 : decode cX3_leftTo 15 = .ok (.laload, 1) := by decide +kernel
theorem dX3_leftTo_16 : decode cX3_leftTo 16 = .ok (.goto 4, 3) := by decide +kernel
theorem dX3_leftTo_19 : decode cX3_leftTo 19 = .ok (.lconst 0, 1) := by decide +kernel
theorem dX3_leftTo_20 : decode cX3_leftTo 20 = .ok (.lreturn, 1) := by decide +kernel
theorem dX3_placesOf_0 : decode cX3_placesOf 0 = .ok (.iload_n 1, 1) := by decide +kernel
theorem dX3_placesOf_1 : decode cX3_placesOf 1 = .ok (.ifCond .lt 18, 3) := by decide +kernel
theorem dX3_placesOf_4 : decode cX3_placesOf 4 = .ok (.iload_n 1, 1) := by decide +kernel
theorem dX3_placesOf_5 : decode cX3_placesOf 5 = .ok (.bipush 7, 2) := by decide +kernel
theorem dX3_placesOf_7 : decode cX3_placesOf 7 = .ok (.if_icmp .ge 12, 3) := by decide +kernel
theorem dX3_placesOf_10 : decode cX3_placesOf 10 = .ok (.aload_n 0, 1) := by decide +kernel
theorem dX3_placesOf_11 : decode cX3_placesOf 11 = .ok (.getfield 22, 3) := by decide +kernel
theorem dX3_placesOf_14 : decode cX3_placesOf 14 = .ok (.iload_n 1, 1) := by decide +kernel
theorem dX3_placesOf_15 : decode cX3_placesOf 15 = .ok (.iaload, 1) := by decide +kernel
theorem dX3_placesOf_16 : decode cX3_placesOf 16 = .ok (.goto 4, 3) := by decide +kernel
theorem dX3_placesOf_19 : decode cX3_placesOf 19 = .ok (.iconst 0, 1) := by decide +kernel
theorem dX3_placesOf_20 : decode cX3_placesOf 20 = .ok (.ireturn, 1) := by decide +kernel
theorem dX4_init_0 : decode cX4_init 0 = .ok (.aload_n 0, 1) := by decide +kernel
theorem dX4_init_1 : decode cX4_init 1 = .ok (.invokespecial 3, 3) := by decide +kernel
theorem dX4_init_4 : decode cX4_init 4 = .ok (.aload_n 0, 1) := by decide +kernel
theorem dX4_init_5 : decode cX4_init 5 = .ok (.sipush 128, 3) := by decide +kernel
theorem dX4_init_8 : decode cX4_init 8 = .ok (.newarray .int, 2) := by decide +kernel
theorem dX4_init_10 : decode cX4_init 10 = .ok (.putfield 9, 3) := by decide +kernel
theorem dX4_init_13 : decode cX4_init 13 = .ok (.aload_n 0, 1) := by decide +kernel
theorem dX4_init_14 : decode cX4_init 14 = .ok (.sipush 128, 3) := by decide +kernel
theorem dX4_init_17 : decode cX4_init 17 = .ok (.newarray .long, 2) := by decide +kernel
theorem dX4_init_19 : decode cX4_init 19 = .ok (.putfield 15, 3) := by decide +kernel
theorem dX4_init_22 : decode cX4_init 22 = .ok (.aload_n 0, 1) := by decide +kernel
theorem dX4_init_23 : decode cX4_init 23 = .ok (.sipush 6272, 3) := by decide +kernel
theorem dX4_init_26 : decode cX4_init 26 = .ok (.newarray .int, 2) := by decide +kernel
theorem dX4_init_28 : decode cX4_init 28 = .ok (.putfield 19, 3) := by decide +kernel
theorem dX4_init_31 : decode cX4_init 31 = .ok (.return_, 1) := by decide +kernel
theorem dX4_seek_0 : decode cX4_seek 0 = .ok (.aload_n 0, 1) := by decide +kernel
theorem dX4_seek_1 : decode cX4_seek 1 = .ok (.aload_n 1, 1) := by decide +kernel
theorem dX4_seek_2 : decode cX4_seek 2 = .ok (.putfield 22, 3) := by decide +kernel
theorem dX4_seek_5 : decode cX4_seek 5 = .ok (.aload_n 1, 1) := by decide +kernel
theorem dX4_seek_6 : decode cX4_seek 6 = .ok (.invokevirtual 26, 3) := by decide +kernel
theorem dX4_seek_9 : decode cX4_seek 9 = .ok (.istore_n 2, 1) := by decide +kernel
theorem dX4_seek_10 : decode cX4_seek 10 = .ok (.aload_n 0, 1) := by decide +kernel
theorem dX4_seek_11 : decode cX4_seek 11 = .ok (.getfield 15, 3) := by decide +kernel
theorem dX4_seek_14 : decode cX4_seek 14 = .ok (.lconst 0, 1) := by decide +kernel
theorem dX4_seek_15 : decode cX4_seek 15 = .ok (.invokestatic 32, 3) := by decide +kernel
theorem dX4_seek_18 : decode cX4_seek 18 = .ok (.aload_n 0, 1) := by decide +kernel
theorem dX4_seek_19 : decode cX4_seek 19 = .ok (.getfield 15, 3) := by decide +kernel
theorem dX4_seek_22 : decode cX4_seek 22 = .ok (.iconst 0, 1) := by decide +kernel
theorem dX4_seek_23 : decode cX4_seek 23 = .ok (.lconst 1, 1) := by decide +kernel
theorem dX4_seek_24 : decode cX4_seek 24 = .ok (.lastore, 1) := by decide +kernel
theorem dX4_seek_25 : decode cX4_seek 25 = .ok (.iconst 0, 1) := by decide +kernel
theorem dX4_seek_26 : decode cX4_seek 26 = .ok (.istore_n 3, 1) := by decide +kernel
theorem dX4_seek_27 : decode cX4_seek 27 = .ok (.iload_n 3, 1) := by decide +kernel
theorem dX4_seek_28 : decode cX4_seek 28 = .ok (.iload_n 2, 1) := by decide +kernel
theorem dX4_seek_29 : decode cX4_seek 29 = .ok (.if_icmp .ge 16, 3) := by decide +kernel
theorem dX4_seek_32 : decode cX4_seek 32 = .ok (.aload_n 0, 1) := by decide +kernel
theorem dX4_seek_33 : decode cX4_seek 33 = .ok (.aload_n 1, 1) := by decide +kernel
theorem dX4_seek_34 : decode cX4_seek 34 = .ok (.iload_n 3, 1) := by decide +kernel
theorem dX4_seek_35 : decode cX4_seek 35 = .ok (.iload_n 2, 1) := by decide +kernel
theorem dX4_seek_36 : decode cX4_seek 36 = .ok (.invokevirtual 38, 3) := by decide +kernel
theorem dX4_seek_39 : decode cX4_seek 39 = .ok (.iinc 3 1, 3) := by decide +kernel
theorem dX4_seek_42 : decode cX4_seek 42 = .ok (.goto (-15), 3) := by decide +kernel
theorem dX4_seek_45 : decode cX4_seek 45 = .ok (.iload_n 2, 1) := by decide +kernel
theorem dX4_seek_46 : decode cX4_seek 46 = .ok (.istore_n 3, 1) := by decide +kernel
theorem dX4_seek_47 : decode cX4_seek 47 = .ok (.iload_n 3, 1) := by decide +kernel
theorem dX4_seek_48 : decode cX4_seek 48 = .ok (.ifCond .lt 16, 3) := by decide +kernel
theorem dX4_seek_51 : decode cX4_seek 51 = .ok (.aload_n 0, 1) := by decide +kernel
theorem dX4_seek_52 : decode cX4_seek 52 = .ok (.aload_n 1, 1) := by decide +kernel
theorem dX4_seek_53 : decode cX4_seek 53 = .ok (.iload_n 3, 1) := by decide +kernel
theorem dX4_seek_54 : decode cX4_seek 54 = .ok (.iload_n 2, 1) := by decide +kernel
theorem dX4_seek_55 : decode cX4_seek 55 = .ok (.invokevirtual 42, 3) := by decide +kernel
theorem dX4_seek_58 : decode cX4_seek 58 = .ok (.iinc 3 (-1), 3) := by decide +kernel
theorem dX4_seek_61 : decode cX4_seek 61 = .ok (.goto (-14), 3) := by decide +kernel
theorem dX4_seek_64 : decode cX4_seek 64 = .ok (.aload_n 0, 1) := by decide +kernel
theorem dX4_seek_65 : decode cX4_seek 65 = .ok (.aload_n 0, 1) := by decide +kernel
theorem dX4_seek_66 : decode cX4_seek 66 = .ok (.iconst 0, 1) := by decide +kernel
theorem dX4_seek_67 : decode cX4_seek 67 = .ok (.iconst 0, 1) := by decide +kernel
theorem dX4_seek_68 : decode cX4_seek 68 = .ok (.invokevirtual 45, 3) := by decide +kernel
theorem dX4_seek_71 : decode cX4_seek 71 = .ok (.putfield 49, 3) := by decide +kernel
theorem dX4_seek_74 : decode cX4_seek 74 = .ok (.aload_n 0, 1) := by decide +kernel
theorem dX4_seek_75 : decode cX4_seek 75 = .ok (.iconst 1, 1) := by decide +kernel
theorem dX4_seek_76 : decode cX4_seek 76 = .ok (.putfield 53, 3) := by decide +kernel
theorem dX4_seek_79 : decode cX4_seek 79 = .ok (.return_, 1) := by decide +kernel
theorem dX4_reachOn_0 : decode cX4_reachOn 0 = .ok (.iload_n 2, 1) := by decide +kernel
theorem dX4_reachOn_1 : decode cX4_reachOn 1 = .ok (.ifCond .lt 10, 3) := by decide +kernel
theorem dX4_reachOn_4 : decode cX4_reachOn 4 = .ok (.iload_n 2, 1) := by decide +kernel
theorem dX4_reachOn_5 : decode cX4_reachOn 5 = .ok (.sipush 128, 3) := by decide +kernel
theorem dX4_reachOn_8 : decode cX4_reachOn 8 = .ok (.if_icmp .lt 4, 3) := by decide +kernel
theorem dX4_reachOn_11 : decode cX4_reachOn 11 = .ok (.return_, 1) := by decide +kernel
theorem dX4_reachOn_12 : decode cX4_reachOn 12 = .ok (.aload_n 0, 1) := by decide +kernel
theorem dX4_reachOn_13 : decode cX4_reachOn 13 = .ok (.getfield 9, 3) := by decide +kernel
theorem dX4_reachOn_16 : decode cX4_reachOn 16 = .ok (.iload_n 2, 1) := by decide +kernel
theorem dX4_reachOn_17 : decode cX4_reachOn 17 = .ok (.aload_n 0, 1) := by decide +kernel
theorem dX4_reachOn_18 : decode cX4_reachOn 18 = .ok (.getfield 15, 3) := by decide +kernel
theorem dX4_reachOn_21 : decode cX4_reachOn 21 = .ok (.iload_n 2, 1) := by decide +kernel
theorem dX4_reachOn_22 : decode cX4_reachOn 22 = .ok (.laload, 1) := by decide +kernel
theorem dX4_reachOn_23 : decode cX4_reachOn 23 = .ok (.lconst 0, 1) := by decide +kernel
theorem dX4_reachOn_24 : decode cX4_reachOn 24 = .ok (.lcmp, 1) := by decide +kernel
theorem dX4_reachOn_25 : decode cX4_reachOn 25 = .ok (.ifCond .ne 7, 3) := by decide +kernel
theorem dX4_reachOn_28 : decode cX4_reachOn 28 = .ok (.iconst 0, 1) := by decide +kernel
theorem dX4_reachOn_29 : decode cX4_reachOn 29 = .ok (.goto 9, 3) := by decide +kernel
theorem dX4_reachOn_32 : decode cX4_reachOn 32 = .ok (.aload_n 1, 1) := by decide +kernel
theorem dX4_reachOn_33 : decode cX4_reachOn 33 = .ok (.iload_n 2, 1) := by decide +kernel
theorem dX4_reachOn_34 : decode cX4_reachOn 34 = .ok (.iload_n 3, 1) := by decide +kernel
theorem dX4_reachOn_35 : decode cX4_reachOn 35 = .ok (.invokevirtual 57, 3) := by decide +kernel
theorem dX4_reachOn_38 : decode cX4_reachOn 38 = .ok (.iastore, 1) := by decide +kernel
theorem dX4_reachOn_39 : decode cX4_reachOn 39 = .ok (.iconst 0, 1) := by decide +kernel
theorem dX4_reachOn_40 : decode cX4_reachOn 40 = .ok (.istore 4, 2) := by decide +kernel
theorem dX4_reachOn_42 : decode cX4_reachOn 42 = .ok (.iload 4, 2) := by decide +kernel
theorem dX4_reachOn_44 : decode cX4_reachOn 44 = .ok (.bipush 7, 2) := by decide +kernel
theorem dX4_reachOn_46 : decode cX4_reachOn 46 = .ok (.if_icmp .ge 61, 3) := by decide +kernel
theorem dX4_reachOn_49 : decode cX4_reachOn 49 = .ok (.iload_n 2, 1) := by decide +kernel
theorem dX4_reachOn_50 : decode cX4_reachOn 50 = .ok (.iconst 1, 1) := by decide +kernel
theorem dX4_reachOn_51 : decode cX4_reachOn 51 = .ok (.iload 4, 2) := by decide +kernel
theorem dX4_reachOn_53 : decode cX4_reachOn 53 = .ok (.ishl, 1) := by decide +kernel
theorem dX4_reachOn_54 : decode cX4_reachOn 54 = .ok (.ior, 1) := by decide +kernel
theorem dX4_reachOn_55 : decode cX4_reachOn 55 = .ok (.istore 5, 2) := by decide +kernel
theorem dX4_reachOn_57 : decode cX4_reachOn 57 = .ok (.aload_n 0, 1) := by decide +kernel
theorem dX4_reachOn_58 : decode cX4_reachOn 58 = .ok (.getfield 9, 3) := by decide +kernel
theorem dX4_reachOn_61 : decode cX4_reachOn 61 = .ok (.iload_n 2, 1) := by decide +kernel
theorem dX4_reachOn_62 : decode cX4_reachOn 62 = .ok (.iaload, 1) := by decide +kernel
theorem dX4_reachOn_63 : decode cX4_reachOn 63 = .ok (.iload 4, 2) := by decide +kernel
theorem dX4_reachOn_65 : decode cX4_reachOn 65 = .ok (.invokestatic 60, 3) := by decide +kernel
theorem dX4_reachOn_68 : decode cX4_reachOn 68 = .ok (.ifCond .eq 33, 3) := by decide +kernel
theorem dX4_reachOn_71 : decode cX4_reachOn 71 = .ok (.iload 5, 2) := by decide +kernel
theorem dX4_reachOn_73 : decode cX4_reachOn 73 = .ok (.sipush 128, 3) := by decide +kernel
theorem dX4_reachOn_76 : decode cX4_reachOn 76 = .ok (.if_icmp .ge 25, 3) := by decide +kernel
theorem dX4_reachOn_79 : decode cX4_reachOn 79 = .ok (.aload_n 0, 1) := by decide +kernel
theorem dX4_reachOn_80 : decode cX4_reachOn 80 = .ok (.getfield 15, 3) := by decide +kernel
theorem dX4_reachOn_83 : decode cX4_reachOn 83 = .ok (.iload 5, 2) := by decide +kernel
theorem dX4_reachOn_85 : decode cX4_reachOn 85 = .ok (.dup2, 1) := by decide +kernel
theorem dX4_reachOn_86 : decode cX4_reachOn 86 = .ok (.laload, 1) := by decide +kernel
theorem dX4_reachOn_87 : decode cX4_reachOn 87 = .ok (.aload_n 1, 1) := by decide +kernel
theorem dX4_reachOn_88 : decode cX4_reachOn 88 = .ok (.iload 4, 2) := by decide +kernel
theorem dX4_reachOn_90 : decode cX4_reachOn 90 = .ok (.aload_n 0, 1) := by decide +kernel
theorem dX4_reachOn_91 : decode cX4_reachOn 91 = .ok (.getfield 15, 3) := by decide +kernel
theorem dX4_reachOn_94 : decode cX4_reachOn 94 = .ok (.iload_n 2, 1) := by decide +kernel
theorem dX4_reachOn_95 : decode cX4_reachOn 95 = .ok (.laload, 1) := by decide +kernel
theorem dX4_reachOn_96 : decode cX4_reachOn 96 = .ok (.invokestatic 64, 3) := by decide +kernel
theorem dX4_reachOn_99 : decode cX4_reachOn 99 = .ok (.lor, 1) := by decide +kernel
theorem dX4_reachOn_100 : decode cX4_reachOn 100 = .ok (.lastore, 1) := by decide +kernel
theorem dX4_reachOn_101 : decode cX4_reachOn 101 = .ok (.iinc 4 1, 3) := by decide +kernel
theorem dX4_reachOn_104 : decode cX4_reachOn 104 = .ok (.goto (-62), 3) := by decide +kernel
theorem dX4_reachOn_107 : decode cX4_reachOn 107 = .ok (.return_, 1) := by decide +kernel
theorem dX4_freeThen_0 : decode cX4_freeThen 0 = .ok (.lconst 0, 1) := by decide +kernel
theorem dX4_freeThen_1 : decode cX4_freeThen 1 = .ok (.lstore 4, 2) := by decide +kernel
theorem dX4_freeThen_3 : decode cX4_freeThen 3 = .ok (.lload_n 2, 1) := by decide +kernel
theorem dX4_freeThen_4 : decode cX4_freeThen 4 = .ok (.lstore 6, 2) := by decide +kernel
theorem dX4_freeThen_6 : decode cX4_freeThen 6 = .ok (.lload_n 2, 1) := by decide +kernel
theorem dX4_freeThen_7 : decode cX4_freeThen 7 = .ok (.invokestatic 68, 3) := by decide +kernel
theorem dX4_freeThen_10 : decode cX4_freeThen 10 = .ok (.istore 8, 2) := by decide +kernel
theorem dX4_freeThen_12 : decode cX4_freeThen 12 = .ok (.iconst 0, 1) := by decide +kernel
theorem dX4_freeThen_13 : decode cX4_freeThen 13 = .ok (.istore 9, 2) := by decide +kernel
theorem dX4_freeThen_15 : decode cX4_freeThen 15 = .ok (.iload 9, 2) := by decide +kernel
theorem dX4_freeThen_17 : decode cX4_freeThen 17 = .ok (.iload 8, 2) := by decide +kernel
theorem dX4_freeThen_19 : decode cX4_freeThen 19 = .ok (.if_icmp .ge 45, 3) := by decide +kernel
theorem dX4_freeThen_22 : decode cX4_freeThen 22 = .ok (.aload_n 0, 1) := by decide +kernel
theorem dX4_freeThen_23 : decode cX4_freeThen 23 = .ok (.iload_n 1, 1) := by decide +kernel
theorem dX4_freeThen_24 : decode cX4_freeThen 24 = .ok (.lload 6, 2) := by decide +kernel
theorem dX4_freeThen_26 : decode cX4_freeThen 26 = .ok (.invokestatic 74, 3) := by decide +kernel
theorem dX4_freeThen_29 : decode cX4_freeThen 29 = .ok (.invokevirtual 77, 3) := by decide +kernel
theorem dX4_freeThen_32 : decode cX4_freeThen 32 = .ok (.istore 10, 2) := by decide +kernel
theorem dX4_freeThen_34 : decode cX4_freeThen 34 = .ok (.iload 10, 2) := by decide +kernel
theorem dX4_freeThen_36 : decode cX4_freeThen 36 = .ok (.iconst (-1), 1) := by decide +kernel
theorem dX4_freeThen_37 : decode cX4_freeThen 37 = .ok (.if_icmp .eq 12, 3) := by decide +kernel
theorem dX4_freeThen_40 : decode cX4_freeThen 40 = .ok (.lload 4, 2) := by decide +kernel
theorem dX4_freeThen_42 : decode cX4_freeThen 42 = .ok (.lconst 1, 1) := by decide +kernel
theorem dX4_freeThen_43 : decode cX4_freeThen 43 = .ok (.iload 10, 2) := by decide +kernel
theorem dX4_freeThen_45 : decode cX4_freeThen 45 = .ok (.lshl, 1) := by decide +kernel
theorem dX4_freeThen_46 : decode cX4_freeThen 46 = .ok (.lor, 1) := by decide +kernel
theorem dX4_freeThen_47 : decode cX4_freeThen 47 = .ok (.lstore 4, 2) := by decide +kernel
theorem dX4_freeThen_49 : decode cX4_freeThen 49 = .ok (.lload 6, 2) := by decide +kernel
theorem dX4_freeThen_51 : decode cX4_freeThen 51 = .ok (.lload 6, 2) := by decide +kernel
theorem dX4_freeThen_53 : decode cX4_freeThen 53 = .ok (.lconst 1, 1) := by decide +kernel
theorem dX4_freeThen_54 : decode cX4_freeThen 54 = .ok (.lsub, 1) := by decide +kernel
theorem dX4_freeThen_55 : decode cX4_freeThen 55 = .ok (.land, 1) := by decide +kernel
theorem dX4_freeThen_56 : decode cX4_freeThen 56 = .ok (.lstore 6, 2) := by decide +kernel
theorem dX4_freeThen_58 : decode cX4_freeThen 58 = .ok (.iinc 9 1, 3) := by decide +kernel
theorem dX4_freeThen_61 : decode cX4_freeThen 61 = .ok (.goto (-46), 3) := by decide +kernel
theorem dX4_freeThen_64 : decode cX4_freeThen 64 = .ok (.lload 4, 2) := by decide +kernel
theorem dX4_freeThen_66 : decode cX4_freeThen 66 = .ok (.lreturn, 1) := by decide +kernel
theorem dX4_countOn_0 : decode cX4_countOn 0 = .ok (.iload_n 2, 1) := by decide +kernel
theorem dX4_countOn_1 : decode cX4_countOn 1 = .ok (.ifCond .lt 10, 3) := by decide +kernel
theorem dX4_countOn_4 : decode cX4_countOn 4 = .ok (.iload_n 2, 1) := by decide +kernel
theorem dX4_countOn_5 : decode cX4_countOn 5 = .ok (.sipush 128, 3) := by decide +kernel
theorem dX4_countOn_8 : decode cX4_countOn 8 = .ok (.if_icmp .lt 4, 3) := by decide +kernel
theorem dX4_countOn_11 : decode cX4_countOn 11 = .ok (.return_, 1) := by decide +kernel
theorem dX4_countOn_12 : decode cX4_countOn 12 = .ok (.aload_n 0, 1) := by decide +kernel
theorem dX4_countOn_13 : decode cX4_countOn 13 = .ok (.getfield 15, 3) := by decide +kernel
theorem dX4_countOn_16 : decode cX4_countOn 16 = .ok (.iload_n 2, 1) := by decide +kernel
theorem dX4_countOn_17 : decode cX4_countOn 17 = .ok (.laload, 1) := by decide +kernel
theorem dX4_countOn_18 : decode cX4_countOn 18 = .ok (.lstore 4, 2) := by decide +kernel
theorem dX4_countOn_20 : decode cX4_countOn 20 = .ok (.lload 4, 2) := by decide +kernel
theorem dX4_countOn_22 : decode cX4_countOn 22 = .ok (.invokestatic 68, 3) := by decide +kernel
theorem dX4_countOn_25 : decode cX4_countOn 25 = .ok (.istore 6, 2) := by decide +kernel
theorem dX4_countOn_27 : decode cX4_countOn 27 = .ok (.iconst 0, 1) := by decide +kernel
theorem dX4_countOn_28 : decode cX4_countOn 28 = .ok (.istore 7, 2) := by decide +kernel
theorem dX4_countOn_30 : decode cX4_countOn 30 = .ok (.iload 7, 2) := by decide +kernel
theorem dX4_countOn_32 : decode cX4_countOn 32 = .ok (.iload 6, 2) := by decide +kernel
theorem dX4_countOn_34 : decode cX4_countOn 34 = .ok (.if_icmp .ge 94, 3) := by decide +kernel
theorem dX4_countOn_37 : decode cX4_countOn 37 = .ok (.lload 4, 2) := by decide +kernel
theorem dX4_countOn_39 : decode cX4_countOn 39 = .ok (.invokestatic 74, 3) := by decide +kernel
theorem dX4_countOn_42 : decode cX4_countOn 42 = .ok (.istore 8, 2) := by decide +kernel
theorem dX4_countOn_44 : decode cX4_countOn 44 = .ok (.iload_n 2, 1) := by decide +kernel
theorem dX4_countOn_45 : decode cX4_countOn 45 = .ok (.iload_n 3, 1) := by decide +kernel
theorem dX4_countOn_46 : decode cX4_countOn 46 = .ok (.if_icmp .ne 7, 3) := by decide +kernel
theorem dX4_countOn_49 : decode cX4_countOn 49 = .ok (.iconst 1, 1) := by decide +kernel
theorem dX4_countOn_50 : decode cX4_countOn 50 = .ok (.goto 4, 3) := by decide +kernel
theorem dX4_countOn_53 : decode cX4_countOn 53 = .ok (.iconst 0, 1) := by decide +kernel
theorem dX4_countOn_54 : decode cX4_countOn 54 = .ok (.istore 9, 2) := by decide +kernel
theorem dX4_countOn_56 : decode cX4_countOn 56 = .ok (.iconst 0, 1) := by decide +kernel
theorem dX4_countOn_57 : decode cX4_countOn 57 = .ok (.istore 10, 2) := by decide +kernel
theorem dX4_countOn_59 : decode cX4_countOn 59 = .ok (.iload 10, 2) := by decide +kernel
theorem dX4_countOn_61 : decode cX4_countOn 61 = .ok (.bipush 7, 2) := by decide +kernel
theorem dX4_countOn_63 : decode cX4_countOn 63 = .ok (.if_icmp .ge 29, 3) := by decide +kernel
theorem dX4_countOn_66 : decode cX4_countOn 66 = .ok (.iload_n 2, 1) := by decide +kernel
theorem dX4_countOn_67 : decode cX4_countOn 67 = .ok (.iload_n 3, 1) := by decide +kernel
theorem dX4_countOn_68 : decode cX4_countOn 68 = .ok (.if_icmp .eq 24, 3) := by decide +kernel
theorem dX4_countOn_71 : decode cX4_countOn 71 = .ok (.iload 9, 2) := by decide +kernel
theorem dX4_countOn_73 : decode cX4_countOn 73 = .ok (.aload_n 0, 1) := by decide +kernel
theorem dX4_countOn_74 : decode cX4_countOn 74 = .ok (.aload_n 1, 1) := by decide +kernel
theorem dX4_countOn_75 : decode cX4_countOn 75 = .ok (.iload_n 2, 1) := by decide +kernel
theorem dX4_countOn_76 : decode cX4_countOn 76 = .ok (.iload 8, 2) := by decide +kernel
theorem dX4_countOn_78 : decode cX4_countOn 78 = .ok (.iload 10, 2) := by decide +kernel
theorem dX4_countOn_80 : decode cX4_countOn 80 = .ok (.invokevirtual 80, 3) := by decide +kernel
theorem dX4_countOn_83 : decode cX4_countOn 83 = .ok (.iadd, 1) := by decide +kernel
theorem dX4_countOn_84 : decode cX4_countOn 84 = .ok (.istore 9, 2) := by decide +kernel
theorem dX4_countOn_86 : decode cX4_countOn 86 = .ok (.iinc 10 1, 3) := by decide +kernel
theorem dX4_countOn_89 : decode cX4_countOn 89 = .ok (.goto (-30), 3) := by decide +kernel
theorem dX4_countOn_92 : decode cX4_countOn 92 = .ok (.iload 8, 2) := by decide +kernel
theorem dX4_countOn_94 : decode cX4_countOn 94 = .ok (.bipush 49, 2) := by decide +kernel
theorem dX4_countOn_96 : decode cX4_countOn 96 = .ok (.if_icmp .ge 17, 3) := by decide +kernel
theorem dX4_countOn_99 : decode cX4_countOn 99 = .ok (.aload_n 0, 1) := by decide +kernel
theorem dX4_countOn_100 : decode cX4_countOn 100 = .ok (.getfield 19, 3) := by decide +kernel
theorem dX4_countOn_103 : decode cX4_countOn 103 = .ok (.iload_n 2, 1) := by decide +kernel
theorem dX4_countOn_104 : decode cX4_countOn 104 = .ok (.bipush 49, 2) := by decide +kernel
theorem dX4_countOn_106 : decode cX4_countOn 106 = .ok (.imul, 1) := by decide +kernel
theorem dX4_countOn_107 : decode cX4_countOn 107 = .ok (.iload 8, 2) := by decide +kernel
theorem dX4_countOn_109 : decode cX4_countOn 109 = .ok (.iadd, 1) := by decide +kernel
theorem dX4_countOn_110 : decode cX4_countOn 110 = .ok (.iload 9, 2) := by decide +kernel
theorem dX4_countOn_112 : decode cX4_countOn 112 = .ok (.iastore, 1) := by decide +kernel
theorem dX4_countOn_113 : decode cX4_countOn 113 = .ok (.lload 4, 2) := by decide +kernel
theorem dX4_countOn_115 : decode cX4_countOn 115 = .ok (.lload 4, 2) := by decide +kernel
theorem dX4_countOn_117 : decode cX4_countOn 117 = .ok (.lconst 1, 1) := by decide +kernel
theorem dX4_countOn_118 : decode cX4_countOn 118 = .ok (.lsub, 1) := by decide +kernel
theorem dX4_countOn_119 : decode cX4_countOn 119 = .ok (.land, 1) := by decide +kernel
theorem dX4_countOn_120 : decode cX4_countOn 120 = .ok (.lstore 4, 2) := by decide +kernel
theorem dX4_countOn_122 : decode cX4_countOn 122 = .ok (.iinc 7 1, 3) := by decide +kernel
theorem dX4_countOn_125 : decode cX4_countOn 125 = .ok (.goto (-95), 3) := by decide +kernel
theorem dX4_countOn_128 : decode cX4_countOn 128 = .ok (.return_, 1) := by decide +kernel
theorem dX4_waysBy_0 : decode cX4_waysBy 0 = .ok (.iload_n 2, 1) := by decide +kernel
theorem dX4_waysBy_1 : decode cX4_waysBy 1 = .ok (.ifCond .lt 24, 3) := by decide +kernel
theorem dX4_waysBy_4 : decode cX4_waysBy 4 = .ok (.iload_n 2, 1) := by decide +kernel
theorem dX4_waysBy_5 : decode cX4_waysBy 5 = .ok (.sipush 128, 3) := by decide +kernel
theorem dX4_waysBy_8 : decode cX4_waysBy 8 = .ok (.if_icmp .ge 17, 3) := by decide +kernel
theorem dX4_waysBy_11 : decode cX4_waysBy 11 = .ok (.aload_n 0, 1) := by decide +kernel
theorem dX4_waysBy_12 : decode cX4_waysBy 12 = .ok (.getfield 9, 3) := by decide +kernel
theorem dX4_waysBy_15 : decode cX4_waysBy 15 = .ok (.iload_n 2, 1) := by decide +kernel
theorem dX4_waysBy_16 : decode cX4_waysBy 16 = .ok (.iaload, 1) := by decide +kernel
theorem dX4_waysBy_17 : decode cX4_waysBy 17 = .ok (.iload 4, 2) := by decide +kernel
theorem dX4_waysBy_19 : decode cX4_waysBy 19 = .ok (.invokestatic 60, 3) := by decide +kernel
theorem dX4_waysBy_22 : decode cX4_waysBy 22 = .ok (.ifCond .ne 5, 3) := by decide +kernel
theorem dX4_waysBy_25 : decode cX4_waysBy 25 = .ok (.iconst 0, 1) := by decide +kernel
theorem dX4_waysBy_26 : decode cX4_waysBy 26 = .ok (.ireturn, 1) := by decide +kernel
theorem dX4_waysBy_27 : decode cX4_waysBy 27 = .ok (.aload_n 1, 1) := by decide +kernel
theorem dX4_waysBy_28 : decode cX4_waysBy 28 = .ok (.iload 4, 2) := by decide +kernel
theorem dX4_waysBy_30 : decode cX4_waysBy 30 = .ok (.iload_n 3, 1) := by decide +kernel
theorem dX4_waysBy_31 : decode cX4_waysBy 31 = .ok (.invokevirtual 77, 3) := by decide +kernel
theorem dX4_waysBy_34 : decode cX4_waysBy 34 = .ok (.istore 5, 2) := by decide +kernel
theorem dX4_waysBy_36 : decode cX4_waysBy 36 = .ok (.iload 5, 2) := by decide +kernel
theorem dX4_waysBy_38 : decode cX4_waysBy 38 = .ok (.iconst (-1), 1) := by decide +kernel
theorem dX4_waysBy_39 : decode cX4_waysBy 39 = .ok (.if_icmp .ne 7, 3) := by decide +kernel
theorem dX4_waysBy_42 : decode cX4_waysBy 42 = .ok (.iconst 0, 1) := by decide +kernel
theorem dX4_waysBy_43 : decode cX4_waysBy 43 = .ok (.goto 15, 3) := by decide +kernel
theorem dX4_waysBy_46 : decode cX4_waysBy 46 = .ok (.aload_n 0, 1) := by decide +kernel
theorem dX4_waysBy_47 : decode cX4_waysBy 47 = .ok (.iload_n 2, 1) := by decide +kernel
theorem dX4_waysBy_48 : decode cX4_waysBy 48 = .ok (.iconst 1, 1) := by decide +kernel
theorem dX4_waysBy_49 : decode cX4_waysBy 49 = .ok (.iload 4, 2) := by decide +kernel
theorem dX4_waysBy_51 : decode cX4_waysBy 51 = .ok (.ishl, 1) := by decide +kernel
theorem dX4_waysBy_52 : decode cX4_waysBy 52 = .ok (.ior, 1) := by decide +kernel
theorem dX4_waysBy_53 : decode cX4_waysBy 53 = .ok (.iload 5, 2) := by decide +kernel
theorem dX4_waysBy_55 : decode cX4_waysBy 55 = .ok (.invokevirtual 45, 3) := by decide +kernel
theorem dX4_waysBy_58 : decode cX4_waysBy 58 = .ok (.ireturn, 1) := by decide +kernel
theorem dX4_waysFrom_0 : decode cX4_waysFrom 0 = .ok (.iload_n 1, 1) := by decide +kernel
theorem dX4_waysFrom_1 : decode cX4_waysFrom 1 = .ok (.ifCond .lt 24, 3) := by decide +kernel
theorem dX4_waysFrom_4 : decode cX4_waysFrom 4 = .ok (.iload_n 1, 1) := by decide +kernel
theorem dX4_waysFrom_5 : decode cX4_waysFrom 5 = .ok (.sipush 128, 3) := by decide +kernel
theorem dX4_waysFrom_8 : decode cX4_waysFrom 8 = .ok (.if_icmp .ge 17, 3) := by decide +kernel
theorem dX4_waysFrom_11 : decode cX4_waysFrom 11 = .ok (.iload_n 2, 1) := by decide +kernel
theorem dX4_waysFrom_12 : decode cX4_waysFrom 12 = .ok (.ifCond .lt 13, 3) := by decide +kernel
theorem dX4_waysFrom_15 : decode cX4_waysFrom 15 = .ok (.iload_n 2, 1) := by decide +kernel
theorem dX4_waysFrom_16 : decode cX4_waysFrom 16 = .ok (.bipush 49, 2) := by decide +kernel
theorem dX4_waysFrom_18 : decode cX4_waysFrom 18 = .ok (.if_icmp .ge 7, 3) := by decide +kernel
theorem dX4_waysFrom_21 : decode cX4_waysFrom 21 = .ok (.iconst 1, 1) := by decide +kernel
theorem dX4_waysFrom_22 : decode cX4_waysFrom 22 = .ok (.goto 4, 3) := by decide +kernel
theorem dX4_waysFrom_25 : decode cX4_waysFrom 25 = .ok (.iconst 0, 1) := by decide +kernel
theorem dX4_waysFrom_26 : decode cX4_waysFrom 26 = .ok (.istore_n 3, 1) := by decide +kernel
theorem dX4_waysFrom_27 : decode cX4_waysFrom 27 = .ok (.iload_n 3, 1) := by decide +kernel
theorem dX4_waysFrom_28 : decode cX4_waysFrom 28 = .ok (.ifCond .eq 17, 3) := by decide +kernel
theorem dX4_waysFrom_31 : decode cX4_waysFrom 31 = .ok (.aload_n 0, 1) := by decide +kernel
theorem dX4_waysFrom_32 : decode cX4_waysFrom 32 = .ok (.getfield 19, 3) := by decide +kernel
theorem dX4_waysFrom_35 : decode cX4_waysFrom 35 = .ok (.iload_n 1, 1) := by decide +kernel
theorem dX4_waysFrom_36 : decode cX4_waysFrom 36 = .ok (.bipush 49, 2) := by decide +kernel
theorem dX4_waysFrom_38 : decode cX4_waysFrom 38 = .ok (.imul, 1) := by decide +kernel
theorem dX4_waysFrom_39 : decode cX4_waysFrom 39 = .ok (.iload_n 2, 1) := by decide +kernel
theorem dX4_waysFrom_40 : decode cX4_waysFrom 40 = .ok (.iadd, 1) := by decide +kernel
theorem dX4_waysFrom_41 : decode cX4_waysFrom 41 = .ok (.iaload, 1) := by decide +kernel
theorem dX4_waysFrom_42 : decode cX4_waysFrom 42 = .ok (.goto 4, 3) := by decide +kernel
theorem dX4_waysFrom_45 : decode cX4_waysFrom 45 = .ok (.iconst 0, 1) := by decide +kernel
theorem dX4_waysFrom_46 : decode cX4_waysFrom 46 = .ok (.ireturn, 1) := by decide +kernel
theorem dX4_pictureAt_0 : decode cX4_pictureAt 0 = .ok (.aload_n 0, 1) := by decide +kernel
theorem dX4_pictureAt_1 : decode cX4_pictureAt 1 = .ok (.getfield 22, 3) := by decide +kernel
theorem dX4_pictureAt_4 : decode cX4_pictureAt 4 = .ok (.ifnull 30, 3) := by decide +kernel
theorem dX4_pictureAt_7 : decode cX4_pictureAt 7 = .ok (.iload_n 1, 1) := by decide +kernel
theorem dX4_pictureAt_8 : decode cX4_pictureAt 8 = .ok (.ifCond .lt 26, 3) := by decide +kernel
theorem dX4_pictureAt_11 : decode cX4_pictureAt 11 = .ok (.iload_n 1, 1) := by decide +kernel
theorem dX4_pictureAt_12 : decode cX4_pictureAt 12 = .ok (.aload_n 0, 1) := by decide +kernel
theorem dX4_pictureAt_13 : decode cX4_pictureAt 13 = .ok (.getfield 49, 3) := by decide +kernel
theorem dX4_pictureAt_16 : decode cX4_pictureAt 16 = .ok (.if_icmp .ge 18, 3) := by decide +kernel
theorem dX4_pictureAt_19 : decode cX4_pictureAt 19 = .ok (.iload_n 2, 1) := by decide +kernel
theorem dX4_pictureAt_20 : decode cX4_pictureAt 20 = .ok (.ifCond .lt 14, 3) := by decide +kernel
theorem dX4_pictureAt_23 : decode cX4_pictureAt 23 = .ok (.iload_n 2, 1) := by decide +kernel
theorem dX4_pictureAt_24 : decode cX4_pictureAt 24 = .ok (.aload_n 0, 1) := by decide +kernel
theorem dX4_pictureAt_25 : decode cX4_pictureAt 25 = .ok (.getfield 22, 3) := by decide +kernel
theorem dX4_pictureAt_28 : decode cX4_pictureAt 28 = .ok (.getfield 84, 3) := by decide +kernel
theorem dX4_pictureAt_31 : decode cX4_pictureAt 31 = .ok (.if_icmp .lt 5, 3) := by decide +kernel
theorem dX4_pictureAt_34 : decode cX4_pictureAt 34 = .ok (.iconst (-1), 1) := by decide +kernel
theorem dX4_pictureAt_35 : decode cX4_pictureAt 35 = .ok (.ireturn, 1) := by decide +kernel
theorem dX4_pictureAt_36 : decode cX4_pictureAt 36 = .ok (.iconst 0, 1) := by decide +kernel
theorem dX4_pictureAt_37 : decode cX4_pictureAt 37 = .ok (.istore_n 3, 1) := by decide +kernel
theorem dX4_pictureAt_38 : decode cX4_pictureAt 38 = .ok (.iconst 0, 1) := by decide +kernel
theorem dX4_pictureAt_39 : decode cX4_pictureAt 39 = .ok (.istore 4, 2) := by decide +kernel
theorem dX4_pictureAt_41 : decode cX4_pictureAt 41 = .ok (.iconst (-1), 1) := by decide +kernel
theorem dX4_pictureAt_42 : decode cX4_pictureAt 42 = .ok (.istore 5, 2) := by decide +kernel
theorem dX4_pictureAt_44 : decode cX4_pictureAt 44 = .ok (.iload_n 1, 1) := by decide +kernel
theorem dX4_pictureAt_45 : decode cX4_pictureAt 45 = .ok (.istore 6, 2) := by decide +kernel
theorem dX4_pictureAt_47 : decode cX4_pictureAt 47 = .ok (.iconst 0, 1) := by decide +kernel
theorem dX4_pictureAt_48 : decode cX4_pictureAt 48 = .ok (.istore 7, 2) := by decide +kernel
theorem dX4_pictureAt_50 : decode cX4_pictureAt 50 = .ok (.iload 7, 2) := by decide +kernel
theorem dX4_pictureAt_52 : decode cX4_pictureAt 52 = .ok (.iload_n 2, 1) := by decide +kernel
theorem dX4_pictureAt_53 : decode cX4_pictureAt 53 = .ok (.if_icmp .gt 84, 3) := by decide +kernel
theorem dX4_pictureAt_56 : decode cX4_pictureAt 56 = .ok (.iload 7, 2) := by decide +kernel
theorem dX4_pictureAt_58 : decode cX4_pictureAt 58 = .ok (.bipush 7, 2) := by decide +kernel
theorem dX4_pictureAt_60 : decode cX4_pictureAt 60 = .ok (.if_icmp .ge 77, 3) := by decide +kernel
theorem dX4_pictureAt_63 : decode cX4_pictureAt 63 = .ok (.iconst 0, 1) := by decide +kernel
theorem dX4_pictureAt_64 : decode cX4_pictureAt 64 = .ok (.istore 5, 2) := by decide +kernel
theorem dX4_pictureAt_66 : decode cX4_pictureAt 66 = .ok (.iload 5, 2) := by decide +kernel
theorem dX4_pictureAt_68 : decode cX4_pictureAt 68 = .ok (.bipush 6, 2) := by decide +kernel
theorem dX4_pictureAt_70 : decode cX4_pictureAt 70 = .ok (.if_icmp .ge 41, 3) := by decide +kernel
theorem dX4_pictureAt_73 : decode cX4_pictureAt 73 = .ok (.aload_n 0, 1) := by decide +kernel
theorem dX4_pictureAt_74 : decode cX4_pictureAt 74 = .ok (.aload_n 0, 1) := by decide +kernel
theorem dX4_pictureAt_75 : decode cX4_pictureAt 75 = .ok (.getfield 22, 3) := by decide +kernel
theorem dX4_pictureAt_78 : decode cX4_pictureAt 78 = .ok (.iload_n 3, 1) := by decide +kernel
theorem dX4_pictureAt_79 : decode cX4_pictureAt 79 = .ok (.iload 4, 2) := by decide +kernel
theorem dX4_pictureAt_81 : decode cX4_pictureAt 81 = .ok (.iload 5, 2) := by decide +kernel
theorem dX4_pictureAt_83 : decode cX4_pictureAt 83 = .ok (.invokevirtual 80, 3) := by decide +kernel
theorem dX4_pictureAt_86 : decode cX4_pictureAt 86 = .ok (.istore 8, 2) := by decide +kernel
theorem dX4_pictureAt_88 : decode cX4_pictureAt 88 = .ok (.iload 6, 2) := by decide +kernel
theorem dX4_pictureAt_90 : decode cX4_pictureAt 90 = .ok (.iload 8, 2) := by decide +kernel
theorem dX4_pictureAt_92 : decode cX4_pictureAt 92 = .ok (.if_icmp .ge 6, 3) := by decide +kernel
theorem dX4_pictureAt_95 : decode cX4_pictureAt 95 = .ok (.goto 16, 3) := by decide +kernel
theorem dX4_pictureAt_98 : decode cX4_pictureAt 98 = .ok (.iload 6, 2) := by decide +kernel
theorem dX4_pictureAt_100 : decode cX4_pictureAt 100 = .ok (.iload 8, 2) := by decide +kernel
theorem dX4_pictureAt_102 : decode cX4_pictureAt 102 = .ok (.isub, 1) := by decide +kernel
theorem dX4_pictureAt_103 : decode cX4_pictureAt 103 = .ok (.istore 6, 2) := by decide +kernel
theorem dX4_pictureAt_105 : decode cX4_pictureAt 105 = .ok (.iinc 5 1, 3) := by decide +kernel
theorem dX4_pictureAt_108 : decode cX4_pictureAt 108 = .ok (.goto (-42), 3) := by decide +kernel
theorem dX4_pictureAt_111 : decode cX4_pictureAt 111 = .ok (.iload_n 3, 1) := by decide +kernel
theorem dX4_pictureAt_112 : decode cX4_pictureAt 112 = .ok (.iconst 1, 1) := by decide +kernel
theorem dX4_pictureAt_113 : decode cX4_pictureAt 113 = .ok (.iload 5, 2) := by decide +kernel
theorem dX4_pictureAt_115 : decode cX4_pictureAt 115 = .ok (.ishl, 1) := by decide +kernel
theorem dX4_pictureAt_116 : decode cX4_pictureAt 116 = .ok (.ior, 1) := by decide +kernel
theorem dX4_pictureAt_117 : decode cX4_pictureAt 117 = .ok (.istore_n 3, 1) := by decide +kernel
theorem dX4_pictureAt_118 : decode cX4_pictureAt 118 = .ok (.aload_n 0, 1) := by decide +kernel
theorem dX4_pictureAt_119 : decode cX4_pictureAt 119 = .ok (.getfield 22, 3) := by decide +kernel
theorem dX4_pictureAt_122 : decode cX4_pictureAt 122 = .ok (.iload 5, 2) := by decide +kernel
theorem dX4_pictureAt_124 : decode cX4_pictureAt 124 = .ok (.iload 4, 2) := by decide +kernel
theorem dX4_pictureAt_126 : decode cX4_pictureAt 126 = .ok (.invokevirtual 77, 3) := by decide +kernel
theorem dX4_pictureAt_129 : decode cX4_pictureAt 129 = .ok (.istore 4, 2) := by decide +kernel
theorem dX4_pictureAt_131 : decode cX4_pictureAt 131 = .ok (.iinc 7 1, 3) := by decide +kernel
theorem dX4_pictureAt_134 : decode cX4_pictureAt 134 = .ok (.goto (-84), 3) := by decide +kernel
theorem dX4_pictureAt_137 : decode cX4_pictureAt 137 = .ok (.iload 5, 2) := by decide +kernel
theorem dX4_pictureAt_139 : decode cX4_pictureAt 139 = .ok (.ireturn, 1) := by decide +kernel
theorem dX5_init_0 : decode cX5_init 0 = .ok (.aload_n 0, 1) := by decide +kernel
theorem dX5_init_1 : decode cX5_init 1 = .ok (.invokespecial 3, 3) := by decide +kernel
theorem dX5_init_4 : decode cX5_init 4 = .ok (.aload_n 0, 1) := by decide +kernel
theorem dX5_init_5 : decode cX5_init 5 = .ok (.bipush 56, 2) := by decide +kernel
theorem dX5_init_7 : decode cX5_init 7 = .ok (.newarray .int, 2) := by decide +kernel
theorem dX5_init_9 : decode cX5_init 9 = .ok (.putfield 9, 3) := by decide +kernel
theorem dX5_init_12 : decode cX5_init 12 = .ok (.aload_n 0, 1) := by decide +kernel
theorem dX5_init_13 : decode cX5_init 13 = .ok (.bipush 56, 2) := by decide +kernel
theorem dX5_init_15 : decode cX5_init 15 = .ok (.newarray .int, 2) := by decide +kernel
theorem dX5_init_17 : decode cX5_init 17 = .ok (.putfield 15, 3) := by decide +kernel
theorem dX5_init_20 : decode cX5_init 20 = .ok (.aload_n 0, 1) := by decide +kernel
theorem dX5_init_21 : decode cX5_init 21 = .ok (.bipush 56, 2) := by decide +kernel
theorem dX5_init_23 : decode cX5_init 23 = .ok (.newarray .int, 2) := by decide +kernel
theorem dX5_init_25 : decode cX5_init 25 = .ok (.putfield 18, 3) := by decide +kernel
theorem dX5_init_28 : decode cX5_init 28 = .ok (.aload_n 0, 1) := by decide +kernel
theorem dX5_init_29 : decode cX5_init 29 = .ok (.bipush 56, 2) := by decide +kernel
theorem dX5_init_31 : decode cX5_init 31 = .ok (.newarray .int, 2) := by decide +kernel
theorem dX5_init_33 : decode cX5_init 33 = .ok (.putfield 21, 3) := by decide +kernel
theorem dX5_init_36 : decode cX5_init 36 = .ok (.aload_n 0, 1) := by decide +kernel
theorem dX5_init_37 : decode cX5_init 37 = .ok (.invokevirtual 24, 3) := by decide +kernel
theorem dX5_init_40 : decode cX5_init 40 = .ok (.return_, 1) := by decide +kernel
theorem dX5_clear_0 : decode cX5_clear 0 = .ok (.aload_n 0, 1) := by decide +kernel
theorem dX5_clear_1 : decode cX5_clear 1 = .ok (.iconst 0, 1) := by decide +kernel
theorem dX5_clear_2 : decode cX5_clear 2 = .ok (.putfield 27, 3) := by decide +kernel
theorem dX5_clear_5 : decode cX5_clear 5 = .ok (.aload_n 0, 1) := by decide +kernel
theorem dX5_clear_6 : decode cX5_clear 6 = .ok (.getfield 15, 3) := by decide +kernel
theorem dX5_clear_9 : decode cX5_clear 9 = .ok (.iconst (-1), 1) := by decide +kernel
theorem dX5_clear_10 : decode cX5_clear 10 = .ok (.invokestatic 31, 3) := by decide +kernel
theorem dX5_clear_13 : decode cX5_clear 13 = .ok (.aload_n 0, 1) := by decide +kernel
theorem dX5_clear_14 : decode cX5_clear 14 = .ok (.getfield 18, 3) := by decide +kernel
theorem dX5_clear_17 : decode cX5_clear 17 = .ok (.iconst (-1), 1) := by decide +kernel
theorem dX5_clear_18 : decode cX5_clear 18 = .ok (.invokestatic 31, 3) := by decide +kernel
theorem dX5_clear_21 : decode cX5_clear 21 = .ok (.aload_n 0, 1) := by decide +kernel
theorem dX5_clear_22 : decode cX5_clear 22 = .ok (.getfield 21, 3) := by decide +kernel
theorem dX5_clear_25 : decode cX5_clear 25 = .ok (.iconst (-1), 1) := by decide +kernel
theorem dX5_clear_26 : decode cX5_clear 26 = .ok (.invokestatic 31, 3) := by decide +kernel
theorem dX5_clear_29 : decode cX5_clear 29 = .ok (.return_, 1) := by decide +kernel
theorem dX5_copyFrom_0 : decode cX5_copyFrom 0 = .ok (.aload_n 0, 1) := by decide +kernel
theorem dX5_copyFrom_1 : decode cX5_copyFrom 1 = .ok (.aload_n 1, 1) := by decide +kernel
theorem dX5_copyFrom_2 : decode cX5_copyFrom 2 = .ok (.getfield 27, 3) := by decide +kernel
theorem dX5_copyFrom_5 : decode cX5_copyFrom 5 = .ok (.putfield 27, 3) := by decide +kernel
theorem dX5_copyFrom_8 : decode cX5_copyFrom 8 = .ok (.aload_n 1, 1) := by decide +kernel
theorem dX5_copyFrom_9 : decode cX5_copyFrom 9 = .ok (.getfield 9, 3) := by decide +kernel
theorem dX5_copyFrom_12 : decode cX5_copyFrom 12 = .ok (.iconst 0, 1) := by decide +kernel
theorem dX5_copyFrom_13 : decode cX5_copyFrom 13 = .ok (.aload_n 0, 1) := by decide +kernel
theorem dX5_copyFrom_14 : decode cX5_copyFrom 14 = .ok (.getfield 9, 3) := by decide +kernel
theorem dX5_copyFrom_17 : decode cX5_copyFrom 17 = .ok (.iconst 0, 1) := by decide +kernel
theorem dX5_copyFrom_18 : decode cX5_copyFrom 18 = .ok (.bipush 56, 2) := by decide +kernel
theorem dX5_copyFrom_20 : decode cX5_copyFrom 20 = .ok (.invokestatic 37, 3) := by decide +kernel
theorem dX5_copyFrom_23 : decode cX5_copyFrom 23 = .ok (.aload_n 1, 1) := by decide +kernel
theorem dX5_copyFrom_24 : decode cX5_copyFrom 24 = .ok (.getfield 15, 3) := by decide +kernel
theorem dX5_copyFrom_27 : decode cX5_copyFrom 27 = .ok (.iconst 0, 1) := by decide +kernel
theorem dX5_copyFrom_28 : decode cX5_copyFrom 28 = .ok (.aload_n 0, 1) := by decide +kernel
theorem dX5_copyFrom_29 : decode cX5_copyFrom 29 = .ok (.getfield 15, 3) := by decide +kernel
theorem dX5_copyFrom_32 : decode cX5_copyFrom 32 = .ok (.iconst 0, 1) := by decide +kernel
theorem dX5_copyFrom_33 : decode cX5_copyFrom 33 = .ok (.bipush 56, 2) := by decide +kernel
theorem dX5_copyFrom_35 : decode cX5_copyFrom 35 = .ok (.invokestatic 37, 3) := by decide +kernel
theorem dX5_copyFrom_38 : decode cX5_copyFrom 38 = .ok (.aload_n 1, 1) := by decide +kernel
theorem dX5_copyFrom_39 : decode cX5_copyFrom 39 = .ok (.getfield 18, 3) := by decide +kernel
theorem dX5_copyFrom_42 : decode cX5_copyFrom 42 = .ok (.iconst 0, 1) := by decide +kernel
theorem dX5_copyFrom_43 : decode cX5_copyFrom 43 = .ok (.aload_n 0, 1) := by decide +kernel
theorem dX5_copyFrom_44 : decode cX5_copyFrom 44 = .ok (.getfield 18, 3) := by decide +kernel
theorem dX5_copyFrom_47 : decode cX5_copyFrom 47 = .ok (.iconst 0, 1) := by decide +kernel
theorem dX5_copyFrom_48 : decode cX5_copyFrom 48 = .ok (.bipush 56, 2) := by decide +kernel
theorem dX5_copyFrom_50 : decode cX5_copyFrom 50 = .ok (.invokestatic 37, 3) := by decide +kernel
theorem dX5_copyFrom_53 : decode cX5_copyFrom 53 = .ok (.aload_n 1, 1) := by decide +kernel
theorem dX5_copyFrom_54 : decode cX5_copyFrom 54 = .ok (.getfield 21, 3) := by decide +kernel
theorem dX5_copyFrom_57 : decode cX5_copyFrom 57 = .ok (.iconst 0, 1) := by decide +kernel
theorem dX5_copyFrom_58 : decode cX5_copyFrom 58 = .ok (.aload_n 0, 1) := by decide +kernel
theorem dX5_copyFrom_59 : decode cX5_copyFrom 59 = .ok (.getfield 21, 3) := by decide +kernel
theorem dX5_copyFrom_62 : decode cX5_copyFrom 62 = .ok (.iconst 0, 1) := by decide +kernel
theorem dX5_copyFrom_63 : decode cX5_copyFrom 63 = .ok (.bipush 56, 2) := by decide +kernel
theorem dX5_copyFrom_65 : decode cX5_copyFrom 65 = .ok (.invokestatic 37, 3) := by decide +kernel
theorem dX5_copyFrom_68 : decode cX5_copyFrom 68 = .ok (.return_, 1) := by decide +kernel
theorem dX5_isKey_0 : decode cX5_isKey 0 = .ok (.iload_n 0, 1) := by decide +kernel
theorem dX5_isKey_1 : decode cX5_isKey 1 = .ok (.ifCond .lt 23, 3) := by decide +kernel
theorem dX5_isKey_4 : decode cX5_isKey 4 = .ok (.iload_n 0, 1) := by decide +kernel
theorem dX5_isKey_5 : decode cX5_isKey 5 = .ok (.bipush 7, 2) := by decide +kernel
theorem dX5_isKey_7 : decode cX5_isKey 7 = .ok (.if_icmp .ge 17, 3) := by decide +kernel
theorem dX5_isKey_10 : decode cX5_isKey 10 = .ok (.iload_n 1, 1) := by decide +kernel
theorem dX5_isKey_11 : decode cX5_isKey 11 = .ok (.ifCond .lt 13, 3) := by decide +kernel
theorem dX5_isKey_14 : decode cX5_isKey 14 = .ok (.iload_n 1, 1) := by decide +kernel
theorem dX5_isKey_15 : decode cX5_isKey 15 = .ok (.bipush 8, 2) := by decide +kernel
theorem dX5_isKey_17 : decode cX5_isKey 17 = .ok (.if_icmp .ge 7, 3) := by decide +kernel
theorem dX5_isKey_20 : decode cX5_isKey 20 = .ok (.iconst 1, 1) := by decide +kernel
theorem dX5_isKey_21 : decode cX5_isKey 21 = .ok (.goto 4, 3) := by decide +kernel
theorem dX5_isKey_24 : decode cX5_isKey 24 = .ok (.iconst 0, 1) := by decide +kernel
theorem dX5_isKey_25 : decode cX5_isKey 25 = .ok (.ireturn, 1) := by decide +kernel
theorem dX5_numberOf_0 : decode cX5_numberOf 0 = .ok (.iload_n 1, 1) := by decide +kernel
theorem dX5_numberOf_1 : decode cX5_numberOf 1 = .ok (.iload_n 2, 1) := by decide +kernel
theorem dX5_numberOf_2 : decode cX5_numberOf 2 = .ok (.invokestatic 43, 3) := by decide +kernel
theorem dX5_numberOf_5 : decode cX5_numberOf 5 = .ok (.ifCond .eq 17, 3) := by decide +kernel
theorem dX5_numberOf_8 : decode cX5_numberOf 8 = .ok (.aload_n 0, 1) := by decide +kernel
theorem dX5_numberOf_9 : decode cX5_numberOf 9 = .ok (.getfield 15, 3) := by decide +kernel
theorem dX5_numberOf_12 : decode cX5_numberOf 12 = .ok (.iload_n 1, 1) := by decide +kernel
theorem dX5_numberOf_13 : decode cX5_numberOf 13 = .ok (.bipush 8, 2) := by decide +kernel
theorem dX5_numberOf_15 : decode cX5_numberOf 15 = .ok (.imul, 1) := by decide +kernel
theorem dX5_numberOf_16 : decode cX5_numberOf 16 = .ok (.iload_n 2, 1) := by decide +kernel
theorem dX5_numberOf_17 : decode cX5_numberOf 17 = .ok (.iadd, 1) := by decide +kernel
theorem dX5_numberOf_18 : decode cX5_numberOf 18 = .ok (.iaload, 1) := by decide +kernel
theorem dX5_numberOf_19 : decode cX5_numberOf 19 = .ok (.goto 4, 3) := by decide +kernel
theorem dX5_numberOf_22 : decode cX5_numberOf 22 = .ok (.iconst (-1), 1) := by decide +kernel
theorem dX5_numberOf_23 : decode cX5_numberOf 23 = .ok (.ireturn, 1) := by decide +kernel
theorem dX5_valueOf_0 : decode cX5_valueOf 0 = .ok (.iload_n 1, 1) := by decide +kernel
theorem dX5_valueOf_1 : decode cX5_valueOf 1 = .ok (.iload_n 2, 1) := by decide +kernel
theorem dX5_valueOf_2 : decode cX5_valueOf 2 = .ok (.invokestatic 43, 3) := by decide +kernel
theorem dX5_valueOf_5 : decode cX5_valueOf 5 = .ok (.ifCond .eq 17, 3) := by decide +kernel
theorem dX5_valueOf_8 : decode cX5_valueOf 8 = .ok (.aload_n 0, 1) := by decide +kernel
theorem dX5_valueOf_9 : decode cX5_valueOf 9 = .ok (.getfield 18, 3) := by decide +kernel
theorem dX5_valueOf_12 : decode cX5_valueOf 12 = .ok (.iload_n 1, 1) := by decide +kernel
theorem dX5_valueOf_13 : decode cX5_valueOf 13 = .ok (.bipush 8, 2) := by decide +kernel
theorem dX5_valueOf_15 : decode cX5_valueOf 15 = .ok (.imul, 1) := by decide +kernel
theorem dX5_valueOf_16 : decode cX5_valueOf 16 = .ok (.iload_n 2, 1) := by decide +kernel
theorem dX5_valueOf_17 : decode cX5_valueOf 17 = .ok (.iadd, 1) := by decide +kernel
theorem dX5_valueOf_18 : decode cX5_valueOf 18 = .ok (.iaload, 1) := by decide +kernel
theorem dX5_valueOf_19 : decode cX5_valueOf 19 = .ok (.goto 4, 3) := by decide +kernel
theorem dX5_valueOf_22 : decode cX5_valueOf 22 = .ok (.iconst (-1), 1) := by decide +kernel
theorem dX5_valueOf_23 : decode cX5_valueOf 23 = .ok (.ireturn, 1) := by decide +kernel
theorem dX5_slackOf_0 : decode cX5_slackOf 0 = .ok (.iload_n 1, 1) := by decide +kernel
theorem dX5_slackOf_1 : decode cX5_slackOf 1 = .ok (.iload_n 2, 1) := by decide +kernel
theorem dX5_slackOf_2 : decode cX5_slackOf 2 = .ok (.invokestatic 43, 3) := by decide +kernel
theorem dX5_slackOf_5 : decode cX5_slackOf 5 = .ok (.ifCond .eq 17, 3) := by decide +kernel
theorem dX5_slackOf_8 : decode cX5_slackOf 8 = .ok (.aload_n 0, 1) := by decide +kernel
theorem dX5_slackOf_9 : decode cX5_slackOf 9 = .ok (.getfield 21, 3) := by decide +kernel
theorem dX5_slackOf_12 : decode cX5_slackOf 12 = .ok (.iload_n 1, 1) := by decide +kernel
theorem dX5_slackOf_13 : decode cX5_slackOf 13 = .ok (.bipush 8, 2) := by decide +kernel
theorem dX5_slackOf_15 : decode cX5_slackOf 15 = .ok (.imul, 1) := by decide +kernel
theorem dX5_slackOf_16 : decode cX5_slackOf 16 = .ok (.iload_n 2, 1) := by decide +kernel
theorem dX5_slackOf_17 : decode cX5_slackOf 17 = .ok (.iadd, 1) := by decide +kernel
theorem dX5_slackOf_18 : decode cX5_slackOf 18 = .ok (.iaload, 1) := by decide +kernel
theorem dX5_slackOf_19 : decode cX5_slackOf 19 = .ok (.goto 4, 3) := by decide +kernel
theorem dX5_slackOf_22 : decode cX5_slackOf 22 = .ok (.iconst (-1), 1) := by decide +kernel
theorem dX5_slackOf_23 : decode cX5_slackOf 23 = .ok (.ireturn, 1) := by decide +kernel
theorem dX5_keyOf_0 : decode cX5_keyOf 0 = .ok (.iload_n 1, 1) := by decide +kernel
theorem dX5_keyOf_1 : decode cX5_keyOf 1 = .ok (.ifCond .lt 26, 3) := by decide +kernel
theorem dX5_keyOf_4 : decode cX5_keyOf 4 = .ok (.iload_n 1, 1) := by decide +kernel
theorem dX5_keyOf_5 : decode cX5_keyOf 5 = .ok (.aload_n 0, 1) := by decide +kernel
theorem dX5_keyOf_6 : decode cX5_keyOf 6 = .ok (.getfield 27, 3) := by decide +kernel
theorem dX5_keyOf_9 : decode cX5_keyOf 9 = .ok (.if_icmp .ge 18, 3) := by decide +kernel
theorem dX5_keyOf_12 : decode cX5_keyOf 12 = .ok (.iload_n 1, 1) := by decide +kernel
theorem dX5_keyOf_13 : decode cX5_keyOf 13 = .ok (.bipush 56, 2) := by decide +kernel
theorem dX5_keyOf_15 : decode cX5_keyOf 15 = .ok (.if_icmp .ge 12, 3) := by decide +kernel
theorem dX5_keyOf_18 : decode cX5_keyOf 18 = .ok (.aload_n 0, 1) := by decide +kernel
theorem dX5_keyOf_19 : decode cX5_keyOf 19 = .ok (.getfield 9, 3) := by decide +kernel
theorem dX5_keyOf_22 : decode cX5_keyOf 22 = .ok (.iload_n 1, 1) := by decide +kernel
theorem dX5_keyOf_23 : decode cX5_keyOf 23 = .ok (.iaload, 1) := by decide +kernel
theorem dX5_keyOf_24 : decode cX5_keyOf 24 = .ok (.goto 4, 3) := by decide +kernel
theorem dX5_keyOf_27 : decode cX5_keyOf 27 = .ok (.iconst (-1), 1) := by decide +kernel
theorem dX5_keyOf_28 : decode cX5_keyOf 28 = .ok (.ireturn, 1) := by decide +kernel
theorem dX5_pictureOf_0 : decode cX5_pictureOf 0 = .ok (.aload_n 0, 1) := by decide +kernel
theorem dX5_pictureOf_1 : decode cX5_pictureOf 1 = .ok (.iload_n 1, 1) := by decide +kernel
theorem dX5_pictureOf_2 : decode cX5_pictureOf 2 = .ok (.invokevirtual 47, 3) := by decide +kernel
theorem dX5_pictureOf_5 : decode cX5_pictureOf 5 = .ok (.istore_n 2, 1) := by decide +kernel
theorem dX5_pictureOf_6 : decode cX5_pictureOf 6 = .ok (.iload_n 2, 1) := by decide +kernel
theorem dX5_pictureOf_7 : decode cX5_pictureOf 7 = .ok (.iconst (-1), 1) := by decide +kernel
theorem dX5_pictureOf_8 : decode cX5_pictureOf 8 = .ok (.if_icmp .ne 7, 3) := by decide +kernel
theorem dX5_pictureOf_11 : decode cX5_pictureOf 11 = .ok (.iconst (-1), 1) := by decide +kernel
theorem dX5_pictureOf_12 : decode cX5_pictureOf 12 = .ok (.goto 7, 3) := by decide +kernel
theorem dX5_pictureOf_15 : decode cX5_pictureOf 15 = .ok (.iload_n 2, 1) := by decide +kernel
theorem dX5_pictureOf_16 : decode cX5_pictureOf 16 = .ok (.bipush 8, 2) := by decide +kernel
theorem dX5_pictureOf_18 : decode cX5_pictureOf 18 = .ok (.idiv, 1) := by decide +kernel
theorem dX5_pictureOf_19 : decode cX5_pictureOf 19 = .ok (.ireturn, 1) := by decide +kernel
theorem dX5_matterOf_0 : decode cX5_matterOf 0 = .ok (.aload_n 0, 1) := by decide +kernel
theorem dX5_matterOf_1 : decode cX5_matterOf 1 = .ok (.iload_n 1, 1) := by decide +kernel
theorem dX5_matterOf_2 : decode cX5_matterOf 2 = .ok (.invokevirtual 47, 3) := by decide +kernel
theorem dX5_matterOf_5 : decode cX5_matterOf 5 = .ok (.istore_n 2, 1) := by decide +kernel
theorem dX5_matterOf_6 : decode cX5_matterOf 6 = .ok (.iload_n 2, 1) := by decide +kernel
theorem dX5_matterOf_7 : decode cX5_matterOf 7 = .ok (.iconst (-1), 1) := by decide +kernel
theorem dX5_matterOf_8 : decode cX5_matterOf 8 = .ok (.if_icmp .ne 7, 3) := by decide +kernel
theorem dX5_matterOf_11 : decode cX5_matterOf 11 = .ok (.iconst (-1), 1) := by decide +kernel
theorem dX5_matterOf_12 : decode cX5_matterOf 12 = .ok (.goto 7, 3) := by decide +kernel
theorem dX5_matterOf_15 : decode cX5_matterOf 15 = .ok (.iload_n 2, 1) := by decide +kernel
theorem dX5_matterOf_16 : decode cX5_matterOf 16 = .ok (.bipush 8, 2) := by decide +kernel
theorem dX5_matterOf_18 : decode cX5_matterOf 18 = .ok (.irem, 1) := by decide +kernel
theorem dX5_matterOf_19 : decode cX5_matterOf 19 = .ok (.ireturn, 1) := by decide +kernel
theorem dX5_manyOf_0 : decode cX5_manyOf 0 = .ok (.iconst 0, 1) := by decide +kernel
theorem dX5_manyOf_1 : decode cX5_manyOf 1 = .ok (.istore_n 2, 1) := by decide +kernel
theorem dX5_manyOf_2 : decode cX5_manyOf 2 = .ok (.iconst 0, 1) := by decide +kernel
theorem dX5_manyOf_3 : decode cX5_manyOf 3 = .ok (.istore_n 3, 1) := by decide +kernel
theorem dX5_manyOf_4 : decode cX5_manyOf 4 = .ok (.iload_n 3, 1) := by decide +kernel
theorem dX5_manyOf_5 : decode cX5_manyOf 5 = .ok (.bipush 8, 2) := by decide +kernel
theorem dX5_manyOf_7 : decode cX5_manyOf 7 = .ok (.if_icmp .ge 22, 3) := by decide +kernel
theorem dX5_manyOf_10 : decode cX5_manyOf 10 = .ok (.aload_n 0, 1) := by decide +kernel
theorem dX5_manyOf_11 : decode cX5_manyOf 11 = .ok (.iload_n 1, 1) := by decide +kernel
theorem dX5_manyOf_12 : decode cX5_manyOf 12 = .ok (.iload_n 3, 1) := by decide +kernel
theorem dX5_manyOf_13 : decode cX5_manyOf 13 = .ok (.invokevirtual 51, 3) := by decide +kernel
theorem dX5_manyOf_16 : decode cX5_manyOf 16 = .ok (.iconst (-1), 1) := by decide +kernel
theorem dX5_manyOf_17 : decode cX5_manyOf 17 = .ok (.if_icmp .eq 6, 3) := by decide +kernel
theorem dX5_manyOf_20 : decode cX5_manyOf 20 = .ok (.iinc 2 1, 3) := by decide +kernel
theorem dX5_manyOf_23 : decode cX5_manyOf 23 = .ok (.iinc 3 1, 3) := by decide +kernel
theorem dX5_manyOf_26 : decode cX5_manyOf 26 = .ok (.goto (-22), 3) := by decide +kernel
theorem dX5_manyOf_29 : decode cX5_manyOf 29 = .ok (.iload_n 2, 1) := by decide +kernel
theorem dX5_manyOf_30 : decode cX5_manyOf 30 = .ok (.ireturn, 1) := by decide +kernel
theorem dX5_put_0 : decode cX5_put 0 = .ok (.iload_n 1, 1) := by decide +kernel
theorem dX5_put_1 : decode cX5_put 1 = .ok (.iload_n 2, 1) := by decide +kernel
theorem dX5_put_2 : decode cX5_put 2 = .ok (.invokestatic 43, 3) := by decide +kernel
theorem dX5_put_5 : decode cX5_put 5 = .ok (.ifCond .ne 4, 3) := by decide +kernel
theorem dX5_put_8 : decode cX5_put 8 = .ok (.return_, 1) := by decide +kernel
theorem dX5_put_9 : decode cX5_put 9 = .ok (.iload_n 1, 1) := by decide +kernel
theorem dX5_put_10 : decode cX5_put 10 = .ok (.bipush 8, 2) := by decide +kernel
theorem dX5_put_12 : decode cX5_put 12 = .ok (.imul, 1) := by decide +kernel
theorem dX5_put_13 : decode cX5_put 13 = .ok (.iload_n 2, 1) := by decide +kernel
theorem dX5_put_14 : decode cX5_put 14 = .ok (.iadd, 1) := by decide +kernel
theorem dX5_put_15 : decode cX5_put 15 = .ok (.istore 5, 2) := by decide +kernel
theorem dX5_put_17 : decode cX5_put 17 = .ok (.aload_n 0, 1) := by decide +kernel
theorem dX5_put_18 : decode cX5_put 18 = .ok (.getfield 18, 3) := by decide +kernel
theorem dX5_put_21 : decode cX5_put 21 = .ok (.iload 5, 2) := by decide +kernel
theorem dX5_put_23 : decode cX5_put 23 = .ok (.iload_n 3, 1) := by decide +kernel
theorem dX5_put_24 : decode cX5_put 24 = .ok (.iastore, 1) := by decide +kernel
theorem dX5_put_25 : decode cX5_put 25 = .ok (.aload_n 0, 1) := by decide +kernel
theorem dX5_put_26 : decode cX5_put 26 = .ok (.getfield 21, 3) := by decide +kernel
theorem dX5_put_29 : decode cX5_put 29 = .ok (.iload 5, 2) := by decide +kernel
theorem dX5_put_31 : decode cX5_put 31 = .ok (.iload 4, 2) := by decide +kernel
theorem dX5_put_33 : decode cX5_put 33 = .ok (.iastore, 1) := by decide +kernel
theorem dX5_put_34 : decode cX5_put 34 = .ok (.aload_n 0, 1) := by decide +kernel
theorem dX5_put_35 : decode cX5_put 35 = .ok (.getfield 15, 3) := by decide +kernel
theorem dX5_put_38 : decode cX5_put 38 = .ok (.iload 5, 2) := by decide +kernel
theorem dX5_put_40 : decode cX5_put 40 = .ok (.iaload, 1) := by decide +kernel
theorem dX5_put_41 : decode cX5_put 41 = .ok (.iconst (-1), 1) := by decide +kernel
theorem dX5_put_42 : decode cX5_put 42 = .ok (.if_icmp .ne 19, 3) := by decide +kernel
theorem dX5_put_45 : decode cX5_put 45 = .ok (.aload_n 0, 1) := by decide +kernel
theorem dX5_put_46 : decode cX5_put 46 = .ok (.getfield 27, 3) := by decide +kernel
theorem dX5_put_49 : decode cX5_put 49 = .ok (.ifCond .lt 12, 3) := by decide +kernel
theorem dX5_put_52 : decode cX5_put 52 = .ok (.aload_n 0, 1) := by decide +kernel
theorem dX5_put_53 : decode cX5_put 53 = .ok (.getfield 27, 3) := by decide +kernel
theorem dX5_put_56 : decode cX5_put 56 = .ok (.bipush 56, 2) := by decide +kernel
theorem dX5_put_58 : decode cX5_put 58 = .ok (.if_icmp .lt 4, 3) := by decide +kernel
theorem dX5_put_61 : decode cX5_put 61 = .ok (.return_, 1) := by decide +kernel
theorem dX5_put_62 : decode cX5_put 62 = .ok (.aload_n 0, 1) := by decide +kernel
theorem dX5_put_63 : decode cX5_put 63 = .ok (.getfield 15, 3) := by decide +kernel
theorem dX5_put_66 : decode cX5_put 66 = .ok (.iload 5, 2) := by decide +kernel
theorem dX5_put_68 : decode cX5_put 68 = .ok (.aload_n 0, 1) := by decide +kernel
theorem dX5_put_69 : decode cX5_put 69 = .ok (.getfield 27, 3) := by decide +kernel
theorem dX5_put_72 : decode cX5_put 72 = .ok (.iastore, 1) := by decide +kernel
theorem dX5_put_73 : decode cX5_put 73 = .ok (.aload_n 0, 1) := by decide +kernel
theorem dX5_put_74 : decode cX5_put 74 = .ok (.getfield 9, 3) := by decide +kernel
theorem dX5_put_77 : decode cX5_put 77 = .ok (.aload_n 0, 1) := by decide +kernel
theorem dX5_put_78 : decode cX5_put 78 = .ok (.getfield 27, 3) := by decide +kernel
theorem dX5_put_81 : decode cX5_put 81 = .ok (.iload 5, 2) := by decide +kernel
theorem dX5_put_83 : decode cX5_put 83 = .ok (.iastore, 1) := by decide +kernel
theorem dX5_put_84 : decode cX5_put 84 = .ok (.aload_n 0, 1) := by decide +kernel
theorem dX5_put_85 : decode cX5_put 85 = .ok (.dup, 1) := by decide +kernel
theorem dX5_put_86 : decode cX5_put 86 = .ok (.getfield 27, 3) := by decide +kernel
theorem dX5_put_89 : decode cX5_put 89 = .ok (.iconst 1, 1) := by decide +kernel
theorem dX5_put_90 : decode cX5_put 90 = .ok (.iadd, 1) := by decide +kernel
theorem dX5_put_91 : decode cX5_put 91 = .ok (.putfield 27, 3) := by decide +kernel
theorem dX5_put_94 : decode cX5_put 94 = .ok (.return_, 1) := by decide +kernel
theorem dX5_remove_0 : decode cX5_remove 0 = .ok (.aload_n 0, 1) := by decide +kernel
theorem dX5_remove_1 : decode cX5_remove 1 = .ok (.iload_n 1, 1) := by decide +kernel
theorem dX5_remove_2 : decode cX5_remove 2 = .ok (.iload_n 2, 1) := by decide +kernel
theorem dX5_remove_3 : decode cX5_remove 3 = .ok (.invokevirtual 51, 3) := by decide +kernel
theorem dX5_remove_6 : decode cX5_remove 6 = .ok (.istore_n 3, 1) := by decide +kernel
theorem dX5_remove_7 : decode cX5_remove 7 = .ok (.iload_n 3, 1) := by decide +kernel
theorem dX5_remove_8 : decode cX5_remove 8 = .ok (.ifCond .lt 11, 3) := by decide +kernel
theorem dX5_remove_11 : decode cX5_remove 11 = .ok (.iload_n 3, 1) := by decide +kernel
theorem dX5_remove_12 : decode cX5_remove 12 = .ok (.aload_n 0, 1) := by decide +kernel
theorem dX5_remove_13 : decode cX5_remove 13 = .ok (.getfield 27, 3) := by decide +kernel
theorem dX5_remove_16 : decode cX5_remove 16 = .ok (.if_icmp .lt 4, 3) := by decide +kernel
theorem dX5_remove_19 : decode cX5_remove 19 = .ok (.return_, 1) := by decide +kernel
theorem dX5_remove_20 : decode cX5_remove 20 = .ok (.iload_n 1, 1) := by decide +kernel
theorem dX5_remove_21 : decode cX5_remove 21 = .ok (.bipush 8, 2) := by decide +kernel
theorem dX5_remove_23 : decode cX5_remove 23 = .ok (.imul, 1) := by decide +kernel
theorem dX5_remove_24 : decode cX5_remove 24 = .ok (.iload_n 2, 1) := by decide +kernel
theorem dX5_remove_25 : decode cX5_remove 25 = .ok (.iadd, 1) := by decide +kernel
theorem dX5_remove_26 : decode cX5_remove 26 = .ok (.istore 4, 2) := by decide +kernel
theorem dX5_remove_28 : decode cX5_remove 28 = .ok (.aload_n 0, 1) := by decide +kernel
theorem dX5_remove_29 : decode cX5_remove 29 = .ok (.getfield 15, 3) := by decide +kernel
theorem dX5_remove_32 : decode cX5_remove 32 = .ok (.iload 4, 2) := by decide +kernel
theorem dX5_remove_34 : decode cX5_remove 34 = .ok (.iconst (-1), 1) := by decide +kernel
theorem dX5_remove_35 : decode cX5_remove 35 = .ok (.iastore, 1) := by decide +kernel
theorem dX5_remove_36 : decode cX5_remove 36 = .ok (.aload_n 0, 1) := by decide +kernel
theorem dX5_remove_37 : decode cX5_remove 37 = .ok (.getfield 18, 3) := by decide +kernel
theorem dX5_remove_40 : decode cX5_remove 40 = .ok (.iload 4, 2) := by decide +kernel
theorem dX5_remove_42 : decode cX5_remove 42 = .ok (.iconst (-1), 1) := by decide +kernel
theorem dX5_remove_43 : decode cX5_remove 43 = .ok (.iastore, 1) := by decide +kernel
theorem dX5_remove_44 : decode cX5_remove 44 = .ok (.aload_n 0, 1) := by decide +kernel
theorem dX5_remove_45 : decode cX5_remove 45 = .ok (.getfield 21, 3) := by decide +kernel
theorem dX5_remove_48 : decode cX5_remove 48 = .ok (.iload 4, 2) := by decide +kernel
theorem dX5_remove_50 : decode cX5_remove 50 = .ok (.iconst (-1), 1) := by decide +kernel
theorem dX5_remove_51 : decode cX5_remove 51 = .ok (.iastore, 1) := by decide +kernel
theorem dX5_remove_52 : decode cX5_remove 52 = .ok (.aload_n 0, 1) := by decide +kernel
theorem dX5_remove_53 : decode cX5_remove 53 = .ok (.dup, 1) := by decide +kernel
theorem dX5_remove_54 : decode cX5_remove 54 = .ok (.getfield 27, 3) := by decide +kernel
theorem dX5_remove_57 : decode cX5_remove 57 = .ok (.iconst 1, 1) := by decide +kernel
theorem dX5_remove_58 : decode cX5_remove 58 = .ok (.isub, 1) := by decide +kernel
theorem dX5_remove_59 : decode cX5_remove 59 = .ok (.putfield 27, 3) := by decide +kernel
theorem dX5_remove_62 : decode cX5_remove 62 = .ok (.iload_n 3, 1) := by decide +kernel
theorem dX5_remove_63 : decode cX5_remove 63 = .ok (.istore 5, 2) := by decide +kernel
theorem dX5_remove_65 : decode cX5_remove 65 = .ok (.iload 5, 2) := by decide +kernel
theorem dX5_remove_67 : decode cX5_remove 67 = .ok (.aload_n 0, 1) := by decide +kernel
theorem dX5_remove_68 : decode cX5_remove 68 = .ok (.getfield 27, 3) := by decide +kernel
theorem dX5_remove_71 : decode cX5_remove 71 = .ok (.if_icmp .ge 57, 3) := by decide +kernel
theorem dX5_remove_74 : decode cX5_remove 74 = .ok (.iload 5, 2) := by decide +kernel
theorem dX5_remove_76 : decode cX5_remove 76 = .ok (.bipush 55, 2) := by decide +kernel
theorem dX5_remove_78 : decode cX5_remove 78 = .ok (.if_icmp .ge 50, 3) := by decide +kernel
theorem dX5_remove_81 : decode cX5_remove 81 = .ok (.aload_n 0, 1) := by decide +kernel
theorem dX5_remove_82 : decode cX5_remove 82 = .ok (.getfield 9, 3) := by decide +kernel
theorem dX5_remove_85 : decode cX5_remove 85 = .ok (.iload 5, 2) := by decide +kernel
theorem dX5_remove_87 : decode cX5_remove 87 = .ok (.iconst 1, 1) := by decide +kernel
theorem dX5_remove_88 : decode cX5_remove 88 = .ok (.iadd, 1) := by decide +kernel
theorem dX5_remove_89 : decode cX5_remove 89 = .ok (.iaload, 1) := by decide +kernel
theorem dX5_remove_90 : decode cX5_remove 90 = .ok (.istore 6, 2) := by decide +kernel
theorem dX5_remove_92 : decode cX5_remove 92 = .ok (.aload_n 0, 1) := by decide +kernel
theorem dX5_remove_93 : decode cX5_remove 93 = .ok (.getfield 9, 3) := by decide +kernel
theorem dX5_remove_96 : decode cX5_remove 96 = .ok (.iload 5, 2) := by decide +kernel
theorem dX5_remove_98 : decode cX5_remove 98 = .ok (.iload 6, 2) := by decide +kernel
theorem dX5_remove_100 : decode cX5_remove 100 = .ok (.iastore, 1) := by decide +kernel
theorem dX5_remove_101 : decode cX5_remove 101 = .ok (.iload 6, 2) := by decide +kernel
theorem dX5_remove_103 : decode cX5_remove 103 = .ok (.ifCond .lt 19, 3) := by decide +kernel
theorem dX5_remove_106 : decode cX5_remove 106 = .ok (.iload 6, 2) := by decide +kernel
theorem dX5_remove_108 : decode cX5_remove 108 = .ok (.bipush 56, 2) := by decide +kernel
theorem dX5_remove_110 : decode cX5_remove 110 = .ok (.if_icmp .ge 12, 3) := by decide +kernel
theorem dX5_remove_113 : decode cX5_remove 113 = .ok (.aload_n 0, 1) := by decide +kernel
theorem dX5_remove_114 : decode cX5_remove 114 = .ok (.getfield 15, 3) := by decide +kernel
theorem dX5_remove_117 : decode cX5_remove 117 = .ok (.iload 6, 2) := by decide +kernel
theorem dX5_remove_119 : decode cX5_remove 119 = .ok (.iload 5, 2) := by decide +kernel
theorem dX5_remove_121 : decode cX5_remove 121 = .ok (.iastore, 1) := by decide +kernel
theorem dX5_remove_122 : decode cX5_remove 122 = .ok (.iinc 5 1, 3) := by decide +kernel
theorem dX5_remove_125 : decode cX5_remove 125 = .ok (.goto (-60), 3) := by decide +kernel
theorem dX5_remove_128 : decode cX5_remove 128 = .ok (.return_, 1) := by decide +kernel
theorem dX6_init_0 : decode cX6_init 0 = .ok (.aload_n 0, 1) := by decide +kernel
theorem dX6_init_1 : decode cX6_init 1 = .ok (.invokespecial 3, 3) := by decide +kernel
theorem dX6_init_4 : decode cX6_init 4 = .ok (.aload_n 0, 1) := by decide +kernel
theorem dX6_init_5 : decode cX6_init 5 = .ok (.new 9, 3) := by decide +kernel
theorem dX6_init_8 : decode cX6_init 8 = .ok (.dup, 1) := by decide +kernel
theorem dX6_init_9 : decode cX6_init 9 = .ok (.invokespecial 11, 3) := by decide +kernel
theorem dX6_init_12 : decode cX6_init 12 = .ok (.putfield 12, 3) := by decide +kernel
theorem dX6_init_15 : decode cX6_init 15 = .ok (.aload_n 0, 1) := by decide +kernel
theorem dX6_init_16 : decode cX6_init 16 = .ok (.aload_n 1, 1) := by decide +kernel
theorem dX6_init_17 : decode cX6_init 17 = .ok (.putfield 18, 3) := by decide +kernel
theorem dX6_init_20 : decode cX6_init 20 = .ok (.return_, 1) := by decide +kernel
theorem dX6_read_0 : decode cX6_read 0 = .ok (.aload_n 0, 1) := by decide +kernel
theorem dX6_read_1 : decode cX6_read 1 = .ok (.getfield 12, 3) := by decide +kernel
theorem dX6_read_4 : decode cX6_read 4 = .ok (.aload_n 1, 1) := by decide +kernel
theorem dX6_read_5 : decode cX6_read 5 = .ok (.invokevirtual 22, 3) := by decide +kernel
theorem dX6_read_8 : decode cX6_read 8 = .ok (.aload_n 0, 1) := by decide +kernel
theorem dX6_read_9 : decode cX6_read 9 = .ok (.iconst 0, 1) := by decide +kernel
theorem dX6_read_10 : decode cX6_read 10 = .ok (.putfield 26, 3) := by decide +kernel
theorem dX6_read_13 : decode cX6_read 13 = .ok (.aload_n 0, 1) := by decide +kernel
theorem dX6_read_14 : decode cX6_read 14 = .ok (.iconst 0, 1) := by decide +kernel
theorem dX6_read_15 : decode cX6_read 15 = .ok (.putfield 30, 3) := by decide +kernel
theorem dX6_read_18 : decode cX6_read 18 = .ok (.aload_n 0, 1) := by decide +kernel
theorem dX6_read_19 : decode cX6_read 19 = .ok (.invokevirtual 33, 3) := by decide +kernel
theorem dX6_read_22 : decode cX6_read 22 = .ok (.iconst 0, 1) := by decide +kernel
theorem dX6_read_23 : decode cX6_read 23 = .ok (.istore_n 2, 1) := by decide +kernel
theorem dX6_read_24 : decode cX6_read 24 = .ok (.iload_n 2, 1) := by decide +kernel
theorem dX6_read_25 : decode cX6_read 25 = .ok (.bipush 24, 2) := by decide +kernel
theorem dX6_read_27 : decode cX6_read 27 = .ok (.if_icmp .ge 82, 3) := by decide +kernel
theorem dX6_read_30 : decode cX6_read 30 = .ok (.aload_n 0, 1) := by decide +kernel
theorem dX6_read_31 : decode cX6_read 31 = .ok (.invokevirtual 36, 3) := by decide +kernel
theorem dX6_read_34 : decode cX6_read 34 = .ok (.ifCond .ne 8, 3) := by decide +kernel
theorem dX6_read_37 : decode cX6_read 37 = .ok (.aload_n 0, 1) := by decide +kernel
theorem dX6_read_38 : decode cX6_read 38 = .ok (.getfield 40, 3) := by decide +kernel
theorem dX6_read_41 : decode cX6_read 41 = .ok (.ireturn, 1) := by decide +kernel
theorem dX6_read_42 : decode cX6_read 42 = .ok (.aload_n 0, 1) := by decide +kernel
theorem dX6_read_43 : decode cX6_read 43 = .ok (.dup, 1) := by decide +kernel
theorem dX6_read_44 : decode cX6_read 44 = .ok (.getfield 26, 3) := by decide +kernel
theorem dX6_read_47 : decode cX6_read 47 = .ok (.iconst 1, 1) := by decide +kernel
theorem dX6_read_48 : decode cX6_read 48 = .ok (.iadd, 1) := by decide +kernel
theorem dX6_read_49 : decode cX6_read 49 = .ok (.putfield 26, 3) := by decide +kernel
theorem dX6_read_52 : decode cX6_read 52 = .ok (.aload_n 0, 1) := by decide +kernel
theorem dX6_read_53 : decode cX6_read 53 = .ok (.getfield 43, 3) := by decide +kernel
theorem dX6_read_56 : decode cX6_read 56 = .ok (.ifCond .ne 5, 3) := by decide +kernel
theorem dX6_read_59 : decode cX6_read 59 = .ok (.iconst (-1), 1) := by decide +kernel
theorem dX6_read_60 : decode cX6_read 60 = .ok (.ireturn, 1) := by decide +kernel
theorem dX6_read_61 : decode cX6_read 61 = .ok (.aload_n 0, 1) := by decide +kernel
theorem dX6_read_62 : decode cX6_read 62 = .ok (.getfield 43, 3) := by decide +kernel
theorem dX6_read_65 : decode cX6_read 65 = .ok (.iconst 3, 1) := by decide +kernel
theorem dX6_read_66 : decode cX6_read 66 = .ok (.if_icmp .ne 19, 3) := by decide +kernel
theorem dX6_read_69 : decode cX6_read 69 = .ok (.aload_n 0, 1) := by decide +kernel
theorem dX6_read_70 : decode cX6_read 70 = .ok (.getfield 18, 3) := by decide +kernel
theorem dX6_read_73 : decode cX6_read 73 = .ok (.aload_n 0, 1) := by decide +kernel
theorem dX6_read_74 : decode cX6_read 74 = .ok (.getfield 40, 3) := by decide +kernel
theorem dX6_read_77 : decode cX6_read 77 = .ok (.invokevirtual 48, 3) := by decide +kernel
theorem dX6_read_80 : decode cX6_read 80 = .ok (.bipush 59, 2) := by decide +kernel
theorem dX6_read_82 : decode cX6_read 82 = .ok (.if_icmp .eq 8, 3) := by decide +kernel
theorem dX6_read_85 : decode cX6_read 85 = .ok (.aload_n 0, 1) := by decide +kernel
theorem dX6_read_86 : decode cX6_read 86 = .ok (.getfield 40, 3) := by decide +kernel
theorem dX6_read_89 : decode cX6_read 89 = .ok (.ireturn, 1) := by decide +kernel
theorem dX6_read_90 : decode cX6_read 90 = .ok (.aload_n 0, 1) := by decide +kernel
theorem dX6_read_91 : decode cX6_read 91 = .ok (.getfield 26, 3) := by decide +kernel
theorem dX6_read_94 : decode cX6_read 94 = .ok (.bipush 24, 2) := by decide +kernel
theorem dX6_read_96 : decode cX6_read 96 = .ok (.if_icmp .ge 7, 3) := by decide +kernel
theorem dX6_read_99 : decode cX6_read 99 = .ok (.aload_n 0, 1) := by decide +kernel
theorem dX6_read_100 : decode cX6_read 100 = .ok (.invokevirtual 33, 3) := by decide +kernel
theorem dX6_read_103 : decode cX6_read 103 = .ok (.iinc 2 1, 3) := by decide +kernel
theorem dX6_read_106 : decode cX6_read 106 = .ok (.goto (-82), 3) := by decide +kernel
theorem dX6_read_109 : decode cX6_read 109 = .ok (.aload_n 0, 1) := by decide +kernel
theorem dX6_read_110 : decode cX6_read 110 = .ok (.getfield 40, 3) := by decide +kernel
theorem dX6_read_113 : decode cX6_read 113 = .ok (.ireturn, 1) := by decide +kernel
theorem dX6_step_0 : decode cX6_step 0 = .ok (.aload_n 0, 1) := by decide +kernel
theorem dX6_step_1 : decode cX6_step 1 = .ok (.aload_n 0, 1) := by decide +kernel
theorem dX6_step_2 : decode cX6_step 2 = .ok (.getfield 30, 3) := by decide +kernel
theorem dX6_step_5 : decode cX6_step 5 = .ok (.putfield 40, 3) := by decide +kernel
theorem dX6_step_8 : decode cX6_step 8 = .ok (.iconst 0, 1) := by decide +kernel
theorem dX6_step_9 : decode cX6_step 9 = .ok (.istore_n 1, 1) := by decide +kernel
theorem dX6_step_10 : decode cX6_step 10 = .ok (.iload_n 1, 1) := by decide +kernel
theorem dX6_step_11 : decode cX6_step 11 = .ok (.sipush 200, 3) := by decide +kernel
theorem dX6_step_14 : decode cX6_step 14 = .ok (.if_icmp .ge 35, 3) := by decide +kernel
theorem dX6_step_17 : decode cX6_step 17 = .ok (.aload_n 0, 1) := by decide +kernel
theorem dX6_step_18 : decode cX6_step 18 = .ok (.getfield 18, 3) := by decide +kernel
theorem dX6_step_21 : decode cX6_step 21 = .ok (.aload_n 0, 1) := by decide +kernel
theorem dX6_step_22 : decode cX6_step 22 = .ok (.getfield 40, 3) := by decide +kernel
theorem dX6_step_25 : decode cX6_step 25 = .ok (.invokevirtual 48, 3) := by decide +kernel
theorem dX6_step_28 : decode cX6_step 28 = .ok (.bipush 32, 2) := by decide +kernel
theorem dX6_step_30 : decode cX6_step 30 = .ok (.if_icmp .ne 19, 3) := by decide +kernel
theorem dX6_step_33 : decode cX6_step 33 = .ok (.aload_n 0, 1) := by decide +kernel
theorem dX6_step_34 : decode cX6_step 34 = .ok (.dup, 1) := by decide +kernel
theorem dX6_step_35 : decode cX6_step 35 = .ok (.getfield 40, 3) := by decide +kernel
theorem dX6_step_38 : decode cX6_step 38 = .ok (.iconst 1, 1) := by decide +kernel
theorem dX6_step_39 : decode cX6_step 39 = .ok (.iadd, 1) := by decide +kernel
theorem dX6_step_40 : decode cX6_step 40 = .ok (.putfield 40, 3) := by decide +kernel
theorem dX6_step_43 : decode cX6_step 43 = .ok (.iinc 1 1, 3) := by decide +kernel
theorem dX6_step_46 : decode cX6_step 46 = .ok (.goto (-36), 3) := by decide +kernel
theorem dX6_step_49 : decode cX6_step 49 = .ok (.aload_n 0, 1) := by decide +kernel
theorem dX6_step_50 : decode cX6_step 50 = .ok (.aload_n 0, 1) := by decide +kernel
theorem dX6_step_51 : decode cX6_step 51 = .ok (.getfield 18, 3) := by decide +kernel
theorem dX6_step_54 : decode cX6_step 54 = .ok (.aload_n 0, 1) := by decide +kernel
theorem dX6_step_55 : decode cX6_step 55 = .ok (.getfield 40, 3) := by decide +kernel
theorem dX6_step_58 : decode cX6_step 58 = .ok (.invokevirtual 48, 3) := by decide +kernel
theorem dX6_step_61 : decode cX6_step 61 = .ok (.invokestatic 52, 3) := by decide +kernel
theorem dX6_step_64 : decode cX6_step 64 = .ok (.putfield 43, 3) := by decide +kernel
theorem dX6_step_67 : decode cX6_step 67 = .ok (.aload_n 0, 1) := by decide +kernel
theorem dX6_step_68 : decode cX6_step 68 = .ok (.aload_n 0, 1) := by decide +kernel
theorem dX6_step_69 : decode cX6_step 69 = .ok (.getfield 43, 3) := by decide +kernel
theorem dX6_step_72 : decode cX6_step 72 = .ok (.ifCond .ne 10, 3) := by decide +kernel
theorem dX6_step_75 : decode cX6_step 75 = .ok (.aload_n 0, 1) := by decide +kernel
theorem dX6_step_76 : decode cX6_step 76 = .ok (.getfield 40, 3) := by decide +kernel
theorem dX6_step_79 : decode cX6_step 79 = .ok (.goto 9, 3) := by decide +kernel
theorem dX6_step_82 : decode cX6_step 82 = .ok (.aload_n 0, 1) := by decide +kernel
theorem dX6_step_83 : decode cX6_step 83 = .ok (.getfield 40, 3) := by decide +kernel
theorem dX6_step_86 : decode cX6_step 86 = .ok (.iconst 1, 1) := by decide +kernel
theorem dX6_step_87 : decode cX6_step 87 = .ok (.iadd, 1) := by decide +kernel
theorem dX6_step_88 : decode cX6_step 88 = .ok (.putfield 30, 3) := by decide +kernel
theorem dX6_step_91 : decode cX6_step 91 = .ok (.aload_n 0, 1) := by decide +kernel
theorem dX6_step_92 : decode cX6_step 92 = .ok (.getfield 43, 3) := by decide +kernel
theorem dX6_step_95 : decode cX6_step 95 = .ok (.iconst 1, 1) := by decide +kernel
theorem dX6_step_96 : decode cX6_step 96 = .ok (.if_icmp .eq 12, 3) := by decide +kernel
theorem dX6_step_99 : decode cX6_step 99 = .ok (.aload_n 0, 1) := by decide +kernel
theorem dX6_step_100 : decode cX6_step 100 = .ok (.getfield 43, 3) := by decide +kernel
theorem dX6_step_103 : decode cX6_step 103 = .ok (.iconst 2, 1) := by decide +kernel
theorem dX6_step_104 : decode cX6_step 104 = .ok (.if_icmp .eq 4, 3) := by decide +kernel
theorem dX6_step_107 : decode cX6_step 107 = .ok (.return_, 1) := by decide +kernel
theorem dX6_step_108 : decode cX6_step 108 = .ok (.iconst 0, 1) := by decide +kernel
theorem dX6_step_109 : decode cX6_step 109 = .ok (.istore_n 1, 1) := by decide +kernel
theorem dX6_step_110 : decode cX6_step 110 = .ok (.iload_n 1, 1) := by decide +kernel
theorem dX6_step_111 : decode cX6_step 111 = .ok (.sipush 200, 3) := by decide +kernel
theorem dX6_step_114 : decode cX6_step 114 = .ok (.if_icmp .ge 40, 3) := by decide +kernel
theorem dX6_step_117 : decode cX6_step 117 = .ok (.aload_n 0, 1) := by decide +kernel
theorem dX6_step_118 : decode cX6_step 118 = .ok (.getfield 18, 3) := by decide +kernel
theorem dX6_step_121 : decode cX6_step 121 = .ok (.aload_n 0, 1) := by decide +kernel
theorem dX6_step_122 : decode cX6_step 122 = .ok (.getfield 30, 3) := by decide +kernel
theorem dX6_step_125 : decode cX6_step 125 = .ok (.invokevirtual 48, 3) := by decide +kernel
theorem dX6_step_128 : decode cX6_step 128 = .ok (.invokestatic 52, 3) := by decide +kernel
theorem dX6_step_131 : decode cX6_step 131 = .ok (.aload_n 0, 1) := by decide +kernel
theorem dX6_step_132 : decode cX6_step 132 = .ok (.getfield 43, 3) := by decide +kernel
theorem dX6_step_135 : decode cX6_step 135 = .ok (.if_icmp .ne 19, 3) := by decide +kernel
theorem dX6_step_138 : decode cX6_step 138 = .ok (.aload_n 0, 1) := by decide +kernel
theorem dX6_step_139 : decode cX6_step 139 = .ok (.dup, 1) := by decide +kernel
theorem dX6_step_140 : decode cX6_step 140 = .ok (.getfield 30, 3) := by decide +kernel
theorem dX6_step_143 : decode cX6_step 143 = .ok (.iconst 1, 1) := by decide +kernel
theorem dX6_step_144 : decode cX6_step 144 = .ok (.iadd, 1) := by decide +kernel
theorem dX6_step_145 : decode cX6_step 145 = .ok (.putfield 30, 3) := by decide +kernel
theorem dX6_step_148 : decode cX6_step 148 = .ok (.iinc 1 1, 3) := by decide +kernel
theorem dX6_step_151 : decode cX6_step 151 = .ok (.goto (-41), 3) := by decide +kernel
theorem dX6_step_154 : decode cX6_step 154 = .ok (.return_, 1) := by decide +kernel
theorem dX6_readClause_0 : decode cX6_readClause 0 = .ok (.aload_n 0, 1) := by decide +kernel
theorem dX6_readClause_1 : decode cX6_readClause 1 = .ok (.ldc 55, 2) := by decide +kernel
theorem dX6_readClause_3 : decode cX6_readClause 3 = .ok (.invokevirtual 57, 3) := by decide +kernel
theorem dX6_readClause_6 : decode cX6_readClause 6 = .ok (.ifCond .eq 8, 3) := by decide +kernel
theorem dX6_readClause_9 : decode cX6_readClause 9 = .ok (.aload_n 0, 1) := by decide +kernel
theorem dX6_readClause_10 : decode cX6_readClause 10 = .ok (.invokevirtual 61, 3) := by decide +kernel
theorem dX6_readClause_13 : decode cX6_readClause 13 = .ok (.ireturn, 1) := by decide +kernel
theorem dX6_readClause_14 : decode cX6_readClause 14 = .ok (.aload_n 0, 1) := by decide +kernel
theorem dX6_readClause_15 : decode cX6_readClause 15 = .ok (.ldc 64, 2) := by decide +kernel
theorem dX6_readClause_17 : decode cX6_readClause 17 = .ok (.invokevirtual 57, 3) := by decide +kernel
theorem dX6_readClause_20 : decode cX6_readClause 20 = .ok (.ifCond .eq 8, 3) := by decide +kernel
theorem dX6_readClause_23 : decode cX6_readClause 23 = .ok (.aload_n 0, 1) := by decide +kernel
theorem dX6_readClause_24 : decode cX6_readClause 24 = .ok (.invokevirtual 66, 3) := by decide +kernel
theorem dX6_readClause_27 : decode cX6_readClause 27 = .ok (.ireturn, 1) := by decide +kernel
theorem dX6_readClause_28 : decode cX6_readClause 28 = .ok (.aload_n 0, 1) := by decide +kernel
theorem dX6_readClause_29 : decode cX6_readClause 29 = .ok (.ldc 69, 2) := by decide +kernel
theorem dX6_readClause_31 : decode cX6_readClause 31 = .ok (.invokevirtual 57, 3) := by decide +kernel
theorem dX6_readClause_34 : decode cX6_readClause 34 = .ok (.ifCond .eq 8, 3) := by decide +kernel
theorem dX6_readClause_37 : decode cX6_readClause 37 = .ok (.aload_n 0, 1) := by decide +kernel
theorem dX6_readClause_38 : decode cX6_readClause 38 = .ok (.invokevirtual 71, 3) := by decide +kernel
theorem dX6_readClause_41 : decode cX6_readClause 41 = .ok (.ireturn, 1) := by decide +kernel
theorem dX6_readClause_42 : decode cX6_readClause 42 = .ok (.aload_n 0, 1) := by decide +kernel
theorem dX6_readClause_43 : decode cX6_readClause 43 = .ok (.ldc 74, 2) := by decide +kernel
theorem dX6_readClause_45 : decode cX6_readClause 45 = .ok (.invokevirtual 57, 3) := by decide +kernel
theorem dX6_readClause_48 : decode cX6_readClause 48 = .ok (.ifCond .eq 8, 3) := by decide +kernel
theorem dX6_readClause_51 : decode cX6_readClause 51 = .ok (.aload_n 0, 1) := by decide +kernel
theorem dX6_readClause_52 : decode cX6_readClause 52 = .ok (.invokevirtual 76, 3) := by decide +kernel
theorem dX6_readClause_55 : decode cX6_readClause 55 = .ok (.ireturn, 1) := by decide +kernel
theorem dX6_readClause_56 : decode cX6_readClause 56 = .ok (.aload_n 0, 1) := by decide +kernel
theorem dX6_readClause_57 : decode cX6_readClause 57 = .ok (.ldc 79, 2) := by decide +kernel
theorem dX6_readClause_59 : decode cX6_readClause 59 = .ok (.invokevirtual 57, 3) := by decide +kernel
theorem dX6_readClause_62 : decode cX6_readClause 62 = .ok (.ifCond .eq 9, 3) := by decide +kernel
theorem dX6_readClause_65 : decode cX6_readClause 65 = .ok (.aload_n 0, 1) := by decide +kernel
theorem dX6_readClause_66 : decode cX6_readClause 66 = .ok (.iconst 0, 1) := by decide +kernel
theorem dX6_readClause_67 : decode cX6_readClause 67 = .ok (.invokevirtual 81, 3) := by decide +kernel
theorem dX6_readClause_70 : decode cX6_readClause 70 = .ok (.ireturn, 1) := by decide +kernel
theorem dX6_readClause_71 : decode cX6_readClause 71 = .ok (.aload_n 0, 1) := by decide +kernel
theorem dX6_readClause_72 : decode cX6_readClause 72 = .ok (.ldc 85, 2) := by decide +kernel
theorem dX6_readClause_74 : decode cX6_readClause 74 = .ok (.invokevirtual 57, 3) := by decide +kernel
theorem dX6_readClause_77 : decode cX6_readClause 77 = .ok (.ifCond .eq 9, 3) := by decide +kernel
theorem dX6_readClause_80 : decode cX6_readClause 80 = .ok (.aload_n 0, 1) := by decide +kernel
theorem dX6_readClause_81 : decode cX6_readClause 81 = .ok (.iconst 1, 1) := by decide +kernel
theorem dX6_readClause_82 : decode cX6_readClause 82 = .ok (.invokevirtual 81, 3) := by decide +kernel
theorem dX6_readClause_85 : decode cX6_readClause 85 = .ok (.ireturn, 1) := by decide +kernel
theorem dX6_readClause_86 : decode cX6_readClause 86 = .ok (.aload_n 0, 1) := by decide +kernel
theorem dX6_readClause_87 : decode cX6_readClause 87 = .ok (.ldc 87, 2) := by decide +kernel
theorem dX6_readClause_89 : decode cX6_readClause 89 = .ok (.invokevirtual 57, 3) := by decide +kernel
theorem dX6_readClause_92 : decode cX6_readClause 92 = .ok (.ifCond .eq 14, 3) := by decide +kernel
theorem dX6_readClause_95 : decode cX6_readClause 95 = .ok (.aload_n 0, 1) := by decide +kernel
theorem dX6_readClause_96 : decode cX6_readClause 96 = .ok (.invokevirtual 89, 3) := by decide +kernel
theorem dX6_readClause_99 : decode cX6_readClause 99 = .ok (.ifCond .eq 7, 3) := by decide +kernel
theorem dX6_readClause_102 : decode cX6_readClause 102 = .ok (.iconst 1, 1) := by decide +kernel
theorem dX6_readClause_103 : decode cX6_readClause 103 = .ok (.goto 4, 3) := by decide +kernel
theorem dX6_readClause_106 : decode cX6_readClause 106 = .ok (.iconst 0, 1) := by decide +kernel
theorem dX6_readClause_107 : decode cX6_readClause 107 = .ok (.ireturn, 1) := by decide +kernel
theorem dX6_is_0 : decode cX6_is 0 = .ok (.aload_n 0, 1) := by decide +kernel
theorem dX6_is_1 : decode cX6_is 1 = .ok (.getfield 43, 3) := by decide +kernel
theorem dX6_is_4 : decode cX6_is 4 = .ok (.iconst 1, 1) := by decide +kernel
theorem dX6_is_5 : decode cX6_is 5 = .ok (.if_icmp .ne 19, 3) := by decide +kernel
theorem dX6_is_8 : decode cX6_is 8 = .ok (.aload_n 0, 1) := by decide +kernel
theorem dX6_is_9 : decode cX6_is 9 = .ok (.getfield 30, 3) := by decide +kernel
theorem dX6_is_12 : decode cX6_is 12 = .ok (.aload_n 0, 1) := by decide +kernel
theorem dX6_is_13 : decode cX6_is 13 = .ok (.getfield 40, 3) := by decide +kernel
theorem dX6_is_16 : decode cX6_is 16 = .ok (.isub, 1) := by decide +kernel
theorem dX6_is_17 : decode cX6_is 17 = .ok (.aload_n 1, 1) := by decide +kernel
theorem dX6_is_18 : decode cX6_is 18 = .ok (.invokevirtual 92, 3) := by decide +kernel
theorem dX6_is_21 : decode cX6_is 21 = .ok (.if_icmp .eq 5, 3) := by decide +kernel
theorem dX6_is_24 : decode cX6_is 24 = .ok (.iconst 0, 1) := by decide +kernel
theorem dX6_is_25 : decode cX6_is 25 = .ok (.ireturn, 1) := by decide +kernel
theorem dX6_is_26 : decode cX6_is 26 = .ok (.iconst 0, 1) := by decide +kernel
theorem dX6_is_27 : decode cX6_is 27 = .ok (.istore_n 2, 1) := by decide +kernel
theorem dX6_is_28 : decode cX6_is 28 = .ok (.iload_n 2, 1) := by decide +kernel
theorem dX6_is_29 : decode cX6_is 29 = .ok (.aload_n 1, 1) := by decide +kernel
theorem dX6_is_30 : decode cX6_is 30 = .ok (.invokevirtual 92, 3) := by decide +kernel
theorem dX6_is_33 : decode cX6_is 33 = .ok (.if_icmp .ge 32, 3) := by decide +kernel
theorem dX6_is_36 : decode cX6_is 36 = .ok (.aload_n 0, 1) := by decide +kernel
theorem dX6_is_37 : decode cX6_is 37 = .ok (.getfield 18, 3) := by decide +kernel
theorem dX6_is_40 : decode cX6_is 40 = .ok (.aload_n 0, 1) := by decide +kernel
theorem dX6_is_41 : decode cX6_is 41 = .ok (.getfield 40, 3) := by decide +kernel
theorem dX6_is_44 : decode cX6_is 44 = .ok (.iload_n 2, 1) := by decide +kernel
theorem dX6_is_45 : decode cX6_is 45 = .ok (.iadd, 1) := by decide +kernel
theorem dX6_is_46 : decode cX6_is 46 = .ok (.invokevirtual 48, 3) := by decide +kernel
theorem dX6_is_49 : decode cX6_is 49 = .ok (.aload_n 1, 1) := by decide +kernel
theorem dX6_is_50 : decode cX6_is 50 = .ok (.iload_n 2, 1) := by decide +kernel
theorem dX6_is_51 : decode cX6_is 51 = .ok (.invokevirtual 98, 3) := by decide +kernel
theorem dX6_is_54 : decode cX6_is 54 = .ok (.if_icmp .eq 5, 3) := by decide +kernel
theorem dX6_is_57 : decode cX6_is 57 = .ok (.iconst 0, 1) := by decide +kernel
theorem dX6_is_58 : decode cX6_is 58 = .ok (.ireturn, 1) := by decide +kernel
theorem dX6_is_59 : decode cX6_is 59 = .ok (.iinc 2 1, 3) := by decide +kernel
theorem dX6_is_62 : decode cX6_is 62 = .ok (.goto (-34), 3) := by decide +kernel
theorem dX6_is_65 : decode cX6_is 65 = .ok (.iconst 1, 1) := by decide +kernel
theorem dX6_is_66 : decode cX6_is 66 = .ok (.ireturn, 1) := by decide +kernel
theorem dX6_readAlbum_0 : decode cX6_readAlbum 0 = .ok (.aload_n 0, 1) := by decide +kernel
theorem dX6_readAlbum_1 : decode cX6_readAlbum 1 = .ok (.getfield 12, 3) := by decide +kernel
theorem dX6_readAlbum_4 : decode cX6_readAlbum 4 = .ok (.invokevirtual 102, 3) := by decide +kernel
theorem dX6_readAlbum_7 : decode cX6_readAlbum 7 = .ok (.aload_n 0, 1) := by decide +kernel
theorem dX6_readAlbum_8 : decode cX6_readAlbum 8 = .ok (.invokevirtual 33, 3) := by decide +kernel
theorem dX6_readAlbum_11 : decode cX6_readAlbum 11 = .ok (.iconst 1, 1) := by decide +kernel
theorem dX6_readAlbum_12 : decode cX6_readAlbum 12 = .ok (.ireturn, 1) := by decide +kernel
theorem dX6_readSun_0 : decode cX6_readSun 0 = .ok (.aload_n 0, 1) := by decide +kernel
theorem dX6_readSun_1 : decode cX6_readSun 1 = .ok (.invokevirtual 33, 3) := by decide +kernel
theorem dX6_readSun_4 : decode cX6_readSun 4 = .ok (.aload_n 0, 1) := by decide +kernel
theorem dX6_readSun_5 : decode cX6_readSun 5 = .ok (.bipush 18, 2) := by decide +kernel
theorem dX6_readSun_7 : decode cX6_readSun 7 = .ok (.bipush 30, 2) := by decide +kernel
theorem dX6_readSun_9 : decode cX6_readSun 9 = .ok (.invokevirtual 105, 3) := by decide +kernel
theorem dX6_readSun_12 : decode cX6_readSun 12 = .ok (.ifCond .ne 5, 3) := by decide +kernel
theorem dX6_readSun_15 : decode cX6_readSun 15 = .ok (.iconst 0, 1) := by decide +kernel
theorem dX6_readSun_16 : decode cX6_readSun 16 = .ok (.ireturn, 1) := by decide +kernel
theorem dX6_readSun_17 : decode cX6_readSun 17 = .ok (.aload_n 0, 1) := by decide +kernel
theorem dX6_readSun_18 : decode cX6_readSun 18 = .ok (.getfield 109, 3) := by decide +kernel
theorem dX6_readSun_21 : decode cX6_readSun 21 = .ok (.istore_n 1, 1) := by decide +kernel
theorem dX6_readSun_22 : decode cX6_readSun 22 = .ok (.aload_n 0, 1) := by decide +kernel
theorem dX6_readSun_23 : decode cX6_readSun 23 = .ok (.iconst 1, 1) := by decide +kernel
theorem dX6_readSun_24 : decode cX6_readSun 24 = .ok (.bipush 9, 2) := by decide +kernel
theorem dX6_readSun_26 : decode cX6_readSun 26 = .ok (.invokevirtual 105, 3) := by decide +kernel
theorem dX6_readSun_29 : decode cX6_readSun 29 = .ok (.ifCond .ne 5, 3) := by decide +kernel
theorem dX6_readSun_32 : decode cX6_readSun 32 = .ok (.iconst 0, 1) := by decide +kernel
theorem dX6_readSun_33 : decode cX6_readSun 33 = .ok (.ireturn, 1) := by decide +kernel
theorem dX6_readSun_34 : decode cX6_readSun 34 = .ok (.aload_n 0, 1) := by decide +kernel
theorem dX6_readSun_35 : decode cX6_readSun 35 = .ok (.getfield 109, 3) := by decide +kernel
theorem dX6_readSun_38 : decode cX6_readSun 38 = .ok (.istore_n 2, 1) := by decide +kernel
theorem dX6_readSun_39 : decode cX6_readSun 39 = .ok (.aload_n 0, 1) := by decide +kernel
theorem dX6_readSun_40 : decode cX6_readSun 40 = .ok (.iconst 1, 1) := by decide +kernel
theorem dX6_readSun_41 : decode cX6_readSun 41 = .ok (.bipush 40, 2) := by decide +kernel
theorem dX6_readSun_43 : decode cX6_readSun 43 = .ok (.invokevirtual 105, 3) := by decide +kernel
theorem dX6_readSun_46 : decode cX6_readSun 46 = .ok (.ifCond .ne 5, 3) := by decide +kernel
theorem dX6_readSun_49 : decode cX6_readSun 49 = .ok (.iconst 0, 1) := by decide +kernel
theorem dX6_readSun_50 : decode cX6_readSun 50 = .ok (.ireturn, 1) := by decide +kernel
theorem dX6_readSun_51 : decode cX6_readSun 51 = .ok (.aload_n 0, 1) := by decide +kernel
theorem dX6_readSun_52 : decode cX6_readSun 52 = .ok (.getfield 12, 3) := by decide +kernel
theorem dX6_readSun_55 : decode cX6_readSun 55 = .ok (.getfield 112, 3) := by decide +kernel
theorem dX6_readSun_58 : decode cX6_readSun 58 = .ok (.iload_n 1, 1) := by decide +kernel
theorem dX6_readSun_59 : decode cX6_readSun 59 = .ok (.iload_n 2, 1) := by decide +kernel
theorem dX6_readSun_60 : decode cX6_readSun 60 = .ok (.aload_n 0, 1) := by decide +kernel
theorem dX6_readSun_61 : decode cX6_readSun 61 = .ok (.getfield 109, 3) := by decide +kernel
theorem dX6_readSun_64 : decode cX6_readSun 64 = .ok (.invokevirtual 115, 3) := by decide +kernel
theorem dX6_readSun_67 : decode cX6_readSun 67 = .ok (.iconst 1, 1) := by decide +kernel
theorem dX6_readSun_68 : decode cX6_readSun 68 = .ok (.ireturn, 1) := by decide +kernel
theorem dX6_readPicture_0 : decode cX6_readPicture 0 = .ok (.aload_n 0, 1) := by decide +kernel
theorem dX6_readPicture_1 : decode cX6_readPicture 1 = .ok (.getfield 12, 3) := by decide +kernel
theorem dX6_readPicture_4 : decode cX6_readPicture 4 = .ok (.getfield 121, 3) := by decide +kernel
theorem dX6_readPicture_7 : decode cX6_readPicture 7 = .ok (.bipush 7, 2) := by decide +kernel
theorem dX6_readPicture_9 : decode cX6_readPicture 9 = .ok (.if_icmp .lt 5, 3) := by decide +kernel
theorem dX6_readPicture_12 : decode cX6_readPicture 12 = .ok (.iconst 0, 1) := by decide +kernel
theorem dX6_readPicture_13 : decode cX6_readPicture 13 = .ok (.ireturn, 1) := by decide +kernel
theorem dX6_readPicture_14 : decode cX6_readPicture 14 = .ok (.aload_n 0, 1) := by decide +kernel
theorem dX6_readPicture_15 : decode cX6_readPicture 15 = .ok (.invokevirtual 33, 3) := by decide +kernel
theorem dX6_readPicture_18 : decode cX6_readPicture 18 = .ok (.aload_n 0, 1) := by decide +kernel
theorem dX6_readPicture_19 : decode cX6_readPicture 19 = .ok (.getfield 43, 3) := by decide +kernel
theorem dX6_readPicture_22 : decode cX6_readPicture 22 = .ok (.iconst 1, 1) := by decide +kernel
theorem dX6_readPicture_23 : decode cX6_readPicture 23 = .ok (.if_icmp .ne 16, 3) := by decide +kernel
theorem dX6_readPicture_26 : decode cX6_readPicture 26 = .ok (.aload_n 0, 1) := by decide +kernel
theorem dX6_readPicture_27 : decode cX6_readPicture 27 = .ok (.getfield 30, 3) := by decide +kernel
theorem dX6_readPicture_30 : decode cX6_readPicture 30 = .ok (.aload_n 0, 1) := by decide +kernel
theorem dX6_readPicture_31 : decode cX6_readPicture 31 = .ok (.getfield 40, 3) := by decide +kernel
theorem dX6_readPicture_34 : decode cX6_readPicture 34 = .ok (.isub, 1) := by decide +kernel
theorem dX6_readPicture_35 : decode cX6_readPicture 35 = .ok (.iconst 5, 1) := by decide +kernel
theorem dX6_readPicture_36 : decode cX6_readPicture 36 = .ok (.if_icmp .le 5, 3) := by decide +kernel
theorem dX6_readPicture_39 : decode cX6_readPicture 39 = .ok (.iconst 0, 1) := by decide +kernel
theorem dX6_readPicture_40 : decode cX6_readPicture 40 = .ok (.ireturn, 1) := by decide +kernel
theorem dX6_readPicture_41 : decode cX6_readPicture 41 = .ok (.iconst 0, 1) := by decide +kernel
theorem dX6_readPicture_42 : decode cX6_readPicture 42 = .ok (.istore_n 1, 1) := by decide +kernel
theorem dX6_readPicture_43 : decode cX6_readPicture 43 = .ok (.aload_n 0, 1) := by decide +kernel
theorem dX6_readPicture_44 : decode cX6_readPicture 44 = .ok (.getfield 40, 3) := by decide +kernel
theorem dX6_readPicture_47 : decode cX6_readPicture 47 = .ok (.istore_n 2, 1) := by decide +kernel
theorem dX6_readPicture_48 : decode cX6_readPicture 48 = .ok (.iload_n 2, 1) := by decide +kernel
theorem dX6_readPicture_49 : decode cX6_readPicture 49 = .ok (.aload_n 0, 1) := by decide +kernel
theorem dX6_readPicture_50 : decode cX6_readPicture 50 = .ok (.getfield 30, 3) := by decide +kernel
theorem dX6_readPicture_53 : decode cX6_readPicture 53 = .ok (.if_icmp .ge 22, 3) := by decide +kernel
theorem dX6_readPicture_56 : decode cX6_readPicture 56 = .ok (.iload_n 1, 1) := by decide +kernel
theorem dX6_readPicture_57 : decode cX6_readPicture 57 = .ok (.aload_n 0, 1) := by decide +kernel
theorem dX6_readPicture_58 : decode cX6_readPicture 58 = .ok (.getfield 18, 3) := by decide +kernel
theorem dX6_readPicture_61 : decode cX6_readPicture 61 = .ok (.iload_n 2, 1) := by decide +kernel
theorem dX6_readPicture_62 : decode cX6_readPicture 62 = .ok (.invokevirtual 48, 3) := by decide +kernel
theorem dX6_readPicture_65 : decode cX6_readPicture 65 = .ok (.invokestatic 124, 3) := by decide +kernel
theorem dX6_readPicture_68 : decode cX6_readPicture 68 = .ok (.istore_n 1, 1) := by decide +kernel
theorem dX6_readPicture_69 : decode cX6_readPicture 69 = .ok (.iinc 2 1, 3) := by decide +kernel
theorem dX6_readPicture_72 : decode cX6_readPicture 72 = .ok (.goto (-24), 3) := by decide +kernel
theorem dX6_readPicture_75 : decode cX6_readPicture 75 = .ok (.aload_n 0, 1) := by decide +kernel
theorem dX6_readPicture_76 : decode cX6_readPicture 76 = .ok (.getfield 12, 3) := by decide +kernel
theorem dX6_readPicture_79 : decode cX6_readPicture 79 = .ok (.iload_n 1, 1) := by decide +kernel
theorem dX6_readPicture_80 : decode cX6_readPicture 80 = .ok (.invokevirtual 128, 3) := by decide +kernel
theorem dX6_readPicture_83 : decode cX6_readPicture 83 = .ok (.iconst (-1), 1) := by decide +kernel
theorem dX6_readPicture_84 : decode cX6_readPicture 84 = .ok (.if_icmp .eq 5, 3) := by decide +kernel
theorem dX6_readPicture_87 : decode cX6_readPicture 87 = .ok (.iconst 0, 1) := by decide +kernel
theorem dX6_readPicture_88 : decode cX6_readPicture 88 = .ok (.ireturn, 1) := by decide +kernel
theorem dX6_readPicture_89 : decode cX6_readPicture 89 = .ok (.aload_n 0, 1) := by decide +kernel
theorem dX6_readPicture_90 : decode cX6_readPicture 90 = .ok (.getfield 12, 3) := by decide +kernel
theorem dX6_readPicture_93 : decode cX6_readPicture 93 = .ok (.iload_n 1, 1) := by decide +kernel
theorem dX6_readPicture_94 : decode cX6_readPicture 94 = .ok (.invokevirtual 131, 3) := by decide +kernel
theorem dX6_readPicture_97 : decode cX6_readPicture 97 = .ok (.aload_n 0, 1) := by decide +kernel
theorem dX6_readPicture_98 : decode cX6_readPicture 98 = .ok (.invokevirtual 33, 3) := by decide +kernel
theorem dX6_readPicture_101 : decode cX6_readPicture 101 = .ok (.iconst 1, 1) := by decide +kernel
theorem dX6_readPicture_102 : decode cX6_readPicture 102 = .ok (.ireturn, 1) := by decide +kernel
theorem dX6_readThing_0 : decode cX6_readThing 0 = .ok (.aload_n 0, 1) := by decide +kernel
theorem dX6_readThing_1 : decode cX6_readThing 1 = .ok (.getfield 12, 3) := by decide +kernel
theorem dX6_readThing_4 : decode cX6_readThing 4 = .ok (.getfield 135, 3) := by decide +kernel
theorem dX6_readThing_7 : decode cX6_readThing 7 = .ok (.bipush 6, 2) := by decide +kernel
theorem dX6_readThing_9 : decode cX6_readThing 9 = .ok (.if_icmp .lt 5, 3) := by decide +kernel
theorem dX6_readThing_12 : decode cX6_readThing 12 = .ok (.iconst 0, 1) := by decide +kernel
theorem dX6_readThing_13 : decode cX6_readThing 13 = .ok (.ireturn, 1) := by decide +kernel
theorem dX6_readThing_14 : decode cX6_readThing 14 = .ok (.aload_n 0, 1) := by decide +kernel
theorem dX6_readThing_15 : decode cX6_readThing 15 = .ok (.invokevirtual 33, 3) := by decide +kernel
theorem dX6_readThing_18 : decode cX6_readThing 18 = .ok (.aload_n 0, 1) := by decide +kernel
theorem dX6_readThing_19 : decode cX6_readThing 19 = .ok (.invokevirtual 138, 3) := by decide +kernel
theorem dX6_readThing_22 : decode cX6_readThing 22 = .ok (.istore_n 1, 1) := by decide +kernel
theorem dX6_readThing_23 : decode cX6_readThing 23 = .ok (.iload_n 1, 1) := by decide +kernel
theorem dX6_readThing_24 : decode cX6_readThing 24 = .ok (.iconst (-1), 1) := by decide +kernel
theorem dX6_readThing_25 : decode cX6_readThing 25 = .ok (.if_icmp .ne 5, 3) := by decide +kernel
theorem dX6_readThing_28 : decode cX6_readThing 28 = .ok (.iconst 0, 1) := by decide +kernel
theorem dX6_readThing_29 : decode cX6_readThing 29 = .ok (.ireturn, 1) := by decide +kernel
theorem dX6_readThing_30 : decode cX6_readThing 30 = .ok (.aload_n 0, 1) := by decide +kernel
theorem dX6_readThing_31 : decode cX6_readThing 31 = .ok (.getfield 12, 3) := by decide +kernel
theorem dX6_readThing_34 : decode cX6_readThing 34 = .ok (.iload_n 1, 1) := by decide +kernel
theorem dX6_readThing_35 : decode cX6_readThing 35 = .ok (.invokevirtual 141, 3) := by decide +kernel
theorem dX6_readThing_38 : decode cX6_readThing 38 = .ok (.aload_n 0, 1) := by decide +kernel
theorem dX6_readThing_39 : decode cX6_readThing 39 = .ok (.invokevirtual 33, 3) := by decide +kernel
theorem dX6_readThing_42 : decode cX6_readThing 42 = .ok (.iconst 1, 1) := by decide +kernel
theorem dX6_readThing_43 : decode cX6_readThing 43 = .ok (.ireturn, 1) := by decide +kernel
theorem dX6_thingKindNamed_0 : decode cX6_thingKindNamed 0 = .ok (.aload_n 0, 1) := by decide +kernel
theorem dX6_thingKindNamed_1 : decode cX6_thingKindNamed 1 = .ok (.ldc 144, 2) := by decide +kernel
theorem dX6_thingKindNamed_3 : decode cX6_thingKindNamed 3 = .ok (.invokevirtual 57, 3) := by decide +kernel
theorem dX6_thingKindNamed_6 : decode cX6_thingKindNamed 6 = .ok (.ifCond .eq 5, 3) := by decide +kernel
theorem dX6_thingKindNamed_9 : decode cX6_thingKindNamed 9 = .ok (.iconst 0, 1) := by decide +kernel
theorem dX6_thingKindNamed_10 : decode cX6_thingKindNamed 10 = .ok (.ireturn, 1) := by decide +kernel
theorem dX6_thingKindNamed_11 : decode cX6_thingKindNamed 11 = .ok (.aload_n 0, 1) := by decide +kernel
theorem dX6_thingKindNamed_12 : decode cX6_thingKindNamed 12 = .ok (.ldc 146, 2) := by decide +kernel
theorem dX6_thingKindNamed_14 : decode cX6_thingKindNamed 14 = .ok (.invokevirtual 57, 3) := by decide +kernel
theorem dX6_thingKindNamed_17 : decode cX6_thingKindNamed 17 = .ok (.ifCond .eq 5, 3) := by decide +kernel
theorem dX6_thingKindNamed_20 : decode cX6_thingKindNamed 20 = .ok (.iconst 1, 1) := by decide +kernel
theorem dX6_thingKindNamed_21 : decode cX6_thingKindNamed 21 = .ok (.ireturn, 1) := by decide +kernel
theorem dX6_thingKindNamed_22 : decode cX6_thingKindNamed 22 = .ok (.aload_n 0, 1) := by decide +kernel
theorem dX6_thingKindNamed_23 : decode cX6_thingKindNamed 23 = .ok (.ldc 148, 2) := by decide +kernel
theorem dX6_thingKindNamed_25 : decode cX6_thingKindNamed 25 = .ok (.invokevirtual 57, 3) := by decide +kernel
theorem dX6_thingKindNamed_28 : decode cX6_thingKindNamed 28 = .ok (.ifCond .eq 5, 3) := by decide +kernel
theorem dX6_thingKindNamed_31 : decode cX6_thingKindNamed 31 = .ok (.iconst 2, 1) := by decide +kernel
theorem dX6_thingKindNamed_32 : decode cX6_thingKindNamed 32 = .ok (.ireturn, 1) := by decide +kernel
theorem dX6_thingKindNamed_33 : decode cX6_thingKindNamed 33 = .ok (.aload_n 0, 1) := by decide +kernel
theorem dX6_thingKindNamed_34 : decode cX6_thingKindNamed 34 = .ok (.ldc 150, 2) := by decide +kernel
theorem dX6_thingKindNamed_36 : decode cX6_thingKindNamed 36 = .ok (.invokevirtual 57, 3) := by decide +kernel
theorem dX6_thingKindNamed_39 : decode cX6_thingKindNamed 39 = .ok (.ifCond .eq 7, 3) := by decide +kernel
theorem dX6_thingKindNamed_42 : decode cX6_thingKindNamed 42 = .ok (.iconst 3, 1) := by decide +kernel
theorem dX6_thingKindNamed_43 : decode cX6_thingKindNamed 43 = .ok (.goto 4, 3) := by decide +kernel
theorem dX6_thingKindNamed_46 : decode cX6_thingKindNamed 46 = .ok (.iconst (-1), 1) := by decide +kernel
theorem dX6_thingKindNamed_47 : decode cX6_thingKindNamed 47 = .ok (.ireturn, 1) := by decide +kernel
theorem dX6_readShadow_0 : decode cX6_readShadow 0 = .ok (.aload_n 0, 1) := by decide +kernel
theorem dX6_readShadow_1 : decode cX6_readShadow 1 = .ok (.invokevirtual 33, 3) := by decide +kernel
theorem dX6_readShadow_4 : decode cX6_readShadow 4 = .ok (.aload_n 0, 1) := by decide +kernel
theorem dX6_readShadow_5 : decode cX6_readShadow 5 = .ok (.iconst 0, 1) := by decide +kernel
theorem dX6_readShadow_6 : decode cX6_readShadow 6 = .ok (.aload_n 0, 1) := by decide +kernel
theorem dX6_readShadow_7 : decode cX6_readShadow 7 = .ok (.getfield 12, 3) := by decide +kernel
theorem dX6_readShadow_10 : decode cX6_readShadow 10 = .ok (.getfield 121, 3) := by decide +kernel
theorem dX6_readShadow_13 : decode cX6_readShadow 13 = .ok (.iconst 1, 1) := by decide +kernel
theorem dX6_readShadow_14 : decode cX6_readShadow 14 = .ok (.isub, 1) := by decide +kernel
theorem dX6_readShadow_15 : decode cX6_readShadow 15 = .ok (.invokevirtual 105, 3) := by decide +kernel
theorem dX6_readShadow_18 : decode cX6_readShadow 18 = .ok (.ifCond .ne 5, 3) := by decide +kernel
theorem dX6_readShadow_21 : decode cX6_readShadow 21 = .ok (.iconst 0, 1) := by decide +kernel
theorem dX6_readShadow_22 : decode cX6_readShadow 22 = .ok (.ireturn, 1) := by decide +kernel
theorem dX6_readShadow_23 : decode cX6_readShadow 23 = .ok (.aload_n 0, 1) := by decide +kernel
theorem dX6_readShadow_24 : decode cX6_readShadow 24 = .ok (.getfield 109, 3) := by decide +kernel
theorem dX6_readShadow_27 : decode cX6_readShadow 27 = .ok (.istore_n 2, 1) := by decide +kernel
theorem dX6_readShadow_28 : decode cX6_readShadow 28 = .ok (.aload_n 0, 1) := by decide +kernel
theorem dX6_readShadow_29 : decode cX6_readShadow 29 = .ok (.iconst 0, 1) := by decide +kernel
theorem dX6_readShadow_30 : decode cX6_readShadow 30 = .ok (.aload_n 0, 1) := by decide +kernel
theorem dX6_readShadow_31 : decode cX6_readShadow 31 = .ok (.getfield 12, 3) := by decide +kernel
theorem dX6_readShadow_34 : decode cX6_readShadow 34 = .ok (.iload_n 1, 1) := by decide +kernel
theorem dX6_readShadow_35 : decode cX6_readShadow 35 = .ok (.invokevirtual 152, 3) := by decide +kernel
theorem dX6_readShadow_38 : decode cX6_readShadow 38 = .ok (.invokevirtual 105, 3) := by decide +kernel
theorem dX6_readShadow_41 : decode cX6_readShadow 41 = .ok (.ifCond .ne 5, 3) := by decide +kernel
theorem dX6_readShadow_44 : decode cX6_readShadow 44 = .ok (.iconst 0, 1) := by decide +kernel
theorem dX6_readShadow_45 : decode cX6_readShadow 45 = .ok (.ireturn, 1) := by decide +kernel
theorem dX6_readShadow_46 : decode cX6_readShadow 46 = .ok (.aload_n 0, 1) := by decide +kernel
theorem dX6_readShadow_47 : decode cX6_readShadow 47 = .ok (.getfield 109, 3) := by decide +kernel
theorem dX6_readShadow_50 : decode cX6_readShadow 50 = .ok (.istore_n 3, 1) := by decide +kernel
theorem dX6_readShadow_51 : decode cX6_readShadow 51 = .ok (.aload_n 0, 1) := by decide +kernel
theorem dX6_readShadow_52 : decode cX6_readShadow 52 = .ok (.iconst 0, 1) := by decide +kernel
theorem dX6_readShadow_53 : decode cX6_readShadow 53 = .ok (.iload_n 1, 1) := by decide +kernel
theorem dX6_readShadow_54 : decode cX6_readShadow 54 = .ok (.invokestatic 155, 3) := by decide +kernel
theorem dX6_readShadow_57 : decode cX6_readShadow 57 = .ok (.invokevirtual 105, 3) := by decide +kernel
theorem dX6_readShadow_60 : decode cX6_readShadow 60 = .ok (.ifCond .ne 5, 3) := by decide +kernel
theorem dX6_readShadow_63 : decode cX6_readShadow 63 = .ok (.iconst 0, 1) := by decide +kernel
theorem dX6_readShadow_64 : decode cX6_readShadow 64 = .ok (.ireturn, 1) := by decide +kernel
theorem dX6_readShadow_65 : decode cX6_readShadow 65 = .ok (.aload_n 0, 1) := by decide +kernel
theorem dX6_readShadow_66 : decode cX6_readShadow 66 = .ok (.getfield 12, 3) := by decide +kernel
theorem dX6_readShadow_69 : decode cX6_readShadow 69 = .ok (.getfield 158, 3) := by decide +kernel
theorem dX6_readShadow_72 : decode cX6_readShadow 72 = .ok (.iload_n 2, 1) := by decide +kernel
theorem dX6_readShadow_73 : decode cX6_readShadow 73 = .ok (.iload_n 1, 1) := by decide +kernel
theorem dX6_readShadow_74 : decode cX6_readShadow 74 = .ok (.iload_n 3, 1) := by decide +kernel
theorem dX6_readShadow_75 : decode cX6_readShadow 75 = .ok (.aload_n 0, 1) := by decide +kernel
theorem dX6_readShadow_76 : decode cX6_readShadow 76 = .ok (.getfield 109, 3) := by decide +kernel
theorem dX6_readShadow_79 : decode cX6_readShadow 79 = .ok (.invokevirtual 162, 3) := by decide +kernel
theorem dX6_readShadow_82 : decode cX6_readShadow 82 = .ok (.iconst 1, 1) := by decide +kernel
theorem dX6_readShadow_83 : decode cX6_readShadow 83 = .ok (.ireturn, 1) := by decide +kernel
theorem dX6_readSight_0 : decode cX6_readSight 0 = .ok (.aload_n 0, 1) := by decide +kernel
theorem dX6_readSight_1 : decode cX6_readSight 1 = .ok (.invokevirtual 33, 3) := by decide +kernel
theorem dX6_readSight_4 : decode cX6_readSight 4 = .ok (.aload_n 0, 1) := by decide +kernel
theorem dX6_readSight_5 : decode cX6_readSight 5 = .ok (.iconst 0, 1) := by decide +kernel
theorem dX6_readSight_6 : decode cX6_readSight 6 = .ok (.aload_n 0, 1) := by decide +kernel
theorem dX6_readSight_7 : decode cX6_readSight 7 = .ok (.getfield 12, 3) := by decide +kernel
theorem dX6_readSight_10 : decode cX6_readSight 10 = .ok (.getfield 121, 3) := by decide +kernel
theorem dX6_readSight_13 : decode cX6_readSight 13 = .ok (.iconst 1, 1) := by decide +kernel
theorem dX6_readSight_14 : decode cX6_readSight 14 = .ok (.isub, 1) := by decide +kernel
theorem dX6_readSight_15 : decode cX6_readSight 15 = .ok (.invokevirtual 105, 3) := by decide +kernel
theorem dX6_readSight_18 : decode cX6_readSight 18 = .ok (.ifCond .ne 5, 3) := by decide +kernel
theorem dX6_readSight_21 : decode cX6_readSight 21 = .ok (.iconst 0, 1) := by decide +kernel
theorem dX6_readSight_22 : decode cX6_readSight 22 = .ok (.ireturn, 1) := by decide +kernel
theorem dX6_readSight_23 : decode cX6_readSight 23 = .ok (.aload_n 0, 1) := by decide +kernel
theorem dX6_readSight_24 : decode cX6_readSight 24 = .ok (.getfield 109, 3) := by decide +kernel
theorem dX6_readSight_27 : decode cX6_readSight 27 = .ok (.istore_n 1, 1) := by decide +kernel
theorem dX6_readSight_28 : decode cX6_readSight 28 = .ok (.aload_n 0, 1) := by decide +kernel
theorem dX6_readSight_29 : decode cX6_readSight 29 = .ok (.iconst 0, 1) := by decide +kernel
theorem dX6_readSight_30 : decode cX6_readSight 30 = .ok (.aload_n 0, 1) := by decide +kernel
theorem dX6_readSight_31 : decode cX6_readSight 31 = .ok (.getfield 12, 3) := by decide +kernel
theorem dX6_readSight_34 : decode cX6_readSight 34 = .ok (.getfield 135, 3) := by decide +kernel
theorem dX6_readSight_37 : decode cX6_readSight 37 = .ok (.iconst 1, 1) := by decide +kernel
theorem dX6_readSight_38 : decode cX6_readSight 38 = .ok (.isub, 1) := by decide +kernel
theorem dX6_readSight_39 : decode cX6_readSight 39 = .ok (.invokevirtual 105, 3) := by decide +kernel
theorem dX6_readSight_42 : decode cX6_readSight 42 = .ok (.ifCond .ne 5, 3) := by decide +kernel
theorem dX6_readSight_45 : decode cX6_readSight 45 = .ok (.iconst 0, 1) := by decide +kernel
theorem dX6_readSight_46 : decode cX6_readSight 46 = .ok (.ireturn, 1) := by decide +kernel
theorem dX6_readSight_47 : decode cX6_readSight 47 = .ok (.iconst 2, 1) := by decide +kernel
theorem dX6_readSight_48 : decode cX6_readSight 48 = .ok (.aload_n 0, 1) := by decide +kernel
theorem dX6_readSight_49 : decode cX6_readSight 49 = .ok (.getfield 109, 3) := by decide +kernel
theorem dX6_readSight_52 : decode cX6_readSight 52 = .ok (.iadd, 1) := by decide +kernel
theorem dX6_readSight_53 : decode cX6_readSight 53 = .ok (.istore_n 2, 1) := by decide +kernel
theorem dX6_readSight_54 : decode cX6_readSight 54 = .ok (.aload_n 0, 1) := by decide +kernel
theorem dX6_readSight_55 : decode cX6_readSight 55 = .ok (.iconst 0, 1) := by decide +kernel
theorem dX6_readSight_56 : decode cX6_readSight 56 = .ok (.aload_n 0, 1) := by decide +kernel
theorem dX6_readSight_57 : decode cX6_readSight 57 = .ok (.getfield 12, 3) := by decide +kernel
theorem dX6_readSight_60 : decode cX6_readSight 60 = .ok (.iload_n 2, 1) := by decide +kernel
theorem dX6_readSight_61 : decode cX6_readSight 61 = .ok (.invokevirtual 152, 3) := by decide +kernel
theorem dX6_readSight_64 : decode cX6_readSight 64 = .ok (.invokevirtual 105, 3) := by decide +kernel
theorem dX6_readSight_67 : decode cX6_readSight 67 = .ok (.ifCond .ne 5, 3) := by decide +kernel
theorem dX6_readSight_70 : decode cX6_readSight 70 = .ok (.iconst 0, 1) := by decide +kernel
theorem dX6_readSight_71 : decode cX6_readSight 71 = .ok (.ireturn, 1) := by decide +kernel
theorem dX6_readSight_72 : decode cX6_readSight 72 = .ok (.aload_n 0, 1) := by decide +kernel
theorem dX6_readSight_73 : decode cX6_readSight 73 = .ok (.getfield 12, 3) := by decide +kernel
theorem dX6_readSight_76 : decode cX6_readSight 76 = .ok (.getfield 158, 3) := by decide +kernel
theorem dX6_readSight_79 : decode cX6_readSight 79 = .ok (.iload_n 1, 1) := by decide +kernel
theorem dX6_readSight_80 : decode cX6_readSight 80 = .ok (.iload_n 2, 1) := by decide +kernel
theorem dX6_readSight_81 : decode cX6_readSight 81 = .ok (.aload_n 0, 1) := by decide +kernel
theorem dX6_readSight_82 : decode cX6_readSight 82 = .ok (.getfield 109, 3) := by decide +kernel
theorem dX6_readSight_85 : decode cX6_readSight 85 = .ok (.iconst 0, 1) := by decide +kernel
theorem dX6_readSight_86 : decode cX6_readSight 86 = .ok (.invokevirtual 162, 3) := by decide +kernel
theorem dX6_readSight_89 : decode cX6_readSight 89 = .ok (.iconst 1, 1) := by decide +kernel
theorem dX6_readSight_90 : decode cX6_readSight 90 = .ok (.ireturn, 1) := by decide +kernel
theorem dX6_readNumber_0 : decode cX6_readNumber 0 = .ok (.aload_n 0, 1) := by decide +kernel
theorem dX6_readNumber_1 : decode cX6_readNumber 1 = .ok (.getfield 43, 3) := by decide +kernel
theorem dX6_readNumber_4 : decode cX6_readNumber 4 = .ok (.iconst 2, 1) := by decide +kernel
theorem dX6_readNumber_5 : decode cX6_readNumber 5 = .ok (.if_icmp .ne 16, 3) := by decide +kernel
theorem dX6_readNumber_8 : decode cX6_readNumber 8 = .ok (.aload_n 0, 1) := by decide +kernel
theorem dX6_readNumber_9 : decode cX6_readNumber 9 = .ok (.getfield 30, 3) := by decide +kernel
theorem dX6_readNumber_12 : decode cX6_readNumber 12 = .ok (.aload_n 0, 1) := by decide +kernel
theorem dX6_readNumber_13 : decode cX6_readNumber 13 = .ok (.getfield 40, 3) := by decide +kernel
theorem dX6_readNumber_16 : decode cX6_readNumber 16 = .ok (.isub, 1) := by decide +kernel
theorem dX6_readNumber_17 : decode cX6_readNumber 17 = .ok (.iconst 3, 1) := by decide +kernel
theorem dX6_readNumber_18 : decode cX6_readNumber 18 = .ok (.if_icmp .le 5, 3) := by decide +kernel
theorem dX6_readNumber_21 : decode cX6_readNumber 21 = .ok (.iconst 0, 1) := by decide +kernel
theorem dX6_readNumber_22 : decode cX6_readNumber 22 = .ok (.ireturn, 1) := by decide +kernel
theorem dX6_readNumber_23 : decode cX6_readNumber 23 = .ok (.aload_n 0, 1) := by decide +kernel
theorem dX6_readNumber_24 : decode cX6_readNumber 24 = .ok (.iconst 0, 1) := by decide +kernel
theorem dX6_readNumber_25 : decode cX6_readNumber 25 = .ok (.putfield 109, 3) := by decide +kernel
theorem dX6_readNumber_28 : decode cX6_readNumber 28 = .ok (.aload_n 0, 1) := by decide +kernel
theorem dX6_readNumber_29 : decode cX6_readNumber 29 = .ok (.getfield 40, 3) := by decide +kernel
theorem dX6_readNumber_32 : decode cX6_readNumber 32 = .ok (.istore_n 3, 1) := by decide +kernel
theorem dX6_readNumber_33 : decode cX6_readNumber 33 = .ok (.iload_n 3, 1) := by decide +kernel
theorem dX6_readNumber_34 : decode cX6_readNumber 34 = .ok (.aload_n 0, 1) := by decide +kernel
theorem dX6_readNumber_35 : decode cX6_readNumber 35 = .ok (.getfield 30, 3) := by decide +kernel
theorem dX6_readNumber_38 : decode cX6_readNumber 38 = .ok (.if_icmp .ge 32, 3) := by decide +kernel
theorem dX6_readNumber_41 : decode cX6_readNumber 41 = .ok (.aload_n 0, 1) := by decide +kernel
theorem dX6_readNumber_42 : decode cX6_readNumber 42 = .ok (.bipush 10, 2) := by decide +kernel
theorem dX6_readNumber_44 : decode cX6_readNumber 44 = .ok (.aload_n 0, 1) := by decide +kernel
theorem dX6_readNumber_45 : decode cX6_readNumber 45 = .ok (.getfield 109, 3) := by decide +kernel
theorem dX6_readNumber_48 : decode cX6_readNumber 48 = .ok (.imul, 1) := by decide +kernel
theorem dX6_readNumber_49 : decode cX6_readNumber 49 = .ok (.aload_n 0, 1) := by decide +kernel
theorem dX6_readNumber_50 : decode cX6_readNumber 50 = .ok (.getfield 18, 3) := by decide +kernel
theorem dX6_readNumber_53 : decode cX6_readNumber 53 = .ok (.iload_n 3, 1) := by decide +kernel
theorem dX6_readNumber_54 : decode cX6_readNumber 54 = .ok (.invokevirtual 48, 3) := by decide +kernel
theorem dX6_readNumber_57 : decode cX6_readNumber 57 = .ok (.iadd, 1) := by decide +kernel
theorem dX6_readNumber_58 : decode cX6_readNumber 58 = .ok (.bipush 48, 2) := by decide +kernel
theorem dX6_readNumber_60 : decode cX6_readNumber 60 = .ok (.isub, 1) := by decide +kernel
theorem dX6_readNumber_61 : decode cX6_readNumber 61 = .ok (.putfield 109, 3) := by decide +kernel
theorem dX6_readNumber_64 : decode cX6_readNumber 64 = .ok (.iinc 3 1, 3) := by decide +kernel
theorem dX6_readNumber_67 : decode cX6_readNumber 67 = .ok (.goto (-34), 3) := by decide +kernel
theorem dX6_readNumber_70 : decode cX6_readNumber 70 = .ok (.aload_n 0, 1) := by decide +kernel
theorem dX6_readNumber_71 : decode cX6_readNumber 71 = .ok (.getfield 109, 3) := by decide +kernel
theorem dX6_readNumber_74 : decode cX6_readNumber 74 = .ok (.iload_n 1, 1) := by decide +kernel
theorem dX6_readNumber_75 : decode cX6_readNumber 75 = .ok (.if_icmp .lt 11, 3) := by decide +kernel
theorem dX6_readNumber_78 : decode cX6_readNumber 78 = .ok (.aload_n 0, 1) := by decide +kernel
theorem dX6_readNumber_79 : decode cX6_readNumber 79 = .ok (.getfield 109, 3) := by decide +kernel
theorem dX6_readNumber_82 : decode cX6_readNumber 82 = .ok (.iload_n 2, 1) := by decide +kernel
theorem dX6_readNumber_83 : decode cX6_readNumber 83 = .ok (.if_icmp .le 5, 3) := by decide +kernel
theorem dX6_readNumber_86 : decode cX6_readNumber 86 = .ok (.iconst 0, 1) := by decide +kernel
theorem dX6_readNumber_87 : decode cX6_readNumber 87 = .ok (.ireturn, 1) := by decide +kernel
theorem dX6_readNumber_88 : decode cX6_readNumber 88 = .ok (.aload_n 0, 1) := by decide +kernel
theorem dX6_readNumber_89 : decode cX6_readNumber 89 = .ok (.invokevirtual 33, 3) := by decide +kernel
theorem dX6_readNumber_92 : decode cX6_readNumber 92 = .ok (.iconst 1, 1) := by decide +kernel
theorem dX6_readNumber_93 : decode cX6_readNumber 93 = .ok (.ireturn, 1) := by decide +kernel
theorem dX7_init_0 : decode cX7_init 0 = .ok (.aload_n 0, 1) := by decide +kernel
theorem dX7_init_1 : decode cX7_init 1 = .ok (.invokespecial 3, 3) := by decide +kernel
theorem dX7_init_4 : decode cX7_init 4 = .ok (.aload_n 0, 1) := by decide +kernel
theorem dX7_init_5 : decode cX7_init 5 = .ok (.bipush 7, 2) := by decide +kernel
theorem dX7_init_7 : decode cX7_init 7 = .ok (.newarray .long, 2) := by decide +kernel
theorem dX7_init_9 : decode cX7_init 9 = .ok (.putfield 9, 3) := by decide +kernel
theorem dX7_init_12 : decode cX7_init 12 = .ok (.aload_n 0, 1) := by decide +kernel
theorem dX7_init_13 : decode cX7_init 13 = .ok (.bipush 7, 2) := by decide +kernel
theorem dX7_init_15 : decode cX7_init 15 = .ok (.newarray .int, 2) := by decide +kernel
theorem dX7_init_17 : decode cX7_init 17 = .ok (.putfield 15, 3) := by decide +kernel
theorem dX7_init_20 : decode cX7_init 20 = .ok (.aload_n 0, 1) := by decide +kernel
theorem dX7_init_21 : decode cX7_init 21 = .ok (.bipush 7, 2) := by decide +kernel
theorem dX7_init_23 : decode cX7_init 23 = .ok (.newarray .int, 2) := by decide +kernel
theorem dX7_init_25 : decode cX7_init 25 = .ok (.putfield 19, 3) := by decide +kernel
theorem dX7_init_28 : decode cX7_init 28 = .ok (.aload_n 0, 1) := by decide +kernel
theorem dX7_init_29 : decode cX7_init 29 = .ok (.bipush 6, 2) := by decide +kernel
theorem dX7_init_31 : decode cX7_init 31 = .ok (.newarray .int, 2) := by decide +kernel
theorem dX7_init_33 : decode cX7_init 33 = .ok (.putfield 22, 3) := by decide +kernel
theorem dX7_init_36 : decode cX7_init 36 = .ok (.aload_n 0, 1) := by decide +kernel
theorem dX7_init_37 : decode cX7_init 37 = .ok (.bipush 6, 2) := by decide +kernel
theorem dX7_init_39 : decode cX7_init 39 = .ok (.newarray .int, 2) := by decide +kernel
theorem dX7_init_41 : decode cX7_init 41 = .ok (.putfield 25, 3) := by decide +kernel
theorem dX7_init_44 : decode cX7_init 44 = .ok (.aload_n 0, 1) := by decide +kernel
theorem dX7_init_45 : decode cX7_init 45 = .ok (.bipush 7, 2) := by decide +kernel
theorem dX7_init_47 : decode cX7_init 47 = .ok (.newarray .int, 2) := by decide +kernel
theorem dX7_init_49 : decode cX7_init 49 = .ok (.putfield 28, 3) := by decide +kernel
theorem dX7_init_52 : decode cX7_init 52 = .ok (.return_, 1) := by decide +kernel
theorem dX7_read_0 : decode cX7_read 0 = .ok (.aload_n 0, 1) := by decide +kernel
theorem dX7_read_1 : decode cX7_read 1 = .ok (.aload_n 1, 1) := by decide +kernel
theorem dX7_read_2 : decode cX7_read 2 = .ok (.getfield 31, 3) := by decide +kernel
theorem dX7_read_5 : decode cX7_read 5 = .ok (.bipush 7, 2) := by decide +kernel
theorem dX7_read_7 : decode cX7_read 7 = .ok (.invokestatic 37, 3) := by decide +kernel
theorem dX7_read_10 : decode cX7_read 10 = .ok (.putfield 43, 3) := by decide +kernel
theorem dX7_read_13 : decode cX7_read 13 = .ok (.iconst 0, 1) := by decide +kernel
theorem dX7_read_14 : decode cX7_read 14 = .ok (.istore_n 2, 1) := by decide +kernel
theorem dX7_read_15 : decode cX7_read 15 = .ok (.iload_n 2, 1) := by decide +kernel
theorem dX7_read_16 : decode cX7_read 16 = .ok (.aload_n 0, 1) := by decide +kernel
theorem dX7_read_17 : decode cX7_read 17 = .ok (.getfield 43, 3) := by decide +kernel
theorem dX7_read_20 : decode cX7_read 20 = .ok (.if_icmp .ge 19, 3) := by decide +kernel
theorem dX7_read_23 : decode cX7_read 23 = .ok (.aload_n 0, 1) := by decide +kernel
theorem dX7_read_24 : decode cX7_read 24 = .ok (.aload_n 1, 1) := by decide +kernel
theorem dX7_read_25 : decode cX7_read 25 = .ok (.aload_n 1, 1) := by decide +kernel
theorem dX7_read_26 : decode cX7_read 26 = .ok (.getfield 44, 3) := by decide +kernel
theorem dX7_read_29 : decode cX7_read 29 = .ok (.iload_n 2, 1) := by decide +kernel
theorem dX7_read_30 : decode cX7_read 30 = .ok (.invokevirtual 48, 3) := by decide +kernel
theorem dX7_read_33 : decode cX7_read 33 = .ok (.iinc 2 1, 3) := by decide +kernel
theorem dX7_read_36 : decode cX7_read 36 = .ok (.goto (-21), 3) := by decide +kernel
theorem dX7_read_39 : decode cX7_read 39 = .ok (.aload_n 0, 1) := by decide +kernel
theorem dX7_read_40 : decode cX7_read 40 = .ok (.aload_n 1, 1) := by decide +kernel
theorem dX7_read_41 : decode cX7_read 41 = .ok (.aload_n 1, 1) := by decide +kernel
theorem dX7_read_42 : decode cX7_read 42 = .ok (.getfield 44, 3) := by decide +kernel
theorem dX7_read_45 : decode cX7_read 45 = .ok (.invokevirtual 52, 3) := by decide +kernel
theorem dX7_read_48 : decode cX7_read 48 = .ok (.aload_n 0, 1) := by decide +kernel
theorem dX7_read_49 : decode cX7_read 49 = .ok (.invokevirtual 56, 3) := by decide +kernel
theorem dX7_read_52 : decode cX7_read 52 = .ok (.aload_n 0, 1) := by decide +kernel
theorem dX7_read_53 : decode cX7_read 53 = .ok (.iconst 1, 1) := by decide +kernel
theorem dX7_read_54 : decode cX7_read 54 = .ok (.putfield 59, 3) := by decide +kernel
theorem dX7_read_57 : decode cX7_read 57 = .ok (.return_, 1) := by decide +kernel
theorem dX7_copyFrom_0 : decode cX7_copyFrom 0 = .ok (.aload_n 0, 1) := by decide +kernel
theorem dX7_copyFrom_1 : decode cX7_copyFrom 1 = .ok (.aload_n 1, 1) := by decide +kernel
theorem dX7_copyFrom_2 : decode cX7_copyFrom 2 = .ok (.getfield 43, 3) := by decide +kernel
theorem dX7_copyFrom_5 : decode cX7_copyFrom 5 = .ok (.putfield 43, 3) := by decide +kernel
theorem dX7_copyFrom_8 : decode cX7_copyFrom 8 = .ok (.aload_n 1, 1) := by decide +kernel
theorem dX7_copyFrom_9 : decode cX7_copyFrom 9 = .ok (.getfield 9, 3) := by decide +kernel
theorem dX7_copyFrom_12 : decode cX7_copyFrom 12 = .ok (.iconst 0, 1) := by decide +kernel
theorem dX7_copyFrom_13 : decode cX7_copyFrom 13 = .ok (.aload_n 0, 1) := by decide +kernel
theorem dX7_copyFrom_14 : decode cX7_copyFrom 14 = .ok (.getfield 9, 3) := by decide +kernel
theorem dX7_copyFrom_17 : decode cX7_copyFrom 17 = .ok (.iconst 0, 1) := by decide +kernel
theorem dX7_copyFrom_18 : decode cX7_copyFrom 18 = .ok (.bipush 7, 2) := by decide +kernel
theorem dX7_copyFrom_20 : decode cX7_copyFrom 20 = .ok (.invokestatic 63, 3) := by decide +kernel
theorem dX7_copyFrom_23 : decode cX7_copyFrom 23 = .ok (.aload_n 1, 1) := by decide +kernel
theorem dX7_copyFrom_24 : decode cX7_copyFrom 24 = .ok (.getfield 15, 3) := by decide +kernel
theorem dX7_copyFrom_27 : decode cX7_copyFrom 27 = .ok (.iconst 0, 1) := by decide +kernel
theorem dX7_copyFrom_28 : decode cX7_copyFrom 28 = .ok (.aload_n 0, 1) := by decide +kernel
theorem dX7_copyFrom_29 : decode cX7_copyFrom 29 = .ok (.getfield 15, 3) := by decide +kernel
theorem dX7_copyFrom_32 : decode cX7_copyFrom 32 = .ok (.iconst 0, 1) := by decide +kernel
theorem dX7_copyFrom_33 : decode cX7_copyFrom 33 = .ok (.bipush 7, 2) := by decide +kernel
theorem dX7_copyFrom_35 : decode cX7_copyFrom 35 = .ok (.invokestatic 63, 3) := by decide +kernel
theorem dX7_copyFrom_38 : decode cX7_copyFrom 38 = .ok (.aload_n 1, 1) := by decide +kernel
theorem dX7_copyFrom_39 : decode cX7_copyFrom 39 = .ok (.getfield 22, 3) := by decide +kernel
theorem dX7_copyFrom_42 : decode cX7_copyFrom 42 = .ok (.iconst 0, 1) := by decide +kernel
theorem dX7_copyFrom_43 : decode cX7_copyFrom 43 = .ok (.aload_n 0, 1) := by decide +kernel
theorem dX7_copyFrom_44 : decode cX7_copyFrom 44 = .ok (.getfield 22, 3) := by decide +kernel
theorem dX7_copyFrom_47 : decode cX7_copyFrom 47 = .ok (.iconst 0, 1) := by decide +kernel
theorem dX7_copyFrom_48 : decode cX7_copyFrom 48 = .ok (.bipush 6, 2) := by decide +kernel
theorem dX7_copyFrom_50 : decode cX7_copyFrom 50 = .ok (.invokestatic 63, 3) := by decide +kernel
theorem dX7_copyFrom_53 : decode cX7_copyFrom 53 = .ok (.aload_n 1, 1) := by decide +kernel
theorem dX7_copyFrom_54 : decode cX7_copyFrom 54 = .ok (.getfield 25, 3) := by decide +kernel
theorem dX7_copyFrom_57 : decode cX7_copyFrom 57 = .ok (.iconst 0, 1) := by decide +kernel
theorem dX7_copyFrom_58 : decode cX7_copyFrom 58 = .ok (.aload_n 0, 1) := by decide +kernel
theorem dX7_copyFrom_59 : decode cX7_copyFrom 59 = .ok (.getfield 25, 3) := by decide +kernel
theorem dX7_copyFrom_62 : decode cX7_copyFrom 62 = .ok (.iconst 0, 1) := by decide +kernel
theorem dX7_copyFrom_63 : decode cX7_copyFrom 63 = .ok (.bipush 6, 2) := by decide +kernel
theorem dX7_copyFrom_65 : decode cX7_copyFrom 65 = .ok (.invokestatic 63, 3) := by decide +kernel
theorem dX7_copyFrom_68 : decode cX7_copyFrom 68 = .ok (.return_, 1) := by decide +kernel
theorem dX7_readAgain_0 : decode cX7_readAgain 0 = .ok (.iload 4, 2) := by decide +kernel
theorem dX7_readAgain_2 : decode cX7_readAgain 2 = .ok (.iconst 2, 1) := by decide +kernel
theorem dX7_readAgain_3 : decode cX7_readAgain 3 = .ok (.if_icmp .ge 13, 3) := by decide +kernel
theorem dX7_readAgain_6 : decode cX7_readAgain 6 = .ok (.aload_n 0, 1) := by decide +kernel
theorem dX7_readAgain_7 : decode cX7_readAgain 7 = .ok (.aload_n 1, 1) := by decide +kernel
theorem dX7_readAgain_8 : decode cX7_readAgain 8 = .ok (.aload_n 2, 1) := by decide +kernel
theorem dX7_readAgain_9 : decode cX7_readAgain 9 = .ok (.iload_n 3, 1) := by decide +kernel
theorem dX7_readAgain_10 : decode cX7_readAgain 10 = .ok (.invokevirtual 48, 3) := by decide +kernel
theorem dX7_readAgain_13 : decode cX7_readAgain 13 = .ok (.goto 9, 3) := by decide +kernel
theorem dX7_readAgain_16 : decode cX7_readAgain 16 = .ok (.aload_n 0, 1) := by decide +kernel
theorem dX7_readAgain_17 : decode cX7_readAgain 17 = .ok (.aload_n 1, 1) := by decide +kernel
theorem dX7_readAgain_18 : decode cX7_readAgain 18 = .ok (.aload_n 2, 1) := by decide +kernel
theorem dX7_readAgain_19 : decode cX7_readAgain 19 = .ok (.invokevirtual 52, 3) := by decide +kernel
theorem dX7_readAgain_22 : decode cX7_readAgain 22 = .ok (.return_, 1) := by decide +kernel
theorem dX7_readWindow_0 : decode cX7_readWindow 0 = .ok (.iload_n 3, 1) := by decide +kernel
theorem dX7_readWindow_1 : decode cX7_readWindow 1 = .ok (.ifCond .lt 9, 3) := by decide +kernel
theorem dX7_readWindow_4 : decode cX7_readWindow 4 = .ok (.iload_n 3, 1) := by decide +kernel
theorem dX7_readWindow_5 : decode cX7_readWindow 5 = .ok (.bipush 7, 2) := by decide +kernel
theorem dX7_readWindow_7 : decode cX7_readWindow 7 = .ok (.if_icmp .lt 4, 3) := by decide +kernel
theorem dX7_readWindow_10 : decode cX7_readWindow 10 = .ok (.return_, 1) := by decide +kernel
theorem dX7_readWindow_11 : decode cX7_readWindow 11 = .ok (.aload_n 2, 1) := by decide +kernel
theorem dX7_readWindow_12 : decode cX7_readWindow 12 = .ok (.iload_n 3, 1) := by decide +kernel
theorem dX7_readWindow_13 : decode cX7_readWindow 13 = .ok (.iconst 0, 1) := by decide +kernel
theorem dX7_readWindow_14 : decode cX7_readWindow 14 = .ok (.invokevirtual 69, 3) := by decide +kernel
theorem dX7_readWindow_17 : decode cX7_readWindow 17 = .ok (.istore 4, 2) := by decide +kernel
theorem dX7_readWindow_19 : decode cX7_readWindow 19 = .ok (.aload_n 2, 1) := by decide +kernel
theorem dX7_readWindow_20 : decode cX7_readWindow 20 = .ok (.iload_n 3, 1) := by decide +kernel
theorem dX7_readWindow_21 : decode cX7_readWindow 21 = .ok (.iconst 0, 1) := by decide +kernel
theorem dX7_readWindow_22 : decode cX7_readWindow 22 = .ok (.invokevirtual 74, 3) := by decide +kernel
theorem dX7_readWindow_25 : decode cX7_readWindow 25 = .ok (.istore 5, 2) := by decide +kernel
theorem dX7_readWindow_27 : decode cX7_readWindow 27 = .ok (.aload_n 2, 1) := by decide +kernel
theorem dX7_readWindow_28 : decode cX7_readWindow 28 = .ok (.iload_n 3, 1) := by decide +kernel
theorem dX7_readWindow_29 : decode cX7_readWindow 29 = .ok (.iconst 1, 1) := by decide +kernel
theorem dX7_readWindow_30 : decode cX7_readWindow 30 = .ok (.invokevirtual 69, 3) := by decide +kernel
theorem dX7_readWindow_33 : decode cX7_readWindow 33 = .ok (.istore 6, 2) := by decide +kernel
theorem dX7_readWindow_35 : decode cX7_readWindow 35 = .ok (.aload_n 2, 1) := by decide +kernel
theorem dX7_readWindow_36 : decode cX7_readWindow 36 = .ok (.iload_n 3, 1) := by decide +kernel
theorem dX7_readWindow_37 : decode cX7_readWindow 37 = .ok (.iconst 1, 1) := by decide +kernel
theorem dX7_readWindow_38 : decode cX7_readWindow 38 = .ok (.invokevirtual 74, 3) := by decide +kernel
theorem dX7_readWindow_41 : decode cX7_readWindow 41 = .ok (.istore 7, 2) := by decide +kernel
theorem dX7_readWindow_43 : decode cX7_readWindow 43 = .ok (.aload_n 0, 1) := by decide +kernel
theorem dX7_readWindow_44 : decode cX7_readWindow 44 = .ok (.getfield 9, 3) := by decide +kernel
theorem dX7_readWindow_47 : decode cX7_readWindow 47 = .ok (.iload_n 3, 1) := by decide +kernel
theorem dX7_readWindow_48 : decode cX7_readWindow 48 = .ok (.ldc2_w 77, 3) := by decide +kernel
theorem dX7_readWindow_51 : decode cX7_readWindow 51 = .ok (.lastore, 1) := by decide +kernel
theorem dX7_readWindow_52 : decode cX7_readWindow 52 = .ok (.iload 5, 2) := by decide +kernel
theorem dX7_readWindow_54 : decode cX7_readWindow 54 = .ok (.iconst (-1), 1) := by decide +kernel
theorem dX7_readWindow_55 : decode cX7_readWindow 55 = .ok (.if_icmp .ne 10, 3) := by decide +kernel
theorem dX7_readWindow_58 : decode cX7_readWindow 58 = .ok (.iload 7, 2) := by decide +kernel
theorem dX7_readWindow_60 : decode cX7_readWindow 60 = .ok (.iconst (-1), 1) := by decide +kernel
theorem dX7_readWindow_61 : decode cX7_readWindow 61 = .ok (.if_icmp .ne 4, 3) := by decide +kernel
theorem dX7_readWindow_64 : decode cX7_readWindow 64 = .ok (.return_, 1) := by decide +kernel
theorem dX7_readWindow_65 : decode cX7_readWindow 65 = .ok (.lconst 0, 1) := by decide +kernel
theorem dX7_readWindow_66 : decode cX7_readWindow 66 = .ok (.lstore 8, 2) := by decide +kernel
theorem dX7_readWindow_68 : decode cX7_readWindow 68 = .ok (.iconst 0, 1) := by decide +kernel
theorem dX7_readWindow_69 : decode cX7_readWindow 69 = .ok (.istore 10, 2) := by decide +kernel
theorem dX7_readWindow_71 : decode cX7_readWindow 71 = .ok (.iload 10, 2) := by decide +kernel
theorem dX7_readWindow_73 : decode cX7_readWindow 73 = .ok (.bipush 48, 2) := by decide +kernel
theorem dX7_readWindow_75 : decode cX7_readWindow 75 = .ok (.if_icmp .ge 80, 3) := by decide +kernel
theorem dX7_readWindow_78 : decode cX7_readWindow 78 = .ok (.aload_n 1, 1) := by decide +kernel
theorem dX7_readWindow_79 : decode cX7_readWindow 79 = .ok (.getfield 79, 3) := by decide +kernel
theorem dX7_readWindow_82 : decode cX7_readWindow 82 = .ok (.iload 10, 2) := by decide +kernel
theorem dX7_readWindow_84 : decode cX7_readWindow 84 = .ok (.invokevirtual 83, 3) := by decide +kernel
theorem dX7_readWindow_87 : decode cX7_readWindow 87 = .ok (.ifCond .eq 45, 3) := by decide +kernel
theorem dX7_readWindow_90 : decode cX7_readWindow 90 = .ok (.aload_n 1, 1) := by decide +kernel
theorem dX7_readWindow_91 : decode cX7_readWindow 91 = .ok (.getfield 79, 3) := by decide +kernel
theorem dX7_readWindow_94 : decode cX7_readWindow 94 = .ok (.iload 10, 2) := by decide +kernel
theorem dX7_readWindow_96 : decode cX7_readWindow 96 = .ok (.invokevirtual 89, 3) := by decide +kernel
theorem dX7_readWindow_99 : decode cX7_readWindow 99 = .ok (.iload 4, 2) := by decide +kernel
theorem dX7_readWindow_101 : decode cX7_readWindow 101 = .ok (.iload 5, 2) := by decide +kernel
theorem dX7_readWindow_103 : decode cX7_readWindow 103 = .ok (.invokestatic 93, 3) := by decide +kernel
theorem dX7_readWindow_106 : decode cX7_readWindow 106 = .ok (.ifCond .eq 26, 3) := by decide +kernel
theorem dX7_readWindow_109 : decode cX7_readWindow 109 = .ok (.aload_n 1, 1) := by decide +kernel
theorem dX7_readWindow_110 : decode cX7_readWindow 110 = .ok (.getfield 79, 3) := by decide +kernel
theorem dX7_readWindow_113 : decode cX7_readWindow 113 = .ok (.iload 10, 2) := by decide +kernel
theorem dX7_readWindow_115 : decode cX7_readWindow 115 = .ok (.invokevirtual 97, 3) := by decide +kernel
theorem dX7_readWindow_118 : decode cX7_readWindow 118 = .ok (.iload 6, 2) := by decide +kernel
theorem dX7_readWindow_120 : decode cX7_readWindow 120 = .ok (.iload 7, 2) := by decide +kernel
theorem dX7_readWindow_122 : decode cX7_readWindow 122 = .ok (.invokestatic 93, 3) := by decide +kernel
theorem dX7_readWindow_125 : decode cX7_readWindow 125 = .ok (.ifCond .eq 7, 3) := by decide +kernel
theorem dX7_readWindow_128 : decode cX7_readWindow 128 = .ok (.iconst 1, 1) := by decide +kernel
theorem dX7_readWindow_129 : decode cX7_readWindow 129 = .ok (.goto 4, 3) := by decide +kernel
theorem dX7_readWindow_132 : decode cX7_readWindow 132 = .ok (.iconst 0, 1) := by decide +kernel
theorem dX7_readWindow_133 : decode cX7_readWindow 133 = .ok (.istore 11, 2) := by decide +kernel
theorem dX7_readWindow_135 : decode cX7_readWindow 135 = .ok (.iload 11, 2) := by decide +kernel
theorem dX7_readWindow_137 : decode cX7_readWindow 137 = .ok (.ifCond .eq 12, 3) := by decide +kernel
theorem dX7_readWindow_140 : decode cX7_readWindow 140 = .ok (.lload 8, 2) := by decide +kernel
theorem dX7_readWindow_142 : decode cX7_readWindow 142 = .ok (.lconst 1, 1) := by decide +kernel
theorem dX7_readWindow_143 : decode cX7_readWindow 143 = .ok (.iload 10, 2) := by decide +kernel
theorem dX7_readWindow_145 : decode cX7_readWindow 145 = .ok (.lshl, 1) := by decide +kernel
theorem dX7_readWindow_146 : decode cX7_readWindow 146 = .ok (.lor, 1) := by decide +kernel
theorem dX7_readWindow_147 : decode cX7_readWindow 147 = .ok (.lstore 8, 2) := by decide +kernel
theorem dX7_readWindow_149 : decode cX7_readWindow 149 = .ok (.iinc 10 1, 3) := by decide +kernel
theorem dX7_readWindow_152 : decode cX7_readWindow 152 = .ok (.goto (-81), 3) := by decide +kernel
theorem dX7_readWindow_155 : decode cX7_readWindow 155 = .ok (.aload_n 0, 1) := by decide +kernel
theorem dX7_readWindow_156 : decode cX7_readWindow 156 = .ok (.getfield 9, 3) := by decide +kernel
theorem dX7_readWindow_159 : decode cX7_readWindow 159 = .ok (.iload_n 3, 1) := by decide +kernel
theorem dX7_readWindow_160 : decode cX7_readWindow 160 = .ok (.lload 8, 2) := by decide +kernel
theorem dX7_readWindow_162 : decode cX7_readWindow 162 = .ok (.lastore, 1) := by decide +kernel
theorem dX7_readWindow_163 : decode cX7_readWindow 163 = .ok (.return_, 1) := by decide +kernel
theorem dX7_isNear_0 : decode cX7_isNear 0 = .ok (.iload_n 2, 1) := by decide +kernel
theorem dX7_isNear_1 : decode cX7_isNear 1 = .ok (.iconst (-1), 1) := by decide +kernel
theorem dX7_isNear_2 : decode cX7_isNear 2 = .ok (.if_icmp .eq 13, 3) := by decide +kernel
theorem dX7_isNear_5 : decode cX7_isNear 5 = .ok (.iload_n 0, 1) := by decide +kernel
theorem dX7_isNear_6 : decode cX7_isNear 6 = .ok (.iload_n 1, 1) := by decide +kernel
theorem dX7_isNear_7 : decode cX7_isNear 7 = .ok (.isub, 1) := by decide +kernel
theorem dX7_isNear_8 : decode cX7_isNear 8 = .ok (.invokestatic 100, 3) := by decide +kernel
theorem dX7_isNear_11 : decode cX7_isNear 11 = .ok (.iload_n 2, 1) := by decide +kernel
theorem dX7_isNear_12 : decode cX7_isNear 12 = .ok (.if_icmp .gt 7, 3) := by decide +kernel
theorem dX7_isNear_15 : decode cX7_isNear 15 = .ok (.iconst 1, 1) := by decide +kernel
theorem dX7_isNear_16 : decode cX7_isNear 16 = .ok (.goto 4, 3) := by decide +kernel
theorem dX7_isNear_19 : decode cX7_isNear 19 = .ok (.iconst 0, 1) := by decide +kernel
theorem dX7_isNear_20 : decode cX7_isNear 20 = .ok (.ireturn, 1) := by decide +kernel
theorem dX7_readThings_0 : decode cX7_readThings 0 = .ok (.aload_n 0, 1) := by decide +kernel
theorem dX7_readThings_1 : decode cX7_readThings 1 = .ok (.getfield 15, 3) := by decide +kernel
theorem dX7_readThings_4 : decode cX7_readThings 4 = .ok (.iconst 0, 1) := by decide +kernel
theorem dX7_readThings_5 : decode cX7_readThings 5 = .ok (.invokestatic 103, 3) := by decide +kernel
theorem dX7_readThings_8 : decode cX7_readThings 8 = .ok (.aload_n 0, 1) := by decide +kernel
theorem dX7_readThings_9 : decode cX7_readThings 9 = .ok (.getfield 22, 3) := by decide +kernel
theorem dX7_readThings_12 : decode cX7_readThings 12 = .ok (.iconst 0, 1) := by decide +kernel
theorem dX7_readThings_13 : decode cX7_readThings 13 = .ok (.invokestatic 103, 3) := by decide +kernel
theorem dX7_readThings_16 : decode cX7_readThings 16 = .ok (.aload_n 0, 1) := by decide +kernel
theorem dX7_readThings_17 : decode cX7_readThings 17 = .ok (.getfield 25, 3) := by decide +kernel
theorem dX7_readThings_20 : decode cX7_readThings 20 = .ok (.iconst 0, 1) := by decide +kernel
theorem dX7_readThings_21 : decode cX7_readThings 21 = .ok (.invokestatic 103, 3) := by decide +kernel
theorem dX7_readThings_24 : decode cX7_readThings 24 = .ok (.iconst 0, 1) := by decide +kernel
theorem dX7_readThings_25 : decode cX7_readThings 25 = .ok (.istore_n 3, 1) := by decide +kernel
theorem dX7_readThings_26 : decode cX7_readThings 26 = .ok (.iload_n 3, 1) := by decide +kernel
theorem dX7_readThings_27 : decode cX7_readThings 27 = .ok (.aload_n 1, 1) := by decide +kernel
theorem dX7_readThings_28 : decode cX7_readThings 28 = .ok (.getfield 109, 3) := by decide +kernel
theorem dX7_readThings_31 : decode cX7_readThings 31 = .ok (.if_icmp .ge 67, 3) := by decide +kernel
theorem dX7_readThings_34 : decode cX7_readThings 34 = .ok (.iconst 0, 1) := by decide +kernel
theorem dX7_readThings_35 : decode cX7_readThings 35 = .ok (.istore 4, 2) := by decide +kernel
theorem dX7_readThings_37 : decode cX7_readThings 37 = .ok (.iload 4, 2) := by decide +kernel
theorem dX7_readThings_39 : decode cX7_readThings 39 = .ok (.bipush 7, 2) := by decide +kernel
theorem dX7_readThings_41 : decode cX7_readThings 41 = .ok (.if_icmp .ge 25, 3) := by decide +kernel
theorem dX7_readThings_44 : decode cX7_readThings 44 = .ok (.aload_n 0, 1) := by decide +kernel
theorem dX7_readThings_45 : decode cX7_readThings 45 = .ok (.getfield 28, 3) := by decide +kernel
theorem dX7_readThings_48 : decode cX7_readThings 48 = .ok (.iload 4, 2) := by decide +kernel
theorem dX7_readThings_50 : decode cX7_readThings 50 = .ok (.aload_n 2, 1) := by decide +kernel
theorem dX7_readThings_51 : decode cX7_readThings 51 = .ok (.iload 4, 2) := by decide +kernel
theorem dX7_readThings_53 : decode cX7_readThings 53 = .ok (.iconst 2, 1) := by decide +kernel
theorem dX7_readThings_54 : decode cX7_readThings 54 = .ok (.iload_n 3, 1) := by decide +kernel
theorem dX7_readThings_55 : decode cX7_readThings 55 = .ok (.iadd, 1) := by decide +kernel
theorem dX7_readThings_56 : decode cX7_readThings 56 = .ok (.invokevirtual 69, 3) := by decide +kernel
theorem dX7_readThings_59 : decode cX7_readThings 59 = .ok (.iastore, 1) := by decide +kernel
theorem dX7_readThings_60 : decode cX7_readThings 60 = .ok (.iinc 4 1, 3) := by decide +kernel
theorem dX7_readThings_63 : decode cX7_readThings 63 = .ok (.goto (-26), 3) := by decide +kernel
theorem dX7_readThings_66 : decode cX7_readThings 66 = .ok (.aload_n 1, 1) := by decide +kernel
theorem dX7_readThings_67 : decode cX7_readThings 67 = .ok (.iload_n 3, 1) := by decide +kernel
theorem dX7_readThings_68 : decode cX7_readThings 68 = .ok (.invokevirtual 112, 3) := by decide +kernel
theorem dX7_readThings_71 : decode cX7_readThings 71 = .ok (.iconst 3, 1) := by decide +kernel
theorem dX7_readThings_72 : decode cX7_readThings 72 = .ok (.if_icmp .ne 10, 3) := by decide +kernel
theorem dX7_readThings_75 : decode cX7_readThings 75 = .ok (.aload_n 0, 1) := by decide +kernel
theorem dX7_readThings_76 : decode cX7_readThings 76 = .ok (.invokevirtual 115, 3) := by decide +kernel
theorem dX7_readThings_79 : decode cX7_readThings 79 = .ok (.goto 13, 3) := by decide +kernel
theorem dX7_readThings_82 : decode cX7_readThings 82 = .ok (.aload_n 0, 1) := by decide +kernel
theorem dX7_readThings_83 : decode cX7_readThings 83 = .ok (.iload_n 3, 1) := by decide +kernel
theorem dX7_readThings_84 : decode cX7_readThings 84 = .ok (.aload_n 1, 1) := by decide +kernel
theorem dX7_readThings_85 : decode cX7_readThings 85 = .ok (.iload_n 3, 1) := by decide +kernel
theorem dX7_readThings_86 : decode cX7_readThings 86 = .ok (.invokevirtual 112, 3) := by decide +kernel
theorem dX7_readThings_89 : decode cX7_readThings 89 = .ok (.invokevirtual 118, 3) := by decide +kernel
theorem dX7_readThings_92 : decode cX7_readThings 92 = .ok (.iinc 3 1, 3) := by decide +kernel
theorem dX7_readThings_95 : decode cX7_readThings 95 = .ok (.goto (-69), 3) := by decide +kernel
theorem dX7_readThings_98 : decode cX7_readThings 98 = .ok (.return_, 1) := by decide +kernel
theorem dX7_readThing_0 : decode cX7_readThing 0 = .ok (.iload_n 1, 1) := by decide +kernel
theorem dX7_readThing_1 : decode cX7_readThing 1 = .ok (.ifCond .lt 9, 3) := by decide +kernel
theorem dX7_readThing_4 : decode cX7_readThing 4 = .ok (.iload_n 1, 1) := by decide +kernel
theorem dX7_readThing_5 : decode cX7_readThing 5 = .ok (.bipush 6, 2) := by decide +kernel
theorem dX7_readThing_7 : decode cX7_readThing 7 = .ok (.if_icmp .lt 4, 3) := by decide +kernel
theorem dX7_readThing_10 : decode cX7_readThing 10 = .ok (.return_, 1) := by decide +kernel
theorem dX7_readThing_11 : decode cX7_readThing 11 = .ok (.iconst 0, 1) := by decide +kernel
theorem dX7_readThing_12 : decode cX7_readThing 12 = .ok (.istore_n 3, 1) := by decide +kernel
theorem dX7_readThing_13 : decode cX7_readThing 13 = .ok (.iconst 0, 1) := by decide +kernel
theorem dX7_readThing_14 : decode cX7_readThing 14 = .ok (.istore 4, 2) := by decide +kernel
theorem dX7_readThing_16 : decode cX7_readThing 16 = .ok (.iconst 0, 1) := by decide +kernel
theorem dX7_readThing_17 : decode cX7_readThing 17 = .ok (.istore 5, 2) := by decide +kernel
theorem dX7_readThing_19 : decode cX7_readThing 19 = .ok (.iload 5, 2) := by decide +kernel
theorem dX7_readThing_21 : decode cX7_readThing 21 = .ok (.bipush 7, 2) := by decide +kernel
theorem dX7_readThing_23 : decode cX7_readThing 23 = .ok (.if_icmp .ge 46, 3) := by decide +kernel
theorem dX7_readThing_26 : decode cX7_readThing 26 = .ok (.aload_n 0, 1) := by decide +kernel
theorem dX7_readThing_27 : decode cX7_readThing 27 = .ok (.getfield 28, 3) := by decide +kernel
theorem dX7_readThing_30 : decode cX7_readThing 30 = .ok (.iload 5, 2) := by decide +kernel
theorem dX7_readThing_32 : decode cX7_readThing 32 = .ok (.iaload, 1) := by decide +kernel
theorem dX7_readThing_33 : decode cX7_readThing 33 = .ok (.ifCond .ne 10, 3) := by decide +kernel
theorem dX7_readThing_36 : decode cX7_readThing 36 = .ok (.iload_n 3, 1) := by decide +kernel
theorem dX7_readThing_37 : decode cX7_readThing 37 = .ok (.iconst 1, 1) := by decide +kernel
theorem dX7_readThing_38 : decode cX7_readThing 38 = .ok (.iload 5, 2) := by decide +kernel
theorem dX7_readThing_40 : decode cX7_readThing 40 = .ok (.ishl, 1) := by decide +kernel
theorem dX7_readThing_41 : decode cX7_readThing 41 = .ok (.ior, 1) := by decide +kernel
theorem dX7_readThing_42 : decode cX7_readThing 42 = .ok (.istore_n 3, 1) := by decide +kernel
theorem dX7_readThing_43 : decode cX7_readThing 43 = .ok (.aload_n 0, 1) := by decide +kernel
theorem dX7_readThing_44 : decode cX7_readThing 44 = .ok (.getfield 28, 3) := by decide +kernel
theorem dX7_readThing_47 : decode cX7_readThing 47 = .ok (.iload 5, 2) := by decide +kernel
theorem dX7_readThing_49 : decode cX7_readThing 49 = .ok (.iaload, 1) := by decide +kernel
theorem dX7_readThing_50 : decode cX7_readThing 50 = .ok (.iconst 1, 1) := by decide +kernel
theorem dX7_readThing_51 : decode cX7_readThing 51 = .ok (.if_icmp .ne 12, 3) := by decide +kernel
theorem dX7_readThing_54 : decode cX7_readThing 54 = .ok (.iload 4, 2) := by decide +kernel
theorem dX7_readThing_56 : decode cX7_readThing 56 = .ok (.iconst 1, 1) := by decide +kernel
theorem dX7_readThing_57 : decode cX7_readThing 57 = .ok (.iload 5, 2) := by decide +kernel
theorem dX7_readThing_59 : decode cX7_readThing 59 = .ok (.ishl, 1) := by decide +kernel
theorem dX7_readThing_60 : decode cX7_readThing 60 = .ok (.ior, 1) := by decide +kernel
theorem dX7_readThing_61 : decode cX7_readThing 61 = .ok (.istore 4, 2) := by decide +kernel
theorem dX7_readThing_63 : decode cX7_readThing 63 = .ok (.iinc 5 1, 3) := by decide +kernel
theorem dX7_readThing_66 : decode cX7_readThing 66 = .ok (.goto (-47), 3) := by decide +kernel
theorem dX7_readThing_69 : decode cX7_readThing 69 = .ok (.iload_n 2, 1) := by decide +kernel
theorem dX7_readThing_70 : decode cX7_readThing 70 = .ok (.ifCond .ne 10, 3) := by decide +kernel
theorem dX7_readThing_73 : decode cX7_readThing 73 = .ok (.aload_n 0, 1) := by decide +kernel
theorem dX7_readThing_74 : decode cX7_readThing 74 = .ok (.iload_n 3, 1) := by decide +kernel
theorem dX7_readThing_75 : decode cX7_readThing 75 = .ok (.iload 4, 2) := by decide +kernel
theorem dX7_readThing_77 : decode cX7_readThing 77 = .ok (.invokevirtual 122, 3) := by decide +kernel
theorem dX7_readThing_80 : decode cX7_readThing 80 = .ok (.iload_n 2, 1) := by decide +kernel
theorem dX7_readThing_81 : decode cX7_readThing 81 = .ok (.iconst 1, 1) := by decide +kernel
theorem dX7_readThing_82 : decode cX7_readThing 82 = .ok (.if_icmp .ne 10, 3) := by decide +kernel
theorem dX7_readThing_85 : decode cX7_readThing 85 = .ok (.aload_n 0, 1) := by decide +kernel
theorem dX7_readThing_86 : decode cX7_readThing 86 = .ok (.iload 4, 2) := by decide +kernel
theorem dX7_readThing_88 : decode cX7_readThing 88 = .ok (.iload_n 3, 1) := by decide +kernel
theorem dX7_readThing_89 : decode cX7_readThing 89 = .ok (.invokevirtual 122, 3) := by decide +kernel
theorem dX7_readThing_92 : decode cX7_readThing 92 = .ok (.iload_n 2, 1) := by decide +kernel
theorem dX7_readThing_93 : decode cX7_readThing 93 = .ok (.iconst 2, 1) := by decide +kernel
theorem dX7_readThing_94 : decode cX7_readThing 94 = .ok (.if_icmp .eq 4, 3) := by decide +kernel
theorem dX7_readThing_97 : decode cX7_readThing 97 = .ok (.return_, 1) := by decide +kernel
theorem dX7_readThing_98 : decode cX7_readThing 98 = .ok (.aload_n 0, 1) := by decide +kernel
theorem dX7_readThing_99 : decode cX7_readThing 99 = .ok (.getfield 22, 3) := by decide +kernel
theorem dX7_readThing_102 : decode cX7_readThing 102 = .ok (.iload_n 1, 1) := by decide +kernel
theorem dX7_readThing_103 : decode cX7_readThing 103 = .ok (.iload 4, 2) := by decide +kernel
theorem dX7_readThing_105 : decode cX7_readThing 105 = .ok (.iastore, 1) := by decide +kernel
theorem dX7_readThing_106 : decode cX7_readThing 106 = .ok (.aload_n 0, 1) := by decide +kernel
theorem dX7_readThing_107 : decode cX7_readThing 107 = .ok (.getfield 25, 3) := by decide +kernel
theorem dX7_readThing_110 : decode cX7_readThing 110 = .ok (.iload_n 1, 1) := by decide +kernel
theorem dX7_readThing_111 : decode cX7_readThing 111 = .ok (.iload_n 3, 1) := by decide +kernel
theorem dX7_readThing_112 : decode cX7_readThing 112 = .ok (.iastore, 1) := by decide +kernel
theorem dX7_readThing_113 : decode cX7_readThing 113 = .ok (.return_, 1) := by decide +kernel
theorem dX7_readWear_0 : decode cX7_readWear 0 = .ok (.iconst 0, 1) := by decide +kernel
theorem dX7_readWear_1 : decode cX7_readWear 1 = .ok (.istore_n 1, 1) := by decide +kernel
theorem dX7_readWear_2 : decode cX7_readWear 2 = .ok (.iload_n 1, 1) := by decide +kernel
theorem dX7_readWear_3 : decode cX7_readWear 3 = .ok (.bipush 7, 2) := by decide +kernel
theorem dX7_readWear_5 : decode cX7_readWear 5 = .ok (.if_icmp .ge 70, 3) := by decide +kernel
theorem dX7_readWear_8 : decode cX7_readWear 8 = .ok (.iconst 0, 1) := by decide +kernel
theorem dX7_readWear_9 : decode cX7_readWear 9 = .ok (.istore_n 2, 1) := by decide +kernel
theorem dX7_readWear_10 : decode cX7_readWear 10 = .ok (.iload_n 2, 1) := by decide +kernel
theorem dX7_readWear_11 : decode cX7_readWear 11 = .ok (.bipush 7, 2) := by decide +kernel
theorem dX7_readWear_13 : decode cX7_readWear 13 = .ok (.if_icmp .ge 56, 3) := by decide +kernel
theorem dX7_readWear_16 : decode cX7_readWear 16 = .ok (.aload_n 0, 1) := by decide +kernel
theorem dX7_readWear_17 : decode cX7_readWear 17 = .ok (.getfield 28, 3) := by decide +kernel
theorem dX7_readWear_20 : decode cX7_readWear 20 = .ok (.iload_n 2, 1) := by decide +kernel
theorem dX7_readWear_21 : decode cX7_readWear 21 = .ok (.iaload, 1) := by decide +kernel
theorem dX7_readWear_22 : decode cX7_readWear 22 = .ok (.iconst (-1), 1) := by decide +kernel
theorem dX7_readWear_23 : decode cX7_readWear 23 = .ok (.if_icmp .eq 22, 3) := by decide +kernel
theorem dX7_readWear_26 : decode cX7_readWear 26 = .ok (.aload_n 0, 1) := by decide +kernel
theorem dX7_readWear_27 : decode cX7_readWear 27 = .ok (.getfield 28, 3) := by decide +kernel
theorem dX7_readWear_30 : decode cX7_readWear 30 = .ok (.iload_n 2, 1) := by decide +kernel
theorem dX7_readWear_31 : decode cX7_readWear 31 = .ok (.iaload, 1) := by decide +kernel
theorem dX7_readWear_32 : decode cX7_readWear 32 = .ok (.aload_n 0, 1) := by decide +kernel
theorem dX7_readWear_33 : decode cX7_readWear 33 = .ok (.getfield 28, 3) := by decide +kernel
theorem dX7_readWear_36 : decode cX7_readWear 36 = .ok (.iload_n 1, 1) := by decide +kernel
theorem dX7_readWear_37 : decode cX7_readWear 37 = .ok (.iaload, 1) := by decide +kernel
theorem dX7_readWear_38 : decode cX7_readWear 38 = .ok (.if_icmp .ge 7, 3) := by decide +kernel
theorem dX7_readWear_41 : decode cX7_readWear 41 = .ok (.iconst 1, 1) := by decide +kernel
theorem dX7_readWear_42 : decode cX7_readWear 42 = .ok (.goto 4, 3) := by decide +kernel
theorem dX7_readWear_45 : decode cX7_readWear 45 = .ok (.iconst 0, 1) := by decide +kernel
theorem dX7_readWear_46 : decode cX7_readWear 46 = .ok (.istore_n 3, 1) := by decide +kernel
theorem dX7_readWear_47 : decode cX7_readWear 47 = .ok (.iload_n 3, 1) := by decide +kernel
theorem dX7_readWear_48 : decode cX7_readWear 48 = .ok (.ifCond .eq 15, 3) := by decide +kernel
theorem dX7_readWear_51 : decode cX7_readWear 51 = .ok (.aload_n 0, 1) := by decide +kernel
theorem dX7_readWear_52 : decode cX7_readWear 52 = .ok (.getfield 15, 3) := by decide +kernel
theorem dX7_readWear_55 : decode cX7_readWear 55 = .ok (.iload_n 1, 1) := by decide +kernel
theorem dX7_readWear_56 : decode cX7_readWear 56 = .ok (.dup2, 1) := by decide +kernel
theorem dX7_readWear_57 : decode cX7_readWear 57 = .ok (.iaload, 1) := by decide +kernel
theorem dX7_readWear_58 : decode cX7_readWear 58 = .ok (.iconst 1, 1) := by decide +kernel
theorem dX7_readWear_59 : decode cX7_readWear 59 = .ok (.iload_n 2, 1) := by decide +kernel
theorem dX7_readWear_60 : decode cX7_readWear 60 = .ok (.ishl, 1) := by decide +kernel
theorem dX7_readWear_61 : decode cX7_readWear 61 = .ok (.ior, 1) := by decide +kernel
theorem dX7_readWear_62 : decode cX7_readWear 62 = .ok (.iastore, 1) := by decide +kernel
theorem dX7_readWear_63 : decode cX7_readWear 63 = .ok (.iinc 2 1, 3) := by decide +kernel
theorem dX7_readWear_66 : decode cX7_readWear 66 = .ok (.goto (-56), 3) := by decide +kernel
theorem dX7_readWear_69 : decode cX7_readWear 69 = .ok (.iinc 1 1, 3) := by decide +kernel
theorem dX7_readWear_72 : decode cX7_readWear 72 = .ok (.goto (-70), 3) := by decide +kernel
theorem dX7_readWear_75 : decode cX7_readWear 75 = .ok (.return_, 1) := by decide +kernel
theorem dX7_putAhead_0 : decode cX7_putAhead 0 = .ok (.iconst 0, 1) := by decide +kernel
theorem dX7_putAhead_1 : decode cX7_putAhead 1 = .ok (.istore_n 3, 1) := by decide +kernel
theorem dX7_putAhead_2 : decode cX7_putAhead 2 = .ok (.iload_n 3, 1) := by decide +kernel
theorem dX7_putAhead_3 : decode cX7_putAhead 3 = .ok (.aload_n 0, 1) := by decide +kernel
theorem dX7_putAhead_4 : decode cX7_putAhead 4 = .ok (.getfield 43, 3) := by decide +kernel
theorem dX7_putAhead_7 : decode cX7_putAhead 7 = .ok (.if_icmp .ge 33, 3) := by decide +kernel
theorem dX7_putAhead_10 : decode cX7_putAhead 10 = .ok (.iload_n 3, 1) := by decide +kernel
theorem dX7_putAhead_11 : decode cX7_putAhead 11 = .ok (.bipush 7, 2) := by decide +kernel
theorem dX7_putAhead_13 : decode cX7_putAhead 13 = .ok (.if_icmp .ge 27, 3) := by decide +kernel
theorem dX7_putAhead_16 : decode cX7_putAhead 16 = .ok (.iload_n 2, 1) := by decide +kernel
theorem dX7_putAhead_17 : decode cX7_putAhead 17 = .ok (.iload_n 3, 1) := by decide +kernel
theorem dX7_putAhead_18 : decode cX7_putAhead 18 = .ok (.invokestatic 125, 3) := by decide +kernel
theorem dX7_putAhead_21 : decode cX7_putAhead 21 = .ok (.ifCond .eq 13, 3) := by decide +kernel
theorem dX7_putAhead_24 : decode cX7_putAhead 24 = .ok (.aload_n 0, 1) := by decide +kernel
theorem dX7_putAhead_25 : decode cX7_putAhead 25 = .ok (.getfield 15, 3) := by decide +kernel
theorem dX7_putAhead_28 : decode cX7_putAhead 28 = .ok (.iload_n 3, 1) := by decide +kernel
theorem dX7_putAhead_29 : decode cX7_putAhead 29 = .ok (.dup2, 1) := by decide +kernel
theorem dX7_putAhead_30 : decode cX7_putAhead 30 = .ok (.iaload, 1) := by decide +kernel
theorem dX7_putAhead_31 : decode cX7_putAhead 31 = .ok (.iload_n 1, 1) := by decide +kernel
theorem dX7_putAhead_32 : decode cX7_putAhead 32 = .ok (.ior, 1) := by decide +kernel
theorem dX7_putAhead_33 : decode cX7_putAhead 33 = .ok (.iastore, 1) := by decide +kernel
theorem dX7_putAhead_34 : decode cX7_putAhead 34 = .ok (.iinc 3 1, 3) := by decide +kernel
theorem dX7_putAhead_37 : decode cX7_putAhead 37 = .ok (.goto (-35), 3) := by decide +kernel
theorem dX7_putAhead_40 : decode cX7_putAhead 40 = .ok (.return_, 1) := by decide +kernel
theorem dX7_chainAhead_0 : decode cX7_chainAhead 0 = .ok (.aload_n 0, 1) := by decide +kernel
theorem dX7_chainAhead_1 : decode cX7_chainAhead 1 = .ok (.getfield 15, 3) := by decide +kernel
theorem dX7_chainAhead_4 : decode cX7_chainAhead 4 = .ok (.iconst 0, 1) := by decide +kernel
theorem dX7_chainAhead_5 : decode cX7_chainAhead 5 = .ok (.aload_n 0, 1) := by decide +kernel
theorem dX7_chainAhead_6 : decode cX7_chainAhead 6 = .ok (.getfield 19, 3) := by decide +kernel
theorem dX7_chainAhead_9 : decode cX7_chainAhead 9 = .ok (.iconst 0, 1) := by decide +kernel
theorem dX7_chainAhead_10 : decode cX7_chainAhead 10 = .ok (.bipush 7, 2) := by decide +kernel
theorem dX7_chainAhead_12 : decode cX7_chainAhead 12 = .ok (.invokestatic 63, 3) := by decide +kernel
theorem dX7_chainAhead_15 : decode cX7_chainAhead 15 = .ok (.iconst 0, 1) := by decide +kernel
theorem dX7_chainAhead_16 : decode cX7_chainAhead 16 = .ok (.istore_n 1, 1) := by decide +kernel
theorem dX7_chainAhead_17 : decode cX7_chainAhead 17 = .ok (.iload_n 1, 1) := by decide +kernel
theorem dX7_chainAhead_18 : decode cX7_chainAhead 18 = .ok (.bipush 7, 2) := by decide +kernel
theorem dX7_chainAhead_20 : decode cX7_chainAhead 20 = .ok (.if_icmp .ge 51, 3) := by decide +kernel
theorem dX7_chainAhead_23 : decode cX7_chainAhead 23 = .ok (.iconst 0, 1) := by decide +kernel
theorem dX7_chainAhead_24 : decode cX7_chainAhead 24 = .ok (.istore_n 2, 1) := by decide +kernel
theorem dX7_chainAhead_25 : decode cX7_chainAhead 25 = .ok (.iload_n 2, 1) := by decide +kernel
theorem dX7_chainAhead_26 : decode cX7_chainAhead 26 = .ok (.bipush 7, 2) := by decide +kernel
theorem dX7_chainAhead_28 : decode cX7_chainAhead 28 = .ok (.if_icmp .ge 37, 3) := by decide +kernel
theorem dX7_chainAhead_31 : decode cX7_chainAhead 31 = .ok (.aload_n 0, 1) := by decide +kernel
theorem dX7_chainAhead_32 : decode cX7_chainAhead 32 = .ok (.getfield 19, 3) := by decide +kernel
theorem dX7_chainAhead_35 : decode cX7_chainAhead 35 = .ok (.iload_n 2, 1) := by decide +kernel
theorem dX7_chainAhead_36 : decode cX7_chainAhead 36 = .ok (.iaload, 1) := by decide +kernel
theorem dX7_chainAhead_37 : decode cX7_chainAhead 37 = .ok (.iload_n 1, 1) := by decide +kernel
theorem dX7_chainAhead_38 : decode cX7_chainAhead 38 = .ok (.invokestatic 125, 3) := by decide +kernel
theorem dX7_chainAhead_41 : decode cX7_chainAhead 41 = .ok (.ifCond .eq 18, 3) := by decide +kernel
theorem dX7_chainAhead_44 : decode cX7_chainAhead 44 = .ok (.aload_n 0, 1) := by decide +kernel
theorem dX7_chainAhead_45 : decode cX7_chainAhead 45 = .ok (.getfield 19, 3) := by decide +kernel
theorem dX7_chainAhead_48 : decode cX7_chainAhead 48 = .ok (.iload_n 2, 1) := by decide +kernel
theorem dX7_chainAhead_49 : decode cX7_chainAhead 49 = .ok (.dup2, 1) := by decide +kernel
theorem dX7_chainAhead_50 : decode cX7_chainAhead 50 = .ok (.iaload, 1) := by decide +kernel
theorem dX7_chainAhead_51 : decode cX7_chainAhead 51 = .ok (.aload_n 0, 1) := by decide +kernel
theorem dX7_chainAhead_52 : decode cX7_chainAhead 52 = .ok (.getfield 19, 3) := by decide +kernel
theorem dX7_chainAhead_55 : decode cX7_chainAhead 55 = .ok (.iload_n 1, 1) := by decide +kernel
theorem dX7_chainAhead_56 : decode cX7_chainAhead 56 = .ok (.iaload, 1) := by decide +kernel
theorem dX7_chainAhead_57 : decode cX7_chainAhead 57 = .ok (.ior, 1) := by decide +kernel
theorem dX7_chainAhead_58 : decode cX7_chainAhead 58 = .ok (.iastore, 1) := by decide +kernel
theorem dX7_chainAhead_59 : decode cX7_chainAhead 59 = .ok (.iinc 2 1, 3) := by decide +kernel
theorem dX7_chainAhead_62 : decode cX7_chainAhead 62 = .ok (.goto (-37), 3) := by decide +kernel
theorem dX7_chainAhead_65 : decode cX7_chainAhead 65 = .ok (.iinc 1 1, 3) := by decide +kernel
theorem dX7_chainAhead_68 : decode cX7_chainAhead 68 = .ok (.goto (-51), 3) := by decide +kernel
theorem dX7_chainAhead_71 : decode cX7_chainAhead 71 = .ok (.return_, 1) := by decide +kernel
theorem dX7_everyone_0 : decode cX7_everyone 0 = .ok (.iconst 1, 1) := by decide +kernel
theorem dX7_everyone_1 : decode cX7_everyone 1 = .ok (.aload_n 0, 1) := by decide +kernel
theorem dX7_everyone_2 : decode cX7_everyone 2 = .ok (.getfield 43, 3) := by decide +kernel
theorem dX7_everyone_5 : decode cX7_everyone 5 = .ok (.ishl, 1) := by decide +kernel
theorem dX7_everyone_6 : decode cX7_everyone 6 = .ok (.iconst 1, 1) := by decide +kernel
theorem dX7_everyone_7 : decode cX7_everyone 7 = .ok (.isub, 1) := by decide +kernel
theorem dX7_everyone_8 : decode cX7_everyone 8 = .ok (.ireturn, 1) := by decide +kernel
theorem dX7_windowOf_0 : decode cX7_windowOf 0 = .ok (.iload_n 1, 1) := by decide +kernel
theorem dX7_windowOf_1 : decode cX7_windowOf 1 = .ok (.ifCond .lt 18, 3) := by decide +kernel
theorem dX7_windowOf_4 : decode cX7_windowOf 4 = .ok (.iload_n 1, 1) := by decide +kernel
theorem dX7_windowOf_5 : decode cX7_windowOf 5 = .ok (.bipush 7, 2) := by decide +kernel
theorem dX7_windowOf_7 : decode cX7_windowOf 7 = .ok (.if_icmp .ge 12, 3) := by decide +kernel
theorem dX7_windowOf_10 : decode cX7_windowOf 10 = .ok (.aload_n 0, 1) := by decide +kernel
theorem dX7_windowOf_11 : decode cX7_windowOf 11 = .ok (.getfield 9, 3) := by decide +kernel
theorem dX7_windowOf_14 : decode cX7_windowOf 14 = .ok (.iload_n 1, 1) := by decide +kernel
theorem dX7_windowOf_15 : decode cX7_windowOf 15 = .ok (.laload, 1) := by decide +kernel
theorem dX7_windowOf_16 : decode cX7_windowOf 16 = .ok (.goto 4, 3) := by decide +kernel
theorem dX7_windowOf_19 : decode cX7_windowOf 19 = .ok (.lconst 0, 1) := by decide +kernel
theorem dX7_windowOf_20 : decode cX7_windowOf 20 = .ok (.lreturn, 1) := by decide +kernel
theorem dX7_earlierThan_0 : decode cX7_earlierThan 0 = .ok (.iload_n 1, 1) := by decide +kernel
theorem dX7_earlierThan_1 : decode cX7_earlierThan 1 = .ok (.ifCond .lt 18, 3) := by decide +kernel
theorem dX7_earlierThan_4 : decode cX7_earlierThan 4 = .ok (.iload_n 1, 1) := by decide +kernel
theorem dX7_earlierThan_5 : decode cX7_earlierThan 5 = .ok (.bipush 7, 2) := by decide +kernel
theorem dX7_earlierThan_7 : decode cX7_earlierThan 7 = .ok (.if_icmp .ge 12, 3) := by decide +kernel
theorem dX7_earlierThan_10 : decode cX7_earlierThan 10 = .ok (.aload_n 0, 1) := by decide +kernel
theorem dX7_earlierThan_11 : decode cX7_earlierThan 11 = .ok (.getfield 19, 3) := by decide +kernel
theorem dX7_earlierThan_14 : decode cX7_earlierThan 14 = .ok (.iload_n 1, 1) := by decide +kernel
theorem dX7_earlierThan_15 : decode cX7_earlierThan 15 = .ok (.iaload, 1) := by decide +kernel
theorem dX7_earlierThan_16 : decode cX7_earlierThan 16 = .ok (.goto 4, 3) := by decide +kernel
theorem dX7_earlierThan_19 : decode cX7_earlierThan 19 = .ok (.iconst 0, 1) := by decide +kernel
theorem dX7_earlierThan_20 : decode cX7_earlierThan 20 = .ok (.ireturn, 1) := by decide +kernel
theorem dX7_pairsBefore_0 : decode cX7_pairsBefore 0 = .ok (.iconst 0, 1) := by decide +kernel
theorem dX7_pairsBefore_1 : decode cX7_pairsBefore 1 = .ok (.istore_n 1, 1) := by decide +kernel
theorem dX7_pairsBefore_2 : decode cX7_pairsBefore 2 = .ok (.iconst 0, 1) := by decide +kernel
theorem dX7_pairsBefore_3 : decode cX7_pairsBefore 3 = .ok (.istore_n 2, 1) := by decide +kernel
theorem dX7_pairsBefore_4 : decode cX7_pairsBefore 4 = .ok (.iload_n 2, 1) := by decide +kernel
theorem dX7_pairsBefore_5 : decode cX7_pairsBefore 5 = .ok (.aload_n 0, 1) := by decide +kernel
theorem dX7_pairsBefore_6 : decode cX7_pairsBefore 6 = .ok (.getfield 43, 3) := by decide +kernel
theorem dX7_pairsBefore_9 : decode cX7_pairsBefore 9 = .ok (.if_icmp .ge 26, 3) := by decide +kernel
theorem dX7_pairsBefore_12 : decode cX7_pairsBefore 12 = .ok (.iload_n 1, 1) := by decide +kernel
theorem dX7_pairsBefore_13 : decode cX7_pairsBefore 13 = .ok (.aload_n 0, 1) := by decide +kernel
theorem dX7_pairsBefore_14 : decode cX7_pairsBefore 14 = .ok (.iload_n 2, 1) := by decide +kernel
theorem dX7_pairsBefore_15 : decode cX7_pairsBefore 15 = .ok (.invokevirtual 129, 3) := by decide +kernel
theorem dX7_pairsBefore_18 : decode cX7_pairsBefore 18 = .ok (.iconst 1, 1) := by decide +kernel
theorem dX7_pairsBefore_19 : decode cX7_pairsBefore 19 = .ok (.iload_n 2, 1) := by decide +kernel
theorem dX7_pairsBefore_20 : decode cX7_pairsBefore 20 = .ok (.ishl, 1) := by decide +kernel
theorem dX7_pairsBefore_21 : decode cX7_pairsBefore 21 = .ok (.iconst (-1), 1) := by decide +kernel
theorem dX7_pairsBefore_22 : decode cX7_pairsBefore 22 = .ok (.ixor, 1) := by decide +kernel
theorem dX7_pairsBefore_23 : decode cX7_pairsBefore 23 = .ok (.iand, 1) := by decide +kernel
theorem dX7_pairsBefore_24 : decode cX7_pairsBefore 24 = .ok (.invokestatic 132, 3) := by decide +kernel
theorem dX7_pairsBefore_27 : decode cX7_pairsBefore 27 = .ok (.iadd, 1) := by decide +kernel
theorem dX7_pairsBefore_28 : decode cX7_pairsBefore 28 = .ok (.istore_n 1, 1) := by decide +kernel
theorem dX7_pairsBefore_29 : decode cX7_pairsBefore 29 = .ok (.iinc 2 1, 3) := by decide +kernel
theorem dX7_pairsBefore_32 : decode cX7_pairsBefore 32 = .ok (.goto (-28), 3) := by decide +kernel
theorem dX7_pairsBefore_35 : decode cX7_pairsBefore 35 = .ok (.iload_n 1, 1) := by decide +kernel
theorem dX7_pairsBefore_36 : decode cX7_pairsBefore 36 = .ok (.ireturn, 1) := by decide +kernel
theorem dX7_nextOnes_0 : decode cX7_nextOnes 0 = .ok (.iload_n 2, 1) := by decide +kernel
theorem dX7_nextOnes_1 : decode cX7_nextOnes 1 = .ok (.iload_n 1, 1) := by decide +kernel
theorem dX7_nextOnes_2 : decode cX7_nextOnes 2 = .ok (.iconst (-1), 1) := by decide +kernel
theorem dX7_nextOnes_3 : decode cX7_nextOnes 3 = .ok (.ixor, 1) := by decide +kernel
theorem dX7_nextOnes_4 : decode cX7_nextOnes 4 = .ok (.iand, 1) := by decide +kernel
theorem dX7_nextOnes_5 : decode cX7_nextOnes 5 = .ok (.istore_n 3, 1) := by decide +kernel
theorem dX7_nextOnes_6 : decode cX7_nextOnes 6 = .ok (.iload_n 3, 1) := by decide +kernel
theorem dX7_nextOnes_7 : decode cX7_nextOnes 7 = .ok (.istore 4, 2) := by decide +kernel
theorem dX7_nextOnes_9 : decode cX7_nextOnes 9 = .ok (.iconst 0, 1) := by decide +kernel
theorem dX7_nextOnes_10 : decode cX7_nextOnes 10 = .ok (.istore 5, 2) := by decide +kernel
theorem dX7_nextOnes_12 : decode cX7_nextOnes 12 = .ok (.iload 5, 2) := by decide +kernel
theorem dX7_nextOnes_14 : decode cX7_nextOnes 14 = .ok (.bipush 6, 2) := by decide +kernel
theorem dX7_nextOnes_16 : decode cX7_nextOnes 16 = .ok (.if_icmp .ge 61, 3) := by decide +kernel
theorem dX7_nextOnes_19 : decode cX7_nextOnes 19 = .ok (.aload_n 0, 1) := by decide +kernel
theorem dX7_nextOnes_20 : decode cX7_nextOnes 20 = .ok (.getfield 22, 3) := by decide +kernel
theorem dX7_nextOnes_23 : decode cX7_nextOnes 23 = .ok (.iload 5, 2) := by decide +kernel
theorem dX7_nextOnes_25 : decode cX7_nextOnes 25 = .ok (.iaload, 1) := by decide +kernel
theorem dX7_nextOnes_26 : decode cX7_nextOnes 26 = .ok (.iload_n 2, 1) := by decide +kernel
theorem dX7_nextOnes_27 : decode cX7_nextOnes 27 = .ok (.iand, 1) := by decide +kernel
theorem dX7_nextOnes_28 : decode cX7_nextOnes 28 = .ok (.iload_n 1, 1) := by decide +kernel
theorem dX7_nextOnes_29 : decode cX7_nextOnes 29 = .ok (.iand, 1) := by decide +kernel
theorem dX7_nextOnes_30 : decode cX7_nextOnes 30 = .ok (.ifCond .eq 7, 3) := by decide +kernel
theorem dX7_nextOnes_33 : decode cX7_nextOnes 33 = .ok (.iconst 1, 1) := by decide +kernel
theorem dX7_nextOnes_34 : decode cX7_nextOnes 34 = .ok (.goto 4, 3) := by decide +kernel
theorem dX7_nextOnes_37 : decode cX7_nextOnes 37 = .ok (.iconst 0, 1) := by decide +kernel
theorem dX7_nextOnes_38 : decode cX7_nextOnes 38 = .ok (.istore 6, 2) := by decide +kernel
theorem dX7_nextOnes_40 : decode cX7_nextOnes 40 = .ok (.iload 6, 2) := by decide +kernel
theorem dX7_nextOnes_42 : decode cX7_nextOnes 42 = .ok (.ifCond .eq 29, 3) := by decide +kernel
theorem dX7_nextOnes_45 : decode cX7_nextOnes 45 = .ok (.aload_n 0, 1) := by decide +kernel
theorem dX7_nextOnes_46 : decode cX7_nextOnes 46 = .ok (.getfield 22, 3) := by decide +kernel
theorem dX7_nextOnes_49 : decode cX7_nextOnes 49 = .ok (.iload 5, 2) := by decide +kernel
theorem dX7_nextOnes_51 : decode cX7_nextOnes 51 = .ok (.iaload, 1) := by decide +kernel
theorem dX7_nextOnes_52 : decode cX7_nextOnes 52 = .ok (.iload_n 3, 1) := by decide +kernel
theorem dX7_nextOnes_53 : decode cX7_nextOnes 53 = .ok (.iand, 1) := by decide +kernel
theorem dX7_nextOnes_54 : decode cX7_nextOnes 54 = .ok (.ifCond .eq 17, 3) := by decide +kernel
theorem dX7_nextOnes_57 : decode cX7_nextOnes 57 = .ok (.iload 4, 2) := by decide +kernel
theorem dX7_nextOnes_59 : decode cX7_nextOnes 59 = .ok (.aload_n 0, 1) := by decide +kernel
theorem dX7_nextOnes_60 : decode cX7_nextOnes 60 = .ok (.getfield 25, 3) := by decide +kernel
theorem dX7_nextOnes_63 : decode cX7_nextOnes 63 = .ok (.iload 5, 2) := by decide +kernel
theorem dX7_nextOnes_65 : decode cX7_nextOnes 65 = .ok (.iaload, 1) := by decide +kernel
theorem dX7_nextOnes_66 : decode cX7_nextOnes 66 = .ok (.iconst (-1), 1) := by decide +kernel
theorem dX7_nextOnes_67 : decode cX7_nextOnes 67 = .ok (.ixor, 1) := by decide +kernel
theorem dX7_nextOnes_68 : decode cX7_nextOnes 68 = .ok (.iand, 1) := by decide +kernel
theorem dX7_nextOnes_69 : decode cX7_nextOnes 69 = .ok (.istore 4, 2) := by decide +kernel
theorem dX7_nextOnes_71 : decode cX7_nextOnes 71 = .ok (.iinc 5 1, 3) := by decide +kernel
theorem dX7_nextOnes_74 : decode cX7_nextOnes 74 = .ok (.goto (-62), 3) := by decide +kernel
theorem dX7_nextOnes_77 : decode cX7_nextOnes 77 = .ok (.iconst 0, 1) := by decide +kernel
theorem dX7_nextOnes_78 : decode cX7_nextOnes 78 = .ok (.istore 5, 2) := by decide +kernel
theorem dX7_nextOnes_80 : decode cX7_nextOnes 80 = .ok (.iload 5, 2) := by decide +kernel
theorem dX7_nextOnes_82 : decode cX7_nextOnes 82 = .ok (.aload_n 0, 1) := by decide +kernel
theorem dX7_nextOnes_83 : decode cX7_nextOnes 83 = .ok (.getfield 43, 3) := by decide +kernel
theorem dX7_nextOnes_86 : decode cX7_nextOnes 86 = .ok (.if_icmp .ge 39, 3) := by decide +kernel
theorem dX7_nextOnes_89 : decode cX7_nextOnes 89 = .ok (.iload 5, 2) := by decide +kernel
theorem dX7_nextOnes_91 : decode cX7_nextOnes 91 = .ok (.bipush 7, 2) := by decide +kernel
theorem dX7_nextOnes_93 : decode cX7_nextOnes 93 = .ok (.if_icmp .ge 32, 3) := by decide +kernel
theorem dX7_nextOnes_96 : decode cX7_nextOnes 96 = .ok (.aload_n 0, 1) := by decide +kernel
theorem dX7_nextOnes_97 : decode cX7_nextOnes 97 = .ok (.getfield 15, 3) := by decide +kernel
theorem dX7_nextOnes_100 : decode cX7_nextOnes 100 = .ok (.iload 5, 2) := by decide +kernel
theorem dX7_nextOnes_102 : decode cX7_nextOnes 102 = .ok (.iaload, 1) := by decide +kernel
theorem dX7_nextOnes_103 : decode cX7_nextOnes 103 = .ok (.iload_n 3, 1) := by decide +kernel
theorem dX7_nextOnes_104 : decode cX7_nextOnes 104 = .ok (.iand, 1) := by decide +kernel
theorem dX7_nextOnes_105 : decode cX7_nextOnes 105 = .ok (.ifCond .eq 14, 3) := by decide +kernel
theorem dX7_nextOnes_108 : decode cX7_nextOnes 108 = .ok (.iload 4, 2) := by decide +kernel
theorem dX7_nextOnes_110 : decode cX7_nextOnes 110 = .ok (.iconst 1, 1) := by decide +kernel
theorem dX7_nextOnes_111 : decode cX7_nextOnes 111 = .ok (.iload 5, 2) := by decide +kernel
theorem dX7_nextOnes_113 : decode cX7_nextOnes 113 = .ok (.ishl, 1) := by decide +kernel
theorem dX7_nextOnes_114 : decode cX7_nextOnes 114 = .ok (.iconst (-1), 1) := by decide +kernel
theorem dX7_nextOnes_115 : decode cX7_nextOnes 115 = .ok (.ixor, 1) := by decide +kernel
theorem dX7_nextOnes_116 : decode cX7_nextOnes 116 = .ok (.iand, 1) := by decide +kernel
theorem dX7_nextOnes_117 : decode cX7_nextOnes 117 = .ok (.istore 4, 2) := by decide +kernel
theorem dX7_nextOnes_119 : decode cX7_nextOnes 119 = .ok (.iinc 5 1, 3) := by decide +kernel
theorem dX7_nextOnes_122 : decode cX7_nextOnes 122 = .ok (.goto (-42), 3) := by decide +kernel
theorem dX7_nextOnes_125 : decode cX7_nextOnes 125 = .ok (.iload 4, 2) := by decide +kernel
theorem dX7_nextOnes_127 : decode cX7_nextOnes 127 = .ok (.ireturn, 1) := by decide +kernel
theorem dX7_freeBehind_0 : decode cX7_freeBehind 0 = .ok (.iload_n 1, 1) := by decide +kernel
theorem dX7_freeBehind_1 : decode cX7_freeBehind 1 = .ok (.ifCond .lt 19, 3) := by decide +kernel
theorem dX7_freeBehind_4 : decode cX7_freeBehind 4 = .ok (.iload_n 1, 1) := by decide +kernel
theorem dX7_freeBehind_5 : decode cX7_freeBehind 5 = .ok (.bipush 7, 2) := by decide +kernel
theorem dX7_freeBehind_7 : decode cX7_freeBehind 7 = .ok (.if_icmp .ge 13, 3) := by decide +kernel
theorem dX7_freeBehind_10 : decode cX7_freeBehind 10 = .ok (.iload_n 2, 1) := by decide +kernel
theorem dX7_freeBehind_11 : decode cX7_freeBehind 11 = .ok (.ifCond .lt 9, 3) := by decide +kernel
theorem dX7_freeBehind_14 : decode cX7_freeBehind 14 = .ok (.iload_n 2, 1) := by decide +kernel
theorem dX7_freeBehind_15 : decode cX7_freeBehind 15 = .ok (.bipush 48, 2) := by decide +kernel
theorem dX7_freeBehind_17 : decode cX7_freeBehind 17 = .ok (.if_icmp .lt 5, 3) := by decide +kernel
theorem dX7_freeBehind_20 : decode cX7_freeBehind 20 = .ok (.iconst (-1), 1) := by decide +kernel
theorem dX7_freeBehind_21 : decode cX7_freeBehind 21 = .ok (.ireturn, 1) := by decide +kernel
theorem dX7_freeBehind_22 : decode cX7_freeBehind 22 = .ok (.aload_n 0, 1) := by decide +kernel
theorem dX7_freeBehind_23 : decode cX7_freeBehind 23 = .ok (.getfield 9, 3) := by decide +kernel
theorem dX7_freeBehind_26 : decode cX7_freeBehind 26 = .ok (.iload_n 1, 1) := by decide +kernel
theorem dX7_freeBehind_27 : decode cX7_freeBehind 27 = .ok (.laload, 1) := by decide +kernel
theorem dX7_freeBehind_28 : decode cX7_freeBehind 28 = .ok (.iload_n 2, 1) := by decide +kernel
theorem dX7_freeBehind_29 : decode cX7_freeBehind 29 = .ok (.lushr, 1) := by decide +kernel
theorem dX7_freeBehind_30 : decode cX7_freeBehind 30 = .ok (.lstore_n 3, 1) := by decide +kernel
theorem dX7_freeBehind_31 : decode cX7_freeBehind 31 = .ok (.lload_n 3, 1) := by decide +kernel
theorem dX7_freeBehind_32 : decode cX7_freeBehind 32 = .ok (.lconst 0, 1) := by decide +kernel
theorem dX7_freeBehind_33 : decode cX7_freeBehind 33 = .ok (.lcmp, 1) := by decide +kernel
theorem dX7_freeBehind_34 : decode cX7_freeBehind 34 = .ok (.ifCond .ne 7, 3) := by decide +kernel
theorem dX7_freeBehind_37 : decode cX7_freeBehind 37 = .ok (.iconst (-1), 1) := by decide +kernel
theorem dX7_freeBehind_38 : decode cX7_freeBehind 38 = .ok (.goto 11, 3) := by decide +kernel
theorem dX7_freeBehind_41 : decode cX7_freeBehind 41 = .ok (.iload_n 2, 1) := by decide +kernel
theorem dX7_freeBehind_42 : decode cX7_freeBehind 42 = .ok (.lload_n 3, 1) := by decide +kernel
theorem dX7_freeBehind_43 : decode cX7_freeBehind 43 = .ok (.invokestatic 137, 3) := by decide +kernel
theorem dX7_freeBehind_46 : decode cX7_freeBehind 46 = .ok (.iadd, 1) := by decide +kernel
theorem dX7_freeBehind_47 : decode cX7_freeBehind 47 = .ok (.iconst 1, 1) := by decide +kernel
theorem dX7_freeBehind_48 : decode cX7_freeBehind 48 = .ok (.iadd, 1) := by decide +kernel
theorem dX7_freeBehind_49 : decode cX7_freeBehind 49 = .ok (.ireturn, 1) := by decide +kernel
theorem dX8_init_0 : decode cX8_init 0 = .ok (.aload_n 0, 1) := by decide +kernel
theorem dX8_init_1 : decode cX8_init 1 = .ok (.invokespecial 3, 3) := by decide +kernel
theorem dX8_init_4 : decode cX8_init 4 = .ok (.aload_n 0, 1) := by decide +kernel
theorem dX8_init_5 : decode cX8_init 5 = .ok (.iconst 3, 1) := by decide +kernel
theorem dX8_init_6 : decode cX8_init 6 = .ok (.newarray .int, 2) := by decide +kernel
theorem dX8_init_8 : decode cX8_init 8 = .ok (.putfield 11, 3) := by decide +kernel
theorem dX8_init_11 : decode cX8_init 11 = .ok (.aload_n 0, 1) := by decide +kernel
theorem dX8_init_12 : decode cX8_init 12 = .ok (.bipush 24, 2) := by decide +kernel
theorem dX8_init_14 : decode cX8_init 14 = .ok (.newarray .long, 2) := by decide +kernel
theorem dX8_init_16 : decode cX8_init 16 = .ok (.putfield 15, 3) := by decide +kernel
theorem dX8_init_19 : decode cX8_init 19 = .ok (.aload_n 0, 1) := by decide +kernel
theorem dX8_init_20 : decode cX8_init 20 = .ok (.invokevirtual 19, 3) := by decide +kernel
theorem dX8_init_23 : decode cX8_init 23 = .ok (.return_, 1) := by decide +kernel
theorem dX8_clear_0 : decode cX8_clear 0 = .ok (.aload_n 0, 1) := by decide +kernel
theorem dX8_clear_1 : decode cX8_clear 1 = .ok (.getfield 11, 3) := by decide +kernel
theorem dX8_clear_4 : decode cX8_clear 4 = .ok (.iconst (-1), 1) := by decide +kernel
theorem dX8_clear_5 : decode cX8_clear 5 = .ok (.invokestatic 22, 3) := by decide +kernel
theorem dX8_clear_8 : decode cX8_clear 8 = .ok (.return_, 1) := by decide +kernel
theorem dX8_has_0 : decode cX8_has 0 = .ok (.iload_n 1, 1) := by decide +kernel
theorem dX8_has_1 : decode cX8_has 1 = .ok (.ifCond .lt 12, 3) := by decide +kernel
theorem dX8_has_4 : decode cX8_has 4 = .ok (.iload_n 1, 1) := by decide +kernel
theorem dX8_has_5 : decode cX8_has 5 = .ok (.iconst 3, 1) := by decide +kernel
theorem dX8_has_6 : decode cX8_has 6 = .ok (.if_icmp .ge 7, 3) := by decide +kernel
theorem dX8_has_9 : decode cX8_has 9 = .ok (.iconst 1, 1) := by decide +kernel
theorem dX8_has_10 : decode cX8_has 10 = .ok (.goto 4, 3) := by decide +kernel
theorem dX8_has_13 : decode cX8_has 13 = .ok (.iconst 0, 1) := by decide +kernel
theorem dX8_has_14 : decode cX8_has 14 = .ok (.ireturn, 1) := by decide +kernel
theorem dX8_sizeOf_0 : decode cX8_sizeOf 0 = .ok (.aload_n 0, 1) := by decide +kernel
theorem dX8_sizeOf_1 : decode cX8_sizeOf 1 = .ok (.iload_n 1, 1) := by decide +kernel
theorem dX8_sizeOf_2 : decode cX8_sizeOf 2 = .ok (.invokevirtual 28, 3) := by decide +kernel
theorem dX8_sizeOf_5 : decode cX8_sizeOf 5 = .ok (.ifCond .eq 12, 3) := by decide +kernel
theorem dX8_sizeOf_8 : decode cX8_sizeOf 8 = .ok (.aload_n 0, 1) := by decide +kernel
theorem dX8_sizeOf_9 : decode cX8_sizeOf 9 = .ok (.getfield 11, 3) := by decide +kernel
theorem dX8_sizeOf_12 : decode cX8_sizeOf 12 = .ok (.iload_n 1, 1) := by decide +kernel
theorem dX8_sizeOf_13 : decode cX8_sizeOf 13 = .ok (.iaload, 1) := by decide +kernel
theorem dX8_sizeOf_14 : decode cX8_sizeOf 14 = .ok (.goto 4, 3) := by decide +kernel
theorem dX8_sizeOf_17 : decode cX8_sizeOf 17 = .ok (.iconst (-1), 1) := by decide +kernel
theorem dX8_sizeOf_18 : decode cX8_sizeOf 18 = .ok (.ireturn, 1) := by decide +kernel
theorem dX8_isMissing_0 : decode cX8_isMissing 0 = .ok (.aload_n 0, 1) := by decide +kernel
theorem dX8_isMissing_1 : decode cX8_isMissing 1 = .ok (.iload_n 1, 1) := by decide +kernel
theorem dX8_isMissing_2 : decode cX8_isMissing 2 = .ok (.invokevirtual 32, 3) := by decide +kernel
theorem dX8_isMissing_5 : decode cX8_isMissing 5 = .ok (.iconst (-1), 1) := by decide +kernel
theorem dX8_isMissing_6 : decode cX8_isMissing 6 = .ok (.if_icmp .ne 7, 3) := by decide +kernel
theorem dX8_isMissing_9 : decode cX8_isMissing 9 = .ok (.iconst 1, 1) := by decide +kernel
theorem dX8_isMissing_10 : decode cX8_isMissing 10 = .ok (.goto 4, 3) := by decide +kernel
theorem dX8_isMissing_13 : decode cX8_isMissing 13 = .ok (.iconst 0, 1) := by decide +kernel
theorem dX8_isMissing_14 : decode cX8_isMissing 14 = .ok (.ireturn, 1) := by decide +kernel
theorem dX8_hasPlace_0 : decode cX8_hasPlace 0 = .ok (.iload_n 2, 1) := by decide +kernel
theorem dX8_hasPlace_1 : decode cX8_hasPlace 1 = .ok (.ifCond .lt 22, 3) := by decide +kernel
theorem dX8_hasPlace_4 : decode cX8_hasPlace 4 = .ok (.iload_n 2, 1) := by decide +kernel
theorem dX8_hasPlace_5 : decode cX8_hasPlace 5 = .ok (.bipush 8, 2) := by decide +kernel
theorem dX8_hasPlace_7 : decode cX8_hasPlace 7 = .ok (.if_icmp .ge 16, 3) := by decide +kernel
theorem dX8_hasPlace_10 : decode cX8_hasPlace 10 = .ok (.iload_n 2, 1) := by decide +kernel
theorem dX8_hasPlace_11 : decode cX8_hasPlace 11 = .ok (.aload_n 0, 1) := by decide +kernel
theorem dX8_hasPlace_12 : decode cX8_hasPlace 12 = .ok (.iload_n 1, 1) := by decide +kernel
theorem dX8_hasPlace_13 : decode cX8_hasPlace 13 = .ok (.invokevirtual 32, 3) := by decide +kernel
theorem dX8_hasPlace_16 : decode cX8_hasPlace 16 = .ok (.if_icmp .ge 7, 3) := by decide +kernel
theorem dX8_hasPlace_19 : decode cX8_hasPlace 19 = .ok (.iconst 1, 1) := by decide +kernel
theorem dX8_hasPlace_20 : decode cX8_hasPlace 20 = .ok (.goto 4, 3) := by decide +kernel
theorem dX8_hasPlace_23 : decode cX8_hasPlace 23 = .ok (.iconst 0, 1) := by decide +kernel
theorem dX8_hasPlace_24 : decode cX8_hasPlace 24 = .ok (.ireturn, 1) := by decide +kernel
theorem dX8_renew_0 : decode cX8_renew 0 = .ok (.aload_n 0, 1) := by decide +kernel
theorem dX8_renew_1 : decode cX8_renew 1 = .ok (.iload_n 1, 1) := by decide +kernel
theorem dX8_renew_2 : decode cX8_renew 2 = .ok (.invokevirtual 28, 3) := by decide +kernel
theorem dX8_renew_5 : decode cX8_renew 5 = .ok (.ifCond .eq 13, 3) := by decide +kernel
theorem dX8_renew_8 : decode cX8_renew 8 = .ok (.iload_n 2, 1) := by decide +kernel
theorem dX8_renew_9 : decode cX8_renew 9 = .ok (.ifCond .lt 9, 3) := by decide +kernel
theorem dX8_renew_12 : decode cX8_renew 12 = .ok (.iload_n 2, 1) := by decide +kernel
theorem dX8_renew_13 : decode cX8_renew 13 = .ok (.bipush 8, 2) := by decide +kernel
theorem dX8_renew_15 : decode cX8_renew 15 = .ok (.if_icmp .le 4, 3) := by decide +kernel
theorem dX8_renew_18 : decode cX8_renew 18 = .ok (.return_, 1) := by decide +kernel
theorem dX8_renew_19 : decode cX8_renew 19 = .ok (.aload_n 0, 1) := by decide +kernel
theorem dX8_renew_20 : decode cX8_renew 20 = .ok (.getfield 11, 3) := by decide +kernel
theorem dX8_renew_23 : decode cX8_renew 23 = .ok (.iload_n 1, 1) := by decide +kernel
theorem dX8_renew_24 : decode cX8_renew 24 = .ok (.iload_n 2, 1) := by decide +kernel
theorem dX8_renew_25 : decode cX8_renew 25 = .ok (.iastore, 1) := by decide +kernel
theorem dX8_renew_26 : decode cX8_renew 26 = .ok (.iconst 0, 1) := by decide +kernel
theorem dX8_renew_27 : decode cX8_renew 27 = .ok (.istore_n 3, 1) := by decide +kernel
theorem dX8_renew_28 : decode cX8_renew 28 = .ok (.iload_n 3, 1) := by decide +kernel
theorem dX8_renew_29 : decode cX8_renew 29 = .ok (.iload_n 2, 1) := by decide +kernel
theorem dX8_renew_30 : decode cX8_renew 30 = .ok (.if_icmp .ge 16, 3) := by decide +kernel
theorem dX8_renew_33 : decode cX8_renew 33 = .ok (.aload_n 0, 1) := by decide +kernel
theorem dX8_renew_34 : decode cX8_renew 34 = .ok (.iload_n 1, 1) := by decide +kernel
theorem dX8_renew_35 : decode cX8_renew 35 = .ok (.iload_n 3, 1) := by decide +kernel
theorem dX8_renew_36 : decode cX8_renew 36 = .ok (.lconst 0, 1) := by decide +kernel
theorem dX8_renew_37 : decode cX8_renew 37 = .ok (.invokevirtual 36, 3) := by decide +kernel
theorem dX8_renew_40 : decode cX8_renew 40 = .ok (.iinc 3 1, 3) := by decide +kernel
theorem dX8_renew_43 : decode cX8_renew 43 = .ok (.goto (-15), 3) := by decide +kernel
theorem dX8_renew_46 : decode cX8_renew 46 = .ok (.return_, 1) := by decide +kernel
theorem dX8_put_0 : decode cX8_put 0 = .ok (.aload_n 0, 1) := by decide +kernel
theorem dX8_put_1 : decode cX8_put 1 = .ok (.iload_n 1, 1) := by decide +kernel
theorem dX8_put_2 : decode cX8_put 2 = .ok (.iload_n 2, 1) := by decide +kernel
theorem dX8_put_3 : decode cX8_put 3 = .ok (.invokevirtual 40, 3) := by decide +kernel
theorem dX8_put_6 : decode cX8_put 6 = .ok (.ifCond .eq 15, 3) := by decide +kernel
theorem dX8_put_9 : decode cX8_put 9 = .ok (.aload_n 0, 1) := by decide +kernel
theorem dX8_put_10 : decode cX8_put 10 = .ok (.getfield 15, 3) := by decide +kernel
theorem dX8_put_13 : decode cX8_put 13 = .ok (.iload_n 1, 1) := by decide +kernel
theorem dX8_put_14 : decode cX8_put 14 = .ok (.bipush 8, 2) := by decide +kernel
theorem dX8_put_16 : decode cX8_put 16 = .ok (.imul, 1) := by decide +kernel
theorem dX8_put_17 : decode cX8_put 17 = .ok (.iload_n 2, 1) := by decide +kernel
theorem dX8_put_18 : decode cX8_put 18 = .ok (.iadd, 1) := by decide +kernel
theorem dX8_put_19 : decode cX8_put 19 = .ok (.lload_n 3, 1) := by decide +kernel
theorem dX8_put_20 : decode cX8_put 20 = .ok (.lastore, 1) := by decide +kernel
theorem dX8_put_21 : decode cX8_put 21 = .ok (.return_, 1) := by decide +kernel
theorem dX8_at_0 : decode cX8_at 0 = .ok (.aload_n 0, 1) := by decide +kernel
theorem dX8_at_1 : decode cX8_at 1 = .ok (.iload_n 1, 1) := by decide +kernel
theorem dX8_at_2 : decode cX8_at 2 = .ok (.iload_n 2, 1) := by decide +kernel
theorem dX8_at_3 : decode cX8_at 3 = .ok (.invokevirtual 40, 3) := by decide +kernel
theorem dX8_at_6 : decode cX8_at 6 = .ok (.ifCond .eq 17, 3) := by decide +kernel
theorem dX8_at_9 : decode cX8_at 9 = .ok (.aload_n 0, 1) := by decide +kernel
theorem dX8_at_10 : decode cX8_at 10 = .ok (.getfield 15, 3) := by decide +kernel
theorem dX8_at_13 : decode cX8_at 13 = .ok (.iload_n 1, 1) := by decide +kernel
theorem dX8_at_14 : decode cX8_at 14 = .ok (.bipush 8, 2) := by decide +kernel
theorem dX8_at_16 : decode cX8_at 16 = .ok (.imul, 1) := by decide +kernel
theorem dX8_at_17 : decode cX8_at 17 = .ok (.iload_n 2, 1) := by decide +kernel
theorem dX8_at_18 : decode cX8_at 18 = .ok (.iadd, 1) := by decide +kernel
theorem dX8_at_19 : decode cX8_at 19 = .ok (.laload, 1) := by decide +kernel
theorem dX8_at_20 : decode cX8_at 20 = .ok (.goto 4, 3) := by decide +kernel
theorem dX8_at_23 : decode cX8_at 23 = .ok (.lconst 0, 1) := by decide +kernel
theorem dX8_at_24 : decode cX8_at 24 = .ok (.lreturn, 1) := by decide +kernel
theorem dX8_change_0 : decode cX8_change 0 = .ok (.aload_n 0, 1) := by decide +kernel
theorem dX8_change_1 : decode cX8_change 1 = .ok (.iload_n 1, 1) := by decide +kernel
theorem dX8_change_2 : decode cX8_change 2 = .ok (.iload_n 2, 1) := by decide +kernel
theorem dX8_change_3 : decode cX8_change 3 = .ok (.invokevirtual 44, 3) := by decide +kernel
theorem dX8_change_6 : decode cX8_change 6 = .ok (.lstore 5, 2) := by decide +kernel
theorem dX8_change_8 : decode cX8_change 8 = .ok (.iload_n 3, 1) := by decide +kernel
theorem dX8_change_9 : decode cX8_change 9 = .ok (.ifCond .ne 20, 3) := by decide +kernel
theorem dX8_change_12 : decode cX8_change 12 = .ok (.aload_n 0, 1) := by decide +kernel
theorem dX8_change_13 : decode cX8_change 13 = .ok (.lload 5, 2) := by decide +kernel
theorem dX8_change_15 : decode cX8_change 15 = .ok (.aload_n 0, 1) := by decide +kernel
theorem dX8_change_16 : decode cX8_change 16 = .ok (.iload_n 1, 1) := by decide +kernel
theorem dX8_change_17 : decode cX8_change 17 = .ok (.iload 4, 2) := by decide +kernel
theorem dX8_change_19 : decode cX8_change 19 = .ok (.invokevirtual 44, 3) := by decide +kernel
theorem dX8_change_22 : decode cX8_change 22 = .ok (.land, 1) := by decide +kernel
theorem dX8_change_23 : decode cX8_change 23 = .ok (.putfield 48, 3) := by decide +kernel
theorem dX8_change_26 : decode cX8_change 26 = .ok (.goto 47, 3) := by decide +kernel
theorem dX8_change_29 : decode cX8_change 29 = .ok (.iload_n 3, 1) := by decide +kernel
theorem dX8_change_30 : decode cX8_change 30 = .ok (.iconst 1, 1) := by decide +kernel
theorem dX8_change_31 : decode cX8_change 31 = .ok (.if_icmp .ne 20, 3) := by decide +kernel
theorem dX8_change_34 : decode cX8_change 34 = .ok (.aload_n 0, 1) := by decide +kernel
theorem dX8_change_35 : decode cX8_change 35 = .ok (.lload 5, 2) := by decide +kernel
theorem dX8_change_37 : decode cX8_change 37 = .ok (.aload_n 0, 1) := by decide +kernel
theorem dX8_change_38 : decode cX8_change 38 = .ok (.iload_n 1, 1) := by decide +kernel
theorem dX8_change_39 : decode cX8_change 39 = .ok (.iload 4, 2) := by decide +kernel
theorem dX8_change_41 : decode cX8_change 41 = .ok (.invokevirtual 44, 3) := by decide +kernel
theorem dX8_change_44 : decode cX8_change 44 = .ok (.lor, 1) := by decide +kernel
theorem dX8_change_45 : decode cX8_change 45 = .ok (.putfield 48, 3) := by decide +kernel
theorem dX8_change_48 : decode cX8_change 48 = .ok (.goto 25, 3) := by decide +kernel
theorem dX8_change_51 : decode cX8_change 51 = .ok (.aload_n 0, 1) := by decide +kernel
theorem dX8_change_52 : decode cX8_change 52 = .ok (.iload_n 3, 1) := by decide +kernel
theorem dX8_change_53 : decode cX8_change 53 = .ok (.iconst 2, 1) := by decide +kernel
theorem dX8_change_54 : decode cX8_change 54 = .ok (.if_icmp .ne 11, 3) := by decide +kernel
theorem dX8_change_57 : decode cX8_change 57 = .ok (.lload 5, 2) := by decide +kernel
theorem dX8_change_59 : decode cX8_change 59 = .ok (.iload 4, 2) := by decide +kernel
theorem dX8_change_61 : decode cX8_change 61 = .ok (.lshl, 1) := by decide +kernel
theorem dX8_change_62 : decode cX8_change 62 = .ok (.goto 8, 3) := by decide +kernel
theorem dX8_change_65 : decode cX8_change 65 = .ok (.lload 5, 2) := by decide +kernel
theorem dX8_change_67 : decode cX8_change 67 = .ok (.iload 4, 2) := by decide +kernel
theorem dX8_change_69 : decode cX8_change 69 = .ok (.lshr, 1) := by decide +kernel
theorem dX8_change_70 : decode cX8_change 70 = .ok (.putfield 48, 3) := by decide +kernel
theorem dX8_change_73 : decode cX8_change 73 = .ok (.aload_n 0, 1) := by decide +kernel
theorem dX8_change_74 : decode cX8_change 74 = .ok (.iload_n 1, 1) := by decide +kernel
theorem dX8_change_75 : decode cX8_change 75 = .ok (.iload_n 2, 1) := by decide +kernel
theorem dX8_change_76 : decode cX8_change 76 = .ok (.aload_n 0, 1) := by decide +kernel
theorem dX8_change_77 : decode cX8_change 77 = .ok (.getfield 48, 3) := by decide +kernel
theorem dX8_change_80 : decode cX8_change 80 = .ok (.invokevirtual 36, 3) := by decide +kernel
theorem dX8_change_83 : decode cX8_change 83 = .ok (.return_, 1) := by decide +kernel
theorem dX8_addUp_0 : decode cX8_addUp 0 = .ok (.aload_n 0, 1) := by decide +kernel
theorem dX8_addUp_1 : decode cX8_addUp 1 = .ok (.iload_n 1, 1) := by decide +kernel
theorem dX8_addUp_2 : decode cX8_addUp 2 = .ok (.invokevirtual 32, 3) := by decide +kernel
theorem dX8_addUp_5 : decode cX8_addUp 5 = .ok (.istore_n 2, 1) := by decide +kernel
theorem dX8_addUp_6 : decode cX8_addUp 6 = .ok (.aload_n 0, 1) := by decide +kernel
theorem dX8_addUp_7 : decode cX8_addUp 7 = .ok (.lconst 0, 1) := by decide +kernel
theorem dX8_addUp_8 : decode cX8_addUp 8 = .ok (.putfield 48, 3) := by decide +kernel
theorem dX8_addUp_11 : decode cX8_addUp 11 = .ok (.iconst 0, 1) := by decide +kernel
theorem dX8_addUp_12 : decode cX8_addUp 12 = .ok (.istore_n 3, 1) := by decide +kernel
theorem dX8_addUp_13 : decode cX8_addUp 13 = .ok (.iload_n 3, 1) := by decide +kernel
theorem dX8_addUp_14 : decode cX8_addUp 14 = .ok (.iload_n 2, 1) := by decide +kernel
theorem dX8_addUp_15 : decode cX8_addUp 15 = .ok (.if_icmp .ge 24, 3) := by decide +kernel
theorem dX8_addUp_18 : decode cX8_addUp 18 = .ok (.aload_n 0, 1) := by decide +kernel
theorem dX8_addUp_19 : decode cX8_addUp 19 = .ok (.dup, 1) := by decide +kernel
theorem dX8_addUp_20 : decode cX8_addUp 20 = .ok (.getfield 48, 3) := by decide +kernel
theorem dX8_addUp_23 : decode cX8_addUp 23 = .ok (.aload_n 0, 1) := by decide +kernel
theorem dX8_addUp_24 : decode cX8_addUp 24 = .ok (.iload_n 1, 1) := by decide +kernel
theorem dX8_addUp_25 : decode cX8_addUp 25 = .ok (.iload_n 3, 1) := by decide +kernel
theorem dX8_addUp_26 : decode cX8_addUp 26 = .ok (.invokevirtual 44, 3) := by decide +kernel
theorem dX8_addUp_29 : decode cX8_addUp 29 = .ok (.ladd, 1) := by decide +kernel
theorem dX8_addUp_30 : decode cX8_addUp 30 = .ok (.putfield 48, 3) := by decide +kernel
theorem dX8_addUp_33 : decode cX8_addUp 33 = .ok (.iinc 3 1, 3) := by decide +kernel
theorem dX8_addUp_36 : decode cX8_addUp 36 = .ok (.goto (-23), 3) := by decide +kernel
theorem dX8_addUp_39 : decode cX8_addUp 39 = .ok (.iload_n 2, 1) := by decide +kernel
theorem dX8_addUp_40 : decode cX8_addUp 40 = .ok (.ireturn, 1) := by decide +kernel
theorem dX8_remove_0 : decode cX8_remove 0 = .ok (.aload_n 0, 1) := by decide +kernel
theorem dX8_remove_1 : decode cX8_remove 1 = .ok (.iload_n 1, 1) := by decide +kernel
theorem dX8_remove_2 : decode cX8_remove 2 = .ok (.invokevirtual 32, 3) := by decide +kernel
theorem dX8_remove_5 : decode cX8_remove 5 = .ok (.istore_n 2, 1) := by decide +kernel
theorem dX8_remove_6 : decode cX8_remove 6 = .ok (.aload_n 0, 1) := by decide +kernel
theorem dX8_remove_7 : decode cX8_remove 7 = .ok (.iload_n 1, 1) := by decide +kernel
theorem dX8_remove_8 : decode cX8_remove 8 = .ok (.invokevirtual 28, 3) := by decide +kernel
theorem dX8_remove_11 : decode cX8_remove 11 = .ok (.ifCond .eq 10, 3) := by decide +kernel
theorem dX8_remove_14 : decode cX8_remove 14 = .ok (.aload_n 0, 1) := by decide +kernel
theorem dX8_remove_15 : decode cX8_remove 15 = .ok (.getfield 11, 3) := by decide +kernel
theorem dX8_remove_18 : decode cX8_remove 18 = .ok (.iload_n 1, 1) := by decide +kernel
theorem dX8_remove_19 : decode cX8_remove 19 = .ok (.iconst (-1), 1) := by decide +kernel
theorem dX8_remove_20 : decode cX8_remove 20 = .ok (.iastore, 1) := by decide +kernel
theorem dX8_remove_21 : decode cX8_remove 21 = .ok (.iload_n 2, 1) := by decide +kernel
theorem dX8_remove_22 : decode cX8_remove 22 = .ok (.ireturn, 1) := by decide +kernel
theorem dX8_allPlaces_0 : decode cX8_allPlaces 0 = .ok (.iconst 0, 1) := by decide +kernel
theorem dX8_allPlaces_1 : decode cX8_allPlaces 1 = .ok (.istore_n 1, 1) := by decide +kernel
theorem dX8_allPlaces_2 : decode cX8_allPlaces 2 = .ok (.iconst 0, 1) := by decide +kernel
theorem dX8_allPlaces_3 : decode cX8_allPlaces 3 = .ok (.istore_n 2, 1) := by decide +kernel
theorem dX8_allPlaces_4 : decode cX8_allPlaces 4 = .ok (.iload_n 2, 1) := by decide +kernel
theorem dX8_allPlaces_5 : decode cX8_allPlaces 5 = .ok (.iconst 3, 1) := by decide +kernel
theorem dX8_allPlaces_6 : decode cX8_allPlaces 6 = .ok (.if_icmp .ge 21, 3) := by decide +kernel
theorem dX8_allPlaces_9 : decode cX8_allPlaces 9 = .ok (.iload_n 1, 1) := by decide +kernel
theorem dX8_allPlaces_10 : decode cX8_allPlaces 10 = .ok (.iconst 0, 1) := by decide +kernel
theorem dX8_allPlaces_11 : decode cX8_allPlaces 11 = .ok (.aload_n 0, 1) := by decide +kernel
theorem dX8_allPlaces_12 : decode cX8_allPlaces 12 = .ok (.iload_n 2, 1) := by decide +kernel
theorem dX8_allPlaces_13 : decode cX8_allPlaces 13 = .ok (.invokevirtual 32, 3) := by decide +kernel
theorem dX8_allPlaces_16 : decode cX8_allPlaces 16 = .ok (.invokestatic 52, 3) := by decide +kernel
theorem dX8_allPlaces_19 : decode cX8_allPlaces 19 = .ok (.iadd, 1) := by decide +kernel
theorem dX8_allPlaces_20 : decode cX8_allPlaces 20 = .ok (.istore_n 1, 1) := by decide +kernel
theorem dX8_allPlaces_21 : decode cX8_allPlaces 21 = .ok (.iinc 2 1, 3) := by decide +kernel
theorem dX8_allPlaces_24 : decode cX8_allPlaces 24 = .ok (.goto (-20), 3) := by decide +kernel
theorem dX8_allPlaces_27 : decode cX8_allPlaces 27 = .ok (.iload_n 1, 1) := by decide +kernel
theorem dX8_allPlaces_28 : decode cX8_allPlaces 28 = .ok (.ireturn, 1) := by decide +kernel
theorem dX9_init_0 : decode cX9_init 0 = .ok (.aload_n 0, 1) := by decide +kernel
theorem dX9_init_1 : decode cX9_init 1 = .ok (.invokespecial 3, 3) := by decide +kernel
theorem dX9_init_4 : decode cX9_init 4 = .ok (.aload_n 0, 1) := by decide +kernel
theorem dX9_init_5 : decode cX9_init 5 = .ok (.invokevirtual 9, 3) := by decide +kernel
theorem dX9_init_8 : decode cX9_init 8 = .ok (.return_, 1) := by decide +kernel
theorem dX9_clear_0 : decode cX9_clear 0 = .ok (.aload_n 0, 1) := by decide +kernel
theorem dX9_clear_1 : decode cX9_clear 1 = .ok (.bipush 24, 2) := by decide +kernel
theorem dX9_clear_3 : decode cX9_clear 3 = .ok (.iconst 4, 1) := by decide +kernel
theorem dX9_clear_4 : decode cX9_clear 4 = .ok (.iconst 5, 1) := by decide +kernel
theorem dX9_clear_5 : decode cX9_clear 5 = .ok (.invokevirtual 14, 3) := by decide +kernel
theorem dX9_clear_8 : decode cX9_clear 8 = .ok (.return_, 1) := by decide +kernel
theorem dX9_become_0 : decode cX9_become 0 = .ok (.aload_n 0, 1) := by decide +kernel
theorem dX9_become_1 : decode cX9_become 1 = .ok (.iload_n 1, 1) := by decide +kernel
theorem dX9_become_2 : decode cX9_become 2 = .ok (.putfield 18, 3) := by decide +kernel
theorem dX9_become_5 : decode cX9_become 5 = .ok (.aload_n 0, 1) := by decide +kernel
theorem dX9_become_6 : decode cX9_become 6 = .ok (.iload_n 2, 1) := by decide +kernel
theorem dX9_become_7 : decode cX9_become 7 = .ok (.putfield 22, 3) := by decide +kernel
theorem dX9_become_10 : decode cX9_become 10 = .ok (.aload_n 0, 1) := by decide +kernel
theorem dX9_become_11 : decode cX9_become 11 = .ok (.iload_n 3, 1) := by decide +kernel
theorem dX9_become_12 : decode cX9_become 12 = .ok (.putfield 25, 3) := by decide +kernel
theorem dX9_become_15 : decode cX9_become 15 = .ok (.return_, 1) := by decide +kernel
theorem dX9_isUp_0 : decode cX9_isUp 0 = .ok (.iload_n 1, 1) := by decide +kernel
theorem dX9_isUp_1 : decode cX9_isUp 1 = .ok (.aload_n 0, 1) := by decide +kernel
theorem dX9_isUp_2 : decode cX9_isUp 2 = .ok (.getfield 18, 3) := by decide +kernel
theorem dX9_isUp_5 : decode cX9_isUp 5 = .ok (.isub, 1) := by decide +kernel
theorem dX9_isUp_6 : decode cX9_isUp 6 = .ok (.invokestatic 28, 3) := by decide +kernel
theorem dX9_isUp_9 : decode cX9_isUp 9 = .ok (.bipush 12, 2) := by decide +kernel
theorem dX9_isUp_11 : decode cX9_isUp 11 = .ok (.if_icmp .gt 7, 3) := by decide +kernel
theorem dX9_isUp_14 : decode cX9_isUp 14 = .ok (.iconst 1, 1) := by decide +kernel
theorem dX9_isUp_15 : decode cX9_isUp 15 = .ok (.goto 4, 3) := by decide +kernel
theorem dX9_isUp_18 : decode cX9_isUp 18 = .ok (.iconst 0, 1) := by decide +kernel
theorem dX9_isUp_19 : decode cX9_isUp 19 = .ok (.ireturn, 1) := by decide +kernel
theorem dX9_pointAt_0 : decode cX9_pointAt 0 = .ok (.aload_n 0, 1) := by decide +kernel
theorem dX9_pointAt_1 : decode cX9_pointAt 1 = .ok (.iload_n 1, 1) := by decide +kernel
theorem dX9_pointAt_2 : decode cX9_pointAt 2 = .ok (.invokevirtual 34, 3) := by decide +kernel
theorem dX9_pointAt_5 : decode cX9_pointAt 5 = .ok (.ifCond .eq 15, 3) := by decide +kernel
theorem dX9_pointAt_8 : decode cX9_pointAt 8 = .ok (.iload_n 1, 1) := by decide +kernel
theorem dX9_pointAt_9 : decode cX9_pointAt 9 = .ok (.aload_n 0, 1) := by decide +kernel
theorem dX9_pointAt_10 : decode cX9_pointAt 10 = .ok (.getfield 18, 3) := by decide +kernel
theorem dX9_pointAt_13 : decode cX9_pointAt 13 = .ok (.isub, 1) := by decide +kernel
theorem dX9_pointAt_14 : decode cX9_pointAt 14 = .ok (.bipush 12, 2) := by decide +kernel
theorem dX9_pointAt_16 : decode cX9_pointAt 16 = .ok (.iadd, 1) := by decide +kernel
theorem dX9_pointAt_17 : decode cX9_pointAt 17 = .ok (.goto 4, 3) := by decide +kernel
theorem dX9_pointAt_20 : decode cX9_pointAt 20 = .ok (.iconst (-1), 1) := by decide +kernel
theorem dX9_pointAt_21 : decode cX9_pointAt 21 = .ok (.ireturn, 1) := by decide +kernel
theorem dX9_lengthAt_0 : decode cX9_lengthAt 0 = .ok (.iload_n 1, 1) := by decide +kernel
theorem dX9_lengthAt_1 : decode cX9_lengthAt 1 = .ok (.aload_n 0, 1) := by decide +kernel
theorem dX9_lengthAt_2 : decode cX9_lengthAt 2 = .ok (.getfield 18, 3) := by decide +kernel
theorem dX9_lengthAt_5 : decode cX9_lengthAt 5 = .ok (.isub, 1) := by decide +kernel
theorem dX9_lengthAt_6 : decode cX9_lengthAt 6 = .ok (.istore_n 2, 1) := by decide +kernel
theorem dX9_lengthAt_7 : decode cX9_lengthAt 7 = .ok (.aload_n 0, 1) := by decide +kernel
theorem dX9_lengthAt_8 : decode cX9_lengthAt 8 = .ok (.iload_n 1, 1) := by decide +kernel
theorem dX9_lengthAt_9 : decode cX9_lengthAt 9 = .ok (.invokevirtual 34, 3) := by decide +kernel
theorem dX9_lengthAt_12 : decode cX9_lengthAt 12 = .ok (.ifCond .eq 21, 3) := by decide +kernel
theorem dX9_lengthAt_15 : decode cX9_lengthAt 15 = .ok (.aload_n 0, 1) := by decide +kernel
theorem dX9_lengthAt_16 : decode cX9_lengthAt 16 = .ok (.getfield 25, 3) := by decide +kernel
theorem dX9_lengthAt_19 : decode cX9_lengthAt 19 = .ok (.aload_n 0, 1) := by decide +kernel
theorem dX9_lengthAt_20 : decode cX9_lengthAt 20 = .ok (.getfield 22, 3) := by decide +kernel
theorem dX9_lengthAt_23 : decode cX9_lengthAt 23 = .ok (.iload_n 2, 1) := by decide +kernel
theorem dX9_lengthAt_24 : decode cX9_lengthAt 24 = .ok (.imul, 1) := by decide +kernel
theorem dX9_lengthAt_25 : decode cX9_lengthAt 25 = .ok (.iload_n 2, 1) := by decide +kernel
theorem dX9_lengthAt_26 : decode cX9_lengthAt 26 = .ok (.imul, 1) := by decide +kernel
theorem dX9_lengthAt_27 : decode cX9_lengthAt 27 = .ok (.iconst 4, 1) := by decide +kernel
theorem dX9_lengthAt_28 : decode cX9_lengthAt 28 = .ok (.idiv, 1) := by decide +kernel
theorem dX9_lengthAt_29 : decode cX9_lengthAt 29 = .ok (.iadd, 1) := by decide +kernel
theorem dX9_lengthAt_30 : decode cX9_lengthAt 30 = .ok (.goto 4, 3) := by decide +kernel
theorem dX9_lengthAt_33 : decode cX9_lengthAt 33 = .ok (.iconst (-1), 1) := by decide +kernel
theorem dX9_lengthAt_34 : decode cX9_lengthAt 34 = .ok (.ireturn, 1) := by decide +kernel
theorem dX10_init_0 : decode cX10_init 0 = .ok (.aload_n 0, 1) := by decide +kernel
theorem dX10_init_1 : decode cX10_init 1 = .ok (.invokespecial 3, 3) := by decide +kernel
theorem dX10_init_4 : decode cX10_init 4 = .ok (.aload_n 0, 1) := by decide +kernel
theorem dX10_init_5 : decode cX10_init 5 = .ok (.sipush 200, 3) := by decide +kernel
theorem dX10_init_8 : decode cX10_init 8 = .ok (.newarray .int, 2) := by decide +kernel
theorem dX10_init_10 : decode cX10_init 10 = .ok (.putfield 9, 3) := by decide +kernel
theorem dX10_init_13 : decode cX10_init 13 = .ok (.return_, 1) := by decide +kernel
theorem dX10_add_0 : decode cX10_add 0 = .ok (.aload_n 0, 1) := by decide +kernel
theorem dX10_add_1 : decode cX10_add 1 = .ok (.getfield 15, 3) := by decide +kernel
theorem dX10_add_4 : decode cX10_add 4 = .ok (.ifCond .lt 13, 3) := by decide +kernel
theorem dX10_add_7 : decode cX10_add 7 = .ok (.aload_n 0, 1) := by decide +kernel
theorem dX10_add_8 : decode cX10_add 8 = .ok (.getfield 15, 3) := by decide +kernel
theorem dX10_add_11 : decode cX10_add 11 = .ok (.sipush 200, 3) := by decide +kernel
theorem dX10_add_14 : decode cX10_add 14 = .ok (.if_icmp .lt 5, 3) := by decide +kernel
theorem dX10_add_17 : decode cX10_add 17 = .ok (.iconst 0, 1) := by decide +kernel
theorem dX10_add_18 : decode cX10_add 18 = .ok (.ireturn, 1) := by decide +kernel
theorem dX10_add_19 : decode cX10_add 19 = .ok (.aload_n 0, 1) := by decide +kernel
theorem dX10_add_20 : decode cX10_add 20 = .ok (.getfield 9, 3) := by decide +kernel
theorem dX10_add_23 : decode cX10_add 23 = .ok (.aload_n 0, 1) := by decide +kernel
theorem dX10_add_24 : decode cX10_add 24 = .ok (.getfield 15, 3) := by decide +kernel
theorem dX10_add_27 : decode cX10_add 27 = .ok (.iload_n 1, 1) := by decide +kernel
theorem dX10_add_28 : decode cX10_add 28 = .ok (.iastore, 1) := by decide +kernel
theorem dX10_add_29 : decode cX10_add 29 = .ok (.aload_n 0, 1) := by decide +kernel
theorem dX10_add_30 : decode cX10_add 30 = .ok (.dup, 1) := by decide +kernel
theorem dX10_add_31 : decode cX10_add 31 = .ok (.getfield 15, 3) := by decide +kernel
theorem dX10_add_34 : decode cX10_add 34 = .ok (.iconst 1, 1) := by decide +kernel
theorem dX10_add_35 : decode cX10_add 35 = .ok (.iadd, 1) := by decide +kernel
theorem dX10_add_36 : decode cX10_add 36 = .ok (.putfield 15, 3) := by decide +kernel
theorem dX10_add_39 : decode cX10_add 39 = .ok (.iconst 1, 1) := by decide +kernel
theorem dX10_add_40 : decode cX10_add 40 = .ok (.ireturn, 1) := by decide +kernel
theorem dX10_clear_0 : decode cX10_clear 0 = .ok (.aload_n 0, 1) := by decide +kernel
theorem dX10_clear_1 : decode cX10_clear 1 = .ok (.getfield 15, 3) := by decide +kernel
theorem dX10_clear_4 : decode cX10_clear 4 = .ok (.istore_n 1, 1) := by decide +kernel
theorem dX10_clear_5 : decode cX10_clear 5 = .ok (.aload_n 0, 1) := by decide +kernel
theorem dX10_clear_6 : decode cX10_clear 6 = .ok (.iconst 0, 1) := by decide +kernel
theorem dX10_clear_7 : decode cX10_clear 7 = .ok (.putfield 15, 3) := by decide +kernel
theorem dX10_clear_10 : decode cX10_clear 10 = .ok (.iload_n 1, 1) := by decide +kernel
theorem dX10_clear_11 : decode cX10_clear 11 = .ok (.ireturn, 1) := by decide +kernel
theorem dX10_letterAt_0 : decode cX10_letterAt 0 = .ok (.iload_n 1, 1) := by decide +kernel
theorem dX10_letterAt_1 : decode cX10_letterAt 1 = .ok (.ifCond .lt 27, 3) := by decide +kernel
theorem dX10_letterAt_4 : decode cX10_letterAt 4 = .ok (.iload_n 1, 1) := by decide +kernel
theorem dX10_letterAt_5 : decode cX10_letterAt 5 = .ok (.aload_n 0, 1) := by decide +kernel
theorem dX10_letterAt_6 : decode cX10_letterAt 6 = .ok (.getfield 15, 3) := by decide +kernel
theorem dX10_letterAt_9 : decode cX10_letterAt 9 = .ok (.if_icmp .ge 19, 3) := by decide +kernel
theorem dX10_letterAt_12 : decode cX10_letterAt 12 = .ok (.iload_n 1, 1) := by decide +kernel
theorem dX10_letterAt_13 : decode cX10_letterAt 13 = .ok (.sipush 200, 3) := by decide +kernel
theorem dX10_letterAt_16 : decode cX10_letterAt 16 = .ok (.if_icmp .ge 12, 3) := by decide +kernel
theorem dX10_letterAt_19 : decode cX10_letterAt 19 = .ok (.aload_n 0, 1) := by decide +kernel
theorem dX10_letterAt_20 : decode cX10_letterAt 20 = .ok (.getfield 9, 3) := by decide +kernel
theorem dX10_letterAt_23 : decode cX10_letterAt 23 = .ok (.iload_n 1, 1) := by decide +kernel
theorem dX10_letterAt_24 : decode cX10_letterAt 24 = .ok (.iaload, 1) := by decide +kernel
theorem dX10_letterAt_25 : decode cX10_letterAt 25 = .ok (.goto 4, 3) := by decide +kernel
theorem dX10_letterAt_28 : decode cX10_letterAt 28 = .ok (.iconst (-1), 1) := by decide +kernel
theorem dX10_letterAt_29 : decode cX10_letterAt 29 = .ok (.ireturn, 1) := by decide +kernel
theorem dX10_kindOf_0 : decode cX10_kindOf 0 = .ok (.iload_n 0, 1) := by decide +kernel
theorem dX10_kindOf_1 : decode cX10_kindOf 1 = .ok (.iconst (-1), 1) := by decide +kernel
theorem dX10_kindOf_2 : decode cX10_kindOf 2 = .ok (.if_icmp .ne 5, 3) := by decide +kernel
theorem dX10_kindOf_5 : decode cX10_kindOf 5 = .ok (.iconst 0, 1) := by decide +kernel
theorem dX10_kindOf_6 : decode cX10_kindOf 6 = .ok (.ireturn, 1) := by decide +kernel
theorem dX10_kindOf_7 : decode cX10_kindOf 7 = .ok (.iload_n 0, 1) := by decide +kernel
theorem dX10_kindOf_8 : decode cX10_kindOf 8 = .ok (.bipush 97, 2) := by decide +kernel
theorem dX10_kindOf_10 : decode cX10_kindOf 10 = .ok (.if_icmp .lt 11, 3) := by decide +kernel
theorem dX10_kindOf_13 : decode cX10_kindOf 13 = .ok (.iload_n 0, 1) := by decide +kernel
theorem dX10_kindOf_14 : decode cX10_kindOf 14 = .ok (.bipush 122, 2) := by decide +kernel
theorem dX10_kindOf_16 : decode cX10_kindOf 16 = .ok (.if_icmp .gt 5, 3) := by decide +kernel
theorem dX10_kindOf_19 : decode cX10_kindOf 19 = .ok (.iconst 1, 1) := by decide +kernel
theorem dX10_kindOf_20 : decode cX10_kindOf 20 = .ok (.ireturn, 1) := by decide +kernel
theorem dX10_kindOf_21 : decode cX10_kindOf 21 = .ok (.iload_n 0, 1) := by decide +kernel
theorem dX10_kindOf_22 : decode cX10_kindOf 22 = .ok (.bipush 48, 2) := by decide +kernel
theorem dX10_kindOf_24 : decode cX10_kindOf 24 = .ok (.if_icmp .lt 13, 3) := by decide +kernel
theorem dX10_kindOf_27 : decode cX10_kindOf 27 = .ok (.iload_n 0, 1) := by decide +kernel
theorem dX10_kindOf_28 : decode cX10_kindOf 28 = .ok (.bipush 57, 2) := by decide +kernel
theorem dX10_kindOf_30 : decode cX10_kindOf 30 = .ok (.if_icmp .gt 7, 3) := by decide +kernel
theorem dX10_kindOf_33 : decode cX10_kindOf 33 = .ok (.iconst 2, 1) := by decide +kernel
theorem dX10_kindOf_34 : decode cX10_kindOf 34 = .ok (.goto 4, 3) := by decide +kernel
theorem dX10_kindOf_37 : decode cX10_kindOf 37 = .ok (.iconst 3, 1) := by decide +kernel
theorem dX10_kindOf_38 : decode cX10_kindOf 38 = .ok (.ireturn, 1) := by decide +kernel
theorem dX10_wholeWord_0 : decode cX10_wholeWord 0 = .ok (.iconst 0, 1) := by decide +kernel
theorem dX10_wholeWord_1 : decode cX10_wholeWord 1 = .ok (.istore_n 1, 1) := by decide +kernel
theorem dX10_wholeWord_2 : decode cX10_wholeWord 2 = .ok (.iconst 0, 1) := by decide +kernel
theorem dX10_wholeWord_3 : decode cX10_wholeWord 3 = .ok (.istore_n 2, 1) := by decide +kernel
theorem dX10_wholeWord_4 : decode cX10_wholeWord 4 = .ok (.iconst 0, 1) := by decide +kernel
theorem dX10_wholeWord_5 : decode cX10_wholeWord 5 = .ok (.istore_n 3, 1) := by decide +kernel
theorem dX10_wholeWord_6 : decode cX10_wholeWord 6 = .ok (.iload_n 3, 1) := by decide +kernel
theorem dX10_wholeWord_7 : decode cX10_wholeWord 7 = .ok (.aload_n 0, 1) := by decide +kernel
theorem dX10_wholeWord_8 : decode cX10_wholeWord 8 = .ok (.getfield 15, 3) := by decide +kernel
theorem dX10_wholeWord_11 : decode cX10_wholeWord 11 = .ok (.if_icmp .ge 52, 3) := by decide +kernel
theorem dX10_wholeWord_14 : decode cX10_wholeWord 14 = .ok (.aload_n 0, 1) := by decide +kernel
theorem dX10_wholeWord_15 : decode cX10_wholeWord 15 = .ok (.iload_n 3, 1) := by decide +kernel
theorem dX10_wholeWord_16 : decode cX10_wholeWord 16 = .ok (.invokevirtual 19, 3) := by decide +kernel
theorem dX10_wholeWord_19 : decode cX10_wholeWord 19 = .ok (.istore 4, 2) := by decide +kernel
theorem dX10_wholeWord_21 : decode cX10_wholeWord 21 = .ok (.iload 4, 2) := by decide +kernel
theorem dX10_wholeWord_23 : decode cX10_wholeWord 23 = .ok (.bipush 32, 2) := by decide +kernel
theorem dX10_wholeWord_25 : decode cX10_wholeWord 25 = .ok (.if_icmp .ne 6, 3) := by decide +kernel
theorem dX10_wholeWord_28 : decode cX10_wholeWord 28 = .ok (.goto 29, 3) := by decide +kernel
theorem dX10_wholeWord_31 : decode cX10_wholeWord 31 = .ok (.iload 4, 2) := by decide +kernel
theorem dX10_wholeWord_33 : decode cX10_wholeWord 33 = .ok (.invokestatic 23, 3) := by decide +kernel
theorem dX10_wholeWord_36 : decode cX10_wholeWord 36 = .ok (.iconst 1, 1) := by decide +kernel
theorem dX10_wholeWord_37 : decode cX10_wholeWord 37 = .ok (.if_icmp .ne 8, 3) := by decide +kernel
theorem dX10_wholeWord_40 : decode cX10_wholeWord 40 = .ok (.iload_n 2, 1) := by decide +kernel
theorem dX10_wholeWord_41 : decode cX10_wholeWord 41 = .ok (.iconst 5, 1) := by decide +kernel
theorem dX10_wholeWord_42 : decode cX10_wholeWord 42 = .ok (.if_icmp .ne 5, 3) := by decide +kernel
theorem dX10_wholeWord_45 : decode cX10_wholeWord 45 = .ok (.iconst (-1), 1) := by decide +kernel
theorem dX10_wholeWord_46 : decode cX10_wholeWord 46 = .ok (.ireturn, 1) := by decide +kernel
theorem dX10_wholeWord_47 : decode cX10_wholeWord 47 = .ok (.iload_n 1, 1) := by decide +kernel
theorem dX10_wholeWord_48 : decode cX10_wholeWord 48 = .ok (.iload 4, 2) := by decide +kernel
theorem dX10_wholeWord_50 : decode cX10_wholeWord 50 = .ok (.invokestatic 26, 3) := by decide +kernel
theorem dX10_wholeWord_53 : decode cX10_wholeWord 53 = .ok (.istore_n 1, 1) := by decide +kernel
theorem dX10_wholeWord_54 : decode cX10_wholeWord 54 = .ok (.iinc 2 1, 3) := by decide +kernel
theorem dX10_wholeWord_57 : decode cX10_wholeWord 57 = .ok (.iinc 3 1, 3) := by decide +kernel
theorem dX10_wholeWord_60 : decode cX10_wholeWord 60 = .ok (.goto (-54), 3) := by decide +kernel
theorem dX10_wholeWord_63 : decode cX10_wholeWord 63 = .ok (.iload_n 2, 1) := by decide +kernel
theorem dX10_wholeWord_64 : decode cX10_wholeWord 64 = .ok (.ifCond .ne 7, 3) := by decide +kernel
theorem dX10_wholeWord_67 : decode cX10_wholeWord 67 = .ok (.iconst (-1), 1) := by decide +kernel
theorem dX10_wholeWord_68 : decode cX10_wholeWord 68 = .ok (.goto 4, 3) := by decide +kernel
theorem dX10_wholeWord_71 : decode cX10_wholeWord 71 = .ok (.iload_n 1, 1) := by decide +kernel
theorem dX10_wholeWord_72 : decode cX10_wholeWord 72 = .ok (.ireturn, 1) := by decide +kernel
theorem dX11_init_0 : decode cX11_init 0 = .ok (.aload_n 0, 1) := by decide +kernel
theorem dX11_init_1 : decode cX11_init 1 = .ok (.invokespecial 3, 3) := by decide +kernel
theorem dX11_init_4 : decode cX11_init 4 = .ok (.aload_n 0, 1) := by decide +kernel
theorem dX11_init_5 : decode cX11_init 5 = .ok (.new 9, 3) := by decide +kernel
theorem dX11_init_8 : decode cX11_init 8 = .ok (.dup, 1) := by decide +kernel
theorem dX11_init_9 : decode cX11_init 9 = .ok (.invokespecial 11, 3) := by decide +kernel
theorem dX11_init_12 : decode cX11_init 12 = .ok (.putfield 12, 3) := by decide +kernel
theorem dX11_init_15 : decode cX11_init 15 = .ok (.aload_n 0, 1) := by decide +kernel
theorem dX11_init_16 : decode cX11_init 16 = .ok (.new 16, 3) := by decide +kernel
theorem dX11_init_19 : decode cX11_init 19 = .ok (.dup, 1) := by decide +kernel
theorem dX11_init_20 : decode cX11_init 20 = .ok (.invokespecial 18, 3) := by decide +kernel
theorem dX11_init_23 : decode cX11_init 23 = .ok (.putfield 19, 3) := by decide +kernel
theorem dX11_init_26 : decode cX11_init 26 = .ok (.aload_n 0, 1) := by decide +kernel
theorem dX11_init_27 : decode cX11_init 27 = .ok (.new 23, 3) := by decide +kernel
theorem dX11_init_30 : decode cX11_init 30 = .ok (.dup, 1) := by decide +kernel
theorem dX11_init_31 : decode cX11_init 31 = .ok (.aload_n 0, 1) := by decide +kernel
theorem dX11_init_32 : decode cX11_init 32 = .ok (.getfield 12, 3) := by decide +kernel
theorem dX11_init_35 : decode cX11_init 35 = .ok (.invokespecial 25, 3) := by decide +kernel
theorem dX11_init_38 : decode cX11_init 38 = .ok (.putfield 28, 3) := by decide +kernel
theorem dX11_init_41 : decode cX11_init 41 = .ok (.aload_n 0, 1) := by decide +kernel
theorem dX11_init_42 : decode cX11_init 42 = .ok (.new 32, 3) := by decide +kernel
theorem dX11_init_45 : decode cX11_init 45 = .ok (.dup, 1) := by decide +kernel
theorem dX11_init_46 : decode cX11_init 46 = .ok (.invokespecial 34, 3) := by decide +kernel
theorem dX11_init_49 : decode cX11_init 49 = .ok (.putfield 35, 3) := by decide +kernel
theorem dX11_init_52 : decode cX11_init 52 = .ok (.aload_n 0, 1) := by decide +kernel
theorem dX11_init_53 : decode cX11_init 53 = .ok (.new 39, 3) := by decide +kernel
theorem dX11_init_56 : decode cX11_init 56 = .ok (.dup, 1) := by decide +kernel
theorem dX11_init_57 : decode cX11_init 57 = .ok (.invokespecial 41, 3) := by decide +kernel
theorem dX11_init_60 : decode cX11_init 60 = .ok (.putfield 42, 3) := by decide +kernel
theorem dX11_init_63 : decode cX11_init 63 = .ok (.aload_n 0, 1) := by decide +kernel
theorem dX11_init_64 : decode cX11_init 64 = .ok (.new 46, 3) := by decide +kernel
theorem dX11_init_67 : decode cX11_init 67 = .ok (.dup, 1) := by decide +kernel
theorem dX11_init_68 : decode cX11_init 68 = .ok (.invokespecial 48, 3) := by decide +kernel
theorem dX11_init_71 : decode cX11_init 71 = .ok (.putfield 49, 3) := by decide +kernel
theorem dX11_init_74 : decode cX11_init 74 = .ok (.aload_n 0, 1) := by decide +kernel
theorem dX11_init_75 : decode cX11_init 75 = .ok (.new 53, 3) := by decide +kernel
theorem dX11_init_78 : decode cX11_init 78 = .ok (.dup, 1) := by decide +kernel
theorem dX11_init_79 : decode cX11_init 79 = .ok (.invokespecial 55, 3) := by decide +kernel
theorem dX11_init_82 : decode cX11_init 82 = .ok (.putfield 56, 3) := by decide +kernel
theorem dX11_init_85 : decode cX11_init 85 = .ok (.aload_n 0, 1) := by decide +kernel
theorem dX11_init_86 : decode cX11_init 86 = .ok (.new 60, 3) := by decide +kernel
theorem dX11_init_89 : decode cX11_init 89 = .ok (.dup, 1) := by decide +kernel
theorem dX11_init_90 : decode cX11_init 90 = .ok (.invokespecial 62, 3) := by decide +kernel
theorem dX11_init_93 : decode cX11_init 93 = .ok (.putfield 63, 3) := by decide +kernel
theorem dX11_init_96 : decode cX11_init 96 = .ok (.aload_n 0, 1) := by decide +kernel
theorem dX11_init_97 : decode cX11_init 97 = .ok (.new 67, 3) := by decide +kernel
theorem dX11_init_100 : decode cX11_init 100 = .ok (.dup, 1) := by decide +kernel
theorem dX11_init_101 : decode cX11_init 101 = .ok (.invokespecial 69, 3) := by decide +kernel
theorem dX11_init_104 : decode cX11_init 104 = .ok (.putfield 70, 3) := by decide +kernel
theorem dX11_init_107 : decode cX11_init 107 = .ok (.return_, 1) := by decide +kernel
theorem dX11_write_0 : decode cX11_write 0 = .ok (.iload_n 1, 1) := by decide +kernel
theorem dX11_write_1 : decode cX11_write 1 = .ok (.ifCond .lt 10, 3) := by decide +kernel
theorem dX11_write_4 : decode cX11_write 4 = .ok (.iload_n 1, 1) := by decide +kernel
theorem dX11_write_5 : decode cX11_write 5 = .ok (.sipush 255, 3) := by decide +kernel
theorem dX11_write_8 : decode cX11_write 8 = .ok (.if_icmp .le 6, 3) := by decide +kernel
theorem dX11_write_11 : decode cX11_write 11 = .ok (.bipush (-3), 2) := by decide +kernel
theorem dX11_write_13 : decode cX11_write 13 = .ok (.ireturn, 1) := by decide +kernel
theorem dX11_write_14 : decode cX11_write 14 = .ok (.aload_n 0, 1) := by decide +kernel
theorem dX11_write_15 : decode cX11_write 15 = .ok (.getfield 12, 3) := by decide +kernel
theorem dX11_write_18 : decode cX11_write 18 = .ok (.iload_n 1, 1) := by decide +kernel
theorem dX11_write_19 : decode cX11_write 19 = .ok (.invokevirtual 74, 3) := by decide +kernel
theorem dX11_write_22 : decode cX11_write 22 = .ok (.ifCond .eq 13, 3) := by decide +kernel
theorem dX11_write_25 : decode cX11_write 25 = .ok (.aload_n 0, 1) := by decide +kernel
theorem dX11_write_26 : decode cX11_write 26 = .ok (.getfield 12, 3) := by decide +kernel
theorem dX11_write_29 : decode cX11_write 29 = .ok (.getfield 78, 3) := by decide +kernel
theorem dX11_write_32 : decode cX11_write 32 = .ok (.goto 5, 3) := by decide +kernel
theorem dX11_write_35 : decode cX11_write 35 = .ok (.bipush (-5), 2) := by decide +kernel
theorem dX11_write_37 : decode cX11_write 37 = .ok (.ireturn, 1) := by decide +kernel
theorem dX11_erase_0 : decode cX11_erase 0 = .ok (.aload_n 0, 1) := by decide +kernel
theorem dX11_erase_1 : decode cX11_erase 1 = .ok (.getfield 12, 3) := by decide +kernel
theorem dX11_erase_4 : decode cX11_erase 4 = .ok (.invokevirtual 82, 3) := by decide +kernel
theorem dX11_erase_7 : decode cX11_erase 7 = .ok (.ireturn, 1) := by decide +kernel
theorem dX11_fault_0 : decode cX11_fault 0 = .ok (.aload_n 0, 1) := by decide +kernel
theorem dX11_fault_1 : decode cX11_fault 1 = .ok (.getfield 28, 3) := by decide +kernel
theorem dX11_fault_4 : decode cX11_fault 4 = .ok (.aload_n 0, 1) := by decide +kernel
theorem dX11_fault_5 : decode cX11_fault 5 = .ok (.getfield 19, 3) := by decide +kernel
theorem dX11_fault_8 : decode cX11_fault 8 = .ok (.invokevirtual 86, 3) := by decide +kernel
theorem dX11_fault_11 : decode cX11_fault 11 = .ok (.ireturn, 1) := by decide +kernel
theorem dX11_album_0 : decode cX11_album 0 = .ok (.aload_n 0, 1) := by decide +kernel
theorem dX11_album_1 : decode cX11_album 1 = .ok (.getfield 28, 3) := by decide +kernel
theorem dX11_album_4 : decode cX11_album 4 = .ok (.aload_n 0, 1) := by decide +kernel
theorem dX11_album_5 : decode cX11_album 5 = .ok (.getfield 19, 3) := by decide +kernel
theorem dX11_album_8 : decode cX11_album 8 = .ok (.invokevirtual 86, 3) := by decide +kernel
theorem dX11_album_11 : decode cX11_album 11 = .ok (.iconst (-1), 1) := by decide +kernel
theorem dX11_album_12 : decode cX11_album 12 = .ok (.if_icmp .eq 6, 3) := by decide +kernel
theorem dX11_album_15 : decode cX11_album 15 = .ok (.bipush (-4), 2) := by decide +kernel
theorem dX11_album_17 : decode cX11_album 17 = .ok (.ireturn, 1) := by decide +kernel
theorem dX11_album_18 : decode cX11_album 18 = .ok (.aload_n 0, 1) := by decide +kernel
theorem dX11_album_19 : decode cX11_album 19 = .ok (.getfield 19, 3) := by decide +kernel
theorem dX11_album_22 : decode cX11_album 22 = .ok (.aload_n 0, 1) := by decide +kernel
theorem dX11_album_23 : decode cX11_album 23 = .ok (.getfield 28, 3) := by decide +kernel
theorem dX11_album_26 : decode cX11_album 26 = .ok (.getfield 90, 3) := by decide +kernel
theorem dX11_album_29 : decode cX11_album 29 = .ok (.invokevirtual 93, 3) := by decide +kernel
theorem dX11_album_32 : decode cX11_album 32 = .ok (.aload_n 0, 1) := by decide +kernel
theorem dX11_album_33 : decode cX11_album 33 = .ok (.getfield 12, 3) := by decide +kernel
theorem dX11_album_36 : decode cX11_album 36 = .ok (.invokevirtual 82, 3) := by decide +kernel
theorem dX11_album_39 : decode cX11_album 39 = .ok (.pop, 1) := by decide +kernel
theorem dX11_album_40 : decode cX11_album 40 = .ok (.aload_n 0, 1) := by decide +kernel
theorem dX11_album_41 : decode cX11_album 41 = .ok (.getfield 35, 3) := by decide +kernel
theorem dX11_album_44 : decode cX11_album 44 = .ok (.invokevirtual 97, 3) := by decide +kernel
theorem dX11_album_47 : decode cX11_album 47 = .ok (.aload_n 0, 1) := by decide +kernel
theorem dX11_album_48 : decode cX11_album 48 = .ok (.getfield 70, 3) := by decide +kernel
theorem dX11_album_51 : decode cX11_album 51 = .ok (.invokevirtual 99, 3) := by decide +kernel
theorem dX11_album_54 : decode cX11_album 54 = .ok (.aload_n 0, 1) := by decide +kernel
theorem dX11_album_55 : decode cX11_album 55 = .ok (.invokevirtual 100, 3) := by decide +kernel
theorem dX11_album_58 : decode cX11_album 58 = .ok (.aload_n 0, 1) := by decide +kernel
theorem dX11_album_59 : decode cX11_album 59 = .ok (.getfield 28, 3) := by decide +kernel
theorem dX11_album_62 : decode cX11_album 62 = .ok (.getfield 103, 3) := by decide +kernel
theorem dX11_album_65 : decode cX11_album 65 = .ok (.ireturn, 1) := by decide +kernel
theorem dX11_find_0 : decode cX11_find 0 = .ok (.aload_n 0, 1) := by decide +kernel
theorem dX11_find_1 : decode cX11_find 1 = .ok (.getfield 19, 3) := by decide +kernel
theorem dX11_find_4 : decode cX11_find 4 = .ok (.aload_n 0, 1) := by decide +kernel
theorem dX11_find_5 : decode cX11_find 5 = .ok (.getfield 12, 3) := by decide +kernel
theorem dX11_find_8 : decode cX11_find 8 = .ok (.invokevirtual 106, 3) := by decide +kernel
theorem dX11_find_11 : decode cX11_find 11 = .ok (.invokevirtual 109, 3) := by decide +kernel
theorem dX11_find_14 : decode cX11_find 14 = .ok (.ireturn, 1) := by decide +kernel
theorem dX11_picture_0 : decode cX11_picture 0 = .ok (.aload_n 0, 1) := by decide +kernel
theorem dX11_picture_1 : decode cX11_picture 1 = .ok (.getfield 19, 3) := by decide +kernel
theorem dX11_picture_4 : decode cX11_picture 4 = .ok (.iload_n 1, 1) := by decide +kernel
theorem dX11_picture_5 : decode cX11_picture 5 = .ok (.invokevirtual 113, 3) := by decide +kernel
theorem dX11_picture_8 : decode cX11_picture 8 = .ok (.ifCond .ne 6, 3) := by decide +kernel
theorem dX11_picture_11 : decode cX11_picture 11 = .ok (.bipush (-2), 2) := by decide +kernel
theorem dX11_picture_13 : decode cX11_picture 13 = .ok (.ireturn, 1) := by decide +kernel
theorem dX11_picture_14 : decode cX11_picture 14 = .ok (.iload_n 2, 1) := by decide +kernel
theorem dX11_picture_15 : decode cX11_picture 15 = .ok (.tableswitch 106 0 5 #[37, 46, 58, 70, 82, 94], 37) := by decide +kernel
theorem dX11_picture_52 : decode cX11_picture 52 = .ok (.aload_n 0, 1) := by decide +kernel
theorem dX11_picture_53 : decode cX11_picture 53 = .ok (.getfield 19, 3) := by decide +kernel
theorem dX11_picture_56 : decode cX11_picture 56 = .ok (.iload_n 1, 1) := by decide +kernel
theorem dX11_picture_57 : decode cX11_picture 57 = .ok (.invokevirtual 116, 3) := by decide +kernel
theorem dX11_picture_60 : decode cX11_picture 60 = .ok (.ireturn, 1) := by decide +kernel
theorem dX11_picture_61 : decode cX11_picture 61 = .ok (.aload_n 0, 1) := by decide +kernel
theorem dX11_picture_62 : decode cX11_picture 62 = .ok (.getfield 19, 3) := by decide +kernel
theorem dX11_picture_65 : decode cX11_picture 65 = .ok (.getfield 119, 3) := by decide +kernel
theorem dX11_picture_68 : decode cX11_picture 68 = .ok (.iload_n 1, 1) := by decide +kernel
theorem dX11_picture_69 : decode cX11_picture 69 = .ok (.invokevirtual 123, 3) := by decide +kernel
theorem dX11_picture_72 : decode cX11_picture 72 = .ok (.ireturn, 1) := by decide +kernel
theorem dX11_picture_73 : decode cX11_picture 73 = .ok (.aload_n 0, 1) := by decide +kernel
theorem dX11_picture_74 : decode cX11_picture 74 = .ok (.invokevirtual 128, 3) := by decide +kernel
theorem dX11_picture_77 : decode cX11_picture 77 = .ok (.iload_n 1, 1) := by decide +kernel
theorem dX11_picture_78 : decode cX11_picture 78 = .ok (.invokevirtual 132, 3) := by decide +kernel
theorem dX11_picture_81 : decode cX11_picture 81 = .ok (.invokestatic 136, 3) := by decide +kernel
theorem dX11_picture_84 : decode cX11_picture 84 = .ok (.ireturn, 1) := by decide +kernel
theorem dX11_picture_85 : decode cX11_picture 85 = .ok (.aload_n 0, 1) := by decide +kernel
theorem dX11_picture_86 : decode cX11_picture 86 = .ok (.invokevirtual 128, 3) := by decide +kernel
theorem dX11_picture_89 : decode cX11_picture 89 = .ok (.iload_n 1, 1) := by decide +kernel
theorem dX11_picture_90 : decode cX11_picture 90 = .ok (.invokevirtual 132, 3) := by decide +kernel
theorem dX11_picture_93 : decode cX11_picture 93 = .ok (.invokestatic 142, 3) := by decide +kernel
theorem dX11_picture_96 : decode cX11_picture 96 = .ok (.ireturn, 1) := by decide +kernel
theorem dX11_picture_97 : decode cX11_picture 97 = .ok (.aload_n 0, 1) := by decide +kernel
theorem dX11_picture_98 : decode cX11_picture 98 = .ok (.invokevirtual 128, 3) := by decide +kernel
theorem dX11_picture_101 : decode cX11_picture 101 = .ok (.iload_n 1, 1) := by decide +kernel
theorem dX11_picture_102 : decode cX11_picture 102 = .ok (.invokevirtual 132, 3) := by decide +kernel
theorem dX11_picture_105 : decode cX11_picture 105 = .ok (.invokestatic 145, 3) := by decide +kernel
theorem dX11_picture_108 : decode cX11_picture 108 = .ok (.ireturn, 1) := by decide +kernel
theorem dX11_picture_109 : decode cX11_picture 109 = .ok (.aload_n 0, 1) := by decide +kernel
theorem dX11_picture_110 : decode cX11_picture 110 = .ok (.invokevirtual 128, 3) := by decide +kernel
theorem dX11_picture_113 : decode cX11_picture 113 = .ok (.iload_n 1, 1) := by decide +kernel
theorem dX11_picture_114 : decode cX11_picture 114 = .ok (.invokevirtual 148, 3) := by decide +kernel
theorem dX11_picture_117 : decode cX11_picture 117 = .ok (.invokestatic 151, 3) := by decide +kernel
theorem dX11_picture_120 : decode cX11_picture 120 = .ok (.ireturn, 1) := by decide +kernel
theorem dX11_picture_121 : decode cX11_picture 121 = .ok (.bipush (-3), 2) := by decide +kernel
theorem dX11_picture_123 : decode cX11_picture 123 = .ok (.ireturn, 1) := by decide +kernel
theorem dX11_thing_0 : decode cX11_thing 0 = .ok (.aload_n 0, 1) := by decide +kernel
theorem dX11_thing_1 : decode cX11_thing 1 = .ok (.getfield 19, 3) := by decide +kernel
theorem dX11_thing_4 : decode cX11_thing 4 = .ok (.iload_n 1, 1) := by decide +kernel
theorem dX11_thing_5 : decode cX11_thing 5 = .ok (.invokevirtual 155, 3) := by decide +kernel
theorem dX11_thing_8 : decode cX11_thing 8 = .ok (.ifCond .ne 6, 3) := by decide +kernel
theorem dX11_thing_11 : decode cX11_thing 11 = .ok (.bipush (-2), 2) := by decide +kernel
theorem dX11_thing_13 : decode cX11_thing 13 = .ok (.ireturn, 1) := by decide +kernel
theorem dX11_thing_14 : decode cX11_thing 14 = .ok (.iload_n 2, 1) := by decide +kernel
theorem dX11_thing_15 : decode cX11_thing 15 = .ok (.tableswitch 54 0 2 #[25, 34, 44], 25) := by decide +kernel
theorem dX11_thing_40 : decode cX11_thing 40 = .ok (.aload_n 0, 1) := by decide +kernel
theorem dX11_thing_41 : decode cX11_thing 41 = .ok (.getfield 19, 3) := by decide +kernel
theorem dX11_thing_44 : decode cX11_thing 44 = .ok (.iload_n 1, 1) := by decide +kernel
theorem dX11_thing_45 : decode cX11_thing 45 = .ok (.invokevirtual 158, 3) := by decide +kernel
theorem dX11_thing_48 : decode cX11_thing 48 = .ok (.ireturn, 1) := by decide +kernel
theorem dX11_thing_49 : decode cX11_thing 49 = .ok (.aload_n 0, 1) := by decide +kernel
theorem dX11_thing_50 : decode cX11_thing 50 = .ok (.getfield 19, 3) := by decide +kernel
theorem dX11_thing_53 : decode cX11_thing 53 = .ok (.iload_n 1, 1) := by decide +kernel
theorem dX11_thing_54 : decode cX11_thing 54 = .ok (.iconst 0, 1) := by decide +kernel
theorem dX11_thing_55 : decode cX11_thing 55 = .ok (.invokevirtual 161, 3) := by decide +kernel
theorem dX11_thing_58 : decode cX11_thing 58 = .ok (.ireturn, 1) := by decide +kernel
theorem dX11_thing_59 : decode cX11_thing 59 = .ok (.aload_n 0, 1) := by decide +kernel
theorem dX11_thing_60 : decode cX11_thing 60 = .ok (.getfield 19, 3) := by decide +kernel
theorem dX11_thing_63 : decode cX11_thing 63 = .ok (.iload_n 1, 1) := by decide +kernel
theorem dX11_thing_64 : decode cX11_thing 64 = .ok (.iconst 1, 1) := by decide +kernel
theorem dX11_thing_65 : decode cX11_thing 65 = .ok (.invokevirtual 161, 3) := by decide +kernel
theorem dX11_thing_68 : decode cX11_thing 68 = .ok (.ireturn, 1) := by decide +kernel
theorem dX11_thing_69 : decode cX11_thing 69 = .ok (.bipush (-3), 2) := by decide +kernel
theorem dX11_thing_71 : decode cX11_thing 71 = .ok (.ireturn, 1) := by decide +kernel
theorem dX11_piece_0 : decode cX11_piece 0 = .ok (.aload_n 0, 1) := by decide +kernel
theorem dX11_piece_1 : decode cX11_piece 1 = .ok (.getfield 19, 3) := by decide +kernel
theorem dX11_piece_4 : decode cX11_piece 4 = .ok (.iload_n 1, 1) := by decide +kernel
theorem dX11_piece_5 : decode cX11_piece 5 = .ok (.invokevirtual 113, 3) := by decide +kernel
theorem dX11_piece_8 : decode cX11_piece 8 = .ok (.ifCond .ne 6, 3) := by decide +kernel
theorem dX11_piece_11 : decode cX11_piece 11 = .ok (.bipush (-2), 2) := by decide +kernel
theorem dX11_piece_13 : decode cX11_piece 13 = .ok (.ireturn, 1) := by decide +kernel
theorem dX11_piece_14 : decode cX11_piece 14 = .ok (.aload_n 0, 1) := by decide +kernel
theorem dX11_piece_15 : decode cX11_piece 15 = .ok (.getfield 19, 3) := by decide +kernel
theorem dX11_piece_18 : decode cX11_piece 18 = .ok (.iload_n 2, 1) := by decide +kernel
theorem dX11_piece_19 : decode cX11_piece 19 = .ok (.invokevirtual 165, 3) := by decide +kernel
theorem dX11_piece_22 : decode cX11_piece 22 = .ok (.ifCond .ne 6, 3) := by decide +kernel
theorem dX11_piece_25 : decode cX11_piece 25 = .ok (.bipush (-3), 2) := by decide +kernel
theorem dX11_piece_27 : decode cX11_piece 27 = .ok (.ireturn, 1) := by decide +kernel
theorem dX11_piece_28 : decode cX11_piece 28 = .ok (.iload_n 3, 1) := by decide +kernel
theorem dX11_piece_29 : decode cX11_piece 29 = .ok (.tableswitch 66 0 2 #[27, 40, 53], 27) := by decide +kernel
theorem dX11_piece_56 : decode cX11_piece 56 = .ok (.aload_n 0, 1) := by decide +kernel
theorem dX11_piece_57 : decode cX11_piece 57 = .ok (.getfield 19, 3) := by decide +kernel
theorem dX11_piece_60 : decode cX11_piece 60 = .ok (.getfield 119, 3) := by decide +kernel
theorem dX11_piece_63 : decode cX11_piece 63 = .ok (.iload_n 1, 1) := by decide +kernel
theorem dX11_piece_64 : decode cX11_piece 64 = .ok (.iload_n 2, 1) := by decide +kernel
theorem dX11_piece_65 : decode cX11_piece 65 = .ok (.invokevirtual 168, 3) := by decide +kernel
theorem dX11_piece_68 : decode cX11_piece 68 = .ok (.ireturn, 1) := by decide +kernel
theorem dX11_piece_69 : decode cX11_piece 69 = .ok (.aload_n 0, 1) := by decide +kernel
theorem dX11_piece_70 : decode cX11_piece 70 = .ok (.getfield 19, 3) := by decide +kernel
theorem dX11_piece_73 : decode cX11_piece 73 = .ok (.getfield 119, 3) := by decide +kernel
theorem dX11_piece_76 : decode cX11_piece 76 = .ok (.iload_n 1, 1) := by decide +kernel
theorem dX11_piece_77 : decode cX11_piece 77 = .ok (.iload_n 2, 1) := by decide +kernel
theorem dX11_piece_78 : decode cX11_piece 78 = .ok (.invokevirtual 171, 3) := by decide +kernel
theorem dX11_piece_81 : decode cX11_piece 81 = .ok (.ireturn, 1) := by decide +kernel
theorem dX11_piece_82 : decode cX11_piece 82 = .ok (.aload_n 0, 1) := by decide +kernel
theorem dX11_piece_83 : decode cX11_piece 83 = .ok (.getfield 19, 3) := by decide +kernel
theorem dX11_piece_86 : decode cX11_piece 86 = .ok (.getfield 119, 3) := by decide +kernel
theorem dX11_piece_89 : decode cX11_piece 89 = .ok (.iload_n 1, 1) := by decide +kernel
theorem dX11_piece_90 : decode cX11_piece 90 = .ok (.iload_n 2, 1) := by decide +kernel
theorem dX11_piece_91 : decode cX11_piece 91 = .ok (.invokevirtual 174, 3) := by decide +kernel
theorem dX11_piece_94 : decode cX11_piece 94 = .ok (.ireturn, 1) := by decide +kernel
theorem dX11_piece_95 : decode cX11_piece 95 = .ok (.bipush (-3), 2) := by decide +kernel
theorem dX11_piece_97 : decode cX11_piece 97 = .ok (.ireturn, 1) := by decide +kernel
theorem dX11_told_0 : decode cX11_told 0 = .ok (.iload_n 1, 1) := by decide +kernel
theorem dX11_told_1 : decode cX11_told 1 = .ok (.ifCond .ge 6, 3) := by decide +kernel
theorem dX11_told_4 : decode cX11_told 4 = .ok (.bipush (-3), 2) := by decide +kernel
theorem dX11_told_6 : decode cX11_told 6 = .ok (.ireturn, 1) := by decide +kernel
theorem dX11_told_7 : decode cX11_told 7 = .ok (.iload_n 2, 1) := by decide +kernel
theorem dX11_told_8 : decode cX11_told 8 = .ok (.lookupswitch 52 #[(0, 28), (1, 40)], 28) := by decide +kernel
theorem dX11_told_36 : decode cX11_told 36 = .ok (.aload_n 0, 1) := by decide +kernel
theorem dX11_told_37 : decode cX11_told 37 = .ok (.getfield 19, 3) := by decide +kernel
theorem dX11_told_40 : decode cX11_told 40 = .ok (.getfield 119, 3) := by decide +kernel
theorem dX11_told_43 : decode cX11_told 43 = .ok (.iload_n 1, 1) := by decide +kernel
theorem dX11_told_44 : decode cX11_told 44 = .ok (.invokevirtual 177, 3) := by decide +kernel
theorem dX11_told_47 : decode cX11_told 47 = .ok (.ireturn, 1) := by decide +kernel
theorem dX11_told_48 : decode cX11_told 48 = .ok (.aload_n 0, 1) := by decide +kernel
theorem dX11_told_49 : decode cX11_told 49 = .ok (.getfield 19, 3) := by decide +kernel
theorem dX11_told_52 : decode cX11_told 52 = .ok (.getfield 119, 3) := by decide +kernel
theorem dX11_told_55 : decode cX11_told 55 = .ok (.iload_n 1, 1) := by decide +kernel
theorem dX11_told_56 : decode cX11_told 56 = .ok (.invokevirtual 180, 3) := by decide +kernel
theorem dX11_told_59 : decode cX11_told 59 = .ok (.ireturn, 1) := by decide +kernel
theorem dX11_told_60 : decode cX11_told 60 = .ok (.bipush (-3), 2) := by decide +kernel
theorem dX11_told_62 : decode cX11_told 62 = .ok (.ireturn, 1) := by decide +kernel
theorem dX11_sun_0 : decode cX11_sun 0 = .ok (.iload_n 1, 1) := by decide +kernel
theorem dX11_sun_1 : decode cX11_sun 1 = .ok (.ifCond .lt 9, 3) := by decide +kernel
theorem dX11_sun_4 : decode cX11_sun 4 = .ok (.iload_n 1, 1) := by decide +kernel
theorem dX11_sun_5 : decode cX11_sun 5 = .ok (.bipush 48, 2) := by decide +kernel
theorem dX11_sun_7 : decode cX11_sun 7 = .ok (.if_icmp .lt 6, 3) := by decide +kernel
theorem dX11_sun_10 : decode cX11_sun 10 = .ok (.bipush (-3), 2) := by decide +kernel
theorem dX11_sun_12 : decode cX11_sun 12 = .ok (.ireturn, 1) := by decide +kernel
theorem dX11_sun_13 : decode cX11_sun 13 = .ok (.iload_n 2, 1) := by decide +kernel
theorem dX11_sun_14 : decode cX11_sun 14 = .ok (.lookupswitch 50 #[(0, 26), (1, 38)], 26) := by decide +kernel
theorem dX11_sun_40 : decode cX11_sun 40 = .ok (.aload_n 0, 1) := by decide +kernel
theorem dX11_sun_41 : decode cX11_sun 41 = .ok (.getfield 19, 3) := by decide +kernel
theorem dX11_sun_44 : decode cX11_sun 44 = .ok (.getfield 183, 3) := by decide +kernel
theorem dX11_sun_47 : decode cX11_sun 47 = .ok (.iload_n 1, 1) := by decide +kernel
theorem dX11_sun_48 : decode cX11_sun 48 = .ok (.invokevirtual 187, 3) := by decide +kernel
theorem dX11_sun_51 : decode cX11_sun 51 = .ok (.ireturn, 1) := by decide +kernel
theorem dX11_sun_52 : decode cX11_sun 52 = .ok (.aload_n 0, 1) := by decide +kernel
theorem dX11_sun_53 : decode cX11_sun 53 = .ok (.getfield 19, 3) := by decide +kernel
theorem dX11_sun_56 : decode cX11_sun 56 = .ok (.getfield 183, 3) := by decide +kernel
theorem dX11_sun_59 : decode cX11_sun 59 = .ok (.iload_n 1, 1) := by decide +kernel
theorem dX11_sun_60 : decode cX11_sun 60 = .ok (.invokevirtual 192, 3) := by decide +kernel
theorem dX11_sun_63 : decode cX11_sun 63 = .ok (.ireturn, 1) := by decide +kernel
theorem dX11_sun_64 : decode cX11_sun 64 = .ok (.bipush (-3), 2) := by decide +kernel
theorem dX11_sun_66 : decode cX11_sun 66 = .ok (.ireturn, 1) := by decide +kernel
theorem dX11_point_0 : decode cX11_point 0 = .ok (.aload_n 0, 1) := by decide +kernel
theorem dX11_point_1 : decode cX11_point 1 = .ok (.iload_n 1, 1) := by decide +kernel
theorem dX11_point_2 : decode cX11_point 2 = .ok (.iconst 0, 1) := by decide +kernel
theorem dX11_point_3 : decode cX11_point 3 = .ok (.iload_n 2, 1) := by decide +kernel
theorem dX11_point_4 : decode cX11_point 4 = .ok (.iload_n 3, 1) := by decide +kernel
theorem dX11_point_5 : decode cX11_point 5 = .ok (.invokevirtual 195, 3) := by decide +kernel
theorem dX11_point_8 : decode cX11_point 8 = .ok (.ireturn, 1) := by decide +kernel
theorem dX11_length_0 : decode cX11_length 0 = .ok (.aload_n 0, 1) := by decide +kernel
theorem dX11_length_1 : decode cX11_length 1 = .ok (.iload_n 1, 1) := by decide +kernel
theorem dX11_length_2 : decode cX11_length 2 = .ok (.iconst 1, 1) := by decide +kernel
theorem dX11_length_3 : decode cX11_length 3 = .ok (.iload_n 2, 1) := by decide +kernel
theorem dX11_length_4 : decode cX11_length 4 = .ok (.iload_n 3, 1) := by decide +kernel
theorem dX11_length_5 : decode cX11_length 5 = .ok (.invokevirtual 195, 3) := by decide +kernel
theorem dX11_length_8 : decode cX11_length 8 = .ok (.ireturn, 1) := by decide +kernel
theorem dX11_see_0 : decode cX11_see 0 = .ok (.aload_n 0, 1) := by decide +kernel
theorem dX11_see_1 : decode cX11_see 1 = .ok (.getfield 19, 3) := by decide +kernel
theorem dX11_see_4 : decode cX11_see 4 = .ok (.iload_n 2, 1) := by decide +kernel
theorem dX11_see_5 : decode cX11_see 5 = .ok (.invokevirtual 155, 3) := by decide +kernel
theorem dX11_see_8 : decode cX11_see 8 = .ok (.ifCond .ne 6, 3) := by decide +kernel
theorem dX11_see_11 : decode cX11_see 11 = .ok (.bipush (-2), 2) := by decide +kernel
theorem dX11_see_13 : decode cX11_see 13 = .ok (.ireturn, 1) := by decide +kernel
theorem dX11_see_14 : decode cX11_see 14 = .ok (.aload_n 0, 1) := by decide +kernel
theorem dX11_see_15 : decode cX11_see 15 = .ok (.iload_n 1, 1) := by decide +kernel
theorem dX11_see_16 : decode cX11_see 16 = .ok (.iconst 2, 1) := by decide +kernel
theorem dX11_see_17 : decode cX11_see 17 = .ok (.iload_n 2, 1) := by decide +kernel
theorem dX11_see_18 : decode cX11_see 18 = .ok (.iadd, 1) := by decide +kernel
theorem dX11_see_19 : decode cX11_see 19 = .ok (.iload_n 3, 1) := by decide +kernel
theorem dX11_see_20 : decode cX11_see 20 = .ok (.iconst 0, 1) := by decide +kernel
theorem dX11_see_21 : decode cX11_see 21 = .ok (.invokevirtual 195, 3) := by decide +kernel
theorem dX11_see_24 : decode cX11_see 24 = .ok (.ireturn, 1) := by decide +kernel
theorem dX11_tell_0 : decode cX11_tell 0 = .ok (.aload_n 0, 1) := by decide +kernel
theorem dX11_tell_1 : decode cX11_tell 1 = .ok (.getfield 19, 3) := by decide +kernel
theorem dX11_tell_4 : decode cX11_tell 4 = .ok (.iload_n 1, 1) := by decide +kernel
theorem dX11_tell_5 : decode cX11_tell 5 = .ok (.invokevirtual 113, 3) := by decide +kernel
theorem dX11_tell_8 : decode cX11_tell 8 = .ok (.ifCond .ne 6, 3) := by decide +kernel
theorem dX11_tell_11 : decode cX11_tell 11 = .ok (.bipush (-2), 2) := by decide +kernel
theorem dX11_tell_13 : decode cX11_tell 13 = .ok (.ireturn, 1) := by decide +kernel
theorem dX11_tell_14 : decode cX11_tell 14 = .ok (.aload_n 0, 1) := by decide +kernel
theorem dX11_tell_15 : decode cX11_tell 15 = .ok (.getfield 19, 3) := by decide +kernel
theorem dX11_tell_18 : decode cX11_tell 18 = .ok (.iload_n 2, 1) := by decide +kernel
theorem dX11_tell_19 : decode cX11_tell 19 = .ok (.iload_n 3, 1) := by decide +kernel
theorem dX11_tell_20 : decode cX11_tell 20 = .ok (.invokevirtual 199, 3) := by decide +kernel
theorem dX11_tell_23 : decode cX11_tell 23 = .ok (.ifCond .eq 17, 3) := by decide +kernel
theorem dX11_tell_26 : decode cX11_tell 26 = .ok (.iload 4, 2) := by decide +kernel
theorem dX11_tell_28 : decode cX11_tell 28 = .ok (.ifCond .lt 12, 3) := by decide +kernel
theorem dX11_tell_31 : decode cX11_tell 31 = .ok (.iload 4, 2) := by decide +kernel
theorem dX11_tell_33 : decode cX11_tell 33 = .ok (.iload_n 2, 1) := by decide +kernel
theorem dX11_tell_34 : decode cX11_tell 34 = .ok (.invokestatic 203, 3) := by decide +kernel
theorem dX11_tell_37 : decode cX11_tell 37 = .ok (.if_icmp .le 6, 3) := by decide +kernel
theorem dX11_tell_40 : decode cX11_tell 40 = .ok (.bipush (-3), 2) := by decide +kernel
theorem dX11_tell_42 : decode cX11_tell 42 = .ok (.ireturn, 1) := by decide +kernel
theorem dX11_tell_43 : decode cX11_tell 43 = .ok (.aload_n 0, 1) := by decide +kernel
theorem dX11_tell_44 : decode cX11_tell 44 = .ok (.getfield 35, 3) := by decide +kernel
theorem dX11_tell_47 : decode cX11_tell 47 = .ok (.aload_n 0, 1) := by decide +kernel
theorem dX11_tell_48 : decode cX11_tell 48 = .ok (.getfield 19, 3) := by decide +kernel
theorem dX11_tell_51 : decode cX11_tell 51 = .ok (.getfield 119, 3) := by decide +kernel
theorem dX11_tell_54 : decode cX11_tell 54 = .ok (.invokevirtual 206, 3) := by decide +kernel
theorem dX11_tell_57 : decode cX11_tell 57 = .ok (.aload_n 0, 1) := by decide +kernel
theorem dX11_tell_58 : decode cX11_tell 58 = .ok (.getfield 19, 3) := by decide +kernel
theorem dX11_tell_61 : decode cX11_tell 61 = .ok (.getfield 119, 3) := by decide +kernel
theorem dX11_tell_64 : decode cX11_tell 64 = .ok (.iload_n 1, 1) := by decide +kernel
theorem dX11_tell_65 : decode cX11_tell 65 = .ok (.iload_n 2, 1) := by decide +kernel
theorem dX11_tell_66 : decode cX11_tell 66 = .ok (.iload_n 3, 1) := by decide +kernel
theorem dX11_tell_67 : decode cX11_tell 67 = .ok (.iload 4, 2) := by decide +kernel
theorem dX11_tell_69 : decode cX11_tell 69 = .ok (.invokevirtual 210, 3) := by decide +kernel
theorem dX11_tell_72 : decode cX11_tell 72 = .ok (.aload_n 0, 1) := by decide +kernel
theorem dX11_tell_73 : decode cX11_tell 73 = .ok (.invokevirtual 100, 3) := by decide +kernel
theorem dX11_tell_76 : decode cX11_tell 76 = .ok (.aload_n 0, 1) := by decide +kernel
theorem dX11_tell_77 : decode cX11_tell 77 = .ok (.getfield 19, 3) := by decide +kernel
theorem dX11_tell_80 : decode cX11_tell 80 = .ok (.getfield 119, 3) := by decide +kernel
theorem dX11_tell_83 : decode cX11_tell 83 = .ok (.getfield 214, 3) := by decide +kernel
theorem dX11_tell_86 : decode cX11_tell 86 = .ok (.ireturn, 1) := by decide +kernel
theorem dX11_strike_0 : decode cX11_strike 0 = .ok (.aload_n 0, 1) := by decide +kernel
theorem dX11_strike_1 : decode cX11_strike 1 = .ok (.getfield 19, 3) := by decide +kernel
theorem dX11_strike_4 : decode cX11_strike 4 = .ok (.iload_n 1, 1) := by decide +kernel
theorem dX11_strike_5 : decode cX11_strike 5 = .ok (.invokevirtual 113, 3) := by decide +kernel
theorem dX11_strike_8 : decode cX11_strike 8 = .ok (.ifCond .ne 6, 3) := by decide +kernel
theorem dX11_strike_11 : decode cX11_strike 11 = .ok (.bipush (-2), 2) := by decide +kernel
theorem dX11_strike_13 : decode cX11_strike 13 = .ok (.ireturn, 1) := by decide +kernel
theorem dX11_strike_14 : decode cX11_strike 14 = .ok (.aload_n 0, 1) := by decide +kernel
theorem dX11_strike_15 : decode cX11_strike 15 = .ok (.getfield 19, 3) := by decide +kernel
theorem dX11_strike_18 : decode cX11_strike 18 = .ok (.iload_n 2, 1) := by decide +kernel
theorem dX11_strike_19 : decode cX11_strike 19 = .ok (.invokevirtual 165, 3) := by decide +kernel
theorem dX11_strike_22 : decode cX11_strike 22 = .ok (.ifCond .ne 6, 3) := by decide +kernel
theorem dX11_strike_25 : decode cX11_strike 25 = .ok (.bipush (-3), 2) := by decide +kernel
theorem dX11_strike_27 : decode cX11_strike 27 = .ok (.ireturn, 1) := by decide +kernel
theorem dX11_strike_28 : decode cX11_strike 28 = .ok (.aload_n 0, 1) := by decide +kernel
theorem dX11_strike_29 : decode cX11_strike 29 = .ok (.getfield 19, 3) := by decide +kernel
theorem dX11_strike_32 : decode cX11_strike 32 = .ok (.getfield 119, 3) := by decide +kernel
theorem dX11_strike_35 : decode cX11_strike 35 = .ok (.iload_n 1, 1) := by decide +kernel
theorem dX11_strike_36 : decode cX11_strike 36 = .ok (.iload_n 2, 1) := by decide +kernel
theorem dX11_strike_37 : decode cX11_strike 37 = .ok (.invokevirtual 174, 3) := by decide +kernel
theorem dX11_strike_40 : decode cX11_strike 40 = .ok (.iconst (-1), 1) := by decide +kernel
theorem dX11_strike_41 : decode cX11_strike 41 = .ok (.if_icmp .ne 6, 3) := by decide +kernel
theorem dX11_strike_44 : decode cX11_strike 44 = .ok (.bipush (-4), 2) := by decide +kernel
theorem dX11_strike_46 : decode cX11_strike 46 = .ok (.ireturn, 1) := by decide +kernel
theorem dX11_strike_47 : decode cX11_strike 47 = .ok (.aload_n 0, 1) := by decide +kernel
theorem dX11_strike_48 : decode cX11_strike 48 = .ok (.getfield 35, 3) := by decide +kernel
theorem dX11_strike_51 : decode cX11_strike 51 = .ok (.aload_n 0, 1) := by decide +kernel
theorem dX11_strike_52 : decode cX11_strike 52 = .ok (.getfield 19, 3) := by decide +kernel
theorem dX11_strike_55 : decode cX11_strike 55 = .ok (.getfield 119, 3) := by decide +kernel
theorem dX11_strike_58 : decode cX11_strike 58 = .ok (.invokevirtual 206, 3) := by decide +kernel
theorem dX11_strike_61 : decode cX11_strike 61 = .ok (.aload_n 0, 1) := by decide +kernel
theorem dX11_strike_62 : decode cX11_strike 62 = .ok (.getfield 19, 3) := by decide +kernel
theorem dX11_strike_65 : decode cX11_strike 65 = .ok (.getfield 119, 3) := by decide +kernel
theorem dX11_strike_68 : decode cX11_strike 68 = .ok (.iload_n 1, 1) := by decide +kernel
theorem dX11_strike_69 : decode cX11_strike 69 = .ok (.iload_n 2, 1) := by decide +kernel
theorem dX11_strike_70 : decode cX11_strike 70 = .ok (.invokevirtual 215, 3) := by decide +kernel
theorem dX11_strike_73 : decode cX11_strike 73 = .ok (.aload_n 0, 1) := by decide +kernel
theorem dX11_strike_74 : decode cX11_strike 74 = .ok (.invokevirtual 100, 3) := by decide +kernel
theorem dX11_strike_77 : decode cX11_strike 77 = .ok (.aload_n 0, 1) := by decide +kernel
theorem dX11_strike_78 : decode cX11_strike 78 = .ok (.getfield 19, 3) := by decide +kernel
theorem dX11_strike_81 : decode cX11_strike 81 = .ok (.getfield 119, 3) := by decide +kernel
theorem dX11_strike_84 : decode cX11_strike 84 = .ok (.getfield 214, 3) := by decide +kernel
theorem dX11_strike_87 : decode cX11_strike 87 = .ok (.ireturn, 1) := by decide +kernel
theorem dX11_undo_0 : decode cX11_undo 0 = .ok (.aload_n 0, 1) := by decide +kernel
theorem dX11_undo_1 : decode cX11_undo 1 = .ok (.getfield 35, 3) := by decide +kernel
theorem dX11_undo_4 : decode cX11_undo 4 = .ok (.aload_n 0, 1) := by decide +kernel
theorem dX11_undo_5 : decode cX11_undo 5 = .ok (.getfield 19, 3) := by decide +kernel
theorem dX11_undo_8 : decode cX11_undo 8 = .ok (.getfield 119, 3) := by decide +kernel
theorem dX11_undo_11 : decode cX11_undo 11 = .ok (.invokevirtual 219, 3) := by decide +kernel
theorem dX11_undo_14 : decode cX11_undo 14 = .ok (.ifCond .ne 6, 3) := by decide +kernel
theorem dX11_undo_17 : decode cX11_undo 17 = .ok (.bipush (-4), 2) := by decide +kernel
theorem dX11_undo_19 : decode cX11_undo 19 = .ok (.ireturn, 1) := by decide +kernel
theorem dX11_undo_20 : decode cX11_undo 20 = .ok (.aload_n 0, 1) := by decide +kernel
theorem dX11_undo_21 : decode cX11_undo 21 = .ok (.invokevirtual 100, 3) := by decide +kernel
theorem dX11_undo_24 : decode cX11_undo 24 = .ok (.aload_n 0, 1) := by decide +kernel
theorem dX11_undo_25 : decode cX11_undo 25 = .ok (.getfield 35, 3) := by decide +kernel
theorem dX11_undo_28 : decode cX11_undo 28 = .ok (.getfield 223, 3) := by decide +kernel
theorem dX11_undo_31 : decode cX11_undo 31 = .ok (.ireturn, 1) := by decide +kernel
theorem dX11_keep_0 : decode cX11_keep 0 = .ok (.iload_n 1, 1) := by decide +kernel
theorem dX11_keep_1 : decode cX11_keep 1 = .ok (.ifCond .lt 8, 3) := by decide +kernel
theorem dX11_keep_4 : decode cX11_keep 4 = .ok (.iload_n 1, 1) := by decide +kernel
theorem dX11_keep_5 : decode cX11_keep 5 = .ok (.iconst 2, 1) := by decide +kernel
theorem dX11_keep_6 : decode cX11_keep 6 = .ok (.if_icmp .lt 6, 3) := by decide +kernel
theorem dX11_keep_9 : decode cX11_keep 9 = .ok (.bipush (-2), 2) := by decide +kernel
theorem dX11_keep_11 : decode cX11_keep 11 = .ok (.ireturn, 1) := by decide +kernel
theorem dX11_keep_12 : decode cX11_keep 12 = .ok (.aload_n 0, 1) := by decide +kernel
theorem dX11_keep_13 : decode cX11_keep 13 = .ok (.getfield 35, 3) := by decide +kernel
theorem dX11_keep_16 : decode cX11_keep 16 = .ok (.iload_n 1, 1) := by decide +kernel
theorem dX11_keep_17 : decode cX11_keep 17 = .ok (.aload_n 0, 1) := by decide +kernel
theorem dX11_keep_18 : decode cX11_keep 18 = .ok (.getfield 19, 3) := by decide +kernel
theorem dX11_keep_21 : decode cX11_keep 21 = .ok (.getfield 119, 3) := by decide +kernel
theorem dX11_keep_24 : decode cX11_keep 24 = .ok (.invokevirtual 224, 3) := by decide +kernel
theorem dX11_keep_27 : decode cX11_keep 27 = .ok (.aload_n 0, 1) := by decide +kernel
theorem dX11_keep_28 : decode cX11_keep 28 = .ok (.getfield 19, 3) := by decide +kernel
theorem dX11_keep_31 : decode cX11_keep 31 = .ok (.getfield 119, 3) := by decide +kernel
theorem dX11_keep_34 : decode cX11_keep 34 = .ok (.getfield 214, 3) := by decide +kernel
theorem dX11_keep_37 : decode cX11_keep 37 = .ok (.ireturn, 1) := by decide +kernel
theorem dX11_back_0 : decode cX11_back 0 = .ok (.iload_n 1, 1) := by decide +kernel
theorem dX11_back_1 : decode cX11_back 1 = .ok (.ifCond .lt 8, 3) := by decide +kernel
theorem dX11_back_4 : decode cX11_back 4 = .ok (.iload_n 1, 1) := by decide +kernel
theorem dX11_back_5 : decode cX11_back 5 = .ok (.iconst 2, 1) := by decide +kernel
theorem dX11_back_6 : decode cX11_back 6 = .ok (.if_icmp .lt 6, 3) := by decide +kernel
theorem dX11_back_9 : decode cX11_back 9 = .ok (.bipush (-2), 2) := by decide +kernel
theorem dX11_back_11 : decode cX11_back 11 = .ok (.ireturn, 1) := by decide +kernel
theorem dX11_back_12 : decode cX11_back 12 = .ok (.aload_n 0, 1) := by decide +kernel
theorem dX11_back_13 : decode cX11_back 13 = .ok (.getfield 35, 3) := by decide +kernel
theorem dX11_back_16 : decode cX11_back 16 = .ok (.iload_n 1, 1) := by decide +kernel
theorem dX11_back_17 : decode cX11_back 17 = .ok (.aload_n 0, 1) := by decide +kernel
theorem dX11_back_18 : decode cX11_back 18 = .ok (.getfield 19, 3) := by decide +kernel
theorem dX11_back_21 : decode cX11_back 21 = .ok (.getfield 119, 3) := by decide +kernel
theorem dX11_back_24 : decode cX11_back 24 = .ok (.invokevirtual 228, 3) := by decide +kernel
theorem dX11_back_27 : decode cX11_back 27 = .ok (.ifCond .ne 6, 3) := by decide +kernel
theorem dX11_back_30 : decode cX11_back 30 = .ok (.bipush (-4), 2) := by decide +kernel
theorem dX11_back_32 : decode cX11_back 32 = .ok (.ireturn, 1) := by decide +kernel
theorem dX11_back_33 : decode cX11_back 33 = .ok (.aload_n 0, 1) := by decide +kernel
theorem dX11_back_34 : decode cX11_back 34 = .ok (.invokevirtual 100, 3) := by decide +kernel
theorem dX11_back_37 : decode cX11_back 37 = .ok (.aload_n 0, 1) := by decide +kernel
theorem dX11_back_38 : decode cX11_back 38 = .ok (.getfield 19, 3) := by decide +kernel
theorem dX11_back_41 : decode cX11_back 41 = .ok (.getfield 119, 3) := by decide +kernel
theorem dX11_back_44 : decode cX11_back 44 = .ok (.getfield 214, 3) := by decide +kernel
theorem dX11_back_47 : decode cX11_back 47 = .ok (.ireturn, 1) := by decide +kernel
theorem dX11_before_0 : decode cX11_before 0 = .ok (.aload_n 0, 1) := by decide +kernel
theorem dX11_before_1 : decode cX11_before 1 = .ok (.iload_n 1, 1) := by decide +kernel
theorem dX11_before_2 : decode cX11_before 2 = .ok (.iload_n 2, 1) := by decide +kernel
theorem dX11_before_3 : decode cX11_before 3 = .ok (.invokevirtual 232, 3) := by decide +kernel
theorem dX11_before_6 : decode cX11_before 6 = .ok (.ifCond .ne 6, 3) := by decide +kernel
theorem dX11_before_9 : decode cX11_before 9 = .ok (.bipush (-2), 2) := by decide +kernel
theorem dX11_before_11 : decode cX11_before 11 = .ok (.ireturn, 1) := by decide +kernel
theorem dX11_before_12 : decode cX11_before 12 = .ok (.aload_n 0, 1) := by decide +kernel
theorem dX11_before_13 : decode cX11_before 13 = .ok (.invokevirtual 128, 3) := by decide +kernel
theorem dX11_before_16 : decode cX11_before 16 = .ok (.iload_n 2, 1) := by decide +kernel
theorem dX11_before_17 : decode cX11_before 17 = .ok (.invokevirtual 148, 3) := by decide +kernel
theorem dX11_before_20 : decode cX11_before 20 = .ok (.iload_n 1, 1) := by decide +kernel
theorem dX11_before_21 : decode cX11_before 21 = .ok (.invokestatic 235, 3) := by decide +kernel
theorem dX11_before_24 : decode cX11_before 24 = .ok (.ifCond .eq 7, 3) := by decide +kernel
theorem dX11_before_27 : decode cX11_before 27 = .ok (.iconst 1, 1) := by decide +kernel
theorem dX11_before_28 : decode cX11_before 28 = .ok (.goto 4, 3) := by decide +kernel
theorem dX11_before_31 : decode cX11_before 31 = .ok (.iconst 0, 1) := by decide +kernel
theorem dX11_before_32 : decode cX11_before 32 = .ok (.ireturn, 1) := by decide +kernel
theorem dX11_orders_0 : decode cX11_orders 0 = .ok (.aload_n 0, 1) := by decide +kernel
theorem dX11_orders_1 : decode cX11_orders 1 = .ok (.invokevirtual 238, 3) := by decide +kernel
theorem dX11_orders_4 : decode cX11_orders 4 = .ok (.getfield 242, 3) := by decide +kernel
theorem dX11_orders_7 : decode cX11_orders 7 = .ok (.ireturn, 1) := by decide +kernel
theorem dX11_order_0 : decode cX11_order 0 = .ok (.iload_n 1, 1) := by decide +kernel
theorem dX11_order_1 : decode cX11_order 1 = .ok (.ifCond .lt 7, 3) := by decide +kernel
theorem dX11_order_4 : decode cX11_order 4 = .ok (.iload_n 2, 1) := by decide +kernel
theorem dX11_order_5 : decode cX11_order 5 = .ok (.ifCond .ge 6, 3) := by decide +kernel
theorem dX11_order_8 : decode cX11_order 8 = .ok (.bipush (-3), 2) := by decide +kernel
theorem dX11_order_10 : decode cX11_order 10 = .ok (.ireturn, 1) := by decide +kernel
theorem dX11_order_11 : decode cX11_order 11 = .ok (.aload_n 0, 1) := by decide +kernel
theorem dX11_order_12 : decode cX11_order 12 = .ok (.invokevirtual 238, 3) := by decide +kernel
theorem dX11_order_15 : decode cX11_order 15 = .ok (.iload_n 1, 1) := by decide +kernel
theorem dX11_order_16 : decode cX11_order 16 = .ok (.iload_n 2, 1) := by decide +kernel
theorem dX11_order_17 : decode cX11_order 17 = .ok (.invokevirtual 245, 3) := by decide +kernel
theorem dX11_order_20 : decode cX11_order 20 = .ok (.ireturn, 1) := by decide +kernel
theorem dX11_place_0 : decode cX11_place 0 = .ok (.aload_n 0, 1) := by decide +kernel
theorem dX11_place_1 : decode cX11_place 1 = .ok (.getfield 19, 3) := by decide +kernel
theorem dX11_place_4 : decode cX11_place 4 = .ok (.iload_n 1, 1) := by decide +kernel
theorem dX11_place_5 : decode cX11_place 5 = .ok (.invokevirtual 113, 3) := by decide +kernel
theorem dX11_place_8 : decode cX11_place 8 = .ok (.ifCond .ne 6, 3) := by decide +kernel
theorem dX11_place_11 : decode cX11_place 11 = .ok (.bipush (-2), 2) := by decide +kernel
theorem dX11_place_13 : decode cX11_place 13 = .ok (.ireturn, 1) := by decide +kernel
theorem dX11_place_14 : decode cX11_place 14 = .ok (.iload_n 2, 1) := by decide +kernel
theorem dX11_place_15 : decode cX11_place 15 = .ok (.ifCond .lt 8, 3) := by decide +kernel
theorem dX11_place_18 : decode cX11_place 18 = .ok (.iload_n 2, 1) := by decide +kernel
theorem dX11_place_19 : decode cX11_place 19 = .ok (.iconst 1, 1) := by decide +kernel
theorem dX11_place_20 : decode cX11_place 20 = .ok (.if_icmp .le 6, 3) := by decide +kernel
theorem dX11_place_23 : decode cX11_place 23 = .ok (.bipush (-3), 2) := by decide +kernel
theorem dX11_place_25 : decode cX11_place 25 = .ok (.ireturn, 1) := by decide +kernel
theorem dX11_place_26 : decode cX11_place 26 = .ok (.aload_n 0, 1) := by decide +kernel
theorem dX11_place_27 : decode cX11_place 27 = .ok (.invokevirtual 248, 3) := by decide +kernel
theorem dX11_place_30 : decode cX11_place 30 = .ok (.iload_n 1, 1) := by decide +kernel
theorem dX11_place_31 : decode cX11_place 31 = .ok (.invokevirtual 252, 3) := by decide +kernel
theorem dX11_place_34 : decode cX11_place 34 = .ok (.istore_n 3, 1) := by decide +kernel
theorem dX11_place_35 : decode cX11_place 35 = .ok (.iload_n 3, 1) := by decide +kernel
theorem dX11_place_36 : decode cX11_place 36 = .ok (.ifCond .ne 6, 3) := by decide +kernel
theorem dX11_place_39 : decode cX11_place 39 = .ok (.bipush (-4), 2) := by decide +kernel
theorem dX11_place_41 : decode cX11_place 41 = .ok (.ireturn, 1) := by decide +kernel
theorem dX11_place_42 : decode cX11_place 42 = .ok (.iload_n 2, 1) := by decide +kernel
theorem dX11_place_43 : decode cX11_place 43 = .ok (.ifCond .ne 11, 3) := by decide +kernel
theorem dX11_place_46 : decode cX11_place 46 = .ok (.iload_n 3, 1) := by decide +kernel
theorem dX11_place_47 : decode cX11_place 47 = .ok (.i2l, 1) := by decide +kernel
theorem dX11_place_48 : decode cX11_place 48 = .ok (.invokestatic 142, 3) := by decide +kernel
theorem dX11_place_51 : decode cX11_place 51 = .ok (.goto 8, 3) := by decide +kernel
theorem dX11_place_54 : decode cX11_place 54 = .ok (.iload_n 3, 1) := by decide +kernel
theorem dX11_place_55 : decode cX11_place 55 = .ok (.i2l, 1) := by decide +kernel
theorem dX11_place_56 : decode cX11_place 56 = .ok (.invokestatic 145, 3) := by decide +kernel
theorem dX11_place_59 : decode cX11_place 59 = .ok (.ireturn, 1) := by decide +kernel
theorem dX11_often_0 : decode cX11_often 0 = .ok (.aload_n 0, 1) := by decide +kernel
theorem dX11_often_1 : decode cX11_often 1 = .ok (.iload_n 1, 1) := by decide +kernel
theorem dX11_often_2 : decode cX11_often 2 = .ok (.iload_n 2, 1) := by decide +kernel
theorem dX11_often_3 : decode cX11_often 3 = .ok (.invokevirtual 232, 3) := by decide +kernel
theorem dX11_often_6 : decode cX11_often 6 = .ok (.ifCond .ne 6, 3) := by decide +kernel
theorem dX11_often_9 : decode cX11_often 9 = .ok (.bipush (-2), 2) := by decide +kernel
theorem dX11_often_11 : decode cX11_often 11 = .ok (.ireturn, 1) := by decide +kernel
theorem dX11_often_12 : decode cX11_often 12 = .ok (.aload_n 0, 1) := by decide +kernel
theorem dX11_often_13 : decode cX11_often 13 = .ok (.getfield 63, 3) := by decide +kernel
theorem dX11_often_16 : decode cX11_often 16 = .ok (.aload_n 0, 1) := by decide +kernel
theorem dX11_often_17 : decode cX11_often 17 = .ok (.invokevirtual 128, 3) := by decide +kernel
theorem dX11_often_20 : decode cX11_often 20 = .ok (.iload_n 1, 1) := by decide +kernel
theorem dX11_often_21 : decode cX11_often 21 = .ok (.iload_n 2, 1) := by decide +kernel
theorem dX11_often_22 : decode cX11_often 22 = .ok (.invokevirtual 255, 3) := by decide +kernel
theorem dX11_often_25 : decode cX11_often 25 = .ok (.ireturn, 1) := by decide +kernel
theorem dX11_left_0 : decode cX11_left 0 = .ok (.aload_n 0, 1) := by decide +kernel
theorem dX11_left_1 : decode cX11_left 1 = .ok (.getfield 19, 3) := by decide +kernel
theorem dX11_left_4 : decode cX11_left 4 = .ok (.iload_n 1, 1) := by decide +kernel
theorem dX11_left_5 : decode cX11_left 5 = .ok (.invokevirtual 113, 3) := by decide +kernel
theorem dX11_left_8 : decode cX11_left 8 = .ok (.ifCond .ne 6, 3) := by decide +kernel
theorem dX11_left_11 : decode cX11_left 11 = .ok (.bipush (-2), 2) := by decide +kernel
theorem dX11_left_13 : decode cX11_left 13 = .ok (.ireturn, 1) := by decide +kernel
theorem dX11_left_14 : decode cX11_left 14 = .ok (.iload_n 2, 1) := by decide +kernel
theorem dX11_left_15 : decode cX11_left 15 = .ok (.tableswitch 61 0 2 #[25, 37, 49], 25) := by decide +kernel
theorem dX11_left_40 : decode cX11_left 40 = .ok (.aload_n 0, 1) := by decide +kernel
theorem dX11_left_41 : decode cX11_left 41 = .ok (.invokevirtual 248, 3) := by decide +kernel
theorem dX11_left_44 : decode cX11_left 44 = .ok (.iload_n 1, 1) := by decide +kernel
theorem dX11_left_45 : decode cX11_left 45 = .ok (.invokevirtual 259, 3) := by decide +kernel
theorem dX11_left_48 : decode cX11_left 48 = .ok (.invokestatic 136, 3) := by decide +kernel
theorem dX11_left_51 : decode cX11_left 51 = .ok (.ireturn, 1) := by decide +kernel
theorem dX11_left_52 : decode cX11_left 52 = .ok (.aload_n 0, 1) := by decide +kernel
theorem dX11_left_53 : decode cX11_left 53 = .ok (.invokevirtual 248, 3) := by decide +kernel
theorem dX11_left_56 : decode cX11_left 56 = .ok (.iload_n 1, 1) := by decide +kernel
theorem dX11_left_57 : decode cX11_left 57 = .ok (.invokevirtual 259, 3) := by decide +kernel
theorem dX11_left_60 : decode cX11_left 60 = .ok (.invokestatic 142, 3) := by decide +kernel
theorem dX11_left_63 : decode cX11_left 63 = .ok (.ireturn, 1) := by decide +kernel
theorem dX11_left_64 : decode cX11_left 64 = .ok (.aload_n 0, 1) := by decide +kernel
theorem dX11_left_65 : decode cX11_left 65 = .ok (.invokevirtual 248, 3) := by decide +kernel
theorem dX11_left_68 : decode cX11_left 68 = .ok (.iload_n 1, 1) := by decide +kernel
theorem dX11_left_69 : decode cX11_left 69 = .ok (.invokevirtual 259, 3) := by decide +kernel
theorem dX11_left_72 : decode cX11_left 72 = .ok (.invokestatic 145, 3) := by decide +kernel
theorem dX11_left_75 : decode cX11_left 75 = .ok (.ireturn, 1) := by decide +kernel
theorem dX11_left_76 : decode cX11_left 76 = .ok (.bipush (-3), 2) := by decide +kernel
theorem dX11_left_78 : decode cX11_left 78 = .ok (.ireturn, 1) := by decide +kernel
theorem dX11_knot_0 : decode cX11_knot 0 = .ok (.iload_n 1, 1) := by decide +kernel
theorem dX11_knot_1 : decode cX11_knot 1 = .ok (.ifCond .lt 8, 3) := by decide +kernel
theorem dX11_knot_4 : decode cX11_knot 4 = .ok (.iload_n 1, 1) := by decide +kernel
theorem dX11_knot_5 : decode cX11_knot 5 = .ok (.iconst 1, 1) := by decide +kernel
theorem dX11_knot_6 : decode cX11_knot 6 = .ok (.if_icmp .le 6, 3) := by decide +kernel
theorem dX11_knot_9 : decode cX11_knot 9 = .ok (.bipush (-3), 2) := by decide +kernel
theorem dX11_knot_11 : decode cX11_knot 11 = .ok (.ireturn, 1) := by decide +kernel
theorem dX11_knot_12 : decode cX11_knot 12 = .ok (.aload_n 0, 1) := by decide +kernel
theorem dX11_knot_13 : decode cX11_knot 13 = .ok (.getfield 63, 3) := by decide +kernel
theorem dX11_knot_16 : decode cX11_knot 16 = .ok (.aload_n 0, 1) := by decide +kernel
theorem dX11_knot_17 : decode cX11_knot 17 = .ok (.invokevirtual 128, 3) := by decide +kernel
theorem dX11_knot_20 : decode cX11_knot 20 = .ok (.invokevirtual 262, 3) := by decide +kernel
theorem dX11_knot_23 : decode cX11_knot 23 = .ok (.istore_n 2, 1) := by decide +kernel
theorem dX11_knot_24 : decode cX11_knot 24 = .ok (.iload_n 2, 1) := by decide +kernel
theorem dX11_knot_25 : decode cX11_knot 25 = .ok (.iconst (-1), 1) := by decide +kernel
theorem dX11_knot_26 : decode cX11_knot 26 = .ok (.if_icmp .ne 5, 3) := by decide +kernel
theorem dX11_knot_29 : decode cX11_knot 29 = .ok (.iconst (-1), 1) := by decide +kernel
theorem dX11_knot_30 : decode cX11_knot 30 = .ok (.ireturn, 1) := by decide +kernel
theorem dX11_knot_31 : decode cX11_knot 31 = .ok (.iload_n 1, 1) := by decide +kernel
theorem dX11_knot_32 : decode cX11_knot 32 = .ok (.ifCond .ne 7, 3) := by decide +kernel
theorem dX11_knot_35 : decode cX11_knot 35 = .ok (.iload_n 2, 1) := by decide +kernel
theorem dX11_knot_36 : decode cX11_knot 36 = .ok (.goto 7, 3) := by decide +kernel
theorem dX11_knot_39 : decode cX11_knot 39 = .ok (.iload_n 2, 1) := by decide +kernel
theorem dX11_knot_40 : decode cX11_knot 40 = .ok (.invokestatic 151, 3) := by decide +kernel
theorem dX11_knot_43 : decode cX11_knot 43 = .ok (.ireturn, 1) := by decide +kernel
theorem dX11_loose_0 : decode cX11_loose 0 = .ok (.iload_n 1, 1) := by decide +kernel
theorem dX11_loose_1 : decode cX11_loose 1 = .ok (.iconst (-1), 1) := by decide +kernel
theorem dX11_loose_2 : decode cX11_loose 2 = .ok (.if_icmp .ge 6, 3) := by decide +kernel
theorem dX11_loose_5 : decode cX11_loose 5 = .ok (.bipush (-3), 2) := by decide +kernel
theorem dX11_loose_7 : decode cX11_loose 7 = .ok (.ireturn, 1) := by decide +kernel
theorem dX11_loose_8 : decode cX11_loose 8 = .ok (.aload_n 0, 1) := by decide +kernel
theorem dX11_loose_9 : decode cX11_loose 9 = .ok (.getfield 63, 3) := by decide +kernel
theorem dX11_loose_12 : decode cX11_loose 12 = .ok (.aload_n 0, 1) := by decide +kernel
theorem dX11_loose_13 : decode cX11_loose 13 = .ok (.getfield 19, 3) := by decide +kernel
theorem dX11_loose_16 : decode cX11_loose 16 = .ok (.aload_n 0, 1) := by decide +kernel
theorem dX11_loose_17 : decode cX11_loose 17 = .ok (.invokevirtual 128, 3) := by decide +kernel
theorem dX11_loose_20 : decode cX11_loose 20 = .ok (.invokevirtual 266, 3) := by decide +kernel
theorem dX11_loose_23 : decode cX11_loose 23 = .ok (.iload_n 1, 1) := by decide +kernel
theorem dX11_loose_24 : decode cX11_loose 24 = .ok (.iconst (-1), 1) := by decide +kernel
theorem dX11_loose_25 : decode cX11_loose 25 = .ok (.if_icmp .ne 13, 3) := by decide +kernel
theorem dX11_loose_28 : decode cX11_loose 28 = .ok (.aload_n 0, 1) := by decide +kernel
theorem dX11_loose_29 : decode cX11_loose 29 = .ok (.getfield 63, 3) := by decide +kernel
theorem dX11_loose_32 : decode cX11_loose 32 = .ok (.getfield 270, 3) := by decide +kernel
theorem dX11_loose_35 : decode cX11_loose 35 = .ok (.goto 11, 3) := by decide +kernel
theorem dX11_loose_38 : decode cX11_loose 38 = .ok (.aload_n 0, 1) := by decide +kernel
theorem dX11_loose_39 : decode cX11_loose 39 = .ok (.getfield 63, 3) := by decide +kernel
theorem dX11_loose_42 : decode cX11_loose 42 = .ok (.iload_n 1, 1) := by decide +kernel
theorem dX11_loose_43 : decode cX11_loose 43 = .ok (.invokevirtual 273, 3) := by decide +kernel
theorem dX11_loose_46 : decode cX11_loose 46 = .ok (.ireturn, 1) := by decide +kernel
theorem dX11_would_0 : decode cX11_would 0 = .ok (.aload_n 0, 1) := by decide +kernel
theorem dX11_would_1 : decode cX11_would 1 = .ok (.getfield 19, 3) := by decide +kernel
theorem dX11_would_4 : decode cX11_would 4 = .ok (.iload_n 1, 1) := by decide +kernel
theorem dX11_would_5 : decode cX11_would 5 = .ok (.invokevirtual 113, 3) := by decide +kernel
theorem dX11_would_8 : decode cX11_would 8 = .ok (.ifCond .ne 6, 3) := by decide +kernel
theorem dX11_would_11 : decode cX11_would 11 = .ok (.bipush (-2), 2) := by decide +kernel
theorem dX11_would_13 : decode cX11_would 13 = .ok (.ireturn, 1) := by decide +kernel
theorem dX11_would_14 : decode cX11_would 14 = .ok (.aload_n 0, 1) := by decide +kernel
theorem dX11_would_15 : decode cX11_would 15 = .ok (.getfield 19, 3) := by decide +kernel
theorem dX11_would_18 : decode cX11_would 18 = .ok (.iload_n 2, 1) := by decide +kernel
theorem dX11_would_19 : decode cX11_would 19 = .ok (.iload_n 3, 1) := by decide +kernel
theorem dX11_would_20 : decode cX11_would 20 = .ok (.invokevirtual 199, 3) := by decide +kernel
theorem dX11_would_23 : decode cX11_would 23 = .ok (.ifCond .ne 6, 3) := by decide +kernel
theorem dX11_would_26 : decode cX11_would 26 = .ok (.bipush (-3), 2) := by decide +kernel
theorem dX11_would_28 : decode cX11_would 28 = .ok (.ireturn, 1) := by decide +kernel
theorem dX11_would_29 : decode cX11_would 29 = .ok (.aload_n 0, 1) := by decide +kernel
theorem dX11_would_30 : decode cX11_would 30 = .ok (.getfield 63, 3) := by decide +kernel
theorem dX11_would_33 : decode cX11_would 33 = .ok (.aload_n 0, 1) := by decide +kernel
theorem dX11_would_34 : decode cX11_would 34 = .ok (.getfield 19, 3) := by decide +kernel
theorem dX11_would_37 : decode cX11_would 37 = .ok (.aload_n 0, 1) := by decide +kernel
theorem dX11_would_38 : decode cX11_would 38 = .ok (.invokevirtual 128, 3) := by decide +kernel
theorem dX11_would_41 : decode cX11_would 41 = .ok (.iload_n 1, 1) := by decide +kernel
theorem dX11_would_42 : decode cX11_would 42 = .ok (.iload_n 2, 1) := by decide +kernel
theorem dX11_would_43 : decode cX11_would 43 = .ok (.iload_n 3, 1) := by decide +kernel
theorem dX11_would_44 : decode cX11_would 44 = .ok (.invokevirtual 276, 3) := by decide +kernel
theorem dX11_would_47 : decode cX11_would 47 = .ok (.ireturn, 1) := by decide +kernel
theorem dX11_ask_0 : decode cX11_ask 0 = .ok (.iload_n 1, 1) := by decide +kernel
theorem dX11_ask_1 : decode cX11_ask 1 = .ok (.ifCond .lt 8, 3) := by decide +kernel
theorem dX11_ask_4 : decode cX11_ask 4 = .ok (.iload_n 1, 1) := by decide +kernel
theorem dX11_ask_5 : decode cX11_ask 5 = .ok (.iconst 1, 1) := by decide +kernel
theorem dX11_ask_6 : decode cX11_ask 6 = .ok (.if_icmp .le 6, 3) := by decide +kernel
theorem dX11_ask_9 : decode cX11_ask 9 = .ok (.bipush (-3), 2) := by decide +kernel
theorem dX11_ask_11 : decode cX11_ask 11 = .ok (.ireturn, 1) := by decide +kernel
theorem dX11_ask_12 : decode cX11_ask 12 = .ok (.aload_n 0, 1) := by decide +kernel
theorem dX11_ask_13 : decode cX11_ask 13 = .ok (.getfield 63, 3) := by decide +kernel
theorem dX11_ask_16 : decode cX11_ask 16 = .ok (.aload_n 0, 1) := by decide +kernel
theorem dX11_ask_17 : decode cX11_ask 17 = .ok (.getfield 19, 3) := by decide +kernel
theorem dX11_ask_20 : decode cX11_ask 20 = .ok (.aload_n 0, 1) := by decide +kernel
theorem dX11_ask_21 : decode cX11_ask 21 = .ok (.invokevirtual 128, 3) := by decide +kernel
theorem dX11_ask_24 : decode cX11_ask 24 = .ok (.aload_n 0, 1) := by decide +kernel
theorem dX11_ask_25 : decode cX11_ask 25 = .ok (.invokevirtual 238, 3) := by decide +kernel
theorem dX11_ask_28 : decode cX11_ask 28 = .ok (.getfield 242, 3) := by decide +kernel
theorem dX11_ask_31 : decode cX11_ask 31 = .ok (.invokevirtual 280, 3) := by decide +kernel
theorem dX11_ask_34 : decode cX11_ask 34 = .ok (.iload_n 1, 1) := by decide +kernel
theorem dX11_ask_35 : decode cX11_ask 35 = .ok (.ifCond .ne 13, 3) := by decide +kernel
theorem dX11_ask_38 : decode cX11_ask 38 = .ok (.aload_n 0, 1) := by decide +kernel
theorem dX11_ask_39 : decode cX11_ask 39 = .ok (.getfield 63, 3) := by decide +kernel
theorem dX11_ask_42 : decode cX11_ask 42 = .ok (.getfield 284, 3) := by decide +kernel
theorem dX11_ask_45 : decode cX11_ask 45 = .ok (.goto 10, 3) := by decide +kernel
theorem dX11_ask_48 : decode cX11_ask 48 = .ok (.aload_n 0, 1) := by decide +kernel
theorem dX11_ask_49 : decode cX11_ask 49 = .ok (.getfield 63, 3) := by decide +kernel
theorem dX11_ask_52 : decode cX11_ask 52 = .ok (.getfield 287, 3) := by decide +kernel
theorem dX11_ask_55 : decode cX11_ask 55 = .ok (.ireturn, 1) := by decide +kernel
theorem dX11_strip_0 : decode cX11_strip 0 = .ok (.aload_n 0, 1) := by decide +kernel
theorem dX11_strip_1 : decode cX11_strip 1 = .ok (.getfield 70, 3) := by decide +kernel
theorem dX11_strip_4 : decode cX11_strip 4 = .ok (.iload_n 1, 1) := by decide +kernel
theorem dX11_strip_5 : decode cX11_strip 5 = .ok (.invokevirtual 290, 3) := by decide +kernel
theorem dX11_strip_8 : decode cX11_strip 8 = .ok (.ifCond .ne 6, 3) := by decide +kernel
theorem dX11_strip_11 : decode cX11_strip 11 = .ok (.bipush (-2), 2) := by decide +kernel
theorem dX11_strip_13 : decode cX11_strip 13 = .ok (.ireturn, 1) := by decide +kernel
theorem dX11_strip_14 : decode cX11_strip 14 = .ok (.iload_n 2, 1) := by decide +kernel
theorem dX11_strip_15 : decode cX11_strip 15 = .ok (.bipush 8, 2) := by decide +kernel
theorem dX11_strip_17 : decode cX11_strip 17 = .ok (.if_icmp .le 6, 3) := by decide +kernel
theorem dX11_strip_20 : decode cX11_strip 20 = .ok (.bipush (-3), 2) := by decide +kernel
theorem dX11_strip_22 : decode cX11_strip 22 = .ok (.ireturn, 1) := by decide +kernel
theorem dX11_strip_23 : decode cX11_strip 23 = .ok (.iload_n 2, 1) := by decide +kernel
theorem dX11_strip_24 : decode cX11_strip 24 = .ok (.ifCond .ge 6, 3) := by decide +kernel
theorem dX11_strip_27 : decode cX11_strip 27 = .ok (.bipush (-13), 2) := by decide +kernel
theorem dX11_strip_29 : decode cX11_strip 29 = .ok (.ireturn, 1) := by decide +kernel
theorem dX11_strip_30 : decode cX11_strip 30 = .ok (.aload_n 0, 1) := by decide +kernel
theorem dX11_strip_31 : decode cX11_strip 31 = .ok (.getfield 70, 3) := by decide +kernel
theorem dX11_strip_34 : decode cX11_strip 34 = .ok (.iload_n 1, 1) := by decide +kernel
theorem dX11_strip_35 : decode cX11_strip 35 = .ok (.iload_n 2, 1) := by decide +kernel
theorem dX11_strip_36 : decode cX11_strip 36 = .ok (.invokevirtual 293, 3) := by decide +kernel
theorem dX11_strip_39 : decode cX11_strip 39 = .ok (.iload_n 2, 1) := by decide +kernel
theorem dX11_strip_40 : decode cX11_strip 40 = .ok (.ireturn, 1) := by decide +kernel
theorem dX11_set_0 : decode cX11_set 0 = .ok (.aload_n 0, 1) := by decide +kernel
theorem dX11_set_1 : decode cX11_set 1 = .ok (.getfield 70, 3) := by decide +kernel
theorem dX11_set_4 : decode cX11_set 4 = .ok (.iload_n 1, 1) := by decide +kernel
theorem dX11_set_5 : decode cX11_set 5 = .ok (.invokevirtual 290, 3) := by decide +kernel
theorem dX11_set_8 : decode cX11_set 8 = .ok (.ifCond .ne 6, 3) := by decide +kernel
theorem dX11_set_11 : decode cX11_set 11 = .ok (.bipush (-2), 2) := by decide +kernel
theorem dX11_set_13 : decode cX11_set 13 = .ok (.ireturn, 1) := by decide +kernel
theorem dX11_set_14 : decode cX11_set 14 = .ok (.aload_n 0, 1) := by decide +kernel
theorem dX11_set_15 : decode cX11_set 15 = .ok (.getfield 70, 3) := by decide +kernel
theorem dX11_set_18 : decode cX11_set 18 = .ok (.iload_n 1, 1) := by decide +kernel
theorem dX11_set_19 : decode cX11_set 19 = .ok (.invokevirtual 296, 3) := by decide +kernel
theorem dX11_set_22 : decode cX11_set 22 = .ok (.ifCond .eq 6, 3) := by decide +kernel
theorem dX11_set_25 : decode cX11_set 25 = .ok (.bipush (-11), 2) := by decide +kernel
theorem dX11_set_27 : decode cX11_set 27 = .ok (.ireturn, 1) := by decide +kernel
theorem dX11_set_28 : decode cX11_set 28 = .ok (.aload_n 0, 1) := by decide +kernel
theorem dX11_set_29 : decode cX11_set 29 = .ok (.getfield 70, 3) := by decide +kernel
theorem dX11_set_32 : decode cX11_set 32 = .ok (.iload_n 1, 1) := by decide +kernel
theorem dX11_set_33 : decode cX11_set 33 = .ok (.iload_n 2, 1) := by decide +kernel
theorem dX11_set_34 : decode cX11_set 34 = .ok (.invokevirtual 299, 3) := by decide +kernel
theorem dX11_set_37 : decode cX11_set 37 = .ok (.ifCond .ne 6, 3) := by decide +kernel
theorem dX11_set_40 : decode cX11_set 40 = .ok (.bipush (-12), 2) := by decide +kernel
theorem dX11_set_42 : decode cX11_set 42 = .ok (.ireturn, 1) := by decide +kernel
theorem dX11_set_43 : decode cX11_set 43 = .ok (.aload_n 0, 1) := by decide +kernel
theorem dX11_set_44 : decode cX11_set 44 = .ok (.getfield 70, 3) := by decide +kernel
theorem dX11_set_47 : decode cX11_set 47 = .ok (.iload_n 1, 1) := by decide +kernel
theorem dX11_set_48 : decode cX11_set 48 = .ok (.iload_n 2, 1) := by decide +kernel
theorem dX11_set_49 : decode cX11_set 49 = .ok (.iload_n 3, 1) := by decide +kernel
theorem dX11_set_50 : decode cX11_set 50 = .ok (.i2l, 1) := by decide +kernel
theorem dX11_set_51 : decode cX11_set 51 = .ok (.invokevirtual 302, 3) := by decide +kernel
theorem dX11_set_54 : decode cX11_set 54 = .ok (.iconst 1, 1) := by decide +kernel
theorem dX11_set_55 : decode cX11_set 55 = .ok (.ireturn, 1) := by decide +kernel
theorem dX11_load_0 : decode cX11_load 0 = .ok (.aload_n 0, 1) := by decide +kernel
theorem dX11_load_1 : decode cX11_load 1 = .ok (.getfield 70, 3) := by decide +kernel
theorem dX11_load_4 : decode cX11_load 4 = .ok (.iload_n 1, 1) := by decide +kernel
theorem dX11_load_5 : decode cX11_load 5 = .ok (.invokevirtual 290, 3) := by decide +kernel
theorem dX11_load_8 : decode cX11_load 8 = .ok (.ifCond .eq 14, 3) := by decide +kernel
theorem dX11_load_11 : decode cX11_load 11 = .ok (.aload_n 0, 1) := by decide +kernel
theorem dX11_load_12 : decode cX11_load 12 = .ok (.getfield 19, 3) := by decide +kernel
theorem dX11_load_15 : decode cX11_load 15 = .ok (.iload_n 3, 1) := by decide +kernel
theorem dX11_load_16 : decode cX11_load 16 = .ok (.invokevirtual 113, 3) := by decide +kernel
theorem dX11_load_19 : decode cX11_load 19 = .ok (.ifCond .ne 6, 3) := by decide +kernel
theorem dX11_load_22 : decode cX11_load 22 = .ok (.bipush (-2), 2) := by decide +kernel
theorem dX11_load_24 : decode cX11_load 24 = .ok (.ireturn, 1) := by decide +kernel
theorem dX11_load_25 : decode cX11_load 25 = .ok (.iload 4, 2) := by decide +kernel
theorem dX11_load_27 : decode cX11_load 27 = .ok (.ifCond .lt 9, 3) := by decide +kernel
theorem dX11_load_30 : decode cX11_load 30 = .ok (.iload 4, 2) := by decide +kernel
theorem dX11_load_32 : decode cX11_load 32 = .ok (.iconst 1, 1) := by decide +kernel
theorem dX11_load_33 : decode cX11_load 33 = .ok (.if_icmp .le 6, 3) := by decide +kernel
theorem dX11_load_36 : decode cX11_load 36 = .ok (.bipush (-3), 2) := by decide +kernel
theorem dX11_load_38 : decode cX11_load 38 = .ok (.ireturn, 1) := by decide +kernel
theorem dX11_load_39 : decode cX11_load 39 = .ok (.aload_n 0, 1) := by decide +kernel
theorem dX11_load_40 : decode cX11_load 40 = .ok (.getfield 70, 3) := by decide +kernel
theorem dX11_load_43 : decode cX11_load 43 = .ok (.iload_n 1, 1) := by decide +kernel
theorem dX11_load_44 : decode cX11_load 44 = .ok (.invokevirtual 296, 3) := by decide +kernel
theorem dX11_load_47 : decode cX11_load 47 = .ok (.ifCond .eq 6, 3) := by decide +kernel
theorem dX11_load_50 : decode cX11_load 50 = .ok (.bipush (-11), 2) := by decide +kernel
theorem dX11_load_52 : decode cX11_load 52 = .ok (.ireturn, 1) := by decide +kernel
theorem dX11_load_53 : decode cX11_load 53 = .ok (.aload_n 0, 1) := by decide +kernel
theorem dX11_load_54 : decode cX11_load 54 = .ok (.getfield 70, 3) := by decide +kernel
theorem dX11_load_57 : decode cX11_load 57 = .ok (.iload_n 1, 1) := by decide +kernel
theorem dX11_load_58 : decode cX11_load 58 = .ok (.iload_n 2, 1) := by decide +kernel
theorem dX11_load_59 : decode cX11_load 59 = .ok (.invokevirtual 299, 3) := by decide +kernel
theorem dX11_load_62 : decode cX11_load 62 = .ok (.ifCond .ne 6, 3) := by decide +kernel
theorem dX11_load_65 : decode cX11_load 65 = .ok (.bipush (-12), 2) := by decide +kernel
theorem dX11_load_67 : decode cX11_load 67 = .ok (.ireturn, 1) := by decide +kernel
theorem dX11_load_68 : decode cX11_load 68 = .ok (.iload 4, 2) := by decide +kernel
theorem dX11_load_70 : decode cX11_load 70 = .ok (.ifCond .ne 14, 3) := by decide +kernel
theorem dX11_load_73 : decode cX11_load 73 = .ok (.aload_n 0, 1) := by decide +kernel
theorem dX11_load_74 : decode cX11_load 74 = .ok (.invokevirtual 128, 3) := by decide +kernel
theorem dX11_load_77 : decode cX11_load 77 = .ok (.iload_n 3, 1) := by decide +kernel
theorem dX11_load_78 : decode cX11_load 78 = .ok (.invokevirtual 132, 3) := by decide +kernel
theorem dX11_load_81 : decode cX11_load 81 = .ok (.goto 11, 3) := by decide +kernel
theorem dX11_load_84 : decode cX11_load 84 = .ok (.aload_n 0, 1) := by decide +kernel
theorem dX11_load_85 : decode cX11_load 85 = .ok (.invokevirtual 248, 3) := by decide +kernel
theorem dX11_load_88 : decode cX11_load 88 = .ok (.iload_n 3, 1) := by decide +kernel
theorem dX11_load_89 : decode cX11_load 89 = .ok (.invokevirtual 259, 3) := by decide +kernel
theorem dX11_load_92 : decode cX11_load 92 = .ok (.lstore 5, 2) := by decide +kernel
theorem dX11_load_94 : decode cX11_load 94 = .ok (.aload_n 0, 1) := by decide +kernel
theorem dX11_load_95 : decode cX11_load 95 = .ok (.getfield 70, 3) := by decide +kernel
theorem dX11_load_98 : decode cX11_load 98 = .ok (.iload_n 1, 1) := by decide +kernel
theorem dX11_load_99 : decode cX11_load 99 = .ok (.iload_n 2, 1) := by decide +kernel
theorem dX11_load_100 : decode cX11_load 100 = .ok (.lload 5, 2) := by decide +kernel
theorem dX11_load_102 : decode cX11_load 102 = .ok (.invokevirtual 302, 3) := by decide +kernel
theorem dX11_load_105 : decode cX11_load 105 = .ok (.lload 5, 2) := by decide +kernel
theorem dX11_load_107 : decode cX11_load 107 = .ok (.invokestatic 136, 3) := by decide +kernel
theorem dX11_load_110 : decode cX11_load 110 = .ok (.ireturn, 1) := by decide +kernel
theorem dX11_work_0 : decode cX11_work 0 = .ok (.aload_n 0, 1) := by decide +kernel
theorem dX11_work_1 : decode cX11_work 1 = .ok (.getfield 70, 3) := by decide +kernel
theorem dX11_work_4 : decode cX11_work 4 = .ok (.iload_n 1, 1) := by decide +kernel
theorem dX11_work_5 : decode cX11_work 5 = .ok (.invokevirtual 290, 3) := by decide +kernel
theorem dX11_work_8 : decode cX11_work 8 = .ok (.ifCond .ne 6, 3) := by decide +kernel
theorem dX11_work_11 : decode cX11_work 11 = .ok (.bipush (-2), 2) := by decide +kernel
theorem dX11_work_13 : decode cX11_work 13 = .ok (.ireturn, 1) := by decide +kernel
theorem dX11_work_14 : decode cX11_work 14 = .ok (.iload_n 3, 1) := by decide +kernel
theorem dX11_work_15 : decode cX11_work 15 = .ok (.ifCond .lt 8, 3) := by decide +kernel
theorem dX11_work_18 : decode cX11_work 18 = .ok (.iload_n 3, 1) := by decide +kernel
theorem dX11_work_19 : decode cX11_work 19 = .ok (.iconst 3, 1) := by decide +kernel
theorem dX11_work_20 : decode cX11_work 20 = .ok (.if_icmp .le 6, 3) := by decide +kernel
theorem dX11_work_23 : decode cX11_work 23 = .ok (.bipush (-3), 2) := by decide +kernel
theorem dX11_work_25 : decode cX11_work 25 = .ok (.ireturn, 1) := by decide +kernel
theorem dX11_work_26 : decode cX11_work 26 = .ok (.iload_n 3, 1) := by decide +kernel
theorem dX11_work_27 : decode cX11_work 27 = .ok (.iconst 1, 1) := by decide +kernel
theorem dX11_work_28 : decode cX11_work 28 = .ok (.if_icmp .le 7, 3) := by decide +kernel
theorem dX11_work_31 : decode cX11_work 31 = .ok (.iconst 1, 1) := by decide +kernel
theorem dX11_work_32 : decode cX11_work 32 = .ok (.goto 4, 3) := by decide +kernel
theorem dX11_work_35 : decode cX11_work 35 = .ok (.iconst 0, 1) := by decide +kernel
theorem dX11_work_36 : decode cX11_work 36 = .ok (.istore 5, 2) := by decide +kernel
theorem dX11_work_38 : decode cX11_work 38 = .ok (.iload 5, 2) := by decide +kernel
theorem dX11_work_40 : decode cX11_work 40 = .ok (.ifCond .eq 18, 3) := by decide +kernel
theorem dX11_work_43 : decode cX11_work 43 = .ok (.iload 4, 2) := by decide +kernel
theorem dX11_work_45 : decode cX11_work 45 = .ok (.ifCond .lt 10, 3) := by decide +kernel
theorem dX11_work_48 : decode cX11_work 48 = .ok (.iload 4, 2) := by decide +kernel
theorem dX11_work_50 : decode cX11_work 50 = .ok (.bipush 99, 2) := by decide +kernel
theorem dX11_work_52 : decode cX11_work 52 = .ok (.if_icmp .le 6, 3) := by decide +kernel
theorem dX11_work_55 : decode cX11_work 55 = .ok (.bipush (-3), 2) := by decide +kernel
theorem dX11_work_57 : decode cX11_work 57 = .ok (.ireturn, 1) := by decide +kernel
theorem dX11_work_58 : decode cX11_work 58 = .ok (.aload_n 0, 1) := by decide +kernel
theorem dX11_work_59 : decode cX11_work 59 = .ok (.getfield 70, 3) := by decide +kernel
theorem dX11_work_62 : decode cX11_work 62 = .ok (.iload_n 1, 1) := by decide +kernel
theorem dX11_work_63 : decode cX11_work 63 = .ok (.invokevirtual 296, 3) := by decide +kernel
theorem dX11_work_66 : decode cX11_work 66 = .ok (.ifCond .eq 6, 3) := by decide +kernel
theorem dX11_work_69 : decode cX11_work 69 = .ok (.bipush (-11), 2) := by decide +kernel
theorem dX11_work_71 : decode cX11_work 71 = .ok (.ireturn, 1) := by decide +kernel
theorem dX11_work_72 : decode cX11_work 72 = .ok (.aload_n 0, 1) := by decide +kernel
theorem dX11_work_73 : decode cX11_work 73 = .ok (.getfield 70, 3) := by decide +kernel
theorem dX11_work_76 : decode cX11_work 76 = .ok (.iload_n 1, 1) := by decide +kernel
theorem dX11_work_77 : decode cX11_work 77 = .ok (.iload_n 2, 1) := by decide +kernel
theorem dX11_work_78 : decode cX11_work 78 = .ok (.invokevirtual 299, 3) := by decide +kernel
theorem dX11_work_81 : decode cX11_work 81 = .ok (.ifCond .ne 6, 3) := by decide +kernel
theorem dX11_work_84 : decode cX11_work 84 = .ok (.bipush (-12), 2) := by decide +kernel
theorem dX11_work_86 : decode cX11_work 86 = .ok (.ireturn, 1) := by decide +kernel
theorem dX11_work_87 : decode cX11_work 87 = .ok (.iload 5, 2) := by decide +kernel
theorem dX11_work_89 : decode cX11_work 89 = .ok (.ifCond .ne 19, 3) := by decide +kernel
theorem dX11_work_92 : decode cX11_work 92 = .ok (.aload_n 0, 1) := by decide +kernel
theorem dX11_work_93 : decode cX11_work 93 = .ok (.getfield 70, 3) := by decide +kernel
theorem dX11_work_96 : decode cX11_work 96 = .ok (.iload_n 1, 1) := by decide +kernel
theorem dX11_work_97 : decode cX11_work 97 = .ok (.iload 4, 2) := by decide +kernel
theorem dX11_work_99 : decode cX11_work 99 = .ok (.invokevirtual 299, 3) := by decide +kernel
theorem dX11_work_102 : decode cX11_work 102 = .ok (.ifCond .ne 6, 3) := by decide +kernel
theorem dX11_work_105 : decode cX11_work 105 = .ok (.bipush (-12), 2) := by decide +kernel
theorem dX11_work_107 : decode cX11_work 107 = .ok (.ireturn, 1) := by decide +kernel
theorem dX11_work_108 : decode cX11_work 108 = .ok (.aload_n 0, 1) := by decide +kernel
theorem dX11_work_109 : decode cX11_work 109 = .ok (.getfield 70, 3) := by decide +kernel
theorem dX11_work_112 : decode cX11_work 112 = .ok (.iload_n 1, 1) := by decide +kernel
theorem dX11_work_113 : decode cX11_work 113 = .ok (.iload_n 2, 1) := by decide +kernel
theorem dX11_work_114 : decode cX11_work 114 = .ok (.iload_n 3, 1) := by decide +kernel
theorem dX11_work_115 : decode cX11_work 115 = .ok (.iload 4, 2) := by decide +kernel
theorem dX11_work_117 : decode cX11_work 117 = .ok (.invokevirtual 305, 3) := by decide +kernel
theorem dX11_work_120 : decode cX11_work 120 = .ok (.iconst 1, 1) := by decide +kernel
theorem dX11_work_121 : decode cX11_work 121 = .ok (.ireturn, 1) := by decide +kernel
theorem dX11_bits_0 : decode cX11_bits 0 = .ok (.aload_n 0, 1) := by decide +kernel
theorem dX11_bits_1 : decode cX11_bits 1 = .ok (.getfield 70, 3) := by decide +kernel
theorem dX11_bits_4 : decode cX11_bits 4 = .ok (.iload_n 1, 1) := by decide +kernel
theorem dX11_bits_5 : decode cX11_bits 5 = .ok (.invokevirtual 290, 3) := by decide +kernel
theorem dX11_bits_8 : decode cX11_bits 8 = .ok (.ifCond .ne 6, 3) := by decide +kernel
theorem dX11_bits_11 : decode cX11_bits 11 = .ok (.bipush (-2), 2) := by decide +kernel
theorem dX11_bits_13 : decode cX11_bits 13 = .ok (.ireturn, 1) := by decide +kernel
theorem dX11_bits_14 : decode cX11_bits 14 = .ok (.aload_n 0, 1) := by decide +kernel
theorem dX11_bits_15 : decode cX11_bits 15 = .ok (.getfield 70, 3) := by decide +kernel
theorem dX11_bits_18 : decode cX11_bits 18 = .ok (.iload_n 1, 1) := by decide +kernel
theorem dX11_bits_19 : decode cX11_bits 19 = .ok (.invokevirtual 296, 3) := by decide +kernel
theorem dX11_bits_22 : decode cX11_bits 22 = .ok (.ifCond .eq 6, 3) := by decide +kernel
theorem dX11_bits_25 : decode cX11_bits 25 = .ok (.bipush (-11), 2) := by decide +kernel
theorem dX11_bits_27 : decode cX11_bits 27 = .ok (.ireturn, 1) := by decide +kernel
theorem dX11_bits_28 : decode cX11_bits 28 = .ok (.aload_n 0, 1) := by decide +kernel
theorem dX11_bits_29 : decode cX11_bits 29 = .ok (.getfield 70, 3) := by decide +kernel
theorem dX11_bits_32 : decode cX11_bits 32 = .ok (.iload_n 1, 1) := by decide +kernel
theorem dX11_bits_33 : decode cX11_bits 33 = .ok (.iload_n 2, 1) := by decide +kernel
theorem dX11_bits_34 : decode cX11_bits 34 = .ok (.invokevirtual 299, 3) := by decide +kernel
theorem dX11_bits_37 : decode cX11_bits 37 = .ok (.ifCond .ne 6, 3) := by decide +kernel
theorem dX11_bits_40 : decode cX11_bits 40 = .ok (.bipush (-12), 2) := by decide +kernel
theorem dX11_bits_42 : decode cX11_bits 42 = .ok (.ireturn, 1) := by decide +kernel
theorem dX11_bits_43 : decode cX11_bits 43 = .ok (.aload_n 0, 1) := by decide +kernel
theorem dX11_bits_44 : decode cX11_bits 44 = .ok (.getfield 70, 3) := by decide +kernel
theorem dX11_bits_47 : decode cX11_bits 47 = .ok (.iload_n 1, 1) := by decide +kernel
theorem dX11_bits_48 : decode cX11_bits 48 = .ok (.iload_n 2, 1) := by decide +kernel
theorem dX11_bits_49 : decode cX11_bits 49 = .ok (.invokevirtual 308, 3) := by decide +kernel
theorem dX11_bits_52 : decode cX11_bits 52 = .ok (.invokestatic 136, 3) := by decide +kernel
theorem dX11_bits_55 : decode cX11_bits 55 = .ok (.ireturn, 1) := by decide +kernel
theorem dX11_sum_0 : decode cX11_sum 0 = .ok (.aload_n 0, 1) := by decide +kernel
theorem dX11_sum_1 : decode cX11_sum 1 = .ok (.getfield 70, 3) := by decide +kernel
theorem dX11_sum_4 : decode cX11_sum 4 = .ok (.iload_n 1, 1) := by decide +kernel
theorem dX11_sum_5 : decode cX11_sum 5 = .ok (.invokevirtual 290, 3) := by decide +kernel
theorem dX11_sum_8 : decode cX11_sum 8 = .ok (.ifCond .ne 6, 3) := by decide +kernel
theorem dX11_sum_11 : decode cX11_sum 11 = .ok (.bipush (-2), 2) := by decide +kernel
theorem dX11_sum_13 : decode cX11_sum 13 = .ok (.ireturn, 1) := by decide +kernel
theorem dX11_sum_14 : decode cX11_sum 14 = .ok (.aload_n 0, 1) := by decide +kernel
theorem dX11_sum_15 : decode cX11_sum 15 = .ok (.getfield 70, 3) := by decide +kernel
theorem dX11_sum_18 : decode cX11_sum 18 = .ok (.iload_n 1, 1) := by decide +kernel
theorem dX11_sum_19 : decode cX11_sum 19 = .ok (.invokevirtual 296, 3) := by decide +kernel
theorem dX11_sum_22 : decode cX11_sum 22 = .ok (.ifCond .eq 6, 3) := by decide +kernel
theorem dX11_sum_25 : decode cX11_sum 25 = .ok (.bipush (-11), 2) := by decide +kernel
theorem dX11_sum_27 : decode cX11_sum 27 = .ok (.ireturn, 1) := by decide +kernel
theorem dX11_sum_28 : decode cX11_sum 28 = .ok (.aload_n 0, 1) := by decide +kernel
theorem dX11_sum_29 : decode cX11_sum 29 = .ok (.getfield 70, 3) := by decide +kernel
theorem dX11_sum_32 : decode cX11_sum 32 = .ok (.iload_n 1, 1) := by decide +kernel
theorem dX11_sum_33 : decode cX11_sum 33 = .ok (.invokevirtual 312, 3) := by decide +kernel
theorem dX11_sum_36 : decode cX11_sum 36 = .ok (.ireturn, 1) := by decide +kernel
theorem dX11_drop_0 : decode cX11_drop 0 = .ok (.aload_n 0, 1) := by decide +kernel
theorem dX11_drop_1 : decode cX11_drop 1 = .ok (.getfield 70, 3) := by decide +kernel
theorem dX11_drop_4 : decode cX11_drop 4 = .ok (.iload_n 1, 1) := by decide +kernel
theorem dX11_drop_5 : decode cX11_drop 5 = .ok (.invokevirtual 290, 3) := by decide +kernel
theorem dX11_drop_8 : decode cX11_drop 8 = .ok (.ifCond .ne 6, 3) := by decide +kernel
theorem dX11_drop_11 : decode cX11_drop 11 = .ok (.bipush (-2), 2) := by decide +kernel
theorem dX11_drop_13 : decode cX11_drop 13 = .ok (.ireturn, 1) := by decide +kernel
theorem dX11_drop_14 : decode cX11_drop 14 = .ok (.aload_n 0, 1) := by decide +kernel
theorem dX11_drop_15 : decode cX11_drop 15 = .ok (.getfield 70, 3) := by decide +kernel
theorem dX11_drop_18 : decode cX11_drop 18 = .ok (.iload_n 1, 1) := by decide +kernel
theorem dX11_drop_19 : decode cX11_drop 19 = .ok (.invokevirtual 296, 3) := by decide +kernel
theorem dX11_drop_22 : decode cX11_drop 22 = .ok (.ifCond .eq 6, 3) := by decide +kernel
theorem dX11_drop_25 : decode cX11_drop 25 = .ok (.bipush (-11), 2) := by decide +kernel
theorem dX11_drop_27 : decode cX11_drop 27 = .ok (.ireturn, 1) := by decide +kernel
theorem dX11_drop_28 : decode cX11_drop 28 = .ok (.aload_n 0, 1) := by decide +kernel
theorem dX11_drop_29 : decode cX11_drop 29 = .ok (.getfield 70, 3) := by decide +kernel
theorem dX11_drop_32 : decode cX11_drop 32 = .ok (.iload_n 1, 1) := by decide +kernel
theorem dX11_drop_33 : decode cX11_drop 33 = .ok (.invokevirtual 315, 3) := by decide +kernel
theorem dX11_drop_36 : decode cX11_drop 36 = .ok (.ireturn, 1) := by decide +kernel
theorem dX11_latest_0 : decode cX11_latest 0 = .ok (.aload_n 0, 1) := by decide +kernel
theorem dX11_latest_1 : decode cX11_latest 1 = .ok (.getfield 70, 3) := by decide +kernel
theorem dX11_latest_4 : decode cX11_latest 4 = .ok (.getfield 317, 3) := by decide +kernel
theorem dX11_latest_7 : decode cX11_latest 7 = .ok (.lreturn, 1) := by decide +kernel
theorem dX11_count_0 : decode cX11_count 0 = .ok (.iload_n 1, 1) := by decide +kernel
theorem dX11_count_1 : decode cX11_count 1 = .ok (.tableswitch 147 0 9 #[55, 63, 71, 82, 90, 101, 112, 123, 131, 139], 55) := by decide +kernel
theorem dX11_count_56 : decode cX11_count 56 = .ok (.aload_n 0, 1) := by decide +kernel
theorem dX11_count_57 : decode cX11_count 57 = .ok (.getfield 19, 3) := by decide +kernel
theorem dX11_count_60 : decode cX11_count 60 = .ok (.getfield 321, 3) := by decide +kernel
theorem dX11_count_63 : decode cX11_count 63 = .ok (.ireturn, 1) := by decide +kernel
theorem dX11_count_64 : decode cX11_count 64 = .ok (.aload_n 0, 1) := by decide +kernel
theorem dX11_count_65 : decode cX11_count 65 = .ok (.getfield 19, 3) := by decide +kernel
theorem dX11_count_68 : decode cX11_count 68 = .ok (.getfield 324, 3) := by decide +kernel
theorem dX11_count_71 : decode cX11_count 71 = .ok (.ireturn, 1) := by decide +kernel
theorem dX11_count_72 : decode cX11_count 72 = .ok (.aload_n 0, 1) := by decide +kernel
theorem dX11_count_73 : decode cX11_count 73 = .ok (.getfield 19, 3) := by decide +kernel
theorem dX11_count_76 : decode cX11_count 76 = .ok (.getfield 119, 3) := by decide +kernel
theorem dX11_count_79 : decode cX11_count 79 = .ok (.getfield 214, 3) := by decide +kernel
theorem dX11_count_82 : decode cX11_count 82 = .ok (.ireturn, 1) := by decide +kernel
theorem dX11_count_83 : decode cX11_count 83 = .ok (.aload_n 0, 1) := by decide +kernel
theorem dX11_count_84 : decode cX11_count 84 = .ok (.invokevirtual 128, 3) := by decide +kernel
theorem dX11_count_87 : decode cX11_count 87 = .ok (.invokevirtual 327, 3) := by decide +kernel
theorem dX11_count_90 : decode cX11_count 90 = .ok (.ireturn, 1) := by decide +kernel
theorem dX11_count_91 : decode cX11_count 91 = .ok (.aload_n 0, 1) := by decide +kernel
theorem dX11_count_92 : decode cX11_count 92 = .ok (.getfield 19, 3) := by decide +kernel
theorem dX11_count_95 : decode cX11_count 95 = .ok (.getfield 183, 3) := by decide +kernel
theorem dX11_count_98 : decode cX11_count 98 = .ok (.getfield 330, 3) := by decide +kernel
theorem dX11_count_101 : decode cX11_count 101 = .ok (.ireturn, 1) := by decide +kernel
theorem dX11_count_102 : decode cX11_count 102 = .ok (.aload_n 0, 1) := by decide +kernel
theorem dX11_count_103 : decode cX11_count 103 = .ok (.getfield 19, 3) := by decide +kernel
theorem dX11_count_106 : decode cX11_count 106 = .ok (.getfield 183, 3) := by decide +kernel
theorem dX11_count_109 : decode cX11_count 109 = .ok (.getfield 333, 3) := by decide +kernel
theorem dX11_count_112 : decode cX11_count 112 = .ok (.ireturn, 1) := by decide +kernel
theorem dX11_count_113 : decode cX11_count 113 = .ok (.aload_n 0, 1) := by decide +kernel
theorem dX11_count_114 : decode cX11_count 114 = .ok (.getfield 19, 3) := by decide +kernel
theorem dX11_count_117 : decode cX11_count 117 = .ok (.getfield 183, 3) := by decide +kernel
theorem dX11_count_120 : decode cX11_count 120 = .ok (.getfield 336, 3) := by decide +kernel
theorem dX11_count_123 : decode cX11_count 123 = .ok (.ireturn, 1) := by decide +kernel
theorem dX11_count_124 : decode cX11_count 124 = .ok (.aload_n 0, 1) := by decide +kernel
theorem dX11_count_125 : decode cX11_count 125 = .ok (.getfield 70, 3) := by decide +kernel
theorem dX11_count_128 : decode cX11_count 128 = .ok (.invokevirtual 339, 3) := by decide +kernel
theorem dX11_count_131 : decode cX11_count 131 = .ok (.ireturn, 1) := by decide +kernel
theorem dX11_count_132 : decode cX11_count 132 = .ok (.aload_n 0, 1) := by decide +kernel
theorem dX11_count_133 : decode cX11_count 133 = .ok (.getfield 35, 3) := by decide +kernel
theorem dX11_count_136 : decode cX11_count 136 = .ok (.getfield 223, 3) := by decide +kernel
theorem dX11_count_139 : decode cX11_count 139 = .ok (.ireturn, 1) := by decide +kernel
theorem dX11_count_140 : decode cX11_count 140 = .ok (.aload_n 0, 1) := by decide +kernel
theorem dX11_count_141 : decode cX11_count 141 = .ok (.getfield 12, 3) := by decide +kernel
theorem dX11_count_144 : decode cX11_count 144 = .ok (.getfield 78, 3) := by decide +kernel
theorem dX11_count_147 : decode cX11_count 147 = .ok (.ireturn, 1) := by decide +kernel
theorem dX11_count_148 : decode cX11_count 148 = .ok (.bipush (-3), 2) := by decide +kernel
theorem dX11_count_150 : decode cX11_count 150 = .ok (.ireturn, 1) := by decide +kernel
theorem dX11_forgetFindings_0 : decode cX11_forgetFindings 0 = .ok (.aload_n 0, 1) := by decide +kernel
theorem dX11_forgetFindings_1 : decode cX11_forgetFindings 1 = .ok (.getfield 42, 3) := by decide +kernel
theorem dX11_forgetFindings_4 : decode cX11_forgetFindings 4 = .ok (.iconst 0, 1) := by decide +kernel
theorem dX11_forgetFindings_5 : decode cX11_forgetFindings 5 = .ok (.putfield 342, 3) := by decide +kernel
theorem dX11_forgetFindings_8 : decode cX11_forgetFindings 8 = .ok (.aload_n 0, 1) := by decide +kernel
theorem dX11_forgetFindings_9 : decode cX11_forgetFindings 9 = .ok (.getfield 49, 3) := by decide +kernel
theorem dX11_forgetFindings_12 : decode cX11_forgetFindings 12 = .ok (.iconst 0, 1) := by decide +kernel
theorem dX11_forgetFindings_13 : decode cX11_forgetFindings 13 = .ok (.putfield 346, 3) := by decide +kernel
theorem dX11_forgetFindings_16 : decode cX11_forgetFindings 16 = .ok (.aload_n 0, 1) := by decide +kernel
theorem dX11_forgetFindings_17 : decode cX11_forgetFindings 17 = .ok (.getfield 56, 3) := by decide +kernel
theorem dX11_forgetFindings_20 : decode cX11_forgetFindings 20 = .ok (.iconst 0, 1) := by decide +kernel
theorem dX11_forgetFindings_21 : decode cX11_forgetFindings 21 = .ok (.putfield 347, 3) := by decide +kernel
theorem dX11_forgetFindings_24 : decode cX11_forgetFindings 24 = .ok (.aload_n 0, 1) := by decide +kernel
theorem dX11_forgetFindings_25 : decode cX11_forgetFindings 25 = .ok (.getfield 63, 3) := by decide +kernel
theorem dX11_forgetFindings_28 : decode cX11_forgetFindings 28 = .ok (.invokevirtual 348, 3) := by decide +kernel
theorem dX11_forgetFindings_31 : decode cX11_forgetFindings 31 = .ok (.return_, 1) := by decide +kernel
theorem dX11_rulesNow_0 : decode cX11_rulesNow 0 = .ok (.aload_n 0, 1) := by decide +kernel
theorem dX11_rulesNow_1 : decode cX11_rulesNow 1 = .ok (.getfield 42, 3) := by decide +kernel
theorem dX11_rulesNow_4 : decode cX11_rulesNow 4 = .ok (.getfield 342, 3) := by decide +kernel
theorem dX11_rulesNow_7 : decode cX11_rulesNow 7 = .ok (.ifCond .ne 14, 3) := by decide +kernel
theorem dX11_rulesNow_10 : decode cX11_rulesNow 10 = .ok (.aload_n 0, 1) := by decide +kernel
theorem dX11_rulesNow_11 : decode cX11_rulesNow 11 = .ok (.getfield 42, 3) := by decide +kernel
theorem dX11_rulesNow_14 : decode cX11_rulesNow 14 = .ok (.aload_n 0, 1) := by decide +kernel
theorem dX11_rulesNow_15 : decode cX11_rulesNow 15 = .ok (.getfield 19, 3) := by decide +kernel
theorem dX11_rulesNow_18 : decode cX11_rulesNow 18 = .ok (.invokevirtual 351, 3) := by decide +kernel
theorem dX11_rulesNow_21 : decode cX11_rulesNow 21 = .ok (.aload_n 0, 1) := by decide +kernel
theorem dX11_rulesNow_22 : decode cX11_rulesNow 22 = .ok (.getfield 42, 3) := by decide +kernel
theorem dX11_rulesNow_25 : decode cX11_rulesNow 25 = .ok (.areturn, 1) := by decide +kernel
theorem dX11_ordersNow_0 : decode cX11_ordersNow 0 = .ok (.aload_n 0, 1) := by decide +kernel
theorem dX11_ordersNow_1 : decode cX11_ordersNow 1 = .ok (.getfield 49, 3) := by decide +kernel
theorem dX11_ordersNow_4 : decode cX11_ordersNow 4 = .ok (.getfield 346, 3) := by decide +kernel
theorem dX11_ordersNow_7 : decode cX11_ordersNow 7 = .ok (.ifCond .ne 14, 3) := by decide +kernel
theorem dX11_ordersNow_10 : decode cX11_ordersNow 10 = .ok (.aload_n 0, 1) := by decide +kernel
theorem dX11_ordersNow_11 : decode cX11_ordersNow 11 = .ok (.getfield 49, 3) := by decide +kernel
theorem dX11_ordersNow_14 : decode cX11_ordersNow 14 = .ok (.aload_n 0, 1) := by decide +kernel
theorem dX11_ordersNow_15 : decode cX11_ordersNow 15 = .ok (.invokevirtual 128, 3) := by decide +kernel
theorem dX11_ordersNow_18 : decode cX11_ordersNow 18 = .ok (.invokevirtual 353, 3) := by decide +kernel
theorem dX11_ordersNow_21 : decode cX11_ordersNow 21 = .ok (.aload_n 0, 1) := by decide +kernel
theorem dX11_ordersNow_22 : decode cX11_ordersNow 22 = .ok (.getfield 49, 3) := by decide +kernel
theorem dX11_ordersNow_25 : decode cX11_ordersNow 25 = .ok (.areturn, 1) := by decide +kernel
theorem dX11_hoursNow_0 : decode cX11_hoursNow 0 = .ok (.aload_n 0, 1) := by decide +kernel
theorem dX11_hoursNow_1 : decode cX11_hoursNow 1 = .ok (.getfield 56, 3) := by decide +kernel
theorem dX11_hoursNow_4 : decode cX11_hoursNow 4 = .ok (.getfield 347, 3) := by decide +kernel
theorem dX11_hoursNow_7 : decode cX11_hoursNow 7 = .ok (.ifCond .ne 14, 3) := by decide +kernel
theorem dX11_hoursNow_10 : decode cX11_hoursNow 10 = .ok (.aload_n 0, 1) := by decide +kernel
theorem dX11_hoursNow_11 : decode cX11_hoursNow 11 = .ok (.getfield 56, 3) := by decide +kernel
theorem dX11_hoursNow_14 : decode cX11_hoursNow 14 = .ok (.aload_n 0, 1) := by decide +kernel
theorem dX11_hoursNow_15 : decode cX11_hoursNow 15 = .ok (.invokevirtual 128, 3) := by decide +kernel
theorem dX11_hoursNow_18 : decode cX11_hoursNow 18 = .ok (.invokevirtual 357, 3) := by decide +kernel
theorem dX11_hoursNow_21 : decode cX11_hoursNow 21 = .ok (.aload_n 0, 1) := by decide +kernel
theorem dX11_hoursNow_22 : decode cX11_hoursNow 22 = .ok (.getfield 56, 3) := by decide +kernel
theorem dX11_hoursNow_25 : decode cX11_hoursNow 25 = .ok (.areturn, 1) := by decide +kernel
theorem dX11_areTwoPictures_0 : decode cX11_areTwoPictures 0 = .ok (.aload_n 0, 1) := by decide +kernel
theorem dX11_areTwoPictures_1 : decode cX11_areTwoPictures 1 = .ok (.getfield 19, 3) := by decide +kernel
theorem dX11_areTwoPictures_4 : decode cX11_areTwoPictures 4 = .ok (.iload_n 1, 1) := by decide +kernel
theorem dX11_areTwoPictures_5 : decode cX11_areTwoPictures 5 = .ok (.invokevirtual 113, 3) := by decide +kernel
theorem dX11_areTwoPictures_8 : decode cX11_areTwoPictures 8 = .ok (.ifCond .eq 23, 3) := by decide +kernel
theorem dX11_areTwoPictures_11 : decode cX11_areTwoPictures 11 = .ok (.aload_n 0, 1) := by decide +kernel
theorem dX11_areTwoPictures_12 : decode cX11_areTwoPictures 12 = .ok (.getfield 19, 3) := by decide +kernel
theorem dX11_areTwoPictures_15 : decode cX11_areTwoPictures 15 = .ok (.iload_n 2, 1) := by decide +kernel
theorem dX11_areTwoPictures_16 : decode cX11_areTwoPictures 16 = .ok (.invokevirtual 113, 3) := by decide +kernel
theorem dX11_areTwoPictures_19 : decode cX11_areTwoPictures 19 = .ok (.ifCond .eq 12, 3) := by decide +kernel
theorem dX11_areTwoPictures_22 : decode cX11_areTwoPictures 22 = .ok (.iload_n 1, 1) := by decide +kernel
theorem dX11_areTwoPictures_23 : decode cX11_areTwoPictures 23 = .ok (.iload_n 2, 1) := by decide +kernel
theorem dX11_areTwoPictures_24 : decode cX11_areTwoPictures 24 = .ok (.if_icmp .eq 7, 3) := by decide +kernel
theorem dX11_areTwoPictures_27 : decode cX11_areTwoPictures 27 = .ok (.iconst 1, 1) := by decide +kernel
theorem dX11_areTwoPictures_28 : decode cX11_areTwoPictures 28 = .ok (.goto 4, 3) := by decide +kernel
theorem dX11_areTwoPictures_31 : decode cX11_areTwoPictures 31 = .ok (.iconst 0, 1) := by decide +kernel
theorem dX11_areTwoPictures_32 : decode cX11_areTwoPictures 32 = .ok (.ireturn, 1) := by decide +kernel
theorem dX11_mostSlack_0 : decode cX11_mostSlack 0 = .ok (.iload_n 0, 1) := by decide +kernel
theorem dX11_mostSlack_1 : decode cX11_mostSlack 1 = .ok (.ifCond .ne 6, 3) := by decide +kernel
theorem dX11_mostSlack_4 : decode cX11_mostSlack 4 = .ok (.bipush 9, 2) := by decide +kernel
theorem dX11_mostSlack_6 : decode cX11_mostSlack 6 = .ok (.ireturn, 1) := by decide +kernel
theorem dX11_mostSlack_7 : decode cX11_mostSlack 7 = .ok (.iload_n 0, 1) := by decide +kernel
theorem dX11_mostSlack_8 : decode cX11_mostSlack 8 = .ok (.iconst 1, 1) := by decide +kernel
theorem dX11_mostSlack_9 : decode cX11_mostSlack 9 = .ok (.if_icmp .ne 8, 3) := by decide +kernel
theorem dX11_mostSlack_12 : decode cX11_mostSlack 12 = .ok (.bipush 99, 2) := by decide +kernel
theorem dX11_mostSlack_14 : decode cX11_mostSlack 14 = .ok (.goto 4, 3) := by decide +kernel
theorem dX11_mostSlack_17 : decode cX11_mostSlack 17 = .ok (.iconst 0, 1) := by decide +kernel
theorem dX11_mostSlack_18 : decode cX11_mostSlack 18 = .ok (.ireturn, 1) := by decide +kernel
theorem dX11_hasBit_0 : decode cX11_hasBit 0 = .ok (.iload_n 0, 1) := by decide +kernel
theorem dX11_hasBit_1 : decode cX11_hasBit 1 = .ok (.iload_n 1, 1) := by decide +kernel
theorem dX11_hasBit_2 : decode cX11_hasBit 2 = .ok (.ishr, 1) := by decide +kernel
theorem dX11_hasBit_3 : decode cX11_hasBit 3 = .ok (.iconst 1, 1) := by decide +kernel
theorem dX11_hasBit_4 : decode cX11_hasBit 4 = .ok (.iand, 1) := by decide +kernel
theorem dX11_hasBit_5 : decode cX11_hasBit 5 = .ok (.ifCond .eq 7, 3) := by decide +kernel
theorem dX11_hasBit_8 : decode cX11_hasBit 8 = .ok (.iconst 1, 1) := by decide +kernel
theorem dX11_hasBit_9 : decode cX11_hasBit 9 = .ok (.goto 4, 3) := by decide +kernel
theorem dX11_hasBit_12 : decode cX11_hasBit 12 = .ok (.iconst 0, 1) := by decide +kernel
theorem dX11_hasBit_13 : decode cX11_hasBit 13 = .ok (.ireturn, 1) := by decide +kernel
theorem dX11_firstSlot_0 : decode cX11_firstSlot 0 = .ok (.lload_n 0, 1) := by decide +kernel
theorem dX11_firstSlot_1 : decode cX11_firstSlot 1 = .ok (.lconst 0, 1) := by decide +kernel
theorem dX11_firstSlot_2 : decode cX11_firstSlot 2 = .ok (.lcmp, 1) := by decide +kernel
theorem dX11_firstSlot_3 : decode cX11_firstSlot 3 = .ok (.ifCond .ne 7, 3) := by decide +kernel
theorem dX11_firstSlot_6 : decode cX11_firstSlot 6 = .ok (.iconst (-1), 1) := by decide +kernel
theorem dX11_firstSlot_7 : decode cX11_firstSlot 7 = .ok (.goto 7, 3) := by decide +kernel
theorem dX11_firstSlot_10 : decode cX11_firstSlot 10 = .ok (.lload_n 0, 1) := by decide +kernel
theorem dX11_firstSlot_11 : decode cX11_firstSlot 11 = .ok (.invokestatic 358, 3) := by decide +kernel
theorem dX11_firstSlot_14 : decode cX11_firstSlot 14 = .ok (.ireturn, 1) := by decide +kernel
theorem dX11_lastSlot_0 : decode cX11_lastSlot 0 = .ok (.lload_n 0, 1) := by decide +kernel
theorem dX11_lastSlot_1 : decode cX11_lastSlot 1 = .ok (.lconst 0, 1) := by decide +kernel
theorem dX11_lastSlot_2 : decode cX11_lastSlot 2 = .ok (.lcmp, 1) := by decide +kernel
theorem dX11_lastSlot_3 : decode cX11_lastSlot 3 = .ok (.ifCond .ne 7, 3) := by decide +kernel
theorem dX11_lastSlot_6 : decode cX11_lastSlot 6 = .ok (.iconst (-1), 1) := by decide +kernel
theorem dX11_lastSlot_7 : decode cX11_lastSlot 7 = .ok (.goto 10, 3) := by decide +kernel
theorem dX11_lastSlot_10 : decode cX11_lastSlot 10 = .ok (.bipush 63, 2) := by decide +kernel
theorem dX11_lastSlot_12 : decode cX11_lastSlot 12 = .ok (.lload_n 0, 1) := by decide +kernel
theorem dX11_lastSlot_13 : decode cX11_lastSlot 13 = .ok (.invokestatic 361, 3) := by decide +kernel
theorem dX11_lastSlot_16 : decode cX11_lastSlot 16 = .ok (.isub, 1) := by decide +kernel
theorem dX11_lastSlot_17 : decode cX11_lastSlot 17 = .ok (.ireturn, 1) := by decide +kernel
theorem dX11_lengthened_0 : decode cX11_lengthened 0 = .ok (.iload_n 0, 1) := by decide +kernel
theorem dX11_lengthened_1 : decode cX11_lengthened 1 = .ok (.iconst 5, 1) := by decide +kernel
theorem dX11_lengthened_2 : decode cX11_lengthened 2 = .ok (.ishl, 1) := by decide +kernel
theorem dX11_lengthened_3 : decode cX11_lengthened 3 = .ok (.iload_n 1, 1) := by decide +kernel
theorem dX11_lengthened_4 : decode cX11_lengthened 4 = .ok (.bipush 97, 2) := by decide +kernel
theorem dX11_lengthened_6 : decode cX11_lengthened 6 = .ok (.isub, 1) := by decide +kernel
theorem dX11_lengthened_7 : decode cX11_lengthened 7 = .ok (.iconst 1, 1) := by decide +kernel
theorem dX11_lengthened_8 : decode cX11_lengthened 8 = .ok (.iadd, 1) := by decide +kernel
theorem dX11_lengthened_9 : decode cX11_lengthened 9 = .ok (.ior, 1) := by decide +kernel
theorem dX11_lengthened_10 : decode cX11_lengthened 10 = .ok (.ireturn, 1) := by decide +kernel
theorem dX12_init_0 : decode cX12_init 0 = .ok (.aload_n 0, 1) := by decide +kernel
theorem dX12_init_1 : decode cX12_init 1 = .ok (.invokespecial 1, 3) := by decide +kernel
theorem dX12_init_4 : decode cX12_init 4 = .ok (.aload_n 0, 1) := by decide +kernel
theorem dX12_init_5 : decode cX12_init 5 = .ok (.sipush 200, 3) := by decide +kernel
theorem dX12_init_8 : decode cX12_init 8 = .ok (.newarray .int, 2) := by decide +kernel
theorem dX12_init_10 : decode cX12_init 10 = .ok (.putfield 7, 3) := by decide +kernel
theorem dX12_init_13 : decode cX12_init 13 = .ok (.aload_n 0, 1) := by decide +kernel
theorem dX12_init_14 : decode cX12_init 14 = .ok (.bipush 120, 2) := by decide +kernel
theorem dX12_init_16 : decode cX12_init 16 = .ok (.newarray .int, 2) := by decide +kernel
theorem dX12_init_18 : decode cX12_init 18 = .ok (.putfield 13, 3) := by decide +kernel
theorem dX12_init_21 : decode cX12_init 21 = .ok (.aload_n 0, 1) := by decide +kernel
theorem dX12_init_22 : decode cX12_init 22 = .ok (.bipush 7, 2) := by decide +kernel
theorem dX12_init_24 : decode cX12_init 24 = .ok (.newarray .int, 2) := by decide +kernel
theorem dX12_init_26 : decode cX12_init 26 = .ok (.putfield 16, 3) := by decide +kernel
theorem dX12_init_29 : decode cX12_init 29 = .ok (.aload_n 0, 1) := by decide +kernel
theorem dX12_init_30 : decode cX12_init 30 = .ok (.bipush 6, 2) := by decide +kernel
theorem dX12_init_32 : decode cX12_init 32 = .ok (.newarray .int, 2) := by decide +kernel
theorem dX12_init_34 : decode cX12_init 34 = .ok (.putfield 19, 3) := by decide +kernel
theorem dX12_init_37 : decode cX12_init 37 = .ok (.aload_n 0, 1) := by decide +kernel
theorem dX12_init_38 : decode cX12_init 38 = .ok (.bipush 24, 2) := by decide +kernel
theorem dX12_init_40 : decode cX12_init 40 = .ok (.putfield 22, 3) := by decide +kernel
theorem dX12_init_43 : decode cX12_init 43 = .ok (.aload_n 0, 1) := by decide +kernel
theorem dX12_init_44 : decode cX12_init 44 = .ok (.iconst 4, 1) := by decide +kernel
theorem dX12_init_45 : decode cX12_init 45 = .ok (.putfield 26, 3) := by decide +kernel
theorem dX12_init_48 : decode cX12_init 48 = .ok (.aload_n 0, 1) := by decide +kernel
theorem dX12_init_49 : decode cX12_init 49 = .ok (.iconst 5, 1) := by decide +kernel
theorem dX12_init_50 : decode cX12_init 50 = .ok (.putfield 29, 3) := by decide +kernel
theorem dX12_init_53 : decode cX12_init 53 = .ok (.aload_n 0, 1) := by decide +kernel
theorem dX12_init_54 : decode cX12_init 54 = .ok (.bipush 7, 2) := by decide +kernel
theorem dX12_init_56 : decode cX12_init 56 = .ok (.newarray .int, 2) := by decide +kernel
theorem dX12_init_58 : decode cX12_init 58 = .ok (.putfield 32, 3) := by decide +kernel
theorem dX12_init_61 : decode cX12_init 61 = .ok (.aload_n 0, 1) := by decide +kernel
theorem dX12_init_62 : decode cX12_init 62 = .ok (.bipush 6, 2) := by decide +kernel
theorem dX12_init_64 : decode cX12_init 64 = .ok (.newarray .int, 2) := by decide +kernel
theorem dX12_init_66 : decode cX12_init 66 = .ok (.putfield 35, 3) := by decide +kernel
theorem dX12_init_69 : decode cX12_init 69 = .ok (.aload_n 0, 1) := by decide +kernel
theorem dX12_init_70 : decode cX12_init 70 = .ok (.sipush 225, 3) := by decide +kernel
theorem dX12_init_73 : decode cX12_init 73 = .ok (.newarray .int, 2) := by decide +kernel
theorem dX12_init_75 : decode cX12_init 75 = .ok (.putfield 38, 3) := by decide +kernel
theorem dX12_init_78 : decode cX12_init 78 = .ok (.aload_n 0, 1) := by decide +kernel
theorem dX12_init_79 : decode cX12_init 79 = .ok (.sipush 225, 3) := by decide +kernel
theorem dX12_init_82 : decode cX12_init 82 = .ok (.newarray .int, 2) := by decide +kernel
theorem dX12_init_84 : decode cX12_init 84 = .ok (.putfield 41, 3) := by decide +kernel
theorem dX12_init_87 : decode cX12_init 87 = .ok (.aload_n 0, 1) := by decide +kernel
theorem dX12_init_88 : decode cX12_init 88 = .ok (.sipush 1800, 3) := by decide +kernel
theorem dX12_init_91 : decode cX12_init 91 = .ok (.newarray .int, 2) := by decide +kernel
theorem dX12_init_93 : decode cX12_init 93 = .ok (.putfield 44, 3) := by decide +kernel
theorem dX12_init_96 : decode cX12_init 96 = .ok (.aload_n 0, 1) := by decide +kernel
theorem dX12_init_97 : decode cX12_init 97 = .ok (.sipush 450, 3) := by decide +kernel
theorem dX12_init_100 : decode cX12_init 100 = .ok (.newarray .int, 2) := by decide +kernel
theorem dX12_init_102 : decode cX12_init 102 = .ok (.putfield 47, 3) := by decide +kernel
theorem dX12_init_105 : decode cX12_init 105 = .ok (.aload_n 0, 1) := by decide +kernel
theorem dX12_init_106 : decode cX12_init 106 = .ok (.iconst 2, 1) := by decide +kernel
theorem dX12_init_107 : decode cX12_init 107 = .ok (.newarray .boolean, 2) := by decide +kernel
theorem dX12_init_109 : decode cX12_init 109 = .ok (.putfield 50, 3) := by decide +kernel
theorem dX12_init_112 : decode cX12_init 112 = .ok (.aload_n 0, 1) := by decide +kernel
theorem dX12_init_113 : decode cX12_init 113 = .ok (.bipush 7, 2) := by decide +kernel
theorem dX12_init_115 : decode cX12_init 115 = .ok (.newarray .long, 2) := by decide +kernel
theorem dX12_init_117 : decode cX12_init 117 = .ok (.putfield 54, 3) := by decide +kernel
theorem dX12_init_120 : decode cX12_init 120 = .ok (.aload_n 0, 1) := by decide +kernel
theorem dX12_init_121 : decode cX12_init 121 = .ok (.bipush 49, 2) := by decide +kernel
theorem dX12_init_123 : decode cX12_init 123 = .ok (.newarray .boolean, 2) := by decide +kernel
theorem dX12_init_125 : decode cX12_init 125 = .ok (.putfield 58, 3) := by decide +kernel
theorem dX12_init_128 : decode cX12_init 128 = .ok (.aload_n 0, 1) := by decide +kernel
theorem dX12_init_129 : decode cX12_init 129 = .ok (.bipush 8, 2) := by decide +kernel
theorem dX12_init_131 : decode cX12_init 131 = .ok (.newarray .int, 2) := by decide +kernel
theorem dX12_init_133 : decode cX12_init 133 = .ok (.putfield 61, 3) := by decide +kernel
theorem dX12_init_136 : decode cX12_init 136 = .ok (.aload_n 0, 1) := by decide +kernel
theorem dX12_init_137 : decode cX12_init 137 = .ok (.bipush 8, 2) := by decide +kernel
theorem dX12_init_139 : decode cX12_init 139 = .ok (.newarray .int, 2) := by decide +kernel
theorem dX12_init_141 : decode cX12_init 141 = .ok (.putfield 64, 3) := by decide +kernel
theorem dX12_init_144 : decode cX12_init 144 = .ok (.aload_n 0, 1) := by decide +kernel
theorem dX12_init_145 : decode cX12_init 145 = .ok (.bipush 8, 2) := by decide +kernel
theorem dX12_init_147 : decode cX12_init 147 = .ok (.newarray .int, 2) := by decide +kernel
theorem dX12_init_149 : decode cX12_init 149 = .ok (.putfield 67, 3) := by decide +kernel
theorem dX12_init_152 : decode cX12_init 152 = .ok (.aload_n 0, 1) := by decide +kernel
theorem dX12_init_153 : decode cX12_init 153 = .ok (.bipush 7, 2) := by decide +kernel
theorem dX12_init_155 : decode cX12_init 155 = .ok (.newarray .long, 2) := by decide +kernel
theorem dX12_init_157 : decode cX12_init 157 = .ok (.putfield 70, 3) := by decide +kernel
theorem dX12_init_160 : decode cX12_init 160 = .ok (.aload_n 0, 1) := by decide +kernel
theorem dX12_init_161 : decode cX12_init 161 = .ok (.bipush 7, 2) := by decide +kernel
theorem dX12_init_163 : decode cX12_init 163 = .ok (.newarray .int, 2) := by decide +kernel
theorem dX12_init_165 : decode cX12_init 165 = .ok (.putfield 73, 3) := by decide +kernel
theorem dX12_init_168 : decode cX12_init 168 = .ok (.aload_n 0, 1) := by decide +kernel
theorem dX12_init_169 : decode cX12_init 169 = .ok (.bipush 7, 2) := by decide +kernel
theorem dX12_init_171 : decode cX12_init 171 = .ok (.newarray .int, 2) := by decide +kernel
theorem dX12_init_173 : decode cX12_init 173 = .ok (.putfield 76, 3) := by decide +kernel
theorem dX12_init_176 : decode cX12_init 176 = .ok (.aload_n 0, 1) := by decide +kernel
theorem dX12_init_177 : decode cX12_init 177 = .ok (.bipush 8, 2) := by decide +kernel
theorem dX12_init_179 : decode cX12_init 179 = .ok (.newarray .int, 2) := by decide +kernel
theorem dX12_init_181 : decode cX12_init 181 = .ok (.putfield 79, 3) := by decide +kernel
theorem dX12_init_184 : decode cX12_init 184 = .ok (.aload_n 0, 1) := by decide +kernel
theorem dX12_init_185 : decode cX12_init 185 = .ok (.iconst 3, 1) := by decide +kernel
theorem dX12_init_186 : decode cX12_init 186 = .ok (.newarray .int, 2) := by decide +kernel
theorem dX12_init_188 : decode cX12_init 188 = .ok (.putfield 82, 3) := by decide +kernel
theorem dX12_init_191 : decode cX12_init 191 = .ok (.aload_n 0, 1) := by decide +kernel
theorem dX12_init_192 : decode cX12_init 192 = .ok (.bipush 24, 2) := by decide +kernel
theorem dX12_init_194 : decode cX12_init 194 = .ok (.newarray .long, 2) := by decide +kernel
theorem dX12_init_196 : decode cX12_init 196 = .ok (.putfield 85, 3) := by decide +kernel
theorem dX12_init_199 : decode cX12_init 199 = .ok (.iconst 0, 1) := by decide +kernel
theorem dX12_init_200 : decode cX12_init 200 = .ok (.istore_n 1, 1) := by decide +kernel
theorem dX12_init_201 : decode cX12_init 201 = .ok (.iload_n 1, 1) := by decide +kernel
theorem dX12_init_202 : decode cX12_init 202 = .ok (.iconst 3, 1) := by decide +kernel
theorem dX12_init_203 : decode cX12_init 203 = .ok (.if_icmp .ge 16, 3) := by decide +kernel
theorem dX12_init_206 : decode cX12_init 206 = .ok (.aload_n 0, 1) := by decide +kernel
theorem dX12_init_207 : decode cX12_init 207 = .ok (.getfield 82, 3) := by decide +kernel
theorem dX12_init_210 : decode cX12_init 210 = .ok (.iload_n 1, 1) := by decide +kernel
theorem dX12_init_211 : decode cX12_init 211 = .ok (.iconst (-1), 1) := by decide +kernel
theorem dX12_init_212 : decode cX12_init 212 = .ok (.iastore, 1) := by decide +kernel
theorem dX12_init_213 : decode cX12_init 213 = .ok (.iinc 1 1, 3) := by decide +kernel
theorem dX12_init_216 : decode cX12_init 216 = .ok (.goto (-15), 3) := by decide +kernel
theorem dX12_init_219 : decode cX12_init 219 = .ok (.return_, 1) := by decide +kernel
theorem dX12_within_0 : decode cX12_within 0 = .ok (.iload_n 0, 1) := by decide +kernel
theorem dX12_within_1 : decode cX12_within 1 = .ok (.iload_n 1, 1) := by decide +kernel
theorem dX12_within_2 : decode cX12_within 2 = .ok (.if_icmp .lt 12, 3) := by decide +kernel
theorem dX12_within_5 : decode cX12_within 5 = .ok (.iload_n 0, 1) := by decide +kernel
theorem dX12_within_6 : decode cX12_within 6 = .ok (.iload_n 2, 1) := by decide +kernel
theorem dX12_within_7 : decode cX12_within 7 = .ok (.if_icmp .gt 7, 3) := by decide +kernel
theorem dX12_within_10 : decode cX12_within 10 = .ok (.iconst 1, 1) := by decide +kernel
theorem dX12_within_11 : decode cX12_within 11 = .ok (.goto 4, 3) := by decide +kernel
theorem dX12_within_14 : decode cX12_within 14 = .ok (.iconst 0, 1) := by decide +kernel
theorem dX12_within_15 : decode cX12_within 15 = .ok (.ireturn, 1) := by decide +kernel
theorem dX12_bring_0 : decode cX12_bring 0 = .ok (.iconst 0, 1) := by decide +kernel
theorem dX12_bring_1 : decode cX12_bring 1 = .ok (.istore 5, 2) := by decide +kernel
theorem dX12_bring_3 : decode cX12_bring 3 = .ok (.iload 5, 2) := by decide +kernel
theorem dX12_bring_5 : decode cX12_bring 5 = .ok (.iload 4, 2) := by decide +kernel
theorem dX12_bring_7 : decode cX12_bring 7 = .ok (.if_icmp .ge 21, 3) := by decide +kernel
theorem dX12_bring_10 : decode cX12_bring 10 = .ok (.aload_n 2, 1) := by decide +kernel
theorem dX12_bring_11 : decode cX12_bring 11 = .ok (.iload_n 3, 1) := by decide +kernel
theorem dX12_bring_12 : decode cX12_bring 12 = .ok (.iload 5, 2) := by decide +kernel
theorem dX12_bring_14 : decode cX12_bring 14 = .ok (.iadd, 1) := by decide +kernel
theorem dX12_bring_15 : decode cX12_bring 15 = .ok (.aload_n 0, 1) := by decide +kernel
theorem dX12_bring_16 : decode cX12_bring 16 = .ok (.iload_n 1, 1) := by decide +kernel
theorem dX12_bring_17 : decode cX12_bring 17 = .ok (.iload 5, 2) := by decide +kernel
theorem dX12_bring_19 : decode cX12_bring 19 = .ok (.iadd, 1) := by decide +kernel
theorem dX12_bring_20 : decode cX12_bring 20 = .ok (.iaload, 1) := by decide +kernel
theorem dX12_bring_21 : decode cX12_bring 21 = .ok (.iastore, 1) := by decide +kernel
theorem dX12_bring_22 : decode cX12_bring 22 = .ok (.iinc 5 1, 3) := by decide +kernel
theorem dX12_bring_25 : decode cX12_bring 25 = .ok (.goto (-22), 3) := by decide +kernel
theorem dX12_bring_28 : decode cX12_bring 28 = .ok (.return_, 1) := by decide +kernel
theorem dX12_write_0 : decode cX12_write 0 = .ok (.iload_n 1, 1) := by decide +kernel
theorem dX12_write_1 : decode cX12_write 1 = .ok (.iconst 0, 1) := by decide +kernel
theorem dX12_write_2 : decode cX12_write 2 = .ok (.sipush 255, 3) := by decide +kernel
theorem dX12_write_5 : decode cX12_write 5 = .ok (.invokestatic 88, 3) := by decide +kernel
theorem dX12_write_8 : decode cX12_write 8 = .ok (.ifCond .ne 6, 3) := by decide +kernel
theorem dX12_write_11 : decode cX12_write 11 = .ok (.bipush (-3), 2) := by decide +kernel
theorem dX12_write_13 : decode cX12_write 13 = .ok (.ireturn, 1) := by decide +kernel
theorem dX12_write_14 : decode cX12_write 14 = .ok (.aload_n 0, 1) := by decide +kernel
theorem dX12_write_15 : decode cX12_write 15 = .ok (.getfield 92, 3) := by decide +kernel
theorem dX12_write_18 : decode cX12_write 18 = .ok (.sipush 200, 3) := by decide +kernel
theorem dX12_write_21 : decode cX12_write 21 = .ok (.if_icmp .ne 6, 3) := by decide +kernel
theorem dX12_write_24 : decode cX12_write 24 = .ok (.bipush (-5), 2) := by decide +kernel
theorem dX12_write_26 : decode cX12_write 26 = .ok (.ireturn, 1) := by decide +kernel
theorem dX12_write_27 : decode cX12_write 27 = .ok (.aload_n 0, 1) := by decide +kernel
theorem dX12_write_28 : decode cX12_write 28 = .ok (.getfield 7, 3) := by decide +kernel
theorem dX12_write_31 : decode cX12_write 31 = .ok (.aload_n 0, 1) := by decide +kernel
theorem dX12_write_32 : decode cX12_write 32 = .ok (.getfield 92, 3) := by decide +kernel
theorem dX12_write_35 : decode cX12_write 35 = .ok (.iload_n 1, 1) := by decide +kernel
theorem dX12_write_36 : decode cX12_write 36 = .ok (.iastore, 1) := by decide +kernel
theorem dX12_write_37 : decode cX12_write 37 = .ok (.aload_n 0, 1) := by decide +kernel
theorem dX12_write_38 : decode cX12_write 38 = .ok (.dup, 1) := by decide +kernel
theorem dX12_write_39 : decode cX12_write 39 = .ok (.getfield 92, 3) := by decide +kernel
theorem dX12_write_42 : decode cX12_write 42 = .ok (.iconst 1, 1) := by decide +kernel
theorem dX12_write_43 : decode cX12_write 43 = .ok (.iadd, 1) := by decide +kernel
theorem dX12_write_44 : decode cX12_write 44 = .ok (.putfield 92, 3) := by decide +kernel
theorem dX12_write_47 : decode cX12_write 47 = .ok (.aload_n 0, 1) := by decide +kernel
theorem dX12_write_48 : decode cX12_write 48 = .ok (.getfield 92, 3) := by decide +kernel
theorem dX12_write_51 : decode cX12_write 51 = .ok (.ireturn, 1) := by decide +kernel
theorem dX12_erase_0 : decode cX12_erase 0 = .ok (.aload_n 0, 1) := by decide +kernel
theorem dX12_erase_1 : decode cX12_erase 1 = .ok (.getfield 92, 3) := by decide +kernel
theorem dX12_erase_4 : decode cX12_erase 4 = .ok (.istore_n 1, 1) := by decide +kernel
theorem dX12_erase_5 : decode cX12_erase 5 = .ok (.aload_n 0, 1) := by decide +kernel
theorem dX12_erase_6 : decode cX12_erase 6 = .ok (.iconst 0, 1) := by decide +kernel
theorem dX12_erase_7 : decode cX12_erase 7 = .ok (.putfield 92, 3) := by decide +kernel
theorem dX12_erase_10 : decode cX12_erase 10 = .ok (.iload_n 1, 1) := by decide +kernel
theorem dX12_erase_11 : decode cX12_erase 11 = .ok (.ireturn, 1) := by decide +kernel
theorem dX12_kindOf_0 : decode cX12_kindOf 0 = .ok (.iload_n 0, 1) := by decide +kernel
theorem dX12_kindOf_1 : decode cX12_kindOf 1 = .ok (.bipush 97, 2) := by decide +kernel
theorem dX12_kindOf_3 : decode cX12_kindOf 3 = .ok (.bipush 122, 2) := by decide +kernel
theorem dX12_kindOf_5 : decode cX12_kindOf 5 = .ok (.invokestatic 88, 3) := by decide +kernel
theorem dX12_kindOf_8 : decode cX12_kindOf 8 = .ok (.ifCond .eq 7, 3) := by decide +kernel
theorem dX12_kindOf_11 : decode cX12_kindOf 11 = .ok (.iconst 1, 1) := by decide +kernel
theorem dX12_kindOf_12 : decode cX12_kindOf 12 = .ok (.goto 19, 3) := by decide +kernel
theorem dX12_kindOf_15 : decode cX12_kindOf 15 = .ok (.iload_n 0, 1) := by decide +kernel
theorem dX12_kindOf_16 : decode cX12_kindOf 16 = .ok (.bipush 48, 2) := by decide +kernel
theorem dX12_kindOf_18 : decode cX12_kindOf 18 = .ok (.bipush 57, 2) := by decide +kernel
theorem dX12_kindOf_20 : decode cX12_kindOf 20 = .ok (.invokestatic 88, 3) := by decide +kernel
theorem dX12_kindOf_23 : decode cX12_kindOf 23 = .ok (.ifCond .eq 7, 3) := by decide +kernel
theorem dX12_kindOf_26 : decode cX12_kindOf 26 = .ok (.iconst 2, 1) := by decide +kernel
theorem dX12_kindOf_27 : decode cX12_kindOf 27 = .ok (.goto 4, 3) := by decide +kernel
theorem dX12_kindOf_30 : decode cX12_kindOf 30 = .ok (.iconst 0, 1) := by decide +kernel
theorem dX12_kindOf_31 : decode cX12_kindOf 31 = .ok (.ireturn, 1) := by decide +kernel
theorem dX12_take_0 : decode cX12_take 0 = .ok (.aload_n 0, 1) := by decide +kernel
theorem dX12_take_1 : decode cX12_take 1 = .ok (.getfield 95, 3) := by decide +kernel
theorem dX12_take_4 : decode cX12_take 4 = .ok (.aload_n 0, 1) := by decide +kernel
theorem dX12_take_5 : decode cX12_take 5 = .ok (.getfield 92, 3) := by decide +kernel
theorem dX12_take_8 : decode cX12_take 8 = .ok (.if_icmp .ge 30, 3) := by decide +kernel
theorem dX12_take_11 : decode cX12_take 11 = .ok (.aload_n 0, 1) := by decide +kernel
theorem dX12_take_12 : decode cX12_take 12 = .ok (.getfield 7, 3) := by decide +kernel
theorem dX12_take_15 : decode cX12_take 15 = .ok (.aload_n 0, 1) := by decide +kernel
theorem dX12_take_16 : decode cX12_take 16 = .ok (.getfield 95, 3) := by decide +kernel
theorem dX12_take_19 : decode cX12_take 19 = .ok (.iaload, 1) := by decide +kernel
theorem dX12_take_20 : decode cX12_take 20 = .ok (.bipush 32, 2) := by decide +kernel
theorem dX12_take_22 : decode cX12_take 22 = .ok (.if_icmp .ne 16, 3) := by decide +kernel
theorem dX12_take_25 : decode cX12_take 25 = .ok (.aload_n 0, 1) := by decide +kernel
theorem dX12_take_26 : decode cX12_take 26 = .ok (.dup, 1) := by decide +kernel
theorem dX12_take_27 : decode cX12_take 27 = .ok (.getfield 95, 3) := by decide +kernel
theorem dX12_take_30 : decode cX12_take 30 = .ok (.iconst 1, 1) := by decide +kernel
theorem dX12_take_31 : decode cX12_take 31 = .ok (.iadd, 1) := by decide +kernel
theorem dX12_take_32 : decode cX12_take 32 = .ok (.putfield 95, 3) := by decide +kernel
theorem dX12_take_35 : decode cX12_take 35 = .ok (.goto (-35), 3) := by decide +kernel
theorem dX12_take_38 : decode cX12_take 38 = .ok (.aload_n 0, 1) := by decide +kernel
theorem dX12_take_39 : decode cX12_take 39 = .ok (.aload_n 0, 1) := by decide +kernel
theorem dX12_take_40 : decode cX12_take 40 = .ok (.getfield 95, 3) := by decide +kernel
theorem dX12_take_43 : decode cX12_take 43 = .ok (.putfield 98, 3) := by decide +kernel
theorem dX12_take_46 : decode cX12_take 46 = .ok (.aload_n 0, 1) := by decide +kernel
theorem dX12_take_47 : decode cX12_take 47 = .ok (.iconst 0, 1) := by decide +kernel
theorem dX12_take_48 : decode cX12_take 48 = .ok (.putfield 101, 3) := by decide +kernel
theorem dX12_take_51 : decode cX12_take 51 = .ok (.aload_n 0, 1) := by decide +kernel
theorem dX12_take_52 : decode cX12_take 52 = .ok (.aload_n 0, 1) := by decide +kernel
theorem dX12_take_53 : decode cX12_take 53 = .ok (.getfield 95, 3) := by decide +kernel
theorem dX12_take_56 : decode cX12_take 56 = .ok (.aload_n 0, 1) := by decide +kernel
theorem dX12_take_57 : decode cX12_take 57 = .ok (.getfield 92, 3) := by decide +kernel
theorem dX12_take_60 : decode cX12_take 60 = .ok (.if_icmp .ge 18, 3) := by decide +kernel
theorem dX12_take_63 : decode cX12_take 63 = .ok (.aload_n 0, 1) := by decide +kernel
theorem dX12_take_64 : decode cX12_take 64 = .ok (.getfield 7, 3) := by decide +kernel
theorem dX12_take_67 : decode cX12_take 67 = .ok (.aload_n 0, 1) := by decide +kernel
theorem dX12_take_68 : decode cX12_take 68 = .ok (.getfield 95, 3) := by decide +kernel
theorem dX12_take_71 : decode cX12_take 71 = .ok (.iaload, 1) := by decide +kernel
theorem dX12_take_72 : decode cX12_take 72 = .ok (.invokestatic 104, 3) := by decide +kernel
theorem dX12_take_75 : decode cX12_take 75 = .ok (.goto 4, 3) := by decide +kernel
theorem dX12_take_78 : decode cX12_take 78 = .ok (.iconst 0, 1) := by decide +kernel
theorem dX12_take_79 : decode cX12_take 79 = .ok (.putfield 108, 3) := by decide +kernel
theorem dX12_take_82 : decode cX12_take 82 = .ok (.aload_n 0, 1) := by decide +kernel
theorem dX12_take_83 : decode cX12_take 83 = .ok (.getfield 95, 3) := by decide +kernel
theorem dX12_take_86 : decode cX12_take 86 = .ok (.aload_n 0, 1) := by decide +kernel
theorem dX12_take_87 : decode cX12_take 87 = .ok (.getfield 92, 3) := by decide +kernel
theorem dX12_take_90 : decode cX12_take 90 = .ok (.if_icmp .ge 59, 3) := by decide +kernel
theorem dX12_take_93 : decode cX12_take 93 = .ok (.aload_n 0, 1) := by decide +kernel
theorem dX12_take_94 : decode cX12_take 94 = .ok (.getfield 101, 3) := by decide +kernel
theorem dX12_take_97 : decode cX12_take 97 = .ok (.ifCond .eq 29, 3) := by decide +kernel
theorem dX12_take_100 : decode cX12_take 100 = .ok (.aload_n 0, 1) := by decide +kernel
theorem dX12_take_101 : decode cX12_take 101 = .ok (.getfield 108, 3) := by decide +kernel
theorem dX12_take_104 : decode cX12_take 104 = .ok (.ifCond .le 45, 3) := by decide +kernel
theorem dX12_take_107 : decode cX12_take 107 = .ok (.aload_n 0, 1) := by decide +kernel
theorem dX12_take_108 : decode cX12_take 108 = .ok (.getfield 7, 3) := by decide +kernel
theorem dX12_take_111 : decode cX12_take 111 = .ok (.aload_n 0, 1) := by decide +kernel
theorem dX12_take_112 : decode cX12_take 112 = .ok (.getfield 95, 3) := by decide +kernel
theorem dX12_take_115 : decode cX12_take 115 = .ok (.iaload, 1) := by decide +kernel
theorem dX12_take_116 : decode cX12_take 116 = .ok (.invokestatic 104, 3) := by decide +kernel
theorem dX12_take_119 : decode cX12_take 119 = .ok (.aload_n 0, 1) := by decide +kernel
theorem dX12_take_120 : decode cX12_take 120 = .ok (.getfield 108, 3) := by decide +kernel
theorem dX12_take_123 : decode cX12_take 123 = .ok (.if_icmp .ne 26, 3) := by decide +kernel
theorem dX12_take_126 : decode cX12_take 126 = .ok (.aload_n 0, 1) := by decide +kernel
theorem dX12_take_127 : decode cX12_take 127 = .ok (.dup, 1) := by decide +kernel
theorem dX12_take_128 : decode cX12_take 128 = .ok (.getfield 95, 3) := by decide +kernel
theorem dX12_take_131 : decode cX12_take 131 = .ok (.iconst 1, 1) := by decide +kernel
theorem dX12_take_132 : decode cX12_take 132 = .ok (.iadd, 1) := by decide +kernel
theorem dX12_take_133 : decode cX12_take 133 = .ok (.putfield 95, 3) := by decide +kernel
theorem dX12_take_136 : decode cX12_take 136 = .ok (.aload_n 0, 1) := by decide +kernel
theorem dX12_take_137 : decode cX12_take 137 = .ok (.dup, 1) := by decide +kernel
theorem dX12_take_138 : decode cX12_take 138 = .ok (.getfield 101, 3) := by decide +kernel
theorem dX12_take_141 : decode cX12_take 141 = .ok (.iconst 1, 1) := by decide +kernel
theorem dX12_take_142 : decode cX12_take 142 = .ok (.iadd, 1) := by decide +kernel
theorem dX12_take_143 : decode cX12_take 143 = .ok (.putfield 101, 3) := by decide +kernel
theorem dX12_take_146 : decode cX12_take 146 = .ok (.goto (-64), 3) := by decide +kernel
theorem dX12_take_149 : decode cX12_take 149 = .ok (.return_, 1) := by decide +kernel
theorem dX12_want_0 : decode cX12_want 0 = .ok (.iload_n 1, 1) := by decide +kernel
theorem dX12_want_1 : decode cX12_want 1 = .ok (.ifCond .ne 19, 3) := by decide +kernel
theorem dX12_want_4 : decode cX12_want 4 = .ok (.aload_n 0, 1) := by decide +kernel
theorem dX12_want_5 : decode cX12_want 5 = .ok (.getfield 111, 3) := by decide +kernel
theorem dX12_want_8 : decode cX12_want 8 = .ok (.iconst (-1), 1) := by decide +kernel
theorem dX12_want_9 : decode cX12_want 9 = .ok (.if_icmp .ne 11, 3) := by decide +kernel
theorem dX12_want_12 : decode cX12_want 12 = .ok (.aload_n 0, 1) := by decide +kernel
theorem dX12_want_13 : decode cX12_want 13 = .ok (.aload_n 0, 1) := by decide +kernel
theorem dX12_want_14 : decode cX12_want 14 = .ok (.getfield 98, 3) := by decide +kernel
theorem dX12_want_17 : decode cX12_want 17 = .ok (.putfield 111, 3) := by decide +kernel
theorem dX12_want_20 : decode cX12_want 20 = .ok (.iload_n 1, 1) := by decide +kernel
theorem dX12_want_21 : decode cX12_want 21 = .ok (.ireturn, 1) := by decide +kernel
theorem dX12_wordOf_0 : decode cX12_wordOf 0 = .ok (.iconst 0, 1) := by decide +kernel
theorem dX12_wordOf_1 : decode cX12_wordOf 1 = .ok (.istore_n 1, 1) := by decide +kernel
theorem dX12_wordOf_2 : decode cX12_wordOf 2 = .ok (.aload_n 0, 1) := by decide +kernel
theorem dX12_wordOf_3 : decode cX12_wordOf 3 = .ok (.getfield 98, 3) := by decide +kernel
theorem dX12_wordOf_6 : decode cX12_wordOf 6 = .ok (.istore_n 2, 1) := by decide +kernel
theorem dX12_wordOf_7 : decode cX12_wordOf 7 = .ok (.iload_n 2, 1) := by decide +kernel
theorem dX12_wordOf_8 : decode cX12_wordOf 8 = .ok (.aload_n 0, 1) := by decide +kernel
theorem dX12_wordOf_9 : decode cX12_wordOf 9 = .ok (.getfield 98, 3) := by decide +kernel
theorem dX12_wordOf_12 : decode cX12_wordOf 12 = .ok (.aload_n 0, 1) := by decide +kernel
theorem dX12_wordOf_13 : decode cX12_wordOf 13 = .ok (.getfield 101, 3) := by decide +kernel
theorem dX12_wordOf_16 : decode cX12_wordOf 16 = .ok (.iadd, 1) := by decide +kernel
theorem dX12_wordOf_17 : decode cX12_wordOf 17 = .ok (.if_icmp .ge 46, 3) := by decide +kernel
theorem dX12_wordOf_20 : decode cX12_wordOf 20 = .ok (.aload_n 0, 1) := by decide +kernel
theorem dX12_wordOf_21 : decode cX12_wordOf 21 = .ok (.getfield 101, 3) := by decide +kernel
theorem dX12_wordOf_24 : decode cX12_wordOf 24 = .ok (.bipush 8, 2) := by decide +kernel
theorem dX12_wordOf_26 : decode cX12_wordOf 26 = .ok (.if_icmp .ge 37, 3) := by decide +kernel
theorem dX12_wordOf_29 : decode cX12_wordOf 29 = .ok (.aload_n 0, 1) := by decide +kernel
theorem dX12_wordOf_30 : decode cX12_wordOf 30 = .ok (.getfield 101, 3) := by decide +kernel
theorem dX12_wordOf_33 : decode cX12_wordOf 33 = .ok (.bipush 6, 2) := by decide +kernel
theorem dX12_wordOf_35 : decode cX12_wordOf 35 = .ok (.if_icmp .ge 20, 3) := by decide +kernel
theorem dX12_wordOf_38 : decode cX12_wordOf 38 = .ok (.bipush 27, 2) := by decide +kernel
theorem dX12_wordOf_40 : decode cX12_wordOf 40 = .ok (.iload_n 1, 1) := by decide +kernel
theorem dX12_wordOf_41 : decode cX12_wordOf 41 = .ok (.imul, 1) := by decide +kernel
theorem dX12_wordOf_42 : decode cX12_wordOf 42 = .ok (.aload_n 0, 1) := by decide +kernel
theorem dX12_wordOf_43 : decode cX12_wordOf 43 = .ok (.getfield 7, 3) := by decide +kernel
theorem dX12_wordOf_46 : decode cX12_wordOf 46 = .ok (.iload_n 2, 1) := by decide +kernel
theorem dX12_wordOf_47 : decode cX12_wordOf 47 = .ok (.iaload, 1) := by decide +kernel
theorem dX12_wordOf_48 : decode cX12_wordOf 48 = .ok (.iadd, 1) := by decide +kernel
theorem dX12_wordOf_49 : decode cX12_wordOf 49 = .ok (.bipush 96, 2) := by decide +kernel
theorem dX12_wordOf_51 : decode cX12_wordOf 51 = .ok (.isub, 1) := by decide +kernel
theorem dX12_wordOf_52 : decode cX12_wordOf 52 = .ok (.goto 4, 3) := by decide +kernel
theorem dX12_wordOf_55 : decode cX12_wordOf 55 = .ok (.iload_n 1, 1) := by decide +kernel
theorem dX12_wordOf_56 : decode cX12_wordOf 56 = .ok (.istore_n 1, 1) := by decide +kernel
theorem dX12_wordOf_57 : decode cX12_wordOf 57 = .ok (.iinc 2 1, 3) := by decide +kernel
theorem dX12_wordOf_60 : decode cX12_wordOf 60 = .ok (.goto (-53), 3) := by decide +kernel
theorem dX12_wordOf_63 : decode cX12_wordOf 63 = .ok (.iload_n 1, 1) := by decide +kernel
theorem dX12_wordOf_64 : decode cX12_wordOf 64 = .ok (.ireturn, 1) := by decide +kernel
theorem dX12_isWord_0 : decode cX12_isWord 0 = .ok (.iload_n 1, 1) := by decide +kernel
theorem dX12_isWord_1 : decode cX12_isWord 1 = .ok (.ifCond .le 7, 3) := by decide +kernel
theorem dX12_isWord_4 : decode cX12_isWord 4 = .ok (.iconst 1, 1) := by decide +kernel
theorem dX12_isWord_5 : decode cX12_isWord 5 = .ok (.goto 4, 3) := by decide +kernel
theorem dX12_isWord_8 : decode cX12_isWord 8 = .ok (.iconst 0, 1) := by decide +kernel
theorem dX12_isWord_9 : decode cX12_isWord 9 = .ok (.iload_n 2, 1) := by decide +kernel
theorem dX12_isWord_10 : decode cX12_isWord 10 = .ok (.ifCond .le 7, 3) := by decide +kernel
theorem dX12_isWord_13 : decode cX12_isWord 13 = .ok (.iconst 1, 1) := by decide +kernel
theorem dX12_isWord_14 : decode cX12_isWord 14 = .ok (.goto 4, 3) := by decide +kernel
theorem dX12_isWord_17 : decode cX12_isWord 17 = .ok (.iconst 0, 1) := by decide +kernel
theorem dX12_isWord_18 : decode cX12_isWord 18 = .ok (.iadd, 1) := by decide +kernel
theorem dX12_isWord_19 : decode cX12_isWord 19 = .ok (.iload_n 3, 1) := by decide +kernel
theorem dX12_isWord_20 : decode cX12_isWord 20 = .ok (.ifCond .le 7, 3) := by decide +kernel
theorem dX12_isWord_23 : decode cX12_isWord 23 = .ok (.iconst 1, 1) := by decide +kernel
theorem dX12_isWord_24 : decode cX12_isWord 24 = .ok (.goto 4, 3) := by decide +kernel
theorem dX12_isWord_27 : decode cX12_isWord 27 = .ok (.iconst 0, 1) := by decide +kernel
theorem dX12_isWord_28 : decode cX12_isWord 28 = .ok (.iadd, 1) := by decide +kernel
theorem dX12_isWord_29 : decode cX12_isWord 29 = .ok (.iload 4, 2) := by decide +kernel
theorem dX12_isWord_31 : decode cX12_isWord 31 = .ok (.ifCond .le 7, 3) := by decide +kernel
theorem dX12_isWord_34 : decode cX12_isWord 34 = .ok (.iconst 1, 1) := by decide +kernel
theorem dX12_isWord_35 : decode cX12_isWord 35 = .ok (.goto 4, 3) := by decide +kernel
theorem dX12_isWord_38 : decode cX12_isWord 38 = .ok (.iconst 0, 1) := by decide +kernel
theorem dX12_isWord_39 : decode cX12_isWord 39 = .ok (.iadd, 1) := by decide +kernel
theorem dX12_isWord_40 : decode cX12_isWord 40 = .ok (.iload 5, 2) := by decide +kernel
theorem dX12_isWord_42 : decode cX12_isWord 42 = .ok (.ifCond .le 7, 3) := by decide +kernel
theorem dX12_isWord_45 : decode cX12_isWord 45 = .ok (.iconst 1, 1) := by decide +kernel
theorem dX12_isWord_46 : decode cX12_isWord 46 = .ok (.goto 4, 3) := by decide +kernel
theorem dX12_isWord_49 : decode cX12_isWord 49 = .ok (.iconst 0, 1) := by decide +kernel
theorem dX12_isWord_50 : decode cX12_isWord 50 = .ok (.iadd, 1) := by decide +kernel
theorem dX12_isWord_51 : decode cX12_isWord 51 = .ok (.iload 6, 2) := by decide +kernel
theorem dX12_isWord_53 : decode cX12_isWord 53 = .ok (.ifCond .le 7, 3) := by decide +kernel
theorem dX12_isWord_56 : decode cX12_isWord 56 = .ok (.iconst 1, 1) := by decide +kernel
theorem dX12_isWord_57 : decode cX12_isWord 57 = .ok (.goto 4, 3) := by decide +kernel
theorem dX12_isWord_60 : decode cX12_isWord 60 = .ok (.iconst 0, 1) := by decide +kernel
theorem dX12_isWord_61 : decode cX12_isWord 61 = .ok (.iadd, 1) := by decide +kernel
theorem dX12_isWord_62 : decode cX12_isWord 62 = .ok (.iload 7, 2) := by decide +kernel
theorem dX12_isWord_64 : decode cX12_isWord 64 = .ok (.ifCond .le 7, 3) := by decide +kernel
theorem dX12_isWord_67 : decode cX12_isWord 67 = .ok (.iconst 1, 1) := by decide +kernel
theorem dX12_isWord_68 : decode cX12_isWord 68 = .ok (.goto 4, 3) := by decide +kernel
theorem dX12_isWord_71 : decode cX12_isWord 71 = .ok (.iconst 0, 1) := by decide +kernel
theorem dX12_isWord_72 : decode cX12_isWord 72 = .ok (.iadd, 1) := by decide +kernel
theorem dX12_isWord_73 : decode cX12_isWord 73 = .ok (.istore 8, 2) := by decide +kernel
theorem dX12_isWord_75 : decode cX12_isWord 75 = .ok (.aload_n 0, 1) := by decide +kernel
theorem dX12_isWord_76 : decode cX12_isWord 76 = .ok (.getfield 108, 3) := by decide +kernel
theorem dX12_isWord_79 : decode cX12_isWord 79 = .ok (.iconst 1, 1) := by decide +kernel
theorem dX12_isWord_80 : decode cX12_isWord 80 = .ok (.if_icmp .ne 84, 3) := by decide +kernel
theorem dX12_isWord_83 : decode cX12_isWord 83 = .ok (.aload_n 0, 1) := by decide +kernel
theorem dX12_isWord_84 : decode cX12_isWord 84 = .ok (.getfield 101, 3) := by decide +kernel
theorem dX12_isWord_87 : decode cX12_isWord 87 = .ok (.iload 8, 2) := by decide +kernel
theorem dX12_isWord_89 : decode cX12_isWord 89 = .ok (.if_icmp .ne 75, 3) := by decide +kernel
theorem dX12_isWord_92 : decode cX12_isWord 92 = .ok (.aload_n 0, 1) := by decide +kernel
theorem dX12_isWord_93 : decode cX12_isWord 93 = .ok (.iconst 0, 1) := by decide +kernel
theorem dX12_isWord_94 : decode cX12_isWord 94 = .ok (.iload_n 1, 1) := by decide +kernel
theorem dX12_isWord_95 : decode cX12_isWord 95 = .ok (.invokevirtual 114, 3) := by decide +kernel
theorem dX12_isWord_98 : decode cX12_isWord 98 = .ok (.ifCond .eq 66, 3) := by decide +kernel
theorem dX12_isWord_101 : decode cX12_isWord 101 = .ok (.aload_n 0, 1) := by decide +kernel
theorem dX12_isWord_102 : decode cX12_isWord 102 = .ok (.iconst 1, 1) := by decide +kernel
theorem dX12_isWord_103 : decode cX12_isWord 103 = .ok (.iload_n 2, 1) := by decide +kernel
theorem dX12_isWord_104 : decode cX12_isWord 104 = .ok (.invokevirtual 114, 3) := by decide +kernel
theorem dX12_isWord_107 : decode cX12_isWord 107 = .ok (.ifCond .eq 57, 3) := by decide +kernel
theorem dX12_isWord_110 : decode cX12_isWord 110 = .ok (.aload_n 0, 1) := by decide +kernel
theorem dX12_isWord_111 : decode cX12_isWord 111 = .ok (.iconst 2, 1) := by decide +kernel
theorem dX12_isWord_112 : decode cX12_isWord 112 = .ok (.iload_n 3, 1) := by decide +kernel
theorem dX12_isWord_113 : decode cX12_isWord 113 = .ok (.invokevirtual 114, 3) := by decide +kernel
theorem dX12_isWord_116 : decode cX12_isWord 116 = .ok (.ifCond .eq 48, 3) := by decide +kernel
theorem dX12_isWord_119 : decode cX12_isWord 119 = .ok (.aload_n 0, 1) := by decide +kernel
theorem dX12_isWord_120 : decode cX12_isWord 120 = .ok (.iconst 3, 1) := by decide +kernel
theorem dX12_isWord_121 : decode cX12_isWord 121 = .ok (.iload 4, 2) := by decide +kernel
theorem dX12_isWord_123 : decode cX12_isWord 123 = .ok (.invokevirtual 114, 3) := by decide +kernel
theorem dX12_isWord_126 : decode cX12_isWord 126 = .ok (.ifCond .eq 38, 3) := by decide +kernel
theorem dX12_isWord_129 : decode cX12_isWord 129 = .ok (.aload_n 0, 1) := by decide +kernel
theorem dX12_isWord_130 : decode cX12_isWord 130 = .ok (.iconst 4, 1) := by decide +kernel
theorem dX12_isWord_131 : decode cX12_isWord 131 = .ok (.iload 5, 2) := by decide +kernel
theorem dX12_isWord_133 : decode cX12_isWord 133 = .ok (.invokevirtual 114, 3) := by decide +kernel
theorem dX12_isWord_136 : decode cX12_isWord 136 = .ok (.ifCond .eq 28, 3) := by decide +kernel
theorem dX12_isWord_139 : decode cX12_isWord 139 = .ok (.aload_n 0, 1) := by decide +kernel
theorem dX12_isWord_140 : decode cX12_isWord 140 = .ok (.iconst 5, 1) := by decide +kernel
theorem dX12_isWord_141 : decode cX12_isWord 141 = .ok (.iload 6, 2) := by decide +kernel
theorem dX12_isWord_143 : decode cX12_isWord 143 = .ok (.invokevirtual 114, 3) := by decide +kernel
theorem dX12_isWord_146 : decode cX12_isWord 146 = .ok (.ifCond .eq 18, 3) := by decide +kernel
theorem dX12_isWord_149 : decode cX12_isWord 149 = .ok (.aload_n 0, 1) := by decide +kernel
theorem dX12_isWord_150 : decode cX12_isWord 150 = .ok (.bipush 6, 2) := by decide +kernel
theorem dX12_isWord_152 : decode cX12_isWord 152 = .ok (.iload 7, 2) := by decide +kernel
theorem dX12_isWord_154 : decode cX12_isWord 154 = .ok (.invokevirtual 114, 3) := by decide +kernel
theorem dX12_isWord_157 : decode cX12_isWord 157 = .ok (.ifCond .eq 7, 3) := by decide +kernel
theorem dX12_isWord_160 : decode cX12_isWord 160 = .ok (.iconst 1, 1) := by decide +kernel
theorem dX12_isWord_161 : decode cX12_isWord 161 = .ok (.goto 4, 3) := by decide +kernel
theorem dX12_isWord_164 : decode cX12_isWord 164 = .ok (.iconst 0, 1) := by decide +kernel
theorem dX12_isWord_165 : decode cX12_isWord 165 = .ok (.ireturn, 1) := by decide +kernel
theorem dX12_at_0 : decode cX12_at 0 = .ok (.iload_n 2, 1) := by decide +kernel
theorem dX12_at_1 : decode cX12_at 1 = .ok (.ifCond .eq 18, 3) := by decide +kernel
theorem dX12_at_4 : decode cX12_at 4 = .ok (.aload_n 0, 1) := by decide +kernel
theorem dX12_at_5 : decode cX12_at 5 = .ok (.getfield 7, 3) := by decide +kernel
theorem dX12_at_8 : decode cX12_at 8 = .ok (.aload_n 0, 1) := by decide +kernel
theorem dX12_at_9 : decode cX12_at 9 = .ok (.getfield 98, 3) := by decide +kernel
theorem dX12_at_12 : decode cX12_at 12 = .ok (.iload_n 1, 1) := by decide +kernel
theorem dX12_at_13 : decode cX12_at 13 = .ok (.iadd, 1) := by decide +kernel
theorem dX12_at_14 : decode cX12_at 14 = .ok (.iaload, 1) := by decide +kernel
theorem dX12_at_15 : decode cX12_at 15 = .ok (.iload_n 2, 1) := by decide +kernel
theorem dX12_at_16 : decode cX12_at 16 = .ok (.if_icmp .ne 7, 3) := by decide +kernel
theorem dX12_at_19 : decode cX12_at 19 = .ok (.iconst 1, 1) := by decide +kernel
theorem dX12_at_20 : decode cX12_at 20 = .ok (.goto 4, 3) := by decide +kernel
theorem dX12_at_23 : decode cX12_at 23 = .ok (.iconst 0, 1) := by decide +kernel
theorem dX12_at_24 : decode cX12_at 24 = .ok (.ireturn, 1) := by decide +kernel
theorem dX12_number_0 : decode cX12_number 0 = .ok (.aload_n 0, 1) := by decide +kernel
theorem dX12_number_1 : decode cX12_number 1 = .ok (.invokevirtual 118, 3) := by decide +kernel
theorem dX12_number_4 : decode cX12_number 4 = .ok (.iconst 0, 1) := by decide +kernel
theorem dX12_number_5 : decode cX12_number 5 = .ok (.istore_n 3, 1) := by decide +kernel
theorem dX12_number_6 : decode cX12_number 6 = .ok (.aload_n 0, 1) := by decide +kernel
theorem dX12_number_7 : decode cX12_number 7 = .ok (.getfield 98, 3) := by decide +kernel
theorem dX12_number_10 : decode cX12_number 10 = .ok (.istore 4, 2) := by decide +kernel
theorem dX12_number_12 : decode cX12_number 12 = .ok (.iload 4, 2) := by decide +kernel
theorem dX12_number_14 : decode cX12_number 14 = .ok (.aload_n 0, 1) := by decide +kernel
theorem dX12_number_15 : decode cX12_number 15 = .ok (.getfield 98, 3) := by decide +kernel
theorem dX12_number_18 : decode cX12_number 18 = .ok (.aload_n 0, 1) := by decide +kernel
theorem dX12_number_19 : decode cX12_number 19 = .ok (.getfield 101, 3) := by decide +kernel
theorem dX12_number_22 : decode cX12_number 22 = .ok (.iadd, 1) := by decide +kernel
theorem dX12_number_23 : decode cX12_number 23 = .ok (.if_icmp .ge 36, 3) := by decide +kernel
theorem dX12_number_26 : decode cX12_number 26 = .ok (.iload 4, 2) := by decide +kernel
theorem dX12_number_28 : decode cX12_number 28 = .ok (.aload_n 0, 1) := by decide +kernel
theorem dX12_number_29 : decode cX12_number 29 = .ok (.getfield 98, 3) := by decide +kernel
theorem dX12_number_32 : decode cX12_number 32 = .ok (.iconst 3, 1) := by decide +kernel
theorem dX12_number_33 : decode cX12_number 33 = .ok (.iadd, 1) := by decide +kernel
theorem dX12_number_34 : decode cX12_number 34 = .ok (.if_icmp .ge 25, 3) := by decide +kernel
theorem dX12_number_37 : decode cX12_number 37 = .ok (.bipush 10, 2) := by decide +kernel
theorem dX12_number_39 : decode cX12_number 39 = .ok (.iload_n 3, 1) := by decide +kernel
theorem dX12_number_40 : decode cX12_number 40 = .ok (.imul, 1) := by decide +kernel
theorem dX12_number_41 : decode cX12_number 41 = .ok (.aload_n 0, 1) := by decide +kernel
theorem dX12_number_42 : decode cX12_number 42 = .ok (.getfield 7, 3) := by decide +kernel
theorem dX12_number_45 : decode cX12_number 45 = .ok (.iload 4, 2) := by decide +kernel
theorem dX12_number_47 : decode cX12_number 47 = .ok (.iaload, 1) := by decide +kernel
theorem dX12_number_48 : decode cX12_number 48 = .ok (.iadd, 1) := by decide +kernel
theorem dX12_number_49 : decode cX12_number 49 = .ok (.bipush 48, 2) := by decide +kernel
theorem dX12_number_51 : decode cX12_number 51 = .ok (.isub, 1) := by decide +kernel
theorem dX12_number_52 : decode cX12_number 52 = .ok (.istore_n 3, 1) := by decide +kernel
theorem dX12_number_53 : decode cX12_number 53 = .ok (.iinc 4 1, 3) := by decide +kernel
theorem dX12_number_56 : decode cX12_number 56 = .ok (.goto (-44), 3) := by decide +kernel
theorem dX12_number_59 : decode cX12_number 59 = .ok (.aload_n 0, 1) := by decide +kernel
theorem dX12_number_60 : decode cX12_number 60 = .ok (.aload_n 0, 1) := by decide +kernel
theorem dX12_number_61 : decode cX12_number 61 = .ok (.getfield 111, 3) := by decide +kernel
theorem dX12_number_64 : decode cX12_number 64 = .ok (.iconst (-1), 1) := by decide +kernel
theorem dX12_number_65 : decode cX12_number 65 = .ok (.if_icmp .ne 32, 3) := by decide +kernel
theorem dX12_number_68 : decode cX12_number 68 = .ok (.aload_n 0, 1) := by decide +kernel
theorem dX12_number_69 : decode cX12_number 69 = .ok (.getfield 108, 3) := by decide +kernel
theorem dX12_number_72 : decode cX12_number 72 = .ok (.iconst 2, 1) := by decide +kernel
theorem dX12_number_73 : decode cX12_number 73 = .ok (.if_icmp .ne 24, 3) := by decide +kernel
theorem dX12_number_76 : decode cX12_number 76 = .ok (.aload_n 0, 1) := by decide +kernel
theorem dX12_number_77 : decode cX12_number 77 = .ok (.getfield 101, 3) := by decide +kernel
theorem dX12_number_80 : decode cX12_number 80 = .ok (.iconst 3, 1) := by decide +kernel
theorem dX12_number_81 : decode cX12_number 81 = .ok (.if_icmp .gt 16, 3) := by decide +kernel
theorem dX12_number_84 : decode cX12_number 84 = .ok (.iload_n 3, 1) := by decide +kernel
theorem dX12_number_85 : decode cX12_number 85 = .ok (.iload_n 1, 1) := by decide +kernel
theorem dX12_number_86 : decode cX12_number 86 = .ok (.iload_n 2, 1) := by decide +kernel
theorem dX12_number_87 : decode cX12_number 87 = .ok (.invokestatic 88, 3) := by decide +kernel
theorem dX12_number_90 : decode cX12_number 90 = .ok (.ifCond .eq 7, 3) := by decide +kernel
theorem dX12_number_93 : decode cX12_number 93 = .ok (.iconst 1, 1) := by decide +kernel
theorem dX12_number_94 : decode cX12_number 94 = .ok (.goto 4, 3) := by decide +kernel
theorem dX12_number_97 : decode cX12_number 97 = .ok (.iconst 0, 1) := by decide +kernel
theorem dX12_number_98 : decode cX12_number 98 = .ok (.invokevirtual 121, 3) := by decide +kernel
theorem dX12_number_101 : decode cX12_number 101 = .ok (.ifCond .eq 7, 3) := by decide +kernel
theorem dX12_number_104 : decode cX12_number 104 = .ok (.iload_n 3, 1) := by decide +kernel
theorem dX12_number_105 : decode cX12_number 105 = .ok (.goto 4, 3) := by decide +kernel
theorem dX12_number_108 : decode cX12_number 108 = .ok (.iconst 0, 1) := by decide +kernel
theorem dX12_number_109 : decode cX12_number 109 = .ok (.ireturn, 1) := by decide +kernel
theorem dX12_lay_0 : decode cX12_lay 0 = .ok (.aload_n 0, 1) := by decide +kernel
theorem dX12_lay_1 : decode cX12_lay 1 = .ok (.getfield 111, 3) := by decide +kernel
theorem dX12_lay_4 : decode cX12_lay 4 = .ok (.iconst (-1), 1) := by decide +kernel
theorem dX12_lay_5 : decode cX12_lay 5 = .ok (.if_icmp .ne 61, 3) := by decide +kernel
theorem dX12_lay_8 : decode cX12_lay 8 = .ok (.iconst 5, 1) := by decide +kernel
theorem dX12_lay_9 : decode cX12_lay 9 = .ok (.aload_n 0, 1) := by decide +kernel
theorem dX12_lay_10 : decode cX12_lay 10 = .ok (.getfield 125, 3) := by decide +kernel
theorem dX12_lay_13 : decode cX12_lay 13 = .ok (.imul, 1) := by decide +kernel
theorem dX12_lay_14 : decode cX12_lay 14 = .ok (.istore 6, 2) := by decide +kernel
theorem dX12_lay_16 : decode cX12_lay 16 = .ok (.aload_n 0, 1) := by decide +kernel
theorem dX12_lay_17 : decode cX12_lay 17 = .ok (.getfield 13, 3) := by decide +kernel
theorem dX12_lay_20 : decode cX12_lay 20 = .ok (.iload 6, 2) := by decide +kernel
theorem dX12_lay_22 : decode cX12_lay 22 = .ok (.iload_n 1, 1) := by decide +kernel
theorem dX12_lay_23 : decode cX12_lay 23 = .ok (.iastore, 1) := by decide +kernel
theorem dX12_lay_24 : decode cX12_lay 24 = .ok (.aload_n 0, 1) := by decide +kernel
theorem dX12_lay_25 : decode cX12_lay 25 = .ok (.getfield 13, 3) := by decide +kernel
theorem dX12_lay_28 : decode cX12_lay 28 = .ok (.iload 6, 2) := by decide +kernel
theorem dX12_lay_30 : decode cX12_lay 30 = .ok (.iconst 1, 1) := by decide +kernel
theorem dX12_lay_31 : decode cX12_lay 31 = .ok (.iadd, 1) := by decide +kernel
theorem dX12_lay_32 : decode cX12_lay 32 = .ok (.iload_n 2, 1) := by decide +kernel
theorem dX12_lay_33 : decode cX12_lay 33 = .ok (.iastore, 1) := by decide +kernel
theorem dX12_lay_34 : decode cX12_lay 34 = .ok (.aload_n 0, 1) := by decide +kernel
theorem dX12_lay_35 : decode cX12_lay 35 = .ok (.getfield 13, 3) := by decide +kernel
theorem dX12_lay_38 : decode cX12_lay 38 = .ok (.iload 6, 2) := by decide +kernel
theorem dX12_lay_40 : decode cX12_lay 40 = .ok (.iconst 2, 1) := by decide +kernel
theorem dX12_lay_41 : decode cX12_lay 41 = .ok (.iadd, 1) := by decide +kernel
theorem dX12_lay_42 : decode cX12_lay 42 = .ok (.iload_n 3, 1) := by decide +kernel
theorem dX12_lay_43 : decode cX12_lay 43 = .ok (.iastore, 1) := by decide +kernel
theorem dX12_lay_44 : decode cX12_lay 44 = .ok (.aload_n 0, 1) := by decide +kernel
theorem dX12_lay_45 : decode cX12_lay 45 = .ok (.getfield 13, 3) := by decide +kernel
theorem dX12_lay_48 : decode cX12_lay 48 = .ok (.iload 6, 2) := by decide +kernel
theorem dX12_lay_50 : decode cX12_lay 50 = .ok (.iconst 3, 1) := by decide +kernel
theorem dX12_lay_51 : decode cX12_lay 51 = .ok (.iadd, 1) := by decide +kernel
theorem dX12_lay_52 : decode cX12_lay 52 = .ok (.iload 4, 2) := by decide +kernel
theorem dX12_lay_54 : decode cX12_lay 54 = .ok (.iastore, 1) := by decide +kernel
theorem dX12_lay_55 : decode cX12_lay 55 = .ok (.aload_n 0, 1) := by decide +kernel
theorem dX12_lay_56 : decode cX12_lay 56 = .ok (.getfield 13, 3) := by decide +kernel
theorem dX12_lay_59 : decode cX12_lay 59 = .ok (.iload 6, 2) := by decide +kernel
theorem dX12_lay_61 : decode cX12_lay 61 = .ok (.iconst 4, 1) := by decide +kernel
theorem dX12_lay_62 : decode cX12_lay 62 = .ok (.iadd, 1) := by decide +kernel
theorem dX12_lay_63 : decode cX12_lay 63 = .ok (.iload 5, 2) := by decide +kernel
theorem dX12_lay_65 : decode cX12_lay 65 = .ok (.iastore, 1) := by decide +kernel
theorem dX12_lay_66 : decode cX12_lay 66 = .ok (.return_, 1) := by decide +kernel
theorem dX12_readSun_0 : decode cX12_readSun 0 = .ok (.aload_n 0, 1) := by decide +kernel
theorem dX12_readSun_1 : decode cX12_readSun 1 = .ok (.bipush 18, 2) := by decide +kernel
theorem dX12_readSun_3 : decode cX12_readSun 3 = .ok (.bipush 30, 2) := by decide +kernel
theorem dX12_readSun_5 : decode cX12_readSun 5 = .ok (.invokevirtual 128, 3) := by decide +kernel
theorem dX12_readSun_8 : decode cX12_readSun 8 = .ok (.istore_n 1, 1) := by decide +kernel
theorem dX12_readSun_9 : decode cX12_readSun 9 = .ok (.aload_n 0, 1) := by decide +kernel
theorem dX12_readSun_10 : decode cX12_readSun 10 = .ok (.iconst 1, 1) := by decide +kernel
theorem dX12_readSun_11 : decode cX12_readSun 11 = .ok (.bipush 9, 2) := by decide +kernel
theorem dX12_readSun_13 : decode cX12_readSun 13 = .ok (.invokevirtual 128, 3) := by decide +kernel
theorem dX12_readSun_16 : decode cX12_readSun 16 = .ok (.istore_n 2, 1) := by decide +kernel
theorem dX12_readSun_17 : decode cX12_readSun 17 = .ok (.aload_n 0, 1) := by decide +kernel
theorem dX12_readSun_18 : decode cX12_readSun 18 = .ok (.iconst 1, 1) := by decide +kernel
theorem dX12_readSun_19 : decode cX12_readSun 19 = .ok (.iload_n 1, 1) := by decide +kernel
theorem dX12_readSun_20 : decode cX12_readSun 20 = .ok (.iload_n 2, 1) := by decide +kernel
theorem dX12_readSun_21 : decode cX12_readSun 21 = .ok (.aload_n 0, 1) := by decide +kernel
theorem dX12_readSun_22 : decode cX12_readSun 22 = .ok (.iconst 1, 1) := by decide +kernel
theorem dX12_readSun_23 : decode cX12_readSun 23 = .ok (.bipush 40, 2) := by decide +kernel
theorem dX12_readSun_25 : decode cX12_readSun 25 = .ok (.invokevirtual 128, 3) := by decide +kernel
theorem dX12_readSun_28 : decode cX12_readSun 28 = .ok (.iconst 0, 1) := by decide +kernel
theorem dX12_readSun_29 : decode cX12_readSun 29 = .ok (.invokevirtual 132, 3) := by decide +kernel
theorem dX12_readSun_32 : decode cX12_readSun 32 = .ok (.return_, 1) := by decide +kernel
theorem dX12_readPicture_0 : decode cX12_readPicture 0 = .ok (.aload_n 0, 1) := by decide +kernel
theorem dX12_readPicture_1 : decode cX12_readPicture 1 = .ok (.aload_n 0, 1) := by decide +kernel
theorem dX12_readPicture_2 : decode cX12_readPicture 2 = .ok (.getfield 136, 3) := by decide +kernel
theorem dX12_readPicture_5 : decode cX12_readPicture 5 = .ok (.bipush 7, 2) := by decide +kernel
theorem dX12_readPicture_7 : decode cX12_readPicture 7 = .ok (.if_icmp .ge 7, 3) := by decide +kernel
theorem dX12_readPicture_10 : decode cX12_readPicture 10 = .ok (.iconst 1, 1) := by decide +kernel
theorem dX12_readPicture_11 : decode cX12_readPicture 11 = .ok (.goto 4, 3) := by decide +kernel
theorem dX12_readPicture_14 : decode cX12_readPicture 14 = .ok (.iconst 0, 1) := by decide +kernel
theorem dX12_readPicture_15 : decode cX12_readPicture 15 = .ok (.invokevirtual 121, 3) := by decide +kernel
theorem dX12_readPicture_18 : decode cX12_readPicture 18 = .ok (.ifCond .ne 4, 3) := by decide +kernel
theorem dX12_readPicture_21 : decode cX12_readPicture 21 = .ok (.return_, 1) := by decide +kernel
theorem dX12_readPicture_22 : decode cX12_readPicture 22 = .ok (.aload_n 0, 1) := by decide +kernel
theorem dX12_readPicture_23 : decode cX12_readPicture 23 = .ok (.invokevirtual 118, 3) := by decide +kernel
theorem dX12_readPicture_26 : decode cX12_readPicture 26 = .ok (.aload_n 0, 1) := by decide +kernel
theorem dX12_readPicture_27 : decode cX12_readPicture 27 = .ok (.getfield 108, 3) := by decide +kernel
theorem dX12_readPicture_30 : decode cX12_readPicture 30 = .ok (.iconst 1, 1) := by decide +kernel
theorem dX12_readPicture_31 : decode cX12_readPicture 31 = .ok (.if_icmp .ne 15, 3) := by decide +kernel
theorem dX12_readPicture_34 : decode cX12_readPicture 34 = .ok (.aload_n 0, 1) := by decide +kernel
theorem dX12_readPicture_35 : decode cX12_readPicture 35 = .ok (.getfield 101, 3) := by decide +kernel
theorem dX12_readPicture_38 : decode cX12_readPicture 38 = .ok (.iconst 5, 1) := by decide +kernel
theorem dX12_readPicture_39 : decode cX12_readPicture 39 = .ok (.if_icmp .gt 7, 3) := by decide +kernel
theorem dX12_readPicture_42 : decode cX12_readPicture 42 = .ok (.iconst 1, 1) := by decide +kernel
theorem dX12_readPicture_43 : decode cX12_readPicture 43 = .ok (.goto 4, 3) := by decide +kernel
theorem dX12_readPicture_46 : decode cX12_readPicture 46 = .ok (.iconst 0, 1) := by decide +kernel
theorem dX12_readPicture_47 : decode cX12_readPicture 47 = .ok (.istore_n 1, 1) := by decide +kernel
theorem dX12_readPicture_48 : decode cX12_readPicture 48 = .ok (.iload_n 1, 1) := by decide +kernel
theorem dX12_readPicture_49 : decode cX12_readPicture 49 = .ok (.ifCond .eq 10, 3) := by decide +kernel
theorem dX12_readPicture_52 : decode cX12_readPicture 52 = .ok (.aload_n 0, 1) := by decide +kernel
theorem dX12_readPicture_53 : decode cX12_readPicture 53 = .ok (.invokevirtual 139, 3) := by decide +kernel
theorem dX12_readPicture_56 : decode cX12_readPicture 56 = .ok (.goto 4, 3) := by decide +kernel
theorem dX12_readPicture_59 : decode cX12_readPicture 59 = .ok (.iconst 0, 1) := by decide +kernel
theorem dX12_readPicture_60 : decode cX12_readPicture 60 = .ok (.istore_n 2, 1) := by decide +kernel
theorem dX12_readPicture_61 : decode cX12_readPicture 61 = .ok (.iconst 0, 1) := by decide +kernel
theorem dX12_readPicture_62 : decode cX12_readPicture 62 = .ok (.istore_n 3, 1) := by decide +kernel
theorem dX12_readPicture_63 : decode cX12_readPicture 63 = .ok (.iload_n 3, 1) := by decide +kernel
theorem dX12_readPicture_64 : decode cX12_readPicture 64 = .ok (.aload_n 0, 1) := by decide +kernel
theorem dX12_readPicture_65 : decode cX12_readPicture 65 = .ok (.getfield 136, 3) := by decide +kernel
theorem dX12_readPicture_68 : decode cX12_readPicture 68 = .ok (.if_icmp .ge 29, 3) := by decide +kernel
theorem dX12_readPicture_71 : decode cX12_readPicture 71 = .ok (.iload_n 1, 1) := by decide +kernel
theorem dX12_readPicture_72 : decode cX12_readPicture 72 = .ok (.ifCond .eq 17, 3) := by decide +kernel
theorem dX12_readPicture_75 : decode cX12_readPicture 75 = .ok (.aload_n 0, 1) := by decide +kernel
theorem dX12_readPicture_76 : decode cX12_readPicture 76 = .ok (.getfield 16, 3) := by decide +kernel
theorem dX12_readPicture_79 : decode cX12_readPicture 79 = .ok (.iload_n 3, 1) := by decide +kernel
theorem dX12_readPicture_80 : decode cX12_readPicture 80 = .ok (.iaload, 1) := by decide +kernel
theorem dX12_readPicture_81 : decode cX12_readPicture 81 = .ok (.iload_n 2, 1) := by decide +kernel
theorem dX12_readPicture_82 : decode cX12_readPicture 82 = .ok (.if_icmp .eq 7, 3) := by decide +kernel
theorem dX12_readPicture_85 : decode cX12_readPicture 85 = .ok (.iconst 1, 1) := by decide +kernel
theorem dX12_readPicture_86 : decode cX12_readPicture 86 = .ok (.goto 4, 3) := by decide +kernel
theorem dX12_readPicture_89 : decode cX12_readPicture 89 = .ok (.iconst 0, 1) := by decide +kernel
theorem dX12_readPicture_90 : decode cX12_readPicture 90 = .ok (.istore_n 1, 1) := by decide +kernel
theorem dX12_readPicture_91 : decode cX12_readPicture 91 = .ok (.iinc 3 1, 3) := by decide +kernel
theorem dX12_readPicture_94 : decode cX12_readPicture 94 = .ok (.goto (-31), 3) := by decide +kernel
theorem dX12_readPicture_97 : decode cX12_readPicture 97 = .ok (.aload_n 0, 1) := by decide +kernel
theorem dX12_readPicture_98 : decode cX12_readPicture 98 = .ok (.iload_n 1, 1) := by decide +kernel
theorem dX12_readPicture_99 : decode cX12_readPicture 99 = .ok (.invokevirtual 121, 3) := by decide +kernel
theorem dX12_readPicture_102 : decode cX12_readPicture 102 = .ok (.ifCond .eq 32, 3) := by decide +kernel
theorem dX12_readPicture_105 : decode cX12_readPicture 105 = .ok (.aload_n 0, 1) := by decide +kernel
theorem dX12_readPicture_106 : decode cX12_readPicture 106 = .ok (.getfield 16, 3) := by decide +kernel
theorem dX12_readPicture_109 : decode cX12_readPicture 109 = .ok (.aload_n 0, 1) := by decide +kernel
theorem dX12_readPicture_110 : decode cX12_readPicture 110 = .ok (.getfield 136, 3) := by decide +kernel
theorem dX12_readPicture_113 : decode cX12_readPicture 113 = .ok (.iload_n 2, 1) := by decide +kernel
theorem dX12_readPicture_114 : decode cX12_readPicture 114 = .ok (.iastore, 1) := by decide +kernel
theorem dX12_readPicture_115 : decode cX12_readPicture 115 = .ok (.aload_n 0, 1) := by decide +kernel
theorem dX12_readPicture_116 : decode cX12_readPicture 116 = .ok (.dup, 1) := by decide +kernel
theorem dX12_readPicture_117 : decode cX12_readPicture 117 = .ok (.getfield 136, 3) := by decide +kernel
theorem dX12_readPicture_120 : decode cX12_readPicture 120 = .ok (.iconst 1, 1) := by decide +kernel
theorem dX12_readPicture_121 : decode cX12_readPicture 121 = .ok (.iadd, 1) := by decide +kernel
theorem dX12_readPicture_122 : decode cX12_readPicture 122 = .ok (.putfield 136, 3) := by decide +kernel
theorem dX12_readPicture_125 : decode cX12_readPicture 125 = .ok (.aload_n 0, 1) := by decide +kernel
theorem dX12_readPicture_126 : decode cX12_readPicture 126 = .ok (.iconst 2, 1) := by decide +kernel
theorem dX12_readPicture_127 : decode cX12_readPicture 127 = .ok (.iload_n 2, 1) := by decide +kernel
theorem dX12_readPicture_128 : decode cX12_readPicture 128 = .ok (.iconst 0, 1) := by decide +kernel
theorem dX12_readPicture_129 : decode cX12_readPicture 129 = .ok (.iconst 0, 1) := by decide +kernel
theorem dX12_readPicture_130 : decode cX12_readPicture 130 = .ok (.iconst 0, 1) := by decide +kernel
theorem dX12_readPicture_131 : decode cX12_readPicture 131 = .ok (.invokevirtual 132, 3) := by decide +kernel
theorem dX12_readPicture_134 : decode cX12_readPicture 134 = .ok (.return_, 1) := by decide +kernel
theorem dX12_readThing_0 : decode cX12_readThing 0 = .ok (.aload_n 0, 1) := by decide +kernel
theorem dX12_readThing_1 : decode cX12_readThing 1 = .ok (.aload_n 0, 1) := by decide +kernel
theorem dX12_readThing_2 : decode cX12_readThing 2 = .ok (.getfield 143, 3) := by decide +kernel
theorem dX12_readThing_5 : decode cX12_readThing 5 = .ok (.bipush 6, 2) := by decide +kernel
theorem dX12_readThing_7 : decode cX12_readThing 7 = .ok (.if_icmp .ge 7, 3) := by decide +kernel
theorem dX12_readThing_10 : decode cX12_readThing 10 = .ok (.iconst 1, 1) := by decide +kernel
theorem dX12_readThing_11 : decode cX12_readThing 11 = .ok (.goto 4, 3) := by decide +kernel
theorem dX12_readThing_14 : decode cX12_readThing 14 = .ok (.iconst 0, 1) := by decide +kernel
theorem dX12_readThing_15 : decode cX12_readThing 15 = .ok (.invokevirtual 121, 3) := by decide +kernel
theorem dX12_readThing_18 : decode cX12_readThing 18 = .ok (.ifCond .ne 4, 3) := by decide +kernel
theorem dX12_readThing_21 : decode cX12_readThing 21 = .ok (.return_, 1) := by decide +kernel
theorem dX12_readThing_22 : decode cX12_readThing 22 = .ok (.aload_n 0, 1) := by decide +kernel
theorem dX12_readThing_23 : decode cX12_readThing 23 = .ok (.invokevirtual 118, 3) := by decide +kernel
theorem dX12_readThing_26 : decode cX12_readThing 26 = .ok (.aload_n 0, 1) := by decide +kernel
theorem dX12_readThing_27 : decode cX12_readThing 27 = .ok (.bipush 99, 2) := by decide +kernel
theorem dX12_readThing_29 : decode cX12_readThing 29 = .ok (.bipush 111, 2) := by decide +kernel
theorem dX12_readThing_31 : decode cX12_readThing 31 = .ok (.bipush 109, 2) := by decide +kernel
theorem dX12_readThing_33 : decode cX12_readThing 33 = .ok (.bipush 101, 2) := by decide +kernel
theorem dX12_readThing_35 : decode cX12_readThing 35 = .ok (.bipush 115, 2) := by decide +kernel
theorem dX12_readThing_37 : decode cX12_readThing 37 = .ok (.iconst 0, 1) := by decide +kernel
theorem dX12_readThing_38 : decode cX12_readThing 38 = .ok (.iconst 0, 1) := by decide +kernel
theorem dX12_readThing_39 : decode cX12_readThing 39 = .ok (.invokevirtual 146, 3) := by decide +kernel
theorem dX12_readThing_42 : decode cX12_readThing 42 = .ok (.ifCond .eq 7, 3) := by decide +kernel
theorem dX12_readThing_45 : decode cX12_readThing 45 = .ok (.iconst 0, 1) := by decide +kernel
theorem dX12_readThing_46 : decode cX12_readThing 46 = .ok (.goto 73, 3) := by decide +kernel
theorem dX12_readThing_49 : decode cX12_readThing 49 = .ok (.aload_n 0, 1) := by decide +kernel
theorem dX12_readThing_50 : decode cX12_readThing 50 = .ok (.bipush 103, 2) := by decide +kernel
theorem dX12_readThing_52 : decode cX12_readThing 52 = .ok (.bipush 111, 2) := by decide +kernel
theorem dX12_readThing_54 : decode cX12_readThing 54 = .ok (.bipush 101, 2) := by decide +kernel
theorem dX12_readThing_56 : decode cX12_readThing 56 = .ok (.bipush 115, 2) := by decide +kernel
theorem dX12_readThing_58 : decode cX12_readThing 58 = .ok (.iconst 0, 1) := by decide +kernel
theorem dX12_readThing_59 : decode cX12_readThing 59 = .ok (.iconst 0, 1) := by decide +kernel
theorem dX12_readThing_60 : decode cX12_readThing 60 = .ok (.iconst 0, 1) := by decide +kernel
theorem dX12_readThing_61 : decode cX12_readThing 61 = .ok (.invokevirtual 146, 3) := by decide +kernel
theorem dX12_readThing_64 : decode cX12_readThing 64 = .ok (.ifCond .eq 7, 3) := by decide +kernel
theorem dX12_readThing_67 : decode cX12_readThing 67 = .ok (.iconst 1, 1) := by decide +kernel
theorem dX12_readThing_68 : decode cX12_readThing 68 = .ok (.goto 51, 3) := by decide +kernel
theorem dX12_readThing_71 : decode cX12_readThing 71 = .ok (.aload_n 0, 1) := by decide +kernel
theorem dX12_readThing_72 : decode cX12_readThing 72 = .ok (.bipush 112, 2) := by decide +kernel
theorem dX12_readThing_74 : decode cX12_readThing 74 = .ok (.bipush 97, 2) := by decide +kernel
theorem dX12_readThing_76 : decode cX12_readThing 76 = .ok (.bipush 115, 2) := by decide +kernel
theorem dX12_readThing_78 : decode cX12_readThing 78 = .ok (.bipush 115, 2) := by decide +kernel
theorem dX12_readThing_80 : decode cX12_readThing 80 = .ok (.bipush 101, 2) := by decide +kernel
theorem dX12_readThing_82 : decode cX12_readThing 82 = .ok (.bipush 115, 2) := by decide +kernel
theorem dX12_readThing_84 : decode cX12_readThing 84 = .ok (.iconst 0, 1) := by decide +kernel
theorem dX12_readThing_85 : decode cX12_readThing 85 = .ok (.invokevirtual 146, 3) := by decide +kernel
theorem dX12_readThing_88 : decode cX12_readThing 88 = .ok (.ifCond .eq 7, 3) := by decide +kernel
theorem dX12_readThing_91 : decode cX12_readThing 91 = .ok (.iconst 2, 1) := by decide +kernel
theorem dX12_readThing_92 : decode cX12_readThing 92 = .ok (.goto 27, 3) := by decide +kernel
theorem dX12_readThing_95 : decode cX12_readThing 95 = .ok (.aload_n 0, 1) := by decide +kernel
theorem dX12_readThing_96 : decode cX12_readThing 96 = .ok (.bipush 119, 2) := by decide +kernel
theorem dX12_readThing_98 : decode cX12_readThing 98 = .ok (.bipush 101, 2) := by decide +kernel
theorem dX12_readThing_100 : decode cX12_readThing 100 = .ok (.bipush 97, 2) := by decide +kernel
theorem dX12_readThing_102 : decode cX12_readThing 102 = .ok (.bipush 114, 2) := by decide +kernel
theorem dX12_readThing_104 : decode cX12_readThing 104 = .ok (.bipush 115, 2) := by decide +kernel
theorem dX12_readThing_106 : decode cX12_readThing 106 = .ok (.iconst 0, 1) := by decide +kernel
theorem dX12_readThing_107 : decode cX12_readThing 107 = .ok (.iconst 0, 1) := by decide +kernel
theorem dX12_readThing_108 : decode cX12_readThing 108 = .ok (.invokevirtual 146, 3) := by decide +kernel
theorem dX12_readThing_111 : decode cX12_readThing 111 = .ok (.ifCond .eq 7, 3) := by decide +kernel
theorem dX12_readThing_114 : decode cX12_readThing 114 = .ok (.iconst 3, 1) := by decide +kernel
theorem dX12_readThing_115 : decode cX12_readThing 115 = .ok (.goto 4, 3) := by decide +kernel
theorem dX12_readThing_118 : decode cX12_readThing 118 = .ok (.iconst (-1), 1) := by decide +kernel
theorem dX12_readThing_119 : decode cX12_readThing 119 = .ok (.istore_n 1, 1) := by decide +kernel
theorem dX12_readThing_120 : decode cX12_readThing 120 = .ok (.aload_n 0, 1) := by decide +kernel
theorem dX12_readThing_121 : decode cX12_readThing 121 = .ok (.iload_n 1, 1) := by decide +kernel
theorem dX12_readThing_122 : decode cX12_readThing 122 = .ok (.iconst (-1), 1) := by decide +kernel
theorem dX12_readThing_123 : decode cX12_readThing 123 = .ok (.if_icmp .eq 7, 3) := by decide +kernel
theorem dX12_readThing_126 : decode cX12_readThing 126 = .ok (.iconst 1, 1) := by decide +kernel
theorem dX12_readThing_127 : decode cX12_readThing 127 = .ok (.goto 4, 3) := by decide +kernel
theorem dX12_readThing_130 : decode cX12_readThing 130 = .ok (.iconst 0, 1) := by decide +kernel
theorem dX12_readThing_131 : decode cX12_readThing 131 = .ok (.invokevirtual 121, 3) := by decide +kernel
theorem dX12_readThing_134 : decode cX12_readThing 134 = .ok (.ifCond .eq 32, 3) := by decide +kernel
theorem dX12_readThing_137 : decode cX12_readThing 137 = .ok (.aload_n 0, 1) := by decide +kernel
theorem dX12_readThing_138 : decode cX12_readThing 138 = .ok (.getfield 19, 3) := by decide +kernel
theorem dX12_readThing_141 : decode cX12_readThing 141 = .ok (.aload_n 0, 1) := by decide +kernel
theorem dX12_readThing_142 : decode cX12_readThing 142 = .ok (.getfield 143, 3) := by decide +kernel
theorem dX12_readThing_145 : decode cX12_readThing 145 = .ok (.iload_n 1, 1) := by decide +kernel
theorem dX12_readThing_146 : decode cX12_readThing 146 = .ok (.iastore, 1) := by decide +kernel
theorem dX12_readThing_147 : decode cX12_readThing 147 = .ok (.aload_n 0, 1) := by decide +kernel
theorem dX12_readThing_148 : decode cX12_readThing 148 = .ok (.dup, 1) := by decide +kernel
theorem dX12_readThing_149 : decode cX12_readThing 149 = .ok (.getfield 143, 3) := by decide +kernel
theorem dX12_readThing_152 : decode cX12_readThing 152 = .ok (.iconst 1, 1) := by decide +kernel
theorem dX12_readThing_153 : decode cX12_readThing 153 = .ok (.iadd, 1) := by decide +kernel
theorem dX12_readThing_154 : decode cX12_readThing 154 = .ok (.putfield 143, 3) := by decide +kernel
theorem dX12_readThing_157 : decode cX12_readThing 157 = .ok (.aload_n 0, 1) := by decide +kernel
theorem dX12_readThing_158 : decode cX12_readThing 158 = .ok (.iconst 3, 1) := by decide +kernel
theorem dX12_readThing_159 : decode cX12_readThing 159 = .ok (.iload_n 1, 1) := by decide +kernel
theorem dX12_readThing_160 : decode cX12_readThing 160 = .ok (.iconst 0, 1) := by decide +kernel
theorem dX12_readThing_161 : decode cX12_readThing 161 = .ok (.iconst 0, 1) := by decide +kernel
theorem dX12_readThing_162 : decode cX12_readThing 162 = .ok (.iconst 0, 1) := by decide +kernel
theorem dX12_readThing_163 : decode cX12_readThing 163 = .ok (.invokevirtual 132, 3) := by decide +kernel
theorem dX12_readThing_166 : decode cX12_readThing 166 = .ok (.return_, 1) := by decide +kernel
theorem dX12_readPiece_0 : decode cX12_readPiece 0 = .ok (.aload_n 0, 1) := by decide +kernel
theorem dX12_readPiece_1 : decode cX12_readPiece 1 = .ok (.iconst 0, 1) := by decide +kernel
theorem dX12_readPiece_2 : decode cX12_readPiece 2 = .ok (.aload_n 0, 1) := by decide +kernel
theorem dX12_readPiece_3 : decode cX12_readPiece 3 = .ok (.getfield 136, 3) := by decide +kernel
theorem dX12_readPiece_6 : decode cX12_readPiece 6 = .ok (.iconst 1, 1) := by decide +kernel
theorem dX12_readPiece_7 : decode cX12_readPiece 7 = .ok (.isub, 1) := by decide +kernel
theorem dX12_readPiece_8 : decode cX12_readPiece 8 = .ok (.invokevirtual 128, 3) := by decide +kernel
theorem dX12_readPiece_11 : decode cX12_readPiece 11 = .ok (.istore_n 2, 1) := by decide +kernel
theorem dX12_readPiece_12 : decode cX12_readPiece 12 = .ok (.aload_n 0, 1) := by decide +kernel
theorem dX12_readPiece_13 : decode cX12_readPiece 13 = .ok (.iconst 0, 1) := by decide +kernel
theorem dX12_readPiece_14 : decode cX12_readPiece 14 = .ok (.iload_n 1, 1) := by decide +kernel
theorem dX12_readPiece_15 : decode cX12_readPiece 15 = .ok (.ifCond .ne 8, 3) := by decide +kernel
theorem dX12_readPiece_18 : decode cX12_readPiece 18 = .ok (.bipush 24, 2) := by decide +kernel
theorem dX12_readPiece_20 : decode cX12_readPiece 20 = .ok (.goto 6, 3) := by decide +kernel
theorem dX12_readPiece_23 : decode cX12_readPiece 23 = .ok (.sipush 999, 3) := by decide +kernel
theorem dX12_readPiece_26 : decode cX12_readPiece 26 = .ok (.invokevirtual 128, 3) := by decide +kernel
theorem dX12_readPiece_29 : decode cX12_readPiece 29 = .ok (.istore_n 3, 1) := by decide +kernel
theorem dX12_readPiece_30 : decode cX12_readPiece 30 = .ok (.aload_n 0, 1) := by decide +kernel
theorem dX12_readPiece_31 : decode cX12_readPiece 31 = .ok (.iconst 4, 1) := by decide +kernel
theorem dX12_readPiece_32 : decode cX12_readPiece 32 = .ok (.iload_n 2, 1) := by decide +kernel
theorem dX12_readPiece_33 : decode cX12_readPiece 33 = .ok (.iload_n 1, 1) := by decide +kernel
theorem dX12_readPiece_34 : decode cX12_readPiece 34 = .ok (.iload_n 3, 1) := by decide +kernel
theorem dX12_readPiece_35 : decode cX12_readPiece 35 = .ok (.aload_n 0, 1) := by decide +kernel
theorem dX12_readPiece_36 : decode cX12_readPiece 36 = .ok (.iconst 0, 1) := by decide +kernel
theorem dX12_readPiece_37 : decode cX12_readPiece 37 = .ok (.iload_n 1, 1) := by decide +kernel
theorem dX12_readPiece_38 : decode cX12_readPiece 38 = .ok (.ifCond .ne 8, 3) := by decide +kernel
theorem dX12_readPiece_41 : decode cX12_readPiece 41 = .ok (.bipush 9, 2) := by decide +kernel
theorem dX12_readPiece_43 : decode cX12_readPiece 43 = .ok (.goto 5, 3) := by decide +kernel
theorem dX12_readPiece_46 : decode cX12_readPiece 46 = .ok (.bipush 99, 2) := by decide +kernel
theorem dX12_readPiece_48 : decode cX12_readPiece 48 = .ok (.invokevirtual 128, 3) := by decide +kernel
theorem dX12_readPiece_51 : decode cX12_readPiece 51 = .ok (.invokevirtual 132, 3) := by decide +kernel
theorem dX12_readPiece_54 : decode cX12_readPiece 54 = .ok (.return_, 1) := by decide +kernel
theorem dX12_readSee_0 : decode cX12_readSee 0 = .ok (.aload_n 0, 1) := by decide +kernel
theorem dX12_readSee_1 : decode cX12_readSee 1 = .ok (.iconst 0, 1) := by decide +kernel
theorem dX12_readSee_2 : decode cX12_readSee 2 = .ok (.aload_n 0, 1) := by decide +kernel
theorem dX12_readSee_3 : decode cX12_readSee 3 = .ok (.getfield 136, 3) := by decide +kernel
theorem dX12_readSee_6 : decode cX12_readSee 6 = .ok (.iconst 1, 1) := by decide +kernel
theorem dX12_readSee_7 : decode cX12_readSee 7 = .ok (.isub, 1) := by decide +kernel
theorem dX12_readSee_8 : decode cX12_readSee 8 = .ok (.invokevirtual 128, 3) := by decide +kernel
theorem dX12_readSee_11 : decode cX12_readSee 11 = .ok (.istore_n 1, 1) := by decide +kernel
theorem dX12_readSee_12 : decode cX12_readSee 12 = .ok (.aload_n 0, 1) := by decide +kernel
theorem dX12_readSee_13 : decode cX12_readSee 13 = .ok (.iconst 0, 1) := by decide +kernel
theorem dX12_readSee_14 : decode cX12_readSee 14 = .ok (.aload_n 0, 1) := by decide +kernel
theorem dX12_readSee_15 : decode cX12_readSee 15 = .ok (.getfield 143, 3) := by decide +kernel
theorem dX12_readSee_18 : decode cX12_readSee 18 = .ok (.iconst 1, 1) := by decide +kernel
theorem dX12_readSee_19 : decode cX12_readSee 19 = .ok (.isub, 1) := by decide +kernel
theorem dX12_readSee_20 : decode cX12_readSee 20 = .ok (.invokevirtual 128, 3) := by decide +kernel
theorem dX12_readSee_23 : decode cX12_readSee 23 = .ok (.istore_n 2, 1) := by decide +kernel
theorem dX12_readSee_24 : decode cX12_readSee 24 = .ok (.aload_n 0, 1) := by decide +kernel
theorem dX12_readSee_25 : decode cX12_readSee 25 = .ok (.getfield 111, 3) := by decide +kernel
theorem dX12_readSee_28 : decode cX12_readSee 28 = .ok (.iconst (-1), 1) := by decide +kernel
theorem dX12_readSee_29 : decode cX12_readSee 29 = .ok (.if_icmp .ne 18, 3) := by decide +kernel
theorem dX12_readSee_32 : decode cX12_readSee 32 = .ok (.aload_n 0, 1) := by decide +kernel
theorem dX12_readSee_33 : decode cX12_readSee 33 = .ok (.getfield 19, 3) := by decide +kernel
theorem dX12_readSee_36 : decode cX12_readSee 36 = .ok (.iload_n 2, 1) := by decide +kernel
theorem dX12_readSee_37 : decode cX12_readSee 37 = .ok (.iaload, 1) := by decide +kernel
theorem dX12_readSee_38 : decode cX12_readSee 38 = .ok (.iconst 3, 1) := by decide +kernel
theorem dX12_readSee_39 : decode cX12_readSee 39 = .ok (.if_icmp .ne 8, 3) := by decide +kernel
theorem dX12_readSee_42 : decode cX12_readSee 42 = .ok (.bipush 9, 2) := by decide +kernel
theorem dX12_readSee_44 : decode cX12_readSee 44 = .ok (.goto 4, 3) := by decide +kernel
theorem dX12_readSee_47 : decode cX12_readSee 47 = .ok (.iconst 1, 1) := by decide +kernel
theorem dX12_readSee_48 : decode cX12_readSee 48 = .ok (.istore_n 3, 1) := by decide +kernel
theorem dX12_readSee_49 : decode cX12_readSee 49 = .ok (.aload_n 0, 1) := by decide +kernel
theorem dX12_readSee_50 : decode cX12_readSee 50 = .ok (.iconst 4, 1) := by decide +kernel
theorem dX12_readSee_51 : decode cX12_readSee 51 = .ok (.iload_n 1, 1) := by decide +kernel
theorem dX12_readSee_52 : decode cX12_readSee 52 = .ok (.iconst 2, 1) := by decide +kernel
theorem dX12_readSee_53 : decode cX12_readSee 53 = .ok (.iload_n 2, 1) := by decide +kernel
theorem dX12_readSee_54 : decode cX12_readSee 54 = .ok (.iadd, 1) := by decide +kernel
theorem dX12_readSee_55 : decode cX12_readSee 55 = .ok (.aload_n 0, 1) := by decide +kernel
theorem dX12_readSee_56 : decode cX12_readSee 56 = .ok (.iconst 0, 1) := by decide +kernel
theorem dX12_readSee_57 : decode cX12_readSee 57 = .ok (.iload_n 3, 1) := by decide +kernel
theorem dX12_readSee_58 : decode cX12_readSee 58 = .ok (.invokevirtual 128, 3) := by decide +kernel
theorem dX12_readSee_61 : decode cX12_readSee 61 = .ok (.iconst 0, 1) := by decide +kernel
theorem dX12_readSee_62 : decode cX12_readSee 62 = .ok (.invokevirtual 132, 3) := by decide +kernel
theorem dX12_readSee_65 : decode cX12_readSee 65 = .ok (.return_, 1) := by decide +kernel
theorem dX12_readClause_0 : decode cX12_readClause 0 = .ok (.aload_n 0, 1) := by decide +kernel
theorem dX12_readClause_1 : decode cX12_readClause 1 = .ok (.invokevirtual 118, 3) := by decide +kernel
theorem dX12_readClause_4 : decode cX12_readClause 4 = .ok (.aload_n 0, 1) := by decide +kernel
theorem dX12_readClause_5 : decode cX12_readClause 5 = .ok (.bipush 97, 2) := by decide +kernel
theorem dX12_readClause_7 : decode cX12_readClause 7 = .ok (.bipush 108, 2) := by decide +kernel
theorem dX12_readClause_9 : decode cX12_readClause 9 = .ok (.bipush 98, 2) := by decide +kernel
theorem dX12_readClause_11 : decode cX12_readClause 11 = .ok (.bipush 117, 2) := by decide +kernel
theorem dX12_readClause_13 : decode cX12_readClause 13 = .ok (.bipush 109, 2) := by decide +kernel
theorem dX12_readClause_15 : decode cX12_readClause 15 = .ok (.iconst 0, 1) := by decide +kernel
theorem dX12_readClause_16 : decode cX12_readClause 16 = .ok (.iconst 0, 1) := by decide +kernel
theorem dX12_readClause_17 : decode cX12_readClause 17 = .ok (.invokevirtual 146, 3) := by decide +kernel
theorem dX12_readClause_20 : decode cX12_readClause 20 = .ok (.ifCond .eq 25, 3) := by decide +kernel
theorem dX12_readClause_23 : decode cX12_readClause 23 = .ok (.aload_n 0, 1) := by decide +kernel
theorem dX12_readClause_24 : decode cX12_readClause 24 = .ok (.iconst 0, 1) := by decide +kernel
theorem dX12_readClause_25 : decode cX12_readClause 25 = .ok (.putfield 136, 3) := by decide +kernel
theorem dX12_readClause_28 : decode cX12_readClause 28 = .ok (.aload_n 0, 1) := by decide +kernel
theorem dX12_readClause_29 : decode cX12_readClause 29 = .ok (.iconst 0, 1) := by decide +kernel
theorem dX12_readClause_30 : decode cX12_readClause 30 = .ok (.putfield 143, 3) := by decide +kernel
theorem dX12_readClause_33 : decode cX12_readClause 33 = .ok (.aload_n 0, 1) := by decide +kernel
theorem dX12_readClause_34 : decode cX12_readClause 34 = .ok (.iconst 0, 1) := by decide +kernel
theorem dX12_readClause_35 : decode cX12_readClause 35 = .ok (.iconst 0, 1) := by decide +kernel
theorem dX12_readClause_36 : decode cX12_readClause 36 = .ok (.iconst 0, 1) := by decide +kernel
theorem dX12_readClause_37 : decode cX12_readClause 37 = .ok (.iconst 0, 1) := by decide +kernel
theorem dX12_readClause_38 : decode cX12_readClause 38 = .ok (.iconst 0, 1) := by decide +kernel
theorem dX12_readClause_39 : decode cX12_readClause 39 = .ok (.invokevirtual 132, 3) := by decide +kernel
theorem dX12_readClause_42 : decode cX12_readClause 42 = .ok (.goto 164, 3) := by decide +kernel
theorem dX12_readClause_45 : decode cX12_readClause 45 = .ok (.aload_n 0, 1) := by decide +kernel
theorem dX12_readClause_46 : decode cX12_readClause 46 = .ok (.bipush 115, 2) := by decide +kernel
theorem dX12_readClause_48 : decode cX12_readClause 48 = .ok (.bipush 117, 2) := by decide +kernel
theorem dX12_readClause_50 : decode cX12_readClause 50 = .ok (.bipush 110, 2) := by decide +kernel
theorem dX12_readClause_52 : decode cX12_readClause 52 = .ok (.iconst 0, 1) := by decide +kernel
theorem dX12_readClause_53 : decode cX12_readClause 53 = .ok (.iconst 0, 1) := by decide +kernel
theorem dX12_readClause_54 : decode cX12_readClause 54 = .ok (.iconst 0, 1) := by decide +kernel
theorem dX12_readClause_55 : decode cX12_readClause 55 = .ok (.iconst 0, 1) := by decide +kernel
theorem dX12_readClause_56 : decode cX12_readClause 56 = .ok (.invokevirtual 146, 3) := by decide +kernel
theorem dX12_readClause_59 : decode cX12_readClause 59 = .ok (.ifCond .eq 10, 3) := by decide +kernel
theorem dX12_readClause_62 : decode cX12_readClause 62 = .ok (.aload_n 0, 1) := by decide +kernel
theorem dX12_readClause_63 : decode cX12_readClause 63 = .ok (.invokevirtual 150, 3) := by decide +kernel
theorem dX12_readClause_66 : decode cX12_readClause 66 = .ok (.goto 140, 3) := by decide +kernel
theorem dX12_readClause_69 : decode cX12_readClause 69 = .ok (.aload_n 0, 1) := by decide +kernel
theorem dX12_readClause_70 : decode cX12_readClause 70 = .ok (.bipush 112, 2) := by decide +kernel
theorem dX12_readClause_72 : decode cX12_readClause 72 = .ok (.bipush 105, 2) := by decide +kernel
theorem dX12_readClause_74 : decode cX12_readClause 74 = .ok (.bipush 99, 2) := by decide +kernel
theorem dX12_readClause_76 : decode cX12_readClause 76 = .ok (.bipush 116, 2) := by decide +kernel
theorem dX12_readClause_78 : decode cX12_readClause 78 = .ok (.bipush 117, 2) := by decide +kernel
theorem dX12_readClause_80 : decode cX12_readClause 80 = .ok (.bipush 114, 2) := by decide +kernel
theorem dX12_readClause_82 : decode cX12_readClause 82 = .ok (.bipush 101, 2) := by decide +kernel
theorem dX12_readClause_84 : decode cX12_readClause 84 = .ok (.invokevirtual 146, 3) := by decide +kernel
theorem dX12_readClause_87 : decode cX12_readClause 87 = .ok (.ifCond .eq 10, 3) := by decide +kernel
theorem dX12_readClause_90 : decode cX12_readClause 90 = .ok (.aload_n 0, 1) := by decide +kernel
theorem dX12_readClause_91 : decode cX12_readClause 91 = .ok (.invokevirtual 153, 3) := by decide +kernel
theorem dX12_readClause_94 : decode cX12_readClause 94 = .ok (.goto 112, 3) := by decide +kernel
theorem dX12_readClause_97 : decode cX12_readClause 97 = .ok (.aload_n 0, 1) := by decide +kernel
theorem dX12_readClause_98 : decode cX12_readClause 98 = .ok (.bipush 116, 2) := by decide +kernel
theorem dX12_readClause_100 : decode cX12_readClause 100 = .ok (.bipush 104, 2) := by decide +kernel
theorem dX12_readClause_102 : decode cX12_readClause 102 = .ok (.bipush 105, 2) := by decide +kernel
theorem dX12_readClause_104 : decode cX12_readClause 104 = .ok (.bipush 110, 2) := by decide +kernel
theorem dX12_readClause_106 : decode cX12_readClause 106 = .ok (.bipush 103, 2) := by decide +kernel
theorem dX12_readClause_108 : decode cX12_readClause 108 = .ok (.iconst 0, 1) := by decide +kernel
theorem dX12_readClause_109 : decode cX12_readClause 109 = .ok (.iconst 0, 1) := by decide +kernel
theorem dX12_readClause_110 : decode cX12_readClause 110 = .ok (.invokevirtual 146, 3) := by decide +kernel
theorem dX12_readClause_113 : decode cX12_readClause 113 = .ok (.ifCond .eq 10, 3) := by decide +kernel
theorem dX12_readClause_116 : decode cX12_readClause 116 = .ok (.aload_n 0, 1) := by decide +kernel
theorem dX12_readClause_117 : decode cX12_readClause 117 = .ok (.invokevirtual 156, 3) := by decide +kernel
theorem dX12_readClause_120 : decode cX12_readClause 120 = .ok (.goto 86, 3) := by decide +kernel
theorem dX12_readClause_123 : decode cX12_readClause 123 = .ok (.aload_n 0, 1) := by decide +kernel
theorem dX12_readClause_124 : decode cX12_readClause 124 = .ok (.bipush 112, 2) := by decide +kernel
theorem dX12_readClause_126 : decode cX12_readClause 126 = .ok (.bipush 111, 2) := by decide +kernel
theorem dX12_readClause_128 : decode cX12_readClause 128 = .ok (.bipush 105, 2) := by decide +kernel
theorem dX12_readClause_130 : decode cX12_readClause 130 = .ok (.bipush 110, 2) := by decide +kernel
theorem dX12_readClause_132 : decode cX12_readClause 132 = .ok (.bipush 116, 2) := by decide +kernel
theorem dX12_readClause_134 : decode cX12_readClause 134 = .ok (.iconst 0, 1) := by decide +kernel
theorem dX12_readClause_135 : decode cX12_readClause 135 = .ok (.iconst 0, 1) := by decide +kernel
theorem dX12_readClause_136 : decode cX12_readClause 136 = .ok (.invokevirtual 146, 3) := by decide +kernel
theorem dX12_readClause_139 : decode cX12_readClause 139 = .ok (.ifCond .eq 11, 3) := by decide +kernel
theorem dX12_readClause_142 : decode cX12_readClause 142 = .ok (.aload_n 0, 1) := by decide +kernel
theorem dX12_readClause_143 : decode cX12_readClause 143 = .ok (.iconst 0, 1) := by decide +kernel
theorem dX12_readClause_144 : decode cX12_readClause 144 = .ok (.invokevirtual 159, 3) := by decide +kernel
theorem dX12_readClause_147 : decode cX12_readClause 147 = .ok (.goto 59, 3) := by decide +kernel
theorem dX12_readClause_150 : decode cX12_readClause 150 = .ok (.aload_n 0, 1) := by decide +kernel
theorem dX12_readClause_151 : decode cX12_readClause 151 = .ok (.bipush 108, 2) := by decide +kernel
theorem dX12_readClause_153 : decode cX12_readClause 153 = .ok (.bipush 111, 2) := by decide +kernel
theorem dX12_readClause_155 : decode cX12_readClause 155 = .ok (.bipush 110, 2) := by decide +kernel
theorem dX12_readClause_157 : decode cX12_readClause 157 = .ok (.bipush 103, 2) := by decide +kernel
theorem dX12_readClause_159 : decode cX12_readClause 159 = .ok (.iconst 0, 1) := by decide +kernel
theorem dX12_readClause_160 : decode cX12_readClause 160 = .ok (.iconst 0, 1) := by decide +kernel
theorem dX12_readClause_161 : decode cX12_readClause 161 = .ok (.iconst 0, 1) := by decide +kernel
theorem dX12_readClause_162 : decode cX12_readClause 162 = .ok (.invokevirtual 146, 3) := by decide +kernel
theorem dX12_readClause_165 : decode cX12_readClause 165 = .ok (.ifCond .eq 11, 3) := by decide +kernel
theorem dX12_readClause_168 : decode cX12_readClause 168 = .ok (.aload_n 0, 1) := by decide +kernel
theorem dX12_readClause_169 : decode cX12_readClause 169 = .ok (.iconst 1, 1) := by decide +kernel
theorem dX12_readClause_170 : decode cX12_readClause 170 = .ok (.invokevirtual 159, 3) := by decide +kernel
theorem dX12_readClause_173 : decode cX12_readClause 173 = .ok (.goto 33, 3) := by decide +kernel
theorem dX12_readClause_176 : decode cX12_readClause 176 = .ok (.aload_n 0, 1) := by decide +kernel
theorem dX12_readClause_177 : decode cX12_readClause 177 = .ok (.bipush 115, 2) := by decide +kernel
theorem dX12_readClause_179 : decode cX12_readClause 179 = .ok (.bipush 101, 2) := by decide +kernel
theorem dX12_readClause_181 : decode cX12_readClause 181 = .ok (.bipush 101, 2) := by decide +kernel
theorem dX12_readClause_183 : decode cX12_readClause 183 = .ok (.iconst 0, 1) := by decide +kernel
theorem dX12_readClause_184 : decode cX12_readClause 184 = .ok (.iconst 0, 1) := by decide +kernel
theorem dX12_readClause_185 : decode cX12_readClause 185 = .ok (.iconst 0, 1) := by decide +kernel
theorem dX12_readClause_186 : decode cX12_readClause 186 = .ok (.iconst 0, 1) := by decide +kernel
theorem dX12_readClause_187 : decode cX12_readClause 187 = .ok (.invokevirtual 146, 3) := by decide +kernel
theorem dX12_readClause_190 : decode cX12_readClause 190 = .ok (.ifCond .eq 10, 3) := by decide +kernel
theorem dX12_readClause_193 : decode cX12_readClause 193 = .ok (.aload_n 0, 1) := by decide +kernel
theorem dX12_readClause_194 : decode cX12_readClause 194 = .ok (.invokevirtual 163, 3) := by decide +kernel
theorem dX12_readClause_197 : decode cX12_readClause 197 = .ok (.goto 9, 3) := by decide +kernel
theorem dX12_readClause_200 : decode cX12_readClause 200 = .ok (.aload_n 0, 1) := by decide +kernel
theorem dX12_readClause_201 : decode cX12_readClause 201 = .ok (.iconst 0, 1) := by decide +kernel
theorem dX12_readClause_202 : decode cX12_readClause 202 = .ok (.invokevirtual 121, 3) := by decide +kernel
theorem dX12_readClause_205 : decode cX12_readClause 205 = .ok (.pop, 1) := by decide +kernel
theorem dX12_readClause_206 : decode cX12_readClause 206 = .ok (.return_, 1) := by decide +kernel
theorem dX12_read_0 : decode cX12_read 0 = .ok (.aload_n 0, 1) := by decide +kernel
theorem dX12_read_1 : decode cX12_read 1 = .ok (.iconst 0, 1) := by decide +kernel
theorem dX12_read_2 : decode cX12_read 2 = .ok (.putfield 95, 3) := by decide +kernel
theorem dX12_read_5 : decode cX12_read 5 = .ok (.aload_n 0, 1) := by decide +kernel
theorem dX12_read_6 : decode cX12_read 6 = .ok (.iconst (-1), 1) := by decide +kernel
theorem dX12_read_7 : decode cX12_read 7 = .ok (.putfield 111, 3) := by decide +kernel
theorem dX12_read_10 : decode cX12_read 10 = .ok (.aload_n 0, 1) := by decide +kernel
theorem dX12_read_11 : decode cX12_read 11 = .ok (.iconst 0, 1) := by decide +kernel
theorem dX12_read_12 : decode cX12_read 12 = .ok (.putfield 125, 3) := by decide +kernel
theorem dX12_read_15 : decode cX12_read 15 = .ok (.aload_n 0, 1) := by decide +kernel
theorem dX12_read_16 : decode cX12_read 16 = .ok (.aload_n 0, 1) := by decide +kernel
theorem dX12_read_17 : decode cX12_read 17 = .ok (.getfield 166, 3) := by decide +kernel
theorem dX12_read_20 : decode cX12_read 20 = .ok (.putfield 136, 3) := by decide +kernel
theorem dX12_read_23 : decode cX12_read 23 = .ok (.aload_n 0, 1) := by decide +kernel
theorem dX12_read_24 : decode cX12_read 24 = .ok (.aload_n 0, 1) := by decide +kernel
theorem dX12_read_25 : decode cX12_read 25 = .ok (.getfield 169, 3) := by decide +kernel
theorem dX12_read_28 : decode cX12_read 28 = .ok (.putfield 143, 3) := by decide +kernel
theorem dX12_read_31 : decode cX12_read 31 = .ok (.aload_n 0, 1) := by decide +kernel
theorem dX12_read_32 : decode cX12_read 32 = .ok (.getfield 32, 3) := by decide +kernel
theorem dX12_read_35 : decode cX12_read 35 = .ok (.iconst 0, 1) := by decide +kernel
theorem dX12_read_36 : decode cX12_read 36 = .ok (.aload_n 0, 1) := by decide +kernel
theorem dX12_read_37 : decode cX12_read 37 = .ok (.getfield 16, 3) := by decide +kernel
theorem dX12_read_40 : decode cX12_read 40 = .ok (.iconst 0, 1) := by decide +kernel
theorem dX12_read_41 : decode cX12_read 41 = .ok (.aload_n 0, 1) := by decide +kernel
theorem dX12_read_42 : decode cX12_read 42 = .ok (.getfield 166, 3) := by decide +kernel
theorem dX12_read_45 : decode cX12_read 45 = .ok (.invokestatic 172, 3) := by decide +kernel
theorem dX12_read_48 : decode cX12_read 48 = .ok (.aload_n 0, 1) := by decide +kernel
theorem dX12_read_49 : decode cX12_read 49 = .ok (.getfield 35, 3) := by decide +kernel
theorem dX12_read_52 : decode cX12_read 52 = .ok (.iconst 0, 1) := by decide +kernel
theorem dX12_read_53 : decode cX12_read 53 = .ok (.aload_n 0, 1) := by decide +kernel
theorem dX12_read_54 : decode cX12_read 54 = .ok (.getfield 19, 3) := by decide +kernel
theorem dX12_read_57 : decode cX12_read 57 = .ok (.iconst 0, 1) := by decide +kernel
theorem dX12_read_58 : decode cX12_read 58 = .ok (.aload_n 0, 1) := by decide +kernel
theorem dX12_read_59 : decode cX12_read 59 = .ok (.getfield 169, 3) := by decide +kernel
theorem dX12_read_62 : decode cX12_read 62 = .ok (.invokestatic 172, 3) := by decide +kernel
theorem dX12_read_65 : decode cX12_read 65 = .ok (.iconst 1, 1) := by decide +kernel
theorem dX12_read_66 : decode cX12_read 66 = .ok (.istore_n 1, 1) := by decide +kernel
theorem dX12_read_67 : decode cX12_read 67 = .ok (.iload_n 1, 1) := by decide +kernel
theorem dX12_read_68 : decode cX12_read 68 = .ok (.ifCond .eq 98, 3) := by decide +kernel
theorem dX12_read_71 : decode cX12_read 71 = .ok (.aload_n 0, 1) := by decide +kernel
theorem dX12_read_72 : decode cX12_read 72 = .ok (.getfield 111, 3) := by decide +kernel
theorem dX12_read_75 : decode cX12_read 75 = .ok (.iconst (-1), 1) := by decide +kernel
theorem dX12_read_76 : decode cX12_read 76 = .ok (.if_icmp .ne 90, 3) := by decide +kernel
theorem dX12_read_79 : decode cX12_read 79 = .ok (.aload_n 0, 1) := by decide +kernel
theorem dX12_read_80 : decode cX12_read 80 = .ok (.invokevirtual 176, 3) := by decide +kernel
theorem dX12_read_83 : decode cX12_read 83 = .ok (.aload_n 0, 1) := by decide +kernel
theorem dX12_read_84 : decode cX12_read 84 = .ok (.getfield 111, 3) := by decide +kernel
theorem dX12_read_87 : decode cX12_read 87 = .ok (.iconst (-1), 1) := by decide +kernel
theorem dX12_read_88 : decode cX12_read 88 = .ok (.if_icmp .ne (-21), 3) := by decide +kernel
theorem dX12_read_91 : decode cX12_read 91 = .ok (.aload_n 0, 1) := by decide +kernel
theorem dX12_read_92 : decode cX12_read 92 = .ok (.dup, 1) := by decide +kernel
theorem dX12_read_93 : decode cX12_read 93 = .ok (.getfield 125, 3) := by decide +kernel
theorem dX12_read_96 : decode cX12_read 96 = .ok (.iconst 1, 1) := by decide +kernel
theorem dX12_read_97 : decode cX12_read 97 = .ok (.iadd, 1) := by decide +kernel
theorem dX12_read_98 : decode cX12_read 98 = .ok (.putfield 125, 3) := by decide +kernel
theorem dX12_read_101 : decode cX12_read 101 = .ok (.aload_n 0, 1) := by decide +kernel
theorem dX12_read_102 : decode cX12_read 102 = .ok (.invokevirtual 118, 3) := by decide +kernel
theorem dX12_read_105 : decode cX12_read 105 = .ok (.aload_n 0, 1) := by decide +kernel
theorem dX12_read_106 : decode cX12_read 106 = .ok (.getfield 101, 3) := by decide +kernel
theorem dX12_read_109 : decode cX12_read 109 = .ok (.iconst 1, 1) := by decide +kernel
theorem dX12_read_110 : decode cX12_read 110 = .ok (.if_icmp .ne 30, 3) := by decide +kernel
theorem dX12_read_113 : decode cX12_read 113 = .ok (.aload_n 0, 1) := by decide +kernel
theorem dX12_read_114 : decode cX12_read 114 = .ok (.getfield 7, 3) := by decide +kernel
theorem dX12_read_117 : decode cX12_read 117 = .ok (.aload_n 0, 1) := by decide +kernel
theorem dX12_read_118 : decode cX12_read 118 = .ok (.getfield 98, 3) := by decide +kernel
theorem dX12_read_121 : decode cX12_read 121 = .ok (.iaload, 1) := by decide +kernel
theorem dX12_read_122 : decode cX12_read 122 = .ok (.bipush 59, 2) := by decide +kernel
theorem dX12_read_124 : decode cX12_read 124 = .ok (.if_icmp .ne 16, 3) := by decide +kernel
theorem dX12_read_127 : decode cX12_read 127 = .ok (.aload_n 0, 1) := by decide +kernel
theorem dX12_read_128 : decode cX12_read 128 = .ok (.getfield 125, 3) := by decide +kernel
theorem dX12_read_131 : decode cX12_read 131 = .ok (.bipush 24, 2) := by decide +kernel
theorem dX12_read_133 : decode cX12_read 133 = .ok (.if_icmp .ge 7, 3) := by decide +kernel
theorem dX12_read_136 : decode cX12_read 136 = .ok (.iconst 1, 1) := by decide +kernel
theorem dX12_read_137 : decode cX12_read 137 = .ok (.goto 4, 3) := by decide +kernel
theorem dX12_read_140 : decode cX12_read 140 = .ok (.iconst 0, 1) := by decide +kernel
theorem dX12_read_141 : decode cX12_read 141 = .ok (.istore_n 1, 1) := by decide +kernel
theorem dX12_read_142 : decode cX12_read 142 = .ok (.aload_n 0, 1) := by decide +kernel
theorem dX12_read_143 : decode cX12_read 143 = .ok (.iload_n 1, 1) := by decide +kernel
theorem dX12_read_144 : decode cX12_read 144 = .ok (.ifCond .ne 10, 3) := by decide +kernel
theorem dX12_read_147 : decode cX12_read 147 = .ok (.aload_n 0, 1) := by decide +kernel
theorem dX12_read_148 : decode cX12_read 148 = .ok (.getfield 101, 3) := by decide +kernel
theorem dX12_read_151 : decode cX12_read 151 = .ok (.ifCond .ne 7, 3) := by decide +kernel
theorem dX12_read_154 : decode cX12_read 154 = .ok (.iconst 1, 1) := by decide +kernel
theorem dX12_read_155 : decode cX12_read 155 = .ok (.goto 4, 3) := by decide +kernel
theorem dX12_read_158 : decode cX12_read 158 = .ok (.iconst 0, 1) := by decide +kernel
theorem dX12_read_159 : decode cX12_read 159 = .ok (.invokevirtual 121, 3) := by decide +kernel
theorem dX12_read_162 : decode cX12_read 162 = .ok (.pop, 1) := by decide +kernel
theorem dX12_read_163 : decode cX12_read 163 = .ok (.goto (-96), 3) := by decide +kernel
theorem dX12_read_166 : decode cX12_read 166 = .ok (.return_, 1) := by decide +kernel
theorem dX12_fault_0 : decode cX12_fault 0 = .ok (.aload_n 0, 1) := by decide +kernel
theorem dX12_fault_1 : decode cX12_fault 1 = .ok (.invokevirtual 179, 3) := by decide +kernel
theorem dX12_fault_4 : decode cX12_fault 4 = .ok (.aload_n 0, 1) := by decide +kernel
theorem dX12_fault_5 : decode cX12_fault 5 = .ok (.getfield 111, 3) := by decide +kernel
theorem dX12_fault_8 : decode cX12_fault 8 = .ok (.ireturn, 1) := by decide +kernel
theorem dX12_tell_0 : decode cX12_tell 0 = .ok (.aload_n 0, 1) := by decide +kernel
theorem dX12_tell_1 : decode cX12_tell 1 = .ok (.getfield 13, 3) := by decide +kernel
theorem dX12_tell_4 : decode cX12_tell 4 = .ok (.iload_n 1, 1) := by decide +kernel
theorem dX12_tell_5 : decode cX12_tell 5 = .ok (.iconst 1, 1) := by decide +kernel
theorem dX12_tell_6 : decode cX12_tell 6 = .ok (.iadd, 1) := by decide +kernel
theorem dX12_tell_7 : decode cX12_tell 7 = .ok (.iaload, 1) := by decide +kernel
theorem dX12_tell_8 : decode cX12_tell 8 = .ok (.istore_n 2, 1) := by decide +kernel
theorem dX12_tell_9 : decode cX12_tell 9 = .ok (.aload_n 0, 1) := by decide +kernel
theorem dX12_tell_10 : decode cX12_tell 10 = .ok (.getfield 13, 3) := by decide +kernel
theorem dX12_tell_13 : decode cX12_tell 13 = .ok (.iload_n 1, 1) := by decide +kernel
theorem dX12_tell_14 : decode cX12_tell 14 = .ok (.iconst 2, 1) := by decide +kernel
theorem dX12_tell_15 : decode cX12_tell 15 = .ok (.iadd, 1) := by decide +kernel
theorem dX12_tell_16 : decode cX12_tell 16 = .ok (.iaload, 1) := by decide +kernel
theorem dX12_tell_17 : decode cX12_tell 17 = .ok (.istore_n 3, 1) := by decide +kernel
theorem dX12_tell_18 : decode cX12_tell 18 = .ok (.aload_n 0, 1) := by decide +kernel
theorem dX12_tell_19 : decode cX12_tell 19 = .ok (.getfield 13, 3) := by decide +kernel
theorem dX12_tell_22 : decode cX12_tell 22 = .ok (.iload_n 1, 1) := by decide +kernel
theorem dX12_tell_23 : decode cX12_tell 23 = .ok (.iconst 3, 1) := by decide +kernel
theorem dX12_tell_24 : decode cX12_tell 24 = .ok (.iadd, 1) := by decide +kernel
theorem dX12_tell_25 : decode cX12_tell 25 = .ok (.iaload, 1) := by decide +kernel
theorem dX12_tell_26 : decode cX12_tell 26 = .ok (.istore 4, 2) := by decide +kernel
theorem dX12_tell_28 : decode cX12_tell 28 = .ok (.aload_n 0, 1) := by decide +kernel
theorem dX12_tell_29 : decode cX12_tell 29 = .ok (.getfield 13, 3) := by decide +kernel
theorem dX12_tell_32 : decode cX12_tell 32 = .ok (.iload_n 1, 1) := by decide +kernel
theorem dX12_tell_33 : decode cX12_tell 33 = .ok (.iaload, 1) := by decide +kernel
theorem dX12_tell_34 : decode cX12_tell 34 = .ok (.tableswitch 131 0 3 #[30, 66, 85, 108], 30) := by decide +kernel
theorem dX12_tell_64 : decode cX12_tell 64 = .ok (.aload_n 0, 1) := by decide +kernel
theorem dX12_tell_65 : decode cX12_tell 65 = .ok (.bipush 24, 2) := by decide +kernel
theorem dX12_tell_67 : decode cX12_tell 67 = .ok (.putfield 22, 3) := by decide +kernel
theorem dX12_tell_70 : decode cX12_tell 70 = .ok (.aload_n 0, 1) := by decide +kernel
theorem dX12_tell_71 : decode cX12_tell 71 = .ok (.iconst 4, 1) := by decide +kernel
theorem dX12_tell_72 : decode cX12_tell 72 = .ok (.putfield 26, 3) := by decide +kernel
theorem dX12_tell_75 : decode cX12_tell 75 = .ok (.aload_n 0, 1) := by decide +kernel
theorem dX12_tell_76 : decode cX12_tell 76 = .ok (.iconst 5, 1) := by decide +kernel
theorem dX12_tell_77 : decode cX12_tell 77 = .ok (.putfield 29, 3) := by decide +kernel
theorem dX12_tell_80 : decode cX12_tell 80 = .ok (.aload_n 0, 1) := by decide +kernel
theorem dX12_tell_81 : decode cX12_tell 81 = .ok (.iconst 0, 1) := by decide +kernel
theorem dX12_tell_82 : decode cX12_tell 82 = .ok (.putfield 166, 3) := by decide +kernel
theorem dX12_tell_85 : decode cX12_tell 85 = .ok (.aload_n 0, 1) := by decide +kernel
theorem dX12_tell_86 : decode cX12_tell 86 = .ok (.iconst 0, 1) := by decide +kernel
theorem dX12_tell_87 : decode cX12_tell 87 = .ok (.putfield 169, 3) := by decide +kernel
theorem dX12_tell_90 : decode cX12_tell 90 = .ok (.aload_n 0, 1) := by decide +kernel
theorem dX12_tell_91 : decode cX12_tell 91 = .ok (.getfield 38, 3) := by decide +kernel
theorem dX12_tell_94 : decode cX12_tell 94 = .ok (.iconst 0, 1) := by decide +kernel
theorem dX12_tell_95 : decode cX12_tell 95 = .ok (.iconst 0, 1) := by decide +kernel
theorem dX12_tell_96 : decode cX12_tell 96 = .ok (.iastore, 1) := by decide +kernel
theorem dX12_tell_97 : decode cX12_tell 97 = .ok (.goto 84, 3) := by decide +kernel
theorem dX12_tell_100 : decode cX12_tell 100 = .ok (.aload_n 0, 1) := by decide +kernel
theorem dX12_tell_101 : decode cX12_tell 101 = .ok (.iload_n 2, 1) := by decide +kernel
theorem dX12_tell_102 : decode cX12_tell 102 = .ok (.putfield 22, 3) := by decide +kernel
theorem dX12_tell_105 : decode cX12_tell 105 = .ok (.aload_n 0, 1) := by decide +kernel
theorem dX12_tell_106 : decode cX12_tell 106 = .ok (.iload_n 3, 1) := by decide +kernel
theorem dX12_tell_107 : decode cX12_tell 107 = .ok (.putfield 26, 3) := by decide +kernel
theorem dX12_tell_110 : decode cX12_tell 110 = .ok (.aload_n 0, 1) := by decide +kernel
theorem dX12_tell_111 : decode cX12_tell 111 = .ok (.iload 4, 2) := by decide +kernel
theorem dX12_tell_113 : decode cX12_tell 113 = .ok (.putfield 29, 3) := by decide +kernel
theorem dX12_tell_116 : decode cX12_tell 116 = .ok (.goto 65, 3) := by decide +kernel
theorem dX12_tell_119 : decode cX12_tell 119 = .ok (.aload_n 0, 1) := by decide +kernel
theorem dX12_tell_120 : decode cX12_tell 120 = .ok (.getfield 32, 3) := by decide +kernel
theorem dX12_tell_123 : decode cX12_tell 123 = .ok (.aload_n 0, 1) := by decide +kernel
theorem dX12_tell_124 : decode cX12_tell 124 = .ok (.getfield 166, 3) := by decide +kernel
theorem dX12_tell_127 : decode cX12_tell 127 = .ok (.iload_n 2, 1) := by decide +kernel
theorem dX12_tell_128 : decode cX12_tell 128 = .ok (.iastore, 1) := by decide +kernel
theorem dX12_tell_129 : decode cX12_tell 129 = .ok (.aload_n 0, 1) := by decide +kernel
theorem dX12_tell_130 : decode cX12_tell 130 = .ok (.dup, 1) := by decide +kernel
theorem dX12_tell_131 : decode cX12_tell 131 = .ok (.getfield 166, 3) := by decide +kernel
theorem dX12_tell_134 : decode cX12_tell 134 = .ok (.iconst 1, 1) := by decide +kernel
theorem dX12_tell_135 : decode cX12_tell 135 = .ok (.iadd, 1) := by decide +kernel
theorem dX12_tell_136 : decode cX12_tell 136 = .ok (.putfield 166, 3) := by decide +kernel
theorem dX12_tell_139 : decode cX12_tell 139 = .ok (.goto 42, 3) := by decide +kernel
theorem dX12_tell_142 : decode cX12_tell 142 = .ok (.aload_n 0, 1) := by decide +kernel
theorem dX12_tell_143 : decode cX12_tell 143 = .ok (.getfield 35, 3) := by decide +kernel
theorem dX12_tell_146 : decode cX12_tell 146 = .ok (.aload_n 0, 1) := by decide +kernel
theorem dX12_tell_147 : decode cX12_tell 147 = .ok (.getfield 169, 3) := by decide +kernel
theorem dX12_tell_150 : decode cX12_tell 150 = .ok (.iload_n 2, 1) := by decide +kernel
theorem dX12_tell_151 : decode cX12_tell 151 = .ok (.iastore, 1) := by decide +kernel
theorem dX12_tell_152 : decode cX12_tell 152 = .ok (.aload_n 0, 1) := by decide +kernel
theorem dX12_tell_153 : decode cX12_tell 153 = .ok (.dup, 1) := by decide +kernel
theorem dX12_tell_154 : decode cX12_tell 154 = .ok (.getfield 169, 3) := by decide +kernel
theorem dX12_tell_157 : decode cX12_tell 157 = .ok (.iconst 1, 1) := by decide +kernel
theorem dX12_tell_158 : decode cX12_tell 158 = .ok (.iadd, 1) := by decide +kernel
theorem dX12_tell_159 : decode cX12_tell 159 = .ok (.putfield 169, 3) := by decide +kernel
theorem dX12_tell_162 : decode cX12_tell 162 = .ok (.goto 19, 3) := by decide +kernel
theorem dX12_tell_165 : decode cX12_tell 165 = .ok (.aload_n 0, 1) := by decide +kernel
theorem dX12_tell_166 : decode cX12_tell 166 = .ok (.iload_n 2, 1) := by decide +kernel
theorem dX12_tell_167 : decode cX12_tell 167 = .ok (.iload_n 3, 1) := by decide +kernel
theorem dX12_tell_168 : decode cX12_tell 168 = .ok (.iload 4, 2) := by decide +kernel
theorem dX12_tell_170 : decode cX12_tell 170 = .ok (.aload_n 0, 1) := by decide +kernel
theorem dX12_tell_171 : decode cX12_tell 171 = .ok (.getfield 13, 3) := by decide +kernel
theorem dX12_tell_174 : decode cX12_tell 174 = .ok (.iload_n 1, 1) := by decide +kernel
theorem dX12_tell_175 : decode cX12_tell 175 = .ok (.iconst 4, 1) := by decide +kernel
theorem dX12_tell_176 : decode cX12_tell 176 = .ok (.iadd, 1) := by decide +kernel
theorem dX12_tell_177 : decode cX12_tell 177 = .ok (.iaload, 1) := by decide +kernel
theorem dX12_tell_178 : decode cX12_tell 178 = .ok (.invokevirtual 182, 3) := by decide +kernel
theorem dX12_tell_181 : decode cX12_tell 181 = .ok (.return_, 1) := by decide +kernel
theorem dX12_album_0 : decode cX12_album 0 = .ok (.aload_n 0, 1) := by decide +kernel
theorem dX12_album_1 : decode cX12_album 1 = .ok (.invokevirtual 179, 3) := by decide +kernel
theorem dX12_album_4 : decode cX12_album 4 = .ok (.aload_n 0, 1) := by decide +kernel
theorem dX12_album_5 : decode cX12_album 5 = .ok (.getfield 111, 3) := by decide +kernel
theorem dX12_album_8 : decode cX12_album 8 = .ok (.iconst (-1), 1) := by decide +kernel
theorem dX12_album_9 : decode cX12_album 9 = .ok (.if_icmp .eq 6, 3) := by decide +kernel
theorem dX12_album_12 : decode cX12_album 12 = .ok (.bipush (-4), 2) := by decide +kernel
theorem dX12_album_14 : decode cX12_album 14 = .ok (.ireturn, 1) := by decide +kernel
theorem dX12_album_15 : decode cX12_album 15 = .ok (.iconst 0, 1) := by decide +kernel
theorem dX12_album_16 : decode cX12_album 16 = .ok (.istore_n 1, 1) := by decide +kernel
theorem dX12_album_17 : decode cX12_album 17 = .ok (.iload_n 1, 1) := by decide +kernel
theorem dX12_album_18 : decode cX12_album 18 = .ok (.aload_n 0, 1) := by decide +kernel
theorem dX12_album_19 : decode cX12_album 19 = .ok (.getfield 125, 3) := by decide +kernel
theorem dX12_album_22 : decode cX12_album 22 = .ok (.if_icmp .ge 16, 3) := by decide +kernel
theorem dX12_album_25 : decode cX12_album 25 = .ok (.aload_n 0, 1) := by decide +kernel
theorem dX12_album_26 : decode cX12_album 26 = .ok (.iconst 5, 1) := by decide +kernel
theorem dX12_album_27 : decode cX12_album 27 = .ok (.iload_n 1, 1) := by decide +kernel
theorem dX12_album_28 : decode cX12_album 28 = .ok (.imul, 1) := by decide +kernel
theorem dX12_album_29 : decode cX12_album 29 = .ok (.invokevirtual 186, 3) := by decide +kernel
theorem dX12_album_32 : decode cX12_album 32 = .ok (.iinc 1 1, 3) := by decide +kernel
theorem dX12_album_35 : decode cX12_album 35 = .ok (.goto (-18), 3) := by decide +kernel
theorem dX12_album_38 : decode cX12_album 38 = .ok (.aload_n 0, 1) := by decide +kernel
theorem dX12_album_39 : decode cX12_album 39 = .ok (.iconst 0, 1) := by decide +kernel
theorem dX12_album_40 : decode cX12_album 40 = .ok (.putfield 92, 3) := by decide +kernel
theorem dX12_album_43 : decode cX12_album 43 = .ok (.aload_n 0, 1) := by decide +kernel
theorem dX12_album_44 : decode cX12_album 44 = .ok (.iconst 0, 1) := by decide +kernel
theorem dX12_album_45 : decode cX12_album 45 = .ok (.putfield 189, 3) := by decide +kernel
theorem dX12_album_48 : decode cX12_album 48 = .ok (.aload_n 0, 1) := by decide +kernel
theorem dX12_album_49 : decode cX12_album 49 = .ok (.getfield 50, 3) := by decide +kernel
theorem dX12_album_52 : decode cX12_album 52 = .ok (.iconst 0, 1) := by decide +kernel
theorem dX12_album_53 : decode cX12_album 53 = .ok (.iconst 0, 1) := by decide +kernel
theorem dX12_album_54 : decode cX12_album 54 = .ok (.bastore, 1) := by decide +kernel
theorem dX12_album_55 : decode cX12_album 55 = .ok (.aload_n 0, 1) := by decide +kernel
theorem dX12_album_56 : decode cX12_album 56 = .ok (.getfield 50, 3) := by decide +kernel
theorem dX12_album_59 : decode cX12_album 59 = .ok (.iconst 1, 1) := by decide +kernel
theorem dX12_album_60 : decode cX12_album 60 = .ok (.iconst 0, 1) := by decide +kernel
theorem dX12_album_61 : decode cX12_album 61 = .ok (.bastore, 1) := by decide +kernel
theorem dX12_album_62 : decode cX12_album 62 = .ok (.iconst 0, 1) := by decide +kernel
theorem dX12_album_63 : decode cX12_album 63 = .ok (.istore_n 1, 1) := by decide +kernel
theorem dX12_album_64 : decode cX12_album 64 = .ok (.iload_n 1, 1) := by decide +kernel
theorem dX12_album_65 : decode cX12_album 65 = .ok (.iconst 3, 1) := by decide +kernel
theorem dX12_album_66 : decode cX12_album 66 = .ok (.if_icmp .ge 16, 3) := by decide +kernel
theorem dX12_album_69 : decode cX12_album 69 = .ok (.aload_n 0, 1) := by decide +kernel
theorem dX12_album_70 : decode cX12_album 70 = .ok (.getfield 82, 3) := by decide +kernel
theorem dX12_album_73 : decode cX12_album 73 = .ok (.iload_n 1, 1) := by decide +kernel
theorem dX12_album_74 : decode cX12_album 74 = .ok (.iconst (-1), 1) := by decide +kernel
theorem dX12_album_75 : decode cX12_album 75 = .ok (.iastore, 1) := by decide +kernel
theorem dX12_album_76 : decode cX12_album 76 = .ok (.iinc 1 1, 3) := by decide +kernel
theorem dX12_album_79 : decode cX12_album 79 = .ok (.goto (-15), 3) := by decide +kernel
theorem dX12_album_82 : decode cX12_album 82 = .ok (.aload_n 0, 1) := by decide +kernel
theorem dX12_album_83 : decode cX12_album 83 = .ok (.getfield 125, 3) := by decide +kernel
theorem dX12_album_86 : decode cX12_album 86 = .ok (.ireturn, 1) := by decide +kernel
theorem dX12_find_0 : decode cX12_find 0 = .ok (.iconst 0, 1) := by decide +kernel
theorem dX12_find_1 : decode cX12_find 1 = .ok (.istore_n 1, 1) := by decide +kernel
theorem dX12_find_2 : decode cX12_find 2 = .ok (.iconst 0, 1) := by decide +kernel
theorem dX12_find_3 : decode cX12_find 3 = .ok (.istore_n 2, 1) := by decide +kernel
theorem dX12_find_4 : decode cX12_find 4 = .ok (.iconst 1, 1) := by decide +kernel
theorem dX12_find_5 : decode cX12_find 5 = .ok (.istore_n 3, 1) := by decide +kernel
theorem dX12_find_6 : decode cX12_find 6 = .ok (.iconst 0, 1) := by decide +kernel
theorem dX12_find_7 : decode cX12_find 7 = .ok (.istore 4, 2) := by decide +kernel
theorem dX12_find_9 : decode cX12_find 9 = .ok (.iload 4, 2) := by decide +kernel
theorem dX12_find_11 : decode cX12_find 11 = .ok (.aload_n 0, 1) := by decide +kernel
theorem dX12_find_12 : decode cX12_find 12 = .ok (.getfield 92, 3) := by decide +kernel
theorem dX12_find_15 : decode cX12_find 15 = .ok (.if_icmp .ge 74, 3) := by decide +kernel
theorem dX12_find_18 : decode cX12_find 18 = .ok (.aload_n 0, 1) := by decide +kernel
theorem dX12_find_19 : decode cX12_find 19 = .ok (.getfield 7, 3) := by decide +kernel
theorem dX12_find_22 : decode cX12_find 22 = .ok (.iload 4, 2) := by decide +kernel
theorem dX12_find_24 : decode cX12_find 24 = .ok (.iaload, 1) := by decide +kernel
theorem dX12_find_25 : decode cX12_find 25 = .ok (.bipush 32, 2) := by decide +kernel
theorem dX12_find_27 : decode cX12_find 27 = .ok (.if_icmp .eq 56, 3) := by decide +kernel
theorem dX12_find_30 : decode cX12_find 30 = .ok (.iload_n 3, 1) := by decide +kernel
theorem dX12_find_31 : decode cX12_find 31 = .ok (.ifCond .eq 21, 3) := by decide +kernel
theorem dX12_find_34 : decode cX12_find 34 = .ok (.aload_n 0, 1) := by decide +kernel
theorem dX12_find_35 : decode cX12_find 35 = .ok (.getfield 7, 3) := by decide +kernel
theorem dX12_find_38 : decode cX12_find 38 = .ok (.iload 4, 2) := by decide +kernel
theorem dX12_find_40 : decode cX12_find 40 = .ok (.iaload, 1) := by decide +kernel
theorem dX12_find_41 : decode cX12_find 41 = .ok (.invokestatic 104, 3) := by decide +kernel
theorem dX12_find_44 : decode cX12_find 44 = .ok (.iconst 1, 1) := by decide +kernel
theorem dX12_find_45 : decode cX12_find 45 = .ok (.if_icmp .ne 7, 3) := by decide +kernel
theorem dX12_find_48 : decode cX12_find 48 = .ok (.iconst 1, 1) := by decide +kernel
theorem dX12_find_49 : decode cX12_find 49 = .ok (.goto 4, 3) := by decide +kernel
theorem dX12_find_52 : decode cX12_find 52 = .ok (.iconst 0, 1) := by decide +kernel
theorem dX12_find_53 : decode cX12_find 53 = .ok (.istore_n 3, 1) := by decide +kernel
theorem dX12_find_54 : decode cX12_find 54 = .ok (.iinc 2 1, 3) := by decide +kernel
theorem dX12_find_57 : decode cX12_find 57 = .ok (.iload_n 2, 1) := by decide +kernel
theorem dX12_find_58 : decode cX12_find 58 = .ok (.bipush 6, 2) := by decide +kernel
theorem dX12_find_60 : decode cX12_find 60 = .ok (.if_icmp .ge 21, 3) := by decide +kernel
theorem dX12_find_63 : decode cX12_find 63 = .ok (.bipush 27, 2) := by decide +kernel
theorem dX12_find_65 : decode cX12_find 65 = .ok (.iload_n 1, 1) := by decide +kernel
theorem dX12_find_66 : decode cX12_find 66 = .ok (.imul, 1) := by decide +kernel
theorem dX12_find_67 : decode cX12_find 67 = .ok (.aload_n 0, 1) := by decide +kernel
theorem dX12_find_68 : decode cX12_find 68 = .ok (.getfield 7, 3) := by decide +kernel
theorem dX12_find_71 : decode cX12_find 71 = .ok (.iload 4, 2) := by decide +kernel
theorem dX12_find_73 : decode cX12_find 73 = .ok (.iaload, 1) := by decide +kernel
theorem dX12_find_74 : decode cX12_find 74 = .ok (.iadd, 1) := by decide +kernel
theorem dX12_find_75 : decode cX12_find 75 = .ok (.bipush 96, 2) := by decide +kernel
theorem dX12_find_77 : decode cX12_find 77 = .ok (.isub, 1) := by decide +kernel
theorem dX12_find_78 : decode cX12_find 78 = .ok (.goto 4, 3) := by decide +kernel
theorem dX12_find_81 : decode cX12_find 81 = .ok (.iload_n 1, 1) := by decide +kernel
theorem dX12_find_82 : decode cX12_find 82 = .ok (.istore_n 1, 1) := by decide +kernel
theorem dX12_find_83 : decode cX12_find 83 = .ok (.iinc 4 1, 3) := by decide +kernel
theorem dX12_find_86 : decode cX12_find 86 = .ok (.goto (-77), 3) := by decide +kernel
theorem dX12_find_89 : decode cX12_find 89 = .ok (.iconst 0, 1) := by decide +kernel
theorem dX12_find_90 : decode cX12_find 90 = .ok (.istore 4, 2) := by decide +kernel
theorem dX12_find_92 : decode cX12_find 92 = .ok (.iload 4, 2) := by decide +kernel
theorem dX12_find_94 : decode cX12_find 94 = .ok (.aload_n 0, 1) := by decide +kernel
theorem dX12_find_95 : decode cX12_find 95 = .ok (.getfield 166, 3) := by decide +kernel
theorem dX12_find_98 : decode cX12_find 98 = .ok (.if_icmp .ge 36, 3) := by decide +kernel
theorem dX12_find_101 : decode cX12_find 101 = .ok (.iload_n 3, 1) := by decide +kernel
theorem dX12_find_102 : decode cX12_find 102 = .ok (.ifCond .eq 32, 3) := by decide +kernel
theorem dX12_find_105 : decode cX12_find 105 = .ok (.iload_n 2, 1) := by decide +kernel
theorem dX12_find_106 : decode cX12_find 106 = .ok (.iconst 1, 1) := by decide +kernel
theorem dX12_find_107 : decode cX12_find 107 = .ok (.iconst 5, 1) := by decide +kernel
theorem dX12_find_108 : decode cX12_find 108 = .ok (.invokestatic 88, 3) := by decide +kernel
theorem dX12_find_111 : decode cX12_find 111 = .ok (.ifCond .eq 23, 3) := by decide +kernel
theorem dX12_find_114 : decode cX12_find 114 = .ok (.aload_n 0, 1) := by decide +kernel
theorem dX12_find_115 : decode cX12_find 115 = .ok (.getfield 32, 3) := by decide +kernel
theorem dX12_find_118 : decode cX12_find 118 = .ok (.iload 4, 2) := by decide +kernel
theorem dX12_find_120 : decode cX12_find 120 = .ok (.iaload, 1) := by decide +kernel
theorem dX12_find_121 : decode cX12_find 121 = .ok (.iload_n 1, 1) := by decide +kernel
theorem dX12_find_122 : decode cX12_find 122 = .ok (.if_icmp .ne 6, 3) := by decide +kernel
theorem dX12_find_125 : decode cX12_find 125 = .ok (.iload 4, 2) := by decide +kernel
theorem dX12_find_127 : decode cX12_find 127 = .ok (.ireturn, 1) := by decide +kernel
theorem dX12_find_128 : decode cX12_find 128 = .ok (.iinc 4 1, 3) := by decide +kernel
theorem dX12_find_131 : decode cX12_find 131 = .ok (.goto (-39), 3) := by decide +kernel
theorem dX12_find_134 : decode cX12_find 134 = .ok (.iconst (-1), 1) := by decide +kernel
theorem dX12_find_135 : decode cX12_find 135 = .ok (.ireturn, 1) := by decide +kernel
theorem dX12_isPicture_0 : decode cX12_isPicture 0 = .ok (.iload_n 1, 1) := by decide +kernel
theorem dX12_isPicture_1 : decode cX12_isPicture 1 = .ok (.iconst 0, 1) := by decide +kernel
theorem dX12_isPicture_2 : decode cX12_isPicture 2 = .ok (.aload_n 0, 1) := by decide +kernel
theorem dX12_isPicture_3 : decode cX12_isPicture 3 = .ok (.getfield 166, 3) := by decide +kernel
theorem dX12_isPicture_6 : decode cX12_isPicture 6 = .ok (.iconst 1, 1) := by decide +kernel
theorem dX12_isPicture_7 : decode cX12_isPicture 7 = .ok (.isub, 1) := by decide +kernel
theorem dX12_isPicture_8 : decode cX12_isPicture 8 = .ok (.invokestatic 88, 3) := by decide +kernel
theorem dX12_isPicture_11 : decode cX12_isPicture 11 = .ok (.ireturn, 1) := by decide +kernel
theorem dX12_isMatter_0 : decode cX12_isMatter 0 = .ok (.iload_n 1, 1) := by decide +kernel
theorem dX12_isMatter_1 : decode cX12_isMatter 1 = .ok (.iconst 0, 1) := by decide +kernel
theorem dX12_isMatter_2 : decode cX12_isMatter 2 = .ok (.iconst 1, 1) := by decide +kernel
theorem dX12_isMatter_3 : decode cX12_isMatter 3 = .ok (.aload_n 0, 1) := by decide +kernel
theorem dX12_isMatter_4 : decode cX12_isMatter 4 = .ok (.getfield 169, 3) := by decide +kernel
theorem dX12_isMatter_7 : decode cX12_isMatter 7 = .ok (.iadd, 1) := by decide +kernel
theorem dX12_isMatter_8 : decode cX12_isMatter 8 = .ok (.invokestatic 88, 3) := by decide +kernel
theorem dX12_isMatter_11 : decode cX12_isMatter 11 = .ok (.ireturn, 1) := by decide +kernel
theorem dX12_pieceAt_0 : decode cX12_pieceAt 0 = .ok (.iconst (-1), 1) := by decide +kernel
theorem dX12_pieceAt_1 : decode cX12_pieceAt 1 = .ok (.istore_n 3, 1) := by decide +kernel
theorem dX12_pieceAt_2 : decode cX12_pieceAt 2 = .ok (.iconst 0, 1) := by decide +kernel
theorem dX12_pieceAt_3 : decode cX12_pieceAt 3 = .ok (.istore 4, 2) := by decide +kernel
theorem dX12_pieceAt_5 : decode cX12_pieceAt 5 = .ok (.iload 4, 2) := by decide +kernel
theorem dX12_pieceAt_7 : decode cX12_pieceAt 7 = .ok (.aload_n 0, 1) := by decide +kernel
theorem dX12_pieceAt_8 : decode cX12_pieceAt 8 = .ok (.getfield 38, 3) := by decide +kernel
theorem dX12_pieceAt_11 : decode cX12_pieceAt 11 = .ok (.iconst 0, 1) := by decide +kernel
theorem dX12_pieceAt_12 : decode cX12_pieceAt 12 = .ok (.iaload, 1) := by decide +kernel
theorem dX12_pieceAt_13 : decode cX12_pieceAt 13 = .ok (.if_icmp .ge 46, 3) := by decide +kernel
theorem dX12_pieceAt_16 : decode cX12_pieceAt 16 = .ok (.aload_n 0, 1) := by decide +kernel
theorem dX12_pieceAt_17 : decode cX12_pieceAt 17 = .ok (.getfield 38, 3) := by decide +kernel
theorem dX12_pieceAt_20 : decode cX12_pieceAt 20 = .ok (.iconst 4, 1) := by decide +kernel
theorem dX12_pieceAt_21 : decode cX12_pieceAt 21 = .ok (.iload 4, 2) := by decide +kernel
theorem dX12_pieceAt_23 : decode cX12_pieceAt 23 = .ok (.imul, 1) := by decide +kernel
theorem dX12_pieceAt_24 : decode cX12_pieceAt 24 = .ok (.iconst 1, 1) := by decide +kernel
theorem dX12_pieceAt_25 : decode cX12_pieceAt 25 = .ok (.iadd, 1) := by decide +kernel
theorem dX12_pieceAt_26 : decode cX12_pieceAt 26 = .ok (.iaload, 1) := by decide +kernel
theorem dX12_pieceAt_27 : decode cX12_pieceAt 27 = .ok (.iload_n 1, 1) := by decide +kernel
theorem dX12_pieceAt_28 : decode cX12_pieceAt 28 = .ok (.if_icmp .ne 23, 3) := by decide +kernel
theorem dX12_pieceAt_31 : decode cX12_pieceAt 31 = .ok (.aload_n 0, 1) := by decide +kernel
theorem dX12_pieceAt_32 : decode cX12_pieceAt 32 = .ok (.getfield 38, 3) := by decide +kernel
theorem dX12_pieceAt_35 : decode cX12_pieceAt 35 = .ok (.iconst 4, 1) := by decide +kernel
theorem dX12_pieceAt_36 : decode cX12_pieceAt 36 = .ok (.iload 4, 2) := by decide +kernel
theorem dX12_pieceAt_38 : decode cX12_pieceAt 38 = .ok (.imul, 1) := by decide +kernel
theorem dX12_pieceAt_39 : decode cX12_pieceAt 39 = .ok (.iconst 2, 1) := by decide +kernel
theorem dX12_pieceAt_40 : decode cX12_pieceAt 40 = .ok (.iadd, 1) := by decide +kernel
theorem dX12_pieceAt_41 : decode cX12_pieceAt 41 = .ok (.iaload, 1) := by decide +kernel
theorem dX12_pieceAt_42 : decode cX12_pieceAt 42 = .ok (.iload_n 2, 1) := by decide +kernel
theorem dX12_pieceAt_43 : decode cX12_pieceAt 43 = .ok (.if_icmp .ne 8, 3) := by decide +kernel
theorem dX12_pieceAt_46 : decode cX12_pieceAt 46 = .ok (.iload 4, 2) := by decide +kernel
theorem dX12_pieceAt_48 : decode cX12_pieceAt 48 = .ok (.goto 4, 3) := by decide +kernel
theorem dX12_pieceAt_51 : decode cX12_pieceAt 51 = .ok (.iload_n 3, 1) := by decide +kernel
theorem dX12_pieceAt_52 : decode cX12_pieceAt 52 = .ok (.istore_n 3, 1) := by decide +kernel
theorem dX12_pieceAt_53 : decode cX12_pieceAt 53 = .ok (.iinc 4 1, 3) := by decide +kernel
theorem dX12_pieceAt_56 : decode cX12_pieceAt 56 = .ok (.goto (-51), 3) := by decide +kernel
theorem dX12_pieceAt_59 : decode cX12_pieceAt 59 = .ok (.iload_n 3, 1) := by decide +kernel
theorem dX12_pieceAt_60 : decode cX12_pieceAt 60 = .ok (.ireturn, 1) := by decide +kernel
theorem dX12_value_0 : decode cX12_value 0 = .ok (.aload_n 0, 1) := by decide +kernel
theorem dX12_value_1 : decode cX12_value 1 = .ok (.iload_n 1, 1) := by decide +kernel
theorem dX12_value_2 : decode cX12_value 2 = .ok (.iload_n 2, 1) := by decide +kernel
theorem dX12_value_3 : decode cX12_value 3 = .ok (.invokevirtual 192, 3) := by decide +kernel
theorem dX12_value_6 : decode cX12_value 6 = .ok (.istore_n 3, 1) := by decide +kernel
theorem dX12_value_7 : decode cX12_value 7 = .ok (.iload_n 3, 1) := by decide +kernel
theorem dX12_value_8 : decode cX12_value 8 = .ok (.iconst (-1), 1) := by decide +kernel
theorem dX12_value_9 : decode cX12_value 9 = .ok (.if_icmp .ne 7, 3) := by decide +kernel
theorem dX12_value_12 : decode cX12_value 12 = .ok (.iconst (-1), 1) := by decide +kernel
theorem dX12_value_13 : decode cX12_value 13 = .ok (.goto 13, 3) := by decide +kernel
theorem dX12_value_16 : decode cX12_value 16 = .ok (.aload_n 0, 1) := by decide +kernel
theorem dX12_value_17 : decode cX12_value 17 = .ok (.getfield 38, 3) := by decide +kernel
theorem dX12_value_20 : decode cX12_value 20 = .ok (.iconst 4, 1) := by decide +kernel
theorem dX12_value_21 : decode cX12_value 21 = .ok (.iload_n 3, 1) := by decide +kernel
theorem dX12_value_22 : decode cX12_value 22 = .ok (.imul, 1) := by decide +kernel
theorem dX12_value_23 : decode cX12_value 23 = .ok (.iconst 3, 1) := by decide +kernel
theorem dX12_value_24 : decode cX12_value 24 = .ok (.iadd, 1) := by decide +kernel
theorem dX12_value_25 : decode cX12_value 25 = .ok (.iaload, 1) := by decide +kernel
theorem dX12_value_26 : decode cX12_value 26 = .ok (.ireturn, 1) := by decide +kernel
theorem dX12_become_0 : decode cX12_become 0 = .ok (.aload_n 0, 1) := by decide +kernel
theorem dX12_become_1 : decode cX12_become 1 = .ok (.iload_n 1, 1) := by decide +kernel
theorem dX12_become_2 : decode cX12_become 2 = .ok (.iload_n 2, 1) := by decide +kernel
theorem dX12_become_3 : decode cX12_become 3 = .ok (.invokevirtual 192, 3) := by decide +kernel
theorem dX12_become_6 : decode cX12_become 6 = .ok (.istore 5, 2) := by decide +kernel
theorem dX12_become_8 : decode cX12_become 8 = .ok (.iload 5, 2) := by decide +kernel
theorem dX12_become_10 : decode cX12_become 10 = .ok (.iconst (-1), 1) := by decide +kernel
theorem dX12_become_11 : decode cX12_become 11 = .ok (.if_icmp .ne 21, 3) := by decide +kernel
theorem dX12_become_14 : decode cX12_become 14 = .ok (.aload_n 0, 1) := by decide +kernel
theorem dX12_become_15 : decode cX12_become 15 = .ok (.getfield 38, 3) := by decide +kernel
theorem dX12_become_18 : decode cX12_become 18 = .ok (.iconst 0, 1) := by decide +kernel
theorem dX12_become_19 : decode cX12_become 19 = .ok (.iaload, 1) := by decide +kernel
theorem dX12_become_20 : decode cX12_become 20 = .ok (.istore 5, 2) := by decide +kernel
theorem dX12_become_22 : decode cX12_become 22 = .ok (.aload_n 0, 1) := by decide +kernel
theorem dX12_become_23 : decode cX12_become 23 = .ok (.getfield 38, 3) := by decide +kernel
theorem dX12_become_26 : decode cX12_become 26 = .ok (.iconst 0, 1) := by decide +kernel
theorem dX12_become_27 : decode cX12_become 27 = .ok (.dup2, 1) := by decide +kernel
theorem dX12_become_28 : decode cX12_become 28 = .ok (.iaload, 1) := by decide +kernel
theorem dX12_become_29 : decode cX12_become 29 = .ok (.iconst 1, 1) := by decide +kernel
theorem dX12_become_30 : decode cX12_become 30 = .ok (.iadd, 1) := by decide +kernel
theorem dX12_become_31 : decode cX12_become 31 = .ok (.iastore, 1) := by decide +kernel
theorem dX12_become_32 : decode cX12_become 32 = .ok (.aload_n 0, 1) := by decide +kernel
theorem dX12_become_33 : decode cX12_become 33 = .ok (.getfield 38, 3) := by decide +kernel
theorem dX12_become_36 : decode cX12_become 36 = .ok (.iconst 4, 1) := by decide +kernel
theorem dX12_become_37 : decode cX12_become 37 = .ok (.iload 5, 2) := by decide +kernel
theorem dX12_become_39 : decode cX12_become 39 = .ok (.imul, 1) := by decide +kernel
theorem dX12_become_40 : decode cX12_become 40 = .ok (.iconst 1, 1) := by decide +kernel
theorem dX12_become_41 : decode cX12_become 41 = .ok (.iadd, 1) := by decide +kernel
theorem dX12_become_42 : decode cX12_become 42 = .ok (.iload_n 1, 1) := by decide +kernel
theorem dX12_become_43 : decode cX12_become 43 = .ok (.iastore, 1) := by decide +kernel
theorem dX12_become_44 : decode cX12_become 44 = .ok (.aload_n 0, 1) := by decide +kernel
theorem dX12_become_45 : decode cX12_become 45 = .ok (.getfield 38, 3) := by decide +kernel
theorem dX12_become_48 : decode cX12_become 48 = .ok (.iconst 4, 1) := by decide +kernel
theorem dX12_become_49 : decode cX12_become 49 = .ok (.iload 5, 2) := by decide +kernel
theorem dX12_become_51 : decode cX12_become 51 = .ok (.imul, 1) := by decide +kernel
theorem dX12_become_52 : decode cX12_become 52 = .ok (.iconst 2, 1) := by decide +kernel
theorem dX12_become_53 : decode cX12_become 53 = .ok (.iadd, 1) := by decide +kernel
theorem dX12_become_54 : decode cX12_become 54 = .ok (.iload_n 2, 1) := by decide +kernel
theorem dX12_become_55 : decode cX12_become 55 = .ok (.iastore, 1) := by decide +kernel
theorem dX12_become_56 : decode cX12_become 56 = .ok (.aload_n 0, 1) := by decide +kernel
theorem dX12_become_57 : decode cX12_become 57 = .ok (.getfield 38, 3) := by decide +kernel
theorem dX12_become_60 : decode cX12_become 60 = .ok (.iconst 4, 1) := by decide +kernel
theorem dX12_become_61 : decode cX12_become 61 = .ok (.iload 5, 2) := by decide +kernel
theorem dX12_become_63 : decode cX12_become 63 = .ok (.imul, 1) := by decide +kernel
theorem dX12_become_64 : decode cX12_become 64 = .ok (.iconst 3, 1) := by decide +kernel
theorem dX12_become_65 : decode cX12_become 65 = .ok (.iadd, 1) := by decide +kernel
theorem dX12_become_66 : decode cX12_become 66 = .ok (.iload_n 3, 1) := by decide +kernel
theorem dX12_become_67 : decode cX12_become 67 = .ok (.iastore, 1) := by decide +kernel
theorem dX12_become_68 : decode cX12_become 68 = .ok (.aload_n 0, 1) := by decide +kernel
theorem dX12_become_69 : decode cX12_become 69 = .ok (.getfield 38, 3) := by decide +kernel
theorem dX12_become_72 : decode cX12_become 72 = .ok (.iconst 4, 1) := by decide +kernel
theorem dX12_become_73 : decode cX12_become 73 = .ok (.iload 5, 2) := by decide +kernel
theorem dX12_become_75 : decode cX12_become 75 = .ok (.imul, 1) := by decide +kernel
theorem dX12_become_76 : decode cX12_become 76 = .ok (.iconst 4, 1) := by decide +kernel
theorem dX12_become_77 : decode cX12_become 77 = .ok (.iadd, 1) := by decide +kernel
theorem dX12_become_78 : decode cX12_become 78 = .ok (.iload 4, 2) := by decide +kernel
theorem dX12_become_80 : decode cX12_become 80 = .ok (.iastore, 1) := by decide +kernel
theorem dX12_become_81 : decode cX12_become 81 = .ok (.return_, 1) := by decide +kernel
theorem dX12_remove_0 : decode cX12_remove 0 = .ok (.aload_n 0, 1) := by decide +kernel
theorem dX12_remove_1 : decode cX12_remove 1 = .ok (.getfield 38, 3) := by decide +kernel
theorem dX12_remove_4 : decode cX12_remove 4 = .ok (.iconst 4, 1) := by decide +kernel
theorem dX12_remove_5 : decode cX12_remove 5 = .ok (.iload_n 1, 1) := by decide +kernel
theorem dX12_remove_6 : decode cX12_remove 6 = .ok (.imul, 1) := by decide +kernel
theorem dX12_remove_7 : decode cX12_remove 7 = .ok (.iconst 5, 1) := by decide +kernel
theorem dX12_remove_8 : decode cX12_remove 8 = .ok (.iadd, 1) := by decide +kernel
theorem dX12_remove_9 : decode cX12_remove 9 = .ok (.aload_n 0, 1) := by decide +kernel
theorem dX12_remove_10 : decode cX12_remove 10 = .ok (.getfield 38, 3) := by decide +kernel
theorem dX12_remove_13 : decode cX12_remove 13 = .ok (.iconst 4, 1) := by decide +kernel
theorem dX12_remove_14 : decode cX12_remove 14 = .ok (.iload_n 1, 1) := by decide +kernel
theorem dX12_remove_15 : decode cX12_remove 15 = .ok (.imul, 1) := by decide +kernel
theorem dX12_remove_16 : decode cX12_remove 16 = .ok (.iconst 1, 1) := by decide +kernel
theorem dX12_remove_17 : decode cX12_remove 17 = .ok (.iadd, 1) := by decide +kernel
theorem dX12_remove_18 : decode cX12_remove 18 = .ok (.iconst 4, 1) := by decide +kernel
theorem dX12_remove_19 : decode cX12_remove 19 = .ok (.aload_n 0, 1) := by decide +kernel
theorem dX12_remove_20 : decode cX12_remove 20 = .ok (.getfield 38, 3) := by decide +kernel
theorem dX12_remove_23 : decode cX12_remove 23 = .ok (.iconst 0, 1) := by decide +kernel
theorem dX12_remove_24 : decode cX12_remove 24 = .ok (.iaload, 1) := by decide +kernel
theorem dX12_remove_25 : decode cX12_remove 25 = .ok (.iload_n 1, 1) := by decide +kernel
theorem dX12_remove_26 : decode cX12_remove 26 = .ok (.isub, 1) := by decide +kernel
theorem dX12_remove_27 : decode cX12_remove 27 = .ok (.iconst 1, 1) := by decide +kernel
theorem dX12_remove_28 : decode cX12_remove 28 = .ok (.isub, 1) := by decide +kernel
theorem dX12_remove_29 : decode cX12_remove 29 = .ok (.imul, 1) := by decide +kernel
theorem dX12_remove_30 : decode cX12_remove 30 = .ok (.invokestatic 172, 3) := by decide +kernel
theorem dX12_remove_33 : decode cX12_remove 33 = .ok (.aload_n 0, 1) := by decide +kernel
theorem dX12_remove_34 : decode cX12_remove 34 = .ok (.getfield 38, 3) := by decide +kernel
theorem dX12_remove_37 : decode cX12_remove 37 = .ok (.iconst 0, 1) := by decide +kernel
theorem dX12_remove_38 : decode cX12_remove 38 = .ok (.dup2, 1) := by decide +kernel
theorem dX12_remove_39 : decode cX12_remove 39 = .ok (.iaload, 1) := by decide +kernel
theorem dX12_remove_40 : decode cX12_remove 40 = .ok (.iconst 1, 1) := by decide +kernel
theorem dX12_remove_41 : decode cX12_remove 41 = .ok (.isub, 1) := by decide +kernel
theorem dX12_remove_42 : decode cX12_remove 42 = .ok (.iastore, 1) := by decide +kernel
theorem dX12_remove_43 : decode cX12_remove 43 = .ok (.return_, 1) := by decide +kernel
theorem dX12_mostOf_0 : decode cX12_mostOf 0 = .ok (.iload_n 1, 1) := by decide +kernel
theorem dX12_mostOf_1 : decode cX12_mostOf 1 = .ok (.ifCond .ne 8, 3) := by decide +kernel
theorem dX12_mostOf_4 : decode cX12_mostOf 4 = .ok (.bipush 24, 2) := by decide +kernel
theorem dX12_mostOf_6 : decode cX12_mostOf 6 = .ok (.goto 32, 3) := by decide +kernel
theorem dX12_mostOf_9 : decode cX12_mostOf 9 = .ok (.iload_n 1, 1) := by decide +kernel
theorem dX12_mostOf_10 : decode cX12_mostOf 10 = .ok (.iconst 1, 1) := by decide +kernel
theorem dX12_mostOf_11 : decode cX12_mostOf 11 = .ok (.if_icmp .ne 9, 3) := by decide +kernel
theorem dX12_mostOf_14 : decode cX12_mostOf 14 = .ok (.sipush 999, 3) := by decide +kernel
theorem dX12_mostOf_17 : decode cX12_mostOf 17 = .ok (.goto 21, 3) := by decide +kernel
theorem dX12_mostOf_20 : decode cX12_mostOf 20 = .ok (.aload_n 0, 1) := by decide +kernel
theorem dX12_mostOf_21 : decode cX12_mostOf 21 = .ok (.getfield 35, 3) := by decide +kernel
theorem dX12_mostOf_24 : decode cX12_mostOf 24 = .ok (.iload_n 1, 1) := by decide +kernel
theorem dX12_mostOf_25 : decode cX12_mostOf 25 = .ok (.iconst 2, 1) := by decide +kernel
theorem dX12_mostOf_26 : decode cX12_mostOf 26 = .ok (.isub, 1) := by decide +kernel
theorem dX12_mostOf_27 : decode cX12_mostOf 27 = .ok (.iaload, 1) := by decide +kernel
theorem dX12_mostOf_28 : decode cX12_mostOf 28 = .ok (.iconst 3, 1) := by decide +kernel
theorem dX12_mostOf_29 : decode cX12_mostOf 29 = .ok (.if_icmp .ne 8, 3) := by decide +kernel
theorem dX12_mostOf_32 : decode cX12_mostOf 32 = .ok (.bipush 9, 2) := by decide +kernel
theorem dX12_mostOf_34 : decode cX12_mostOf 34 = .ok (.goto 4, 3) := by decide +kernel
theorem dX12_mostOf_37 : decode cX12_mostOf 37 = .ok (.iconst 1, 1) := by decide +kernel
theorem dX12_mostOf_38 : decode cX12_mostOf 38 = .ok (.ireturn, 1) := by decide +kernel
theorem dX12_pointAt_0 : decode cX12_pointAt 0 = .ok (.iload_n 1, 1) := by decide +kernel
theorem dX12_pointAt_1 : decode cX12_pointAt 1 = .ok (.aload_n 0, 1) := by decide +kernel
theorem dX12_pointAt_2 : decode cX12_pointAt 2 = .ok (.getfield 22, 3) := by decide +kernel
theorem dX12_pointAt_5 : decode cX12_pointAt 5 = .ok (.isub, 1) := by decide +kernel
theorem dX12_pointAt_6 : decode cX12_pointAt 6 = .ok (.bipush 12, 2) := by decide +kernel
theorem dX12_pointAt_8 : decode cX12_pointAt 8 = .ok (.iadd, 1) := by decide +kernel
theorem dX12_pointAt_9 : decode cX12_pointAt 9 = .ok (.ireturn, 1) := by decide +kernel
theorem dX12_lengthAt_0 : decode cX12_lengthAt 0 = .ok (.iload_n 1, 1) := by decide +kernel
theorem dX12_lengthAt_1 : decode cX12_lengthAt 1 = .ok (.aload_n 0, 1) := by decide +kernel
theorem dX12_lengthAt_2 : decode cX12_lengthAt 2 = .ok (.getfield 22, 3) := by decide +kernel
theorem dX12_lengthAt_5 : decode cX12_lengthAt 5 = .ok (.isub, 1) := by decide +kernel
theorem dX12_lengthAt_6 : decode cX12_lengthAt 6 = .ok (.istore_n 2, 1) := by decide +kernel
theorem dX12_lengthAt_7 : decode cX12_lengthAt 7 = .ok (.aload_n 0, 1) := by decide +kernel
theorem dX12_lengthAt_8 : decode cX12_lengthAt 8 = .ok (.getfield 29, 3) := by decide +kernel
theorem dX12_lengthAt_11 : decode cX12_lengthAt 11 = .ok (.aload_n 0, 1) := by decide +kernel
theorem dX12_lengthAt_12 : decode cX12_lengthAt 12 = .ok (.getfield 26, 3) := by decide +kernel
theorem dX12_lengthAt_15 : decode cX12_lengthAt 15 = .ok (.iload_n 2, 1) := by decide +kernel
theorem dX12_lengthAt_16 : decode cX12_lengthAt 16 = .ok (.imul, 1) := by decide +kernel
theorem dX12_lengthAt_17 : decode cX12_lengthAt 17 = .ok (.iload_n 2, 1) := by decide +kernel
theorem dX12_lengthAt_18 : decode cX12_lengthAt 18 = .ok (.imul, 1) := by decide +kernel
theorem dX12_lengthAt_19 : decode cX12_lengthAt 19 = .ok (.iconst 4, 1) := by decide +kernel
theorem dX12_lengthAt_20 : decode cX12_lengthAt 20 = .ok (.idiv, 1) := by decide +kernel
theorem dX12_lengthAt_21 : decode cX12_lengthAt 21 = .ok (.iadd, 1) := by decide +kernel
theorem dX12_lengthAt_22 : decode cX12_lengthAt 22 = .ok (.ireturn, 1) := by decide +kernel
theorem dX12_isUp_0 : decode cX12_isUp 0 = .ok (.aload_n 0, 1) := by decide +kernel
theorem dX12_isUp_1 : decode cX12_isUp 1 = .ok (.iload_n 1, 1) := by decide +kernel
theorem dX12_isUp_2 : decode cX12_isUp 2 = .ok (.invokevirtual 195, 3) := by decide +kernel
theorem dX12_isUp_5 : decode cX12_isUp 5 = .ok (.iconst 0, 1) := by decide +kernel
theorem dX12_isUp_6 : decode cX12_isUp 6 = .ok (.bipush 24, 2) := by decide +kernel
theorem dX12_isUp_8 : decode cX12_isUp 8 = .ok (.invokestatic 88, 3) := by decide +kernel
theorem dX12_isUp_11 : decode cX12_isUp 11 = .ok (.ireturn, 1) := by decide +kernel
theorem dX12_off_0 : decode cX12_off 0 = .ok (.iload_n 0, 1) := by decide +kernel
theorem dX12_off_1 : decode cX12_off 1 = .ok (.iload_n 1, 1) := by decide +kernel
theorem dX12_off_2 : decode cX12_off 2 = .ok (.if_icmp .ge 9, 3) := by decide +kernel
theorem dX12_off_5 : decode cX12_off 5 = .ok (.iload_n 1, 1) := by decide +kernel
theorem dX12_off_6 : decode cX12_off 6 = .ok (.iload_n 0, 1) := by decide +kernel
theorem dX12_off_7 : decode cX12_off 7 = .ok (.isub, 1) := by decide +kernel
theorem dX12_off_8 : decode cX12_off 8 = .ok (.goto 6, 3) := by decide +kernel
theorem dX12_off_11 : decode cX12_off 11 = .ok (.iload_n 0, 1) := by decide +kernel
theorem dX12_off_12 : decode cX12_off 12 = .ok (.iload_n 1, 1) := by decide +kernel
theorem dX12_off_13 : decode cX12_off 13 = .ok (.isub, 1) := by decide +kernel
theorem dX12_off_14 : decode cX12_off 14 = .ok (.ireturn, 1) := by decide +kernel
theorem dX12_isIn_0 : decode cX12_isIn 0 = .ok (.aload_n 0, 1) := by decide +kernel
theorem dX12_isIn_1 : decode cX12_isIn 1 = .ok (.iload_n 1, 1) := by decide +kernel
theorem dX12_isIn_2 : decode cX12_isIn 2 = .ok (.iconst 0, 1) := by decide +kernel
theorem dX12_isIn_3 : decode cX12_isIn 3 = .ok (.invokevirtual 192, 3) := by decide +kernel
theorem dX12_isIn_6 : decode cX12_isIn 6 = .ok (.istore_n 3, 1) := by decide +kernel
theorem dX12_isIn_7 : decode cX12_isIn 7 = .ok (.aload_n 0, 1) := by decide +kernel
theorem dX12_isIn_8 : decode cX12_isIn 8 = .ok (.iload_n 1, 1) := by decide +kernel
theorem dX12_isIn_9 : decode cX12_isIn 9 = .ok (.iconst 1, 1) := by decide +kernel
theorem dX12_isIn_10 : decode cX12_isIn 10 = .ok (.invokevirtual 192, 3) := by decide +kernel
theorem dX12_isIn_13 : decode cX12_isIn 13 = .ok (.istore 4, 2) := by decide +kernel
theorem dX12_isIn_15 : decode cX12_isIn 15 = .ok (.iload_n 3, 1) := by decide +kernel
theorem dX12_isIn_16 : decode cX12_isIn 16 = .ok (.iconst (-1), 1) := by decide +kernel
theorem dX12_isIn_17 : decode cX12_isIn 17 = .ok (.if_icmp .ne 9, 3) := by decide +kernel
theorem dX12_isIn_20 : decode cX12_isIn 20 = .ok (.iload 4, 2) := by decide +kernel
theorem dX12_isIn_22 : decode cX12_isIn 22 = .ok (.iconst (-1), 1) := by decide +kernel
theorem dX12_isIn_23 : decode cX12_isIn 23 = .ok (.if_icmp .eq 11, 3) := by decide +kernel
theorem dX12_isIn_26 : decode cX12_isIn 26 = .ok (.aload_n 0, 1) := by decide +kernel
theorem dX12_isIn_27 : decode cX12_isIn 27 = .ok (.iload_n 2, 1) := by decide +kernel
theorem dX12_isIn_28 : decode cX12_isIn 28 = .ok (.invokevirtual 198, 3) := by decide +kernel
theorem dX12_isIn_31 : decode cX12_isIn 31 = .ok (.ifCond .eq 7, 3) := by decide +kernel
theorem dX12_isIn_34 : decode cX12_isIn 34 = .ok (.iconst 1, 1) := by decide +kernel
theorem dX12_isIn_35 : decode cX12_isIn 35 = .ok (.goto 4, 3) := by decide +kernel
theorem dX12_isIn_38 : decode cX12_isIn 38 = .ok (.iconst 0, 1) := by decide +kernel
theorem dX12_isIn_39 : decode cX12_isIn 39 = .ok (.istore 5, 2) := by decide +kernel
theorem dX12_isIn_41 : decode cX12_isIn 41 = .ok (.iload 5, 2) := by decide +kernel
theorem dX12_isIn_43 : decode cX12_isIn 43 = .ok (.ifCond .eq 43, 3) := by decide +kernel
theorem dX12_isIn_46 : decode cX12_isIn 46 = .ok (.iload_n 3, 1) := by decide +kernel
theorem dX12_isIn_47 : decode cX12_isIn 47 = .ok (.iconst (-1), 1) := by decide +kernel
theorem dX12_isIn_48 : decode cX12_isIn 48 = .ok (.if_icmp .eq 34, 3) := by decide +kernel
theorem dX12_isIn_51 : decode cX12_isIn 51 = .ok (.aload_n 0, 1) := by decide +kernel
theorem dX12_isIn_52 : decode cX12_isIn 52 = .ok (.iload_n 2, 1) := by decide +kernel
theorem dX12_isIn_53 : decode cX12_isIn 53 = .ok (.invokevirtual 195, 3) := by decide +kernel
theorem dX12_isIn_56 : decode cX12_isIn 56 = .ok (.aload_n 0, 1) := by decide +kernel
theorem dX12_isIn_57 : decode cX12_isIn 57 = .ok (.getfield 38, 3) := by decide +kernel
theorem dX12_isIn_60 : decode cX12_isIn 60 = .ok (.iconst 4, 1) := by decide +kernel
theorem dX12_isIn_61 : decode cX12_isIn 61 = .ok (.iload_n 3, 1) := by decide +kernel
theorem dX12_isIn_62 : decode cX12_isIn 62 = .ok (.imul, 1) := by decide +kernel
theorem dX12_isIn_63 : decode cX12_isIn 63 = .ok (.iconst 3, 1) := by decide +kernel
theorem dX12_isIn_64 : decode cX12_isIn 64 = .ok (.iadd, 1) := by decide +kernel
theorem dX12_isIn_65 : decode cX12_isIn 65 = .ok (.iaload, 1) := by decide +kernel
theorem dX12_isIn_66 : decode cX12_isIn 66 = .ok (.invokestatic 202, 3) := by decide +kernel
theorem dX12_isIn_69 : decode cX12_isIn 69 = .ok (.aload_n 0, 1) := by decide +kernel
theorem dX12_isIn_70 : decode cX12_isIn 70 = .ok (.getfield 38, 3) := by decide +kernel
theorem dX12_isIn_73 : decode cX12_isIn 73 = .ok (.iconst 4, 1) := by decide +kernel
theorem dX12_isIn_74 : decode cX12_isIn 74 = .ok (.iload_n 3, 1) := by decide +kernel
theorem dX12_isIn_75 : decode cX12_isIn 75 = .ok (.imul, 1) := by decide +kernel
theorem dX12_isIn_76 : decode cX12_isIn 76 = .ok (.iconst 4, 1) := by decide +kernel
theorem dX12_isIn_77 : decode cX12_isIn 77 = .ok (.iadd, 1) := by decide +kernel
theorem dX12_isIn_78 : decode cX12_isIn 78 = .ok (.iaload, 1) := by decide +kernel
theorem dX12_isIn_79 : decode cX12_isIn 79 = .ok (.if_icmp .gt 7, 3) := by decide +kernel
theorem dX12_isIn_82 : decode cX12_isIn 82 = .ok (.iconst 1, 1) := by decide +kernel
theorem dX12_isIn_83 : decode cX12_isIn 83 = .ok (.goto 4, 3) := by decide +kernel
theorem dX12_isIn_86 : decode cX12_isIn 86 = .ok (.iconst 0, 1) := by decide +kernel
theorem dX12_isIn_87 : decode cX12_isIn 87 = .ok (.istore 5, 2) := by decide +kernel
theorem dX12_isIn_89 : decode cX12_isIn 89 = .ok (.iload 5, 2) := by decide +kernel
theorem dX12_isIn_91 : decode cX12_isIn 91 = .ok (.ifCond .eq 46, 3) := by decide +kernel
theorem dX12_isIn_94 : decode cX12_isIn 94 = .ok (.iload 4, 2) := by decide +kernel
theorem dX12_isIn_96 : decode cX12_isIn 96 = .ok (.iconst (-1), 1) := by decide +kernel
theorem dX12_isIn_97 : decode cX12_isIn 97 = .ok (.if_icmp .eq 36, 3) := by decide +kernel
theorem dX12_isIn_100 : decode cX12_isIn 100 = .ok (.aload_n 0, 1) := by decide +kernel
theorem dX12_isIn_101 : decode cX12_isIn 101 = .ok (.iload_n 2, 1) := by decide +kernel
theorem dX12_isIn_102 : decode cX12_isIn 102 = .ok (.invokevirtual 205, 3) := by decide +kernel
theorem dX12_isIn_105 : decode cX12_isIn 105 = .ok (.aload_n 0, 1) := by decide +kernel
theorem dX12_isIn_106 : decode cX12_isIn 106 = .ok (.getfield 38, 3) := by decide +kernel
theorem dX12_isIn_109 : decode cX12_isIn 109 = .ok (.iconst 4, 1) := by decide +kernel
theorem dX12_isIn_110 : decode cX12_isIn 110 = .ok (.iload 4, 2) := by decide +kernel
theorem dX12_isIn_112 : decode cX12_isIn 112 = .ok (.imul, 1) := by decide +kernel
theorem dX12_isIn_113 : decode cX12_isIn 113 = .ok (.iconst 3, 1) := by decide +kernel
theorem dX12_isIn_114 : decode cX12_isIn 114 = .ok (.iadd, 1) := by decide +kernel
theorem dX12_isIn_115 : decode cX12_isIn 115 = .ok (.iaload, 1) := by decide +kernel
theorem dX12_isIn_116 : decode cX12_isIn 116 = .ok (.invokestatic 202, 3) := by decide +kernel
theorem dX12_isIn_119 : decode cX12_isIn 119 = .ok (.aload_n 0, 1) := by decide +kernel
theorem dX12_isIn_120 : decode cX12_isIn 120 = .ok (.getfield 38, 3) := by decide +kernel
theorem dX12_isIn_123 : decode cX12_isIn 123 = .ok (.iconst 4, 1) := by decide +kernel
theorem dX12_isIn_124 : decode cX12_isIn 124 = .ok (.iload 4, 2) := by decide +kernel
theorem dX12_isIn_126 : decode cX12_isIn 126 = .ok (.imul, 1) := by decide +kernel
theorem dX12_isIn_127 : decode cX12_isIn 127 = .ok (.iconst 4, 1) := by decide +kernel
theorem dX12_isIn_128 : decode cX12_isIn 128 = .ok (.iadd, 1) := by decide +kernel
theorem dX12_isIn_129 : decode cX12_isIn 129 = .ok (.iaload, 1) := by decide +kernel
theorem dX12_isIn_130 : decode cX12_isIn 130 = .ok (.if_icmp .gt 7, 3) := by decide +kernel
theorem dX12_isIn_133 : decode cX12_isIn 133 = .ok (.iconst 1, 1) := by decide +kernel
theorem dX12_isIn_134 : decode cX12_isIn 134 = .ok (.goto 4, 3) := by decide +kernel
theorem dX12_isIn_137 : decode cX12_isIn 137 = .ok (.iconst 0, 1) := by decide +kernel
theorem dX12_isIn_138 : decode cX12_isIn 138 = .ok (.ireturn, 1) := by decide +kernel
theorem dX12_has_0 : decode cX12_has 0 = .ok (.lload_n 0, 1) := by decide +kernel
theorem dX12_has_1 : decode cX12_has 1 = .ok (.iload_n 2, 1) := by decide +kernel
theorem dX12_has_2 : decode cX12_has 2 = .ok (.lshr, 1) := by decide +kernel
theorem dX12_has_3 : decode cX12_has 3 = .ok (.lconst 1, 1) := by decide +kernel
theorem dX12_has_4 : decode cX12_has 4 = .ok (.land, 1) := by decide +kernel
theorem dX12_has_5 : decode cX12_has 5 = .ok (.lconst 1, 1) := by decide +kernel
theorem dX12_has_6 : decode cX12_has 6 = .ok (.lcmp, 1) := by decide +kernel
theorem dX12_has_7 : decode cX12_has 7 = .ok (.ifCond .ne 7, 3) := by decide +kernel
theorem dX12_has_10 : decode cX12_has 10 = .ok (.iconst 1, 1) := by decide +kernel
theorem dX12_has_11 : decode cX12_has 11 = .ok (.goto 4, 3) := by decide +kernel
theorem dX12_has_14 : decode cX12_has 14 = .ok (.iconst 0, 1) := by decide +kernel
theorem dX12_has_15 : decode cX12_has 15 = .ok (.ireturn, 1) := by decide +kernel
theorem dX12_layWindow_0 : decode cX12_layWindow 0 = .ok (.aload_n 0, 1) := by decide +kernel
theorem dX12_layWindow_1 : decode cX12_layWindow 1 = .ok (.getfield 54, 3) := by decide +kernel
theorem dX12_layWindow_4 : decode cX12_layWindow 4 = .ok (.iload_n 1, 1) := by decide +kernel
theorem dX12_layWindow_5 : decode cX12_layWindow 5 = .ok (.lconst 0, 1) := by decide +kernel
theorem dX12_layWindow_6 : decode cX12_layWindow 6 = .ok (.lastore, 1) := by decide +kernel
theorem dX12_layWindow_7 : decode cX12_layWindow 7 = .ok (.iconst 0, 1) := by decide +kernel
theorem dX12_layWindow_8 : decode cX12_layWindow 8 = .ok (.istore_n 2, 1) := by decide +kernel
theorem dX12_layWindow_9 : decode cX12_layWindow 9 = .ok (.iload_n 2, 1) := by decide +kernel
theorem dX12_layWindow_10 : decode cX12_layWindow 10 = .ok (.bipush 48, 2) := by decide +kernel
theorem dX12_layWindow_12 : decode cX12_layWindow 12 = .ok (.if_icmp .ge 38, 3) := by decide +kernel
theorem dX12_layWindow_15 : decode cX12_layWindow 15 = .ok (.aload_n 0, 1) := by decide +kernel
theorem dX12_layWindow_16 : decode cX12_layWindow 16 = .ok (.getfield 54, 3) := by decide +kernel
theorem dX12_layWindow_19 : decode cX12_layWindow 19 = .ok (.iload_n 1, 1) := by decide +kernel
theorem dX12_layWindow_20 : decode cX12_layWindow 20 = .ok (.aload_n 0, 1) := by decide +kernel
theorem dX12_layWindow_21 : decode cX12_layWindow 21 = .ok (.getfield 54, 3) := by decide +kernel
theorem dX12_layWindow_24 : decode cX12_layWindow 24 = .ok (.iload_n 1, 1) := by decide +kernel
theorem dX12_layWindow_25 : decode cX12_layWindow 25 = .ok (.laload, 1) := by decide +kernel
theorem dX12_layWindow_26 : decode cX12_layWindow 26 = .ok (.aload_n 0, 1) := by decide +kernel
theorem dX12_layWindow_27 : decode cX12_layWindow 27 = .ok (.iload_n 1, 1) := by decide +kernel
theorem dX12_layWindow_28 : decode cX12_layWindow 28 = .ok (.iload_n 2, 1) := by decide +kernel
theorem dX12_layWindow_29 : decode cX12_layWindow 29 = .ok (.invokevirtual 208, 3) := by decide +kernel
theorem dX12_layWindow_32 : decode cX12_layWindow 32 = .ok (.ifCond .eq 9, 3) := by decide +kernel
theorem dX12_layWindow_35 : decode cX12_layWindow 35 = .ok (.lconst 1, 1) := by decide +kernel
theorem dX12_layWindow_36 : decode cX12_layWindow 36 = .ok (.iload_n 2, 1) := by decide +kernel
theorem dX12_layWindow_37 : decode cX12_layWindow 37 = .ok (.lshl, 1) := by decide +kernel
theorem dX12_layWindow_38 : decode cX12_layWindow 38 = .ok (.goto 4, 3) := by decide +kernel
theorem dX12_layWindow_41 : decode cX12_layWindow 41 = .ok (.lconst 0, 1) := by decide +kernel
theorem dX12_layWindow_42 : decode cX12_layWindow 42 = .ok (.lor, 1) := by decide +kernel
theorem dX12_layWindow_43 : decode cX12_layWindow 43 = .ok (.lastore, 1) := by decide +kernel
theorem dX12_layWindow_44 : decode cX12_layWindow 44 = .ok (.iinc 2 1, 3) := by decide +kernel
theorem dX12_layWindow_47 : decode cX12_layWindow 47 = .ok (.goto (-38), 3) := by decide +kernel
theorem dX12_layWindow_50 : decode cX12_layWindow 50 = .ok (.return_, 1) := by decide +kernel
theorem dX12_isAhead_0 : decode cX12_isAhead 0 = .ok (.iconst 0, 1) := by decide +kernel
theorem dX12_isAhead_1 : decode cX12_isAhead 1 = .ok (.istore_n 3, 1) := by decide +kernel
theorem dX12_isAhead_2 : decode cX12_isAhead 2 = .ok (.iconst 0, 1) := by decide +kernel
theorem dX12_isAhead_3 : decode cX12_isAhead 3 = .ok (.istore 4, 2) := by decide +kernel
theorem dX12_isAhead_5 : decode cX12_isAhead 5 = .ok (.iload 4, 2) := by decide +kernel
theorem dX12_isAhead_7 : decode cX12_isAhead 7 = .ok (.aload_n 0, 1) := by decide +kernel
theorem dX12_isAhead_8 : decode cX12_isAhead 8 = .ok (.getfield 169, 3) := by decide +kernel
theorem dX12_isAhead_11 : decode cX12_isAhead 11 = .ok (.if_icmp .ge 104, 3) := by decide +kernel
theorem dX12_isAhead_14 : decode cX12_isAhead 14 = .ok (.aload_n 0, 1) := by decide +kernel
theorem dX12_isAhead_15 : decode cX12_isAhead 15 = .ok (.iload_n 1, 1) := by decide +kernel
theorem dX12_isAhead_16 : decode cX12_isAhead 16 = .ok (.iconst 2, 1) := by decide +kernel
theorem dX12_isAhead_17 : decode cX12_isAhead 17 = .ok (.iload 4, 2) := by decide +kernel
theorem dX12_isAhead_19 : decode cX12_isAhead 19 = .ok (.iadd, 1) := by decide +kernel
theorem dX12_isAhead_20 : decode cX12_isAhead 20 = .ok (.invokevirtual 211, 3) := by decide +kernel
theorem dX12_isAhead_23 : decode cX12_isAhead 23 = .ok (.istore 5, 2) := by decide +kernel
theorem dX12_isAhead_25 : decode cX12_isAhead 25 = .ok (.aload_n 0, 1) := by decide +kernel
theorem dX12_isAhead_26 : decode cX12_isAhead 26 = .ok (.iload_n 2, 1) := by decide +kernel
theorem dX12_isAhead_27 : decode cX12_isAhead 27 = .ok (.iconst 2, 1) := by decide +kernel
theorem dX12_isAhead_28 : decode cX12_isAhead 28 = .ok (.iload 4, 2) := by decide +kernel
theorem dX12_isAhead_30 : decode cX12_isAhead 30 = .ok (.iadd, 1) := by decide +kernel
theorem dX12_isAhead_31 : decode cX12_isAhead 31 = .ok (.invokevirtual 211, 3) := by decide +kernel
theorem dX12_isAhead_34 : decode cX12_isAhead 34 = .ok (.istore 6, 2) := by decide +kernel
theorem dX12_isAhead_36 : decode cX12_isAhead 36 = .ok (.iload 5, 2) := by decide +kernel
theorem dX12_isAhead_38 : decode cX12_isAhead 38 = .ok (.iconst (-1), 1) := by decide +kernel
theorem dX12_isAhead_39 : decode cX12_isAhead 39 = .ok (.if_icmp .eq 13, 3) := by decide +kernel
theorem dX12_isAhead_42 : decode cX12_isAhead 42 = .ok (.iload 6, 2) := by decide +kernel
theorem dX12_isAhead_44 : decode cX12_isAhead 44 = .ok (.iconst (-1), 1) := by decide +kernel
theorem dX12_isAhead_45 : decode cX12_isAhead 45 = .ok (.if_icmp .eq 7, 3) := by decide +kernel
theorem dX12_isAhead_48 : decode cX12_isAhead 48 = .ok (.iconst 1, 1) := by decide +kernel
theorem dX12_isAhead_49 : decode cX12_isAhead 49 = .ok (.goto 4, 3) := by decide +kernel
theorem dX12_isAhead_52 : decode cX12_isAhead 52 = .ok (.iconst 0, 1) := by decide +kernel
theorem dX12_isAhead_53 : decode cX12_isAhead 53 = .ok (.istore 7, 2) := by decide +kernel
theorem dX12_isAhead_55 : decode cX12_isAhead 55 = .ok (.iload_n 3, 1) := by decide +kernel
theorem dX12_isAhead_56 : decode cX12_isAhead 56 = .ok (.ifCond .ne 47, 3) := by decide +kernel
theorem dX12_isAhead_59 : decode cX12_isAhead 59 = .ok (.iload 7, 2) := by decide +kernel
theorem dX12_isAhead_61 : decode cX12_isAhead 61 = .ok (.ifCond .eq 46, 3) := by decide +kernel
theorem dX12_isAhead_64 : decode cX12_isAhead 64 = .ok (.aload_n 0, 1) := by decide +kernel
theorem dX12_isAhead_65 : decode cX12_isAhead 65 = .ok (.getfield 35, 3) := by decide +kernel
theorem dX12_isAhead_68 : decode cX12_isAhead 68 = .ok (.iload 4, 2) := by decide +kernel
theorem dX12_isAhead_70 : decode cX12_isAhead 70 = .ok (.iaload, 1) := by decide +kernel
theorem dX12_isAhead_71 : decode cX12_isAhead 71 = .ok (.iconst 1, 1) := by decide +kernel
theorem dX12_isAhead_72 : decode cX12_isAhead 72 = .ok (.if_icmp .ne 13, 3) := by decide +kernel
theorem dX12_isAhead_75 : decode cX12_isAhead 75 = .ok (.iload 5, 2) := by decide +kernel
theorem dX12_isAhead_77 : decode cX12_isAhead 77 = .ok (.iload 6, 2) := by decide +kernel
theorem dX12_isAhead_79 : decode cX12_isAhead 79 = .ok (.if_icmp .le 28, 3) := by decide +kernel
theorem dX12_isAhead_82 : decode cX12_isAhead 82 = .ok (.goto 21, 3) := by decide +kernel
theorem dX12_isAhead_85 : decode cX12_isAhead 85 = .ok (.aload_n 0, 1) := by decide +kernel
theorem dX12_isAhead_86 : decode cX12_isAhead 86 = .ok (.getfield 35, 3) := by decide +kernel
theorem dX12_isAhead_89 : decode cX12_isAhead 89 = .ok (.iload 4, 2) := by decide +kernel
theorem dX12_isAhead_91 : decode cX12_isAhead 91 = .ok (.iaload, 1) := by decide +kernel
theorem dX12_isAhead_92 : decode cX12_isAhead 92 = .ok (.iconst 2, 1) := by decide +kernel
theorem dX12_isAhead_93 : decode cX12_isAhead 93 = .ok (.if_icmp .eq 14, 3) := by decide +kernel
theorem dX12_isAhead_96 : decode cX12_isAhead 96 = .ok (.iload 5, 2) := by decide +kernel
theorem dX12_isAhead_98 : decode cX12_isAhead 98 = .ok (.iload 6, 2) := by decide +kernel
theorem dX12_isAhead_100 : decode cX12_isAhead 100 = .ok (.if_icmp .ge 7, 3) := by decide +kernel
theorem dX12_isAhead_103 : decode cX12_isAhead 103 = .ok (.iconst 1, 1) := by decide +kernel
theorem dX12_isAhead_104 : decode cX12_isAhead 104 = .ok (.goto 4, 3) := by decide +kernel
theorem dX12_isAhead_107 : decode cX12_isAhead 107 = .ok (.iconst 0, 1) := by decide +kernel
theorem dX12_isAhead_108 : decode cX12_isAhead 108 = .ok (.istore_n 3, 1) := by decide +kernel
theorem dX12_isAhead_109 : decode cX12_isAhead 109 = .ok (.iinc 4 1, 3) := by decide +kernel
theorem dX12_isAhead_112 : decode cX12_isAhead 112 = .ok (.goto (-107), 3) := by decide +kernel
theorem dX12_isAhead_115 : decode cX12_isAhead 115 = .ok (.iload_n 3, 1) := by decide +kernel
theorem dX12_isAhead_116 : decode cX12_isAhead 116 = .ok (.ireturn, 1) := by decide +kernel
theorem dX12_layAll_0 : decode cX12_layAll 0 = .ok (.iconst 0, 1) := by decide +kernel
theorem dX12_layAll_1 : decode cX12_layAll 1 = .ok (.istore_n 1, 1) := by decide +kernel
theorem dX12_layAll_2 : decode cX12_layAll 2 = .ok (.iload_n 1, 1) := by decide +kernel
theorem dX12_layAll_3 : decode cX12_layAll 3 = .ok (.aload_n 0, 1) := by decide +kernel
theorem dX12_layAll_4 : decode cX12_layAll 4 = .ok (.getfield 166, 3) := by decide +kernel
theorem dX12_layAll_7 : decode cX12_layAll 7 = .ok (.if_icmp .ge 47, 3) := by decide +kernel
theorem dX12_layAll_10 : decode cX12_layAll 10 = .ok (.aload_n 0, 1) := by decide +kernel
theorem dX12_layAll_11 : decode cX12_layAll 11 = .ok (.iload_n 1, 1) := by decide +kernel
theorem dX12_layAll_12 : decode cX12_layAll 12 = .ok (.invokevirtual 214, 3) := by decide +kernel
theorem dX12_layAll_15 : decode cX12_layAll 15 = .ok (.iconst 0, 1) := by decide +kernel
theorem dX12_layAll_16 : decode cX12_layAll 16 = .ok (.istore_n 2, 1) := by decide +kernel
theorem dX12_layAll_17 : decode cX12_layAll 17 = .ok (.iload_n 2, 1) := by decide +kernel
theorem dX12_layAll_18 : decode cX12_layAll 18 = .ok (.aload_n 0, 1) := by decide +kernel
theorem dX12_layAll_19 : decode cX12_layAll 19 = .ok (.getfield 166, 3) := by decide +kernel
theorem dX12_layAll_22 : decode cX12_layAll 22 = .ok (.if_icmp .ge 26, 3) := by decide +kernel
theorem dX12_layAll_25 : decode cX12_layAll 25 = .ok (.aload_n 0, 1) := by decide +kernel
theorem dX12_layAll_26 : decode cX12_layAll 26 = .ok (.getfield 58, 3) := by decide +kernel
theorem dX12_layAll_29 : decode cX12_layAll 29 = .ok (.bipush 7, 2) := by decide +kernel
theorem dX12_layAll_31 : decode cX12_layAll 31 = .ok (.iload_n 1, 1) := by decide +kernel
theorem dX12_layAll_32 : decode cX12_layAll 32 = .ok (.imul, 1) := by decide +kernel
theorem dX12_layAll_33 : decode cX12_layAll 33 = .ok (.iload_n 2, 1) := by decide +kernel
theorem dX12_layAll_34 : decode cX12_layAll 34 = .ok (.iadd, 1) := by decide +kernel
theorem dX12_layAll_35 : decode cX12_layAll 35 = .ok (.aload_n 0, 1) := by decide +kernel
theorem dX12_layAll_36 : decode cX12_layAll 36 = .ok (.iload_n 1, 1) := by decide +kernel
theorem dX12_layAll_37 : decode cX12_layAll 37 = .ok (.iload_n 2, 1) := by decide +kernel
theorem dX12_layAll_38 : decode cX12_layAll 38 = .ok (.invokevirtual 217, 3) := by decide +kernel
theorem dX12_layAll_41 : decode cX12_layAll 41 = .ok (.bastore, 1) := by decide +kernel
theorem dX12_layAll_42 : decode cX12_layAll 42 = .ok (.iinc 2 1, 3) := by decide +kernel
theorem dX12_layAll_45 : decode cX12_layAll 45 = .ok (.goto (-28), 3) := by decide +kernel
theorem dX12_layAll_48 : decode cX12_layAll 48 = .ok (.iinc 1 1, 3) := by decide +kernel
theorem dX12_layAll_51 : decode cX12_layAll 51 = .ok (.goto (-49), 3) := by decide +kernel
theorem dX12_layAll_54 : decode cX12_layAll 54 = .ok (.return_, 1) := by decide +kernel
theorem dX12_isLast_0 : decode cX12_isLast 0 = .ok (.aload_n 0, 1) := by decide +kernel
theorem dX12_isLast_1 : decode cX12_isLast 1 = .ok (.getfield 61, 3) := by decide +kernel
theorem dX12_isLast_4 : decode cX12_isLast 4 = .ok (.iload_n 1, 1) := by decide +kernel
theorem dX12_isLast_5 : decode cX12_isLast 5 = .ok (.iconst 1, 1) := by decide +kernel
theorem dX12_isLast_6 : decode cX12_isLast 6 = .ok (.isub, 1) := by decide +kernel
theorem dX12_isLast_7 : decode cX12_isLast 7 = .ok (.iaload, 1) := by decide +kernel
theorem dX12_isLast_8 : decode cX12_isLast 8 = .ok (.istore_n 2, 1) := by decide +kernel
theorem dX12_isLast_9 : decode cX12_isLast 9 = .ok (.iconst 1, 1) := by decide +kernel
theorem dX12_isLast_10 : decode cX12_isLast 10 = .ok (.istore_n 3, 1) := by decide +kernel
theorem dX12_isLast_11 : decode cX12_isLast 11 = .ok (.iconst 0, 1) := by decide +kernel
theorem dX12_isLast_12 : decode cX12_isLast 12 = .ok (.istore 4, 2) := by decide +kernel
theorem dX12_isLast_14 : decode cX12_isLast 14 = .ok (.iload 4, 2) := by decide +kernel
theorem dX12_isLast_16 : decode cX12_isLast 16 = .ok (.iload_n 1, 1) := by decide +kernel
theorem dX12_isLast_17 : decode cX12_isLast 17 = .ok (.iconst 1, 1) := by decide +kernel
theorem dX12_isLast_18 : decode cX12_isLast 18 = .ok (.isub, 1) := by decide +kernel
theorem dX12_isLast_19 : decode cX12_isLast 19 = .ok (.if_icmp .ge 39, 3) := by decide +kernel
theorem dX12_isLast_22 : decode cX12_isLast 22 = .ok (.iload_n 3, 1) := by decide +kernel
theorem dX12_isLast_23 : decode cX12_isLast 23 = .ok (.ifCond .eq 27, 3) := by decide +kernel
theorem dX12_isLast_26 : decode cX12_isLast 26 = .ok (.aload_n 0, 1) := by decide +kernel
theorem dX12_isLast_27 : decode cX12_isLast 27 = .ok (.getfield 58, 3) := by decide +kernel
theorem dX12_isLast_30 : decode cX12_isLast 30 = .ok (.bipush 7, 2) := by decide +kernel
theorem dX12_isLast_32 : decode cX12_isLast 32 = .ok (.iload_n 2, 1) := by decide +kernel
theorem dX12_isLast_33 : decode cX12_isLast 33 = .ok (.imul, 1) := by decide +kernel
theorem dX12_isLast_34 : decode cX12_isLast 34 = .ok (.aload_n 0, 1) := by decide +kernel
theorem dX12_isLast_35 : decode cX12_isLast 35 = .ok (.getfield 61, 3) := by decide +kernel
theorem dX12_isLast_38 : decode cX12_isLast 38 = .ok (.iload 4, 2) := by decide +kernel
theorem dX12_isLast_40 : decode cX12_isLast 40 = .ok (.iaload, 1) := by decide +kernel
theorem dX12_isLast_41 : decode cX12_isLast 41 = .ok (.iadd, 1) := by decide +kernel
theorem dX12_isLast_42 : decode cX12_isLast 42 = .ok (.baload, 1) := by decide +kernel
theorem dX12_isLast_43 : decode cX12_isLast 43 = .ok (.ifCond .ne 7, 3) := by decide +kernel
theorem dX12_isLast_46 : decode cX12_isLast 46 = .ok (.iconst 1, 1) := by decide +kernel
theorem dX12_isLast_47 : decode cX12_isLast 47 = .ok (.goto 4, 3) := by decide +kernel
theorem dX12_isLast_50 : decode cX12_isLast 50 = .ok (.iconst 0, 1) := by decide +kernel
theorem dX12_isLast_51 : decode cX12_isLast 51 = .ok (.istore_n 3, 1) := by decide +kernel
theorem dX12_isLast_52 : decode cX12_isLast 52 = .ok (.iinc 4 1, 3) := by decide +kernel
theorem dX12_isLast_55 : decode cX12_isLast 55 = .ok (.goto (-41), 3) := by decide +kernel
theorem dX12_isLast_58 : decode cX12_isLast 58 = .ok (.iconst 0, 1) := by decide +kernel
theorem dX12_isLast_59 : decode cX12_isLast 59 = .ok (.istore 4, 2) := by decide +kernel
theorem dX12_isLast_61 : decode cX12_isLast 61 = .ok (.iload 4, 2) := by decide +kernel
theorem dX12_isLast_63 : decode cX12_isLast 63 = .ok (.aload_n 0, 1) := by decide +kernel
theorem dX12_isLast_64 : decode cX12_isLast 64 = .ok (.getfield 169, 3) := by decide +kernel
theorem dX12_isLast_67 : decode cX12_isLast 67 = .ok (.if_icmp .ge 53, 3) := by decide +kernel
theorem dX12_isLast_70 : decode cX12_isLast 70 = .ok (.iload_n 3, 1) := by decide +kernel
theorem dX12_isLast_71 : decode cX12_isLast 71 = .ok (.ifCond .eq 49, 3) := by decide +kernel
theorem dX12_isLast_74 : decode cX12_isLast 74 = .ok (.aload_n 0, 1) := by decide +kernel
theorem dX12_isLast_75 : decode cX12_isLast 75 = .ok (.getfield 35, 3) := by decide +kernel
theorem dX12_isLast_78 : decode cX12_isLast 78 = .ok (.iload 4, 2) := by decide +kernel
theorem dX12_isLast_80 : decode cX12_isLast 80 = .ok (.iaload, 1) := by decide +kernel
theorem dX12_isLast_81 : decode cX12_isLast 81 = .ok (.iconst 2, 1) := by decide +kernel
theorem dX12_isLast_82 : decode cX12_isLast 82 = .ok (.if_icmp .ne 26, 3) := by decide +kernel
theorem dX12_isLast_85 : decode cX12_isLast 85 = .ok (.aload_n 0, 1) := by decide +kernel
theorem dX12_isLast_86 : decode cX12_isLast 86 = .ok (.iload_n 2, 1) := by decide +kernel
theorem dX12_isLast_87 : decode cX12_isLast 87 = .ok (.iconst 2, 1) := by decide +kernel
theorem dX12_isLast_88 : decode cX12_isLast 88 = .ok (.iload 4, 2) := by decide +kernel
theorem dX12_isLast_90 : decode cX12_isLast 90 = .ok (.iadd, 1) := by decide +kernel
theorem dX12_isLast_91 : decode cX12_isLast 91 = .ok (.invokevirtual 211, 3) := by decide +kernel
theorem dX12_isLast_94 : decode cX12_isLast 94 = .ok (.iconst 1, 1) := by decide +kernel
theorem dX12_isLast_95 : decode cX12_isLast 95 = .ok (.if_icmp .ne 13, 3) := by decide +kernel
theorem dX12_isLast_98 : decode cX12_isLast 98 = .ok (.aload_n 0, 1) := by decide +kernel
theorem dX12_isLast_99 : decode cX12_isLast 99 = .ok (.iload_n 1, 1) := by decide +kernel
theorem dX12_isLast_100 : decode cX12_isLast 100 = .ok (.iload 4, 2) := by decide +kernel
theorem dX12_isLast_102 : decode cX12_isLast 102 = .ok (.invokevirtual 220, 3) := by decide +kernel
theorem dX12_isLast_105 : decode cX12_isLast 105 = .ok (.ifCond .eq 7, 3) := by decide +kernel
theorem dX12_isLast_108 : decode cX12_isLast 108 = .ok (.iconst 1, 1) := by decide +kernel
theorem dX12_isLast_109 : decode cX12_isLast 109 = .ok (.goto 4, 3) := by decide +kernel
theorem dX12_isLast_112 : decode cX12_isLast 112 = .ok (.iconst 0, 1) := by decide +kernel
theorem dX12_isLast_113 : decode cX12_isLast 113 = .ok (.istore_n 3, 1) := by decide +kernel
theorem dX12_isLast_114 : decode cX12_isLast 114 = .ok (.iinc 4 1, 3) := by decide +kernel
theorem dX12_isLast_117 : decode cX12_isLast 117 = .ok (.goto (-56), 3) := by decide +kernel
theorem dX12_isLast_120 : decode cX12_isLast 120 = .ok (.iload_n 3, 1) := by decide +kernel
theorem dX12_isLast_121 : decode cX12_isLast 121 = .ok (.ireturn, 1) := by decide +kernel
theorem dX12_isWhole_0 : decode cX12_isWhole 0 = .ok (.iconst 0, 1) := by decide +kernel
theorem dX12_isWhole_1 : decode cX12_isWhole 1 = .ok (.istore_n 3, 1) := by decide +kernel
theorem dX12_isWhole_2 : decode cX12_isWhole 2 = .ok (.iconst 0, 1) := by decide +kernel
theorem dX12_isWhole_3 : decode cX12_isWhole 3 = .ok (.istore 4, 2) := by decide +kernel
theorem dX12_isWhole_5 : decode cX12_isWhole 5 = .ok (.iconst 0, 1) := by decide +kernel
theorem dX12_isWhole_6 : decode cX12_isWhole 6 = .ok (.istore 5, 2) := by decide +kernel
theorem dX12_isWhole_8 : decode cX12_isWhole 8 = .ok (.iload 5, 2) := by decide +kernel
theorem dX12_isWhole_10 : decode cX12_isWhole 10 = .ok (.iload_n 1, 1) := by decide +kernel
theorem dX12_isWhole_11 : decode cX12_isWhole 11 = .ok (.iconst 1, 1) := by decide +kernel
theorem dX12_isWhole_12 : decode cX12_isWhole 12 = .ok (.isub, 1) := by decide +kernel
theorem dX12_isWhole_13 : decode cX12_isWhole 13 = .ok (.if_icmp .ge 62, 3) := by decide +kernel
theorem dX12_isWhole_16 : decode cX12_isWhole 16 = .ok (.aload_n 0, 1) := by decide +kernel
theorem dX12_isWhole_17 : decode cX12_isWhole 17 = .ok (.aload_n 0, 1) := by decide +kernel
theorem dX12_isWhole_18 : decode cX12_isWhole 18 = .ok (.getfield 61, 3) := by decide +kernel
theorem dX12_isWhole_21 : decode cX12_isWhole 21 = .ok (.iload 5, 2) := by decide +kernel
theorem dX12_isWhole_23 : decode cX12_isWhole 23 = .ok (.iaload, 1) := by decide +kernel
theorem dX12_isWhole_24 : decode cX12_isWhole 24 = .ok (.iconst 2, 1) := by decide +kernel
theorem dX12_isWhole_25 : decode cX12_isWhole 25 = .ok (.iload_n 2, 1) := by decide +kernel
theorem dX12_isWhole_26 : decode cX12_isWhole 26 = .ok (.iadd, 1) := by decide +kernel
theorem dX12_isWhole_27 : decode cX12_isWhole 27 = .ok (.invokevirtual 211, 3) := by decide +kernel
theorem dX12_isWhole_30 : decode cX12_isWhole 30 = .ok (.istore 6, 2) := by decide +kernel
theorem dX12_isWhole_32 : decode cX12_isWhole 32 = .ok (.iload_n 3, 1) := by decide +kernel
theorem dX12_isWhole_33 : decode cX12_isWhole 33 = .ok (.ifCond .ne 9, 3) := by decide +kernel
theorem dX12_isWhole_36 : decode cX12_isWhole 36 = .ok (.iload 6, 2) := by decide +kernel
theorem dX12_isWhole_38 : decode cX12_isWhole 38 = .ok (.iconst 1, 1) := by decide +kernel
theorem dX12_isWhole_39 : decode cX12_isWhole 39 = .ok (.if_icmp .ne 7, 3) := by decide +kernel
theorem dX12_isWhole_42 : decode cX12_isWhole 42 = .ok (.iconst 1, 1) := by decide +kernel
theorem dX12_isWhole_43 : decode cX12_isWhole 43 = .ok (.goto 4, 3) := by decide +kernel
theorem dX12_isWhole_46 : decode cX12_isWhole 46 = .ok (.iconst 0, 1) := by decide +kernel
theorem dX12_isWhole_47 : decode cX12_isWhole 47 = .ok (.istore_n 3, 1) := by decide +kernel
theorem dX12_isWhole_48 : decode cX12_isWhole 48 = .ok (.iload 4, 2) := by decide +kernel
theorem dX12_isWhole_50 : decode cX12_isWhole 50 = .ok (.ifCond .ne 12, 3) := by decide +kernel
theorem dX12_isWhole_53 : decode cX12_isWhole 53 = .ok (.iload_n 3, 1) := by decide +kernel
theorem dX12_isWhole_54 : decode cX12_isWhole 54 = .ok (.ifCond .eq 12, 3) := by decide +kernel
theorem dX12_isWhole_57 : decode cX12_isWhole 57 = .ok (.iload 6, 2) := by decide +kernel
theorem dX12_isWhole_59 : decode cX12_isWhole 59 = .ok (.ifCond .ne 7, 3) := by decide +kernel
theorem dX12_isWhole_62 : decode cX12_isWhole 62 = .ok (.iconst 1, 1) := by decide +kernel
theorem dX12_isWhole_63 : decode cX12_isWhole 63 = .ok (.goto 4, 3) := by decide +kernel
theorem dX12_isWhole_66 : decode cX12_isWhole 66 = .ok (.iconst 0, 1) := by decide +kernel
theorem dX12_isWhole_67 : decode cX12_isWhole 67 = .ok (.istore 4, 2) := by decide +kernel
theorem dX12_isWhole_69 : decode cX12_isWhole 69 = .ok (.iinc 5 1, 3) := by decide +kernel
theorem dX12_isWhole_72 : decode cX12_isWhole 72 = .ok (.goto (-64), 3) := by decide +kernel
theorem dX12_isWhole_75 : decode cX12_isWhole 75 = .ok (.iload 4, 2) := by decide +kernel
theorem dX12_isWhole_77 : decode cX12_isWhole 77 = .ok (.ifCond .ne 7, 3) := by decide +kernel
theorem dX12_isWhole_80 : decode cX12_isWhole 80 = .ok (.iconst 1, 1) := by decide +kernel
theorem dX12_isWhole_81 : decode cX12_isWhole 81 = .ok (.goto 4, 3) := by decide +kernel
theorem dX12_isWhole_84 : decode cX12_isWhole 84 = .ok (.iconst 0, 1) := by decide +kernel
theorem dX12_isWhole_85 : decode cX12_isWhole 85 = .ok (.ireturn, 1) := by decide +kernel
theorem dX12_firstOf_0 : decode cX12_firstOf 0 = .ok (.iload_n 2, 1) := by decide +kernel
theorem dX12_firstOf_1 : decode cX12_firstOf 1 = .ok (.iconst 1, 1) := by decide +kernel
theorem dX12_firstOf_2 : decode cX12_firstOf 2 = .ok (.iadd, 1) := by decide +kernel
theorem dX12_firstOf_3 : decode cX12_firstOf 3 = .ok (.istore_n 3, 1) := by decide +kernel
theorem dX12_firstOf_4 : decode cX12_firstOf 4 = .ok (.iload_n 3, 1) := by decide +kernel
theorem dX12_firstOf_5 : decode cX12_firstOf 5 = .ok (.bipush 48, 2) := by decide +kernel
theorem dX12_firstOf_7 : decode cX12_firstOf 7 = .ok (.if_icmp .ge 17, 3) := by decide +kernel
theorem dX12_firstOf_10 : decode cX12_firstOf 10 = .ok (.lload_n 0, 1) := by decide +kernel
theorem dX12_firstOf_11 : decode cX12_firstOf 11 = .ok (.iload_n 3, 1) := by decide +kernel
theorem dX12_firstOf_12 : decode cX12_firstOf 12 = .ok (.invokestatic 223, 3) := by decide +kernel
theorem dX12_firstOf_15 : decode cX12_firstOf 15 = .ok (.ifCond .ne 9, 3) := by decide +kernel
theorem dX12_firstOf_18 : decode cX12_firstOf 18 = .ok (.iinc 3 1, 3) := by decide +kernel
theorem dX12_firstOf_21 : decode cX12_firstOf 21 = .ok (.goto (-17), 3) := by decide +kernel
theorem dX12_firstOf_24 : decode cX12_firstOf 24 = .ok (.iload_n 3, 1) := by decide +kernel
theorem dX12_firstOf_25 : decode cX12_firstOf 25 = .ok (.ireturn, 1) := by decide +kernel
theorem dX12_lastOf_0 : decode cX12_lastOf 0 = .ok (.iload_n 2, 1) := by decide +kernel
theorem dX12_lastOf_1 : decode cX12_lastOf 1 = .ok (.iconst 1, 1) := by decide +kernel
theorem dX12_lastOf_2 : decode cX12_lastOf 2 = .ok (.isub, 1) := by decide +kernel
theorem dX12_lastOf_3 : decode cX12_lastOf 3 = .ok (.istore_n 3, 1) := by decide +kernel
theorem dX12_lastOf_4 : decode cX12_lastOf 4 = .ok (.iload_n 3, 1) := by decide +kernel
theorem dX12_lastOf_5 : decode cX12_lastOf 5 = .ok (.ifCond .lt 17, 3) := by decide +kernel
theorem dX12_lastOf_8 : decode cX12_lastOf 8 = .ok (.lload_n 0, 1) := by decide +kernel
theorem dX12_lastOf_9 : decode cX12_lastOf 9 = .ok (.iload_n 3, 1) := by decide +kernel
theorem dX12_lastOf_10 : decode cX12_lastOf 10 = .ok (.invokestatic 223, 3) := by decide +kernel
theorem dX12_lastOf_13 : decode cX12_lastOf 13 = .ok (.ifCond .ne 9, 3) := by decide +kernel
theorem dX12_lastOf_16 : decode cX12_lastOf 16 = .ok (.iinc 3 (-1), 3) := by decide +kernel
theorem dX12_lastOf_19 : decode cX12_lastOf 19 = .ok (.goto (-15), 3) := by decide +kernel
theorem dX12_lastOf_22 : decode cX12_lastOf 22 = .ok (.iload_n 3, 1) := by decide +kernel
theorem dX12_lastOf_23 : decode cX12_lastOf 23 = .ok (.ireturn, 1) := by decide +kernel
theorem dX12_isGiven_0 : decode cX12_isGiven 0 = .ok (.aload_n 0, 1) := by decide +kernel
theorem dX12_isGiven_1 : decode cX12_isGiven 1 = .ok (.getfield 64, 3) := by decide +kernel
theorem dX12_isGiven_4 : decode cX12_isGiven 4 = .ok (.iload_n 1, 1) := by decide +kernel
theorem dX12_isGiven_5 : decode cX12_isGiven 5 = .ok (.iconst 1, 1) := by decide +kernel
theorem dX12_isGiven_6 : decode cX12_isGiven 6 = .ok (.isub, 1) := by decide +kernel
theorem dX12_isGiven_7 : decode cX12_isGiven 7 = .ok (.aload_n 0, 1) := by decide +kernel
theorem dX12_isGiven_8 : decode cX12_isGiven 8 = .ok (.getfield 54, 3) := by decide +kernel
theorem dX12_isGiven_11 : decode cX12_isGiven 11 = .ok (.aload_n 0, 1) := by decide +kernel
theorem dX12_isGiven_12 : decode cX12_isGiven 12 = .ok (.getfield 61, 3) := by decide +kernel
theorem dX12_isGiven_15 : decode cX12_isGiven 15 = .ok (.iload_n 1, 1) := by decide +kernel
theorem dX12_isGiven_16 : decode cX12_isGiven 16 = .ok (.iconst 1, 1) := by decide +kernel
theorem dX12_isGiven_17 : decode cX12_isGiven 17 = .ok (.isub, 1) := by decide +kernel
theorem dX12_isGiven_18 : decode cX12_isGiven 18 = .ok (.iaload, 1) := by decide +kernel
theorem dX12_isGiven_19 : decode cX12_isGiven 19 = .ok (.laload, 1) := by decide +kernel
theorem dX12_isGiven_20 : decode cX12_isGiven 20 = .ok (.iload_n 1, 1) := by decide +kernel
theorem dX12_isGiven_21 : decode cX12_isGiven 21 = .ok (.iconst 1, 1) := by decide +kernel
theorem dX12_isGiven_22 : decode cX12_isGiven 22 = .ok (.if_icmp .ne 7, 3) := by decide +kernel
theorem dX12_isGiven_25 : decode cX12_isGiven 25 = .ok (.iconst (-1), 1) := by decide +kernel
theorem dX12_isGiven_26 : decode cX12_isGiven 26 = .ok (.goto 11, 3) := by decide +kernel
theorem dX12_isGiven_29 : decode cX12_isGiven 29 = .ok (.aload_n 0, 1) := by decide +kernel
theorem dX12_isGiven_30 : decode cX12_isGiven 30 = .ok (.getfield 64, 3) := by decide +kernel
theorem dX12_isGiven_33 : decode cX12_isGiven 33 = .ok (.iload_n 1, 1) := by decide +kernel
theorem dX12_isGiven_34 : decode cX12_isGiven 34 = .ok (.iconst 2, 1) := by decide +kernel
theorem dX12_isGiven_35 : decode cX12_isGiven 35 = .ok (.isub, 1) := by decide +kernel
theorem dX12_isGiven_36 : decode cX12_isGiven 36 = .ok (.iaload, 1) := by decide +kernel
theorem dX12_isGiven_37 : decode cX12_isGiven 37 = .ok (.invokestatic 227, 3) := by decide +kernel
theorem dX12_isGiven_40 : decode cX12_isGiven 40 = .ok (.iastore, 1) := by decide +kernel
theorem dX12_isGiven_41 : decode cX12_isGiven 41 = .ok (.aload_n 0, 1) := by decide +kernel
theorem dX12_isGiven_42 : decode cX12_isGiven 42 = .ok (.getfield 64, 3) := by decide +kernel
theorem dX12_isGiven_45 : decode cX12_isGiven 45 = .ok (.iload_n 1, 1) := by decide +kernel
theorem dX12_isGiven_46 : decode cX12_isGiven 46 = .ok (.iconst 1, 1) := by decide +kernel
theorem dX12_isGiven_47 : decode cX12_isGiven 47 = .ok (.isub, 1) := by decide +kernel
theorem dX12_isGiven_48 : decode cX12_isGiven 48 = .ok (.iaload, 1) := by decide +kernel
theorem dX12_isGiven_49 : decode cX12_isGiven 49 = .ok (.bipush 48, 2) := by decide +kernel
theorem dX12_isGiven_51 : decode cX12_isGiven 51 = .ok (.if_icmp .ge 7, 3) := by decide +kernel
theorem dX12_isGiven_54 : decode cX12_isGiven 54 = .ok (.iconst 1, 1) := by decide +kernel
theorem dX12_isGiven_55 : decode cX12_isGiven 55 = .ok (.goto 4, 3) := by decide +kernel
theorem dX12_isGiven_58 : decode cX12_isGiven 58 = .ok (.iconst 0, 1) := by decide +kernel
theorem dX12_isGiven_59 : decode cX12_isGiven 59 = .ok (.ireturn, 1) := by decide +kernel
theorem dX12_note_0 : decode cX12_note 0 = .ok (.iload_n 1, 1) := by decide +kernel
theorem dX12_note_1 : decode cX12_note 1 = .ok (.iconst 1, 1) := by decide +kernel
theorem dX12_note_2 : decode cX12_note 2 = .ok (.isub, 1) := by decide +kernel
theorem dX12_note_3 : decode cX12_note 3 = .ok (.istore_n 2, 1) := by decide +kernel
theorem dX12_note_4 : decode cX12_note 4 = .ok (.iload_n 2, 1) := by decide +kernel
theorem dX12_note_5 : decode cX12_note 5 = .ok (.ifCond .lt 49, 3) := by decide +kernel
theorem dX12_note_8 : decode cX12_note 8 = .ok (.aload_n 0, 1) := by decide +kernel
theorem dX12_note_9 : decode cX12_note 9 = .ok (.getfield 67, 3) := by decide +kernel
theorem dX12_note_12 : decode cX12_note 12 = .ok (.iload_n 2, 1) := by decide +kernel
theorem dX12_note_13 : decode cX12_note 13 = .ok (.aload_n 0, 1) := by decide +kernel
theorem dX12_note_14 : decode cX12_note 14 = .ok (.getfield 54, 3) := by decide +kernel
theorem dX12_note_17 : decode cX12_note 17 = .ok (.aload_n 0, 1) := by decide +kernel
theorem dX12_note_18 : decode cX12_note 18 = .ok (.getfield 61, 3) := by decide +kernel
theorem dX12_note_21 : decode cX12_note 21 = .ok (.iload_n 2, 1) := by decide +kernel
theorem dX12_note_22 : decode cX12_note 22 = .ok (.iaload, 1) := by decide +kernel
theorem dX12_note_23 : decode cX12_note 23 = .ok (.laload, 1) := by decide +kernel
theorem dX12_note_24 : decode cX12_note 24 = .ok (.iload_n 2, 1) := by decide +kernel
theorem dX12_note_25 : decode cX12_note 25 = .ok (.iload_n 1, 1) := by decide +kernel
theorem dX12_note_26 : decode cX12_note 26 = .ok (.iconst 1, 1) := by decide +kernel
theorem dX12_note_27 : decode cX12_note 27 = .ok (.isub, 1) := by decide +kernel
theorem dX12_note_28 : decode cX12_note 28 = .ok (.if_icmp .ne 8, 3) := by decide +kernel
theorem dX12_note_31 : decode cX12_note 31 = .ok (.bipush 48, 2) := by decide +kernel
theorem dX12_note_33 : decode cX12_note 33 = .ok (.goto 11, 3) := by decide +kernel
theorem dX12_note_36 : decode cX12_note 36 = .ok (.aload_n 0, 1) := by decide +kernel
theorem dX12_note_37 : decode cX12_note 37 = .ok (.getfield 67, 3) := by decide +kernel
theorem dX12_note_40 : decode cX12_note 40 = .ok (.iload_n 2, 1) := by decide +kernel
theorem dX12_note_41 : decode cX12_note 41 = .ok (.iconst 1, 1) := by decide +kernel
theorem dX12_note_42 : decode cX12_note 42 = .ok (.iadd, 1) := by decide +kernel
theorem dX12_note_43 : decode cX12_note 43 = .ok (.iaload, 1) := by decide +kernel
theorem dX12_note_44 : decode cX12_note 44 = .ok (.invokestatic 231, 3) := by decide +kernel
theorem dX12_note_47 : decode cX12_note 47 = .ok (.iastore, 1) := by decide +kernel
theorem dX12_note_48 : decode cX12_note 48 = .ok (.iinc 2 (-1), 3) := by decide +kernel
theorem dX12_note_51 : decode cX12_note 51 = .ok (.goto (-47), 3) := by decide +kernel
theorem dX12_note_54 : decode cX12_note 54 = .ok (.iconst 0, 1) := by decide +kernel
theorem dX12_note_55 : decode cX12_note 55 = .ok (.istore_n 2, 1) := by decide +kernel
theorem dX12_note_56 : decode cX12_note 56 = .ok (.iload_n 2, 1) := by decide +kernel
theorem dX12_note_57 : decode cX12_note 57 = .ok (.iload_n 1, 1) := by decide +kernel
theorem dX12_note_58 : decode cX12_note 58 = .ok (.if_icmp .ge 167, 3) := by decide +kernel
theorem dX12_note_61 : decode cX12_note 61 = .ok (.aload_n 0, 1) := by decide +kernel
theorem dX12_note_62 : decode cX12_note 62 = .ok (.getfield 61, 3) := by decide +kernel
theorem dX12_note_65 : decode cX12_note 65 = .ok (.iload_n 2, 1) := by decide +kernel
theorem dX12_note_66 : decode cX12_note 66 = .ok (.iaload, 1) := by decide +kernel
theorem dX12_note_67 : decode cX12_note 67 = .ok (.istore_n 3, 1) := by decide +kernel
theorem dX12_note_68 : decode cX12_note 68 = .ok (.iload_n 2, 1) := by decide +kernel
theorem dX12_note_69 : decode cX12_note 69 = .ok (.ifCond .ne 7, 3) := by decide +kernel
theorem dX12_note_72 : decode cX12_note 72 = .ok (.iconst 0, 1) := by decide +kernel
theorem dX12_note_73 : decode cX12_note 73 = .ok (.goto 13, 3) := by decide +kernel
theorem dX12_note_76 : decode cX12_note 76 = .ok (.aload_n 0, 1) := by decide +kernel
theorem dX12_note_77 : decode cX12_note 77 = .ok (.getfield 64, 3) := by decide +kernel
theorem dX12_note_80 : decode cX12_note 80 = .ok (.iload_n 2, 1) := by decide +kernel
theorem dX12_note_81 : decode cX12_note 81 = .ok (.iconst 1, 1) := by decide +kernel
theorem dX12_note_82 : decode cX12_note 82 = .ok (.isub, 1) := by decide +kernel
theorem dX12_note_83 : decode cX12_note 83 = .ok (.iaload, 1) := by decide +kernel
theorem dX12_note_84 : decode cX12_note 84 = .ok (.iconst 1, 1) := by decide +kernel
theorem dX12_note_85 : decode cX12_note 85 = .ok (.iadd, 1) := by decide +kernel
theorem dX12_note_86 : decode cX12_note 86 = .ok (.istore 4, 2) := by decide +kernel
theorem dX12_note_88 : decode cX12_note 88 = .ok (.iload_n 2, 1) := by decide +kernel
theorem dX12_note_89 : decode cX12_note 89 = .ok (.iload_n 1, 1) := by decide +kernel
theorem dX12_note_90 : decode cX12_note 90 = .ok (.iconst 1, 1) := by decide +kernel
theorem dX12_note_91 : decode cX12_note 91 = .ok (.isub, 1) := by decide +kernel
theorem dX12_note_92 : decode cX12_note 92 = .ok (.if_icmp .ne 8, 3) := by decide +kernel
theorem dX12_note_95 : decode cX12_note 95 = .ok (.bipush 47, 2) := by decide +kernel
theorem dX12_note_97 : decode cX12_note 97 = .ok (.goto 13, 3) := by decide +kernel
theorem dX12_note_100 : decode cX12_note 100 = .ok (.aload_n 0, 1) := by decide +kernel
theorem dX12_note_101 : decode cX12_note 101 = .ok (.getfield 67, 3) := by decide +kernel
theorem dX12_note_104 : decode cX12_note 104 = .ok (.iload_n 2, 1) := by decide +kernel
theorem dX12_note_105 : decode cX12_note 105 = .ok (.iconst 1, 1) := by decide +kernel
theorem dX12_note_106 : decode cX12_note 106 = .ok (.iadd, 1) := by decide +kernel
theorem dX12_note_107 : decode cX12_note 107 = .ok (.iaload, 1) := by decide +kernel
theorem dX12_note_108 : decode cX12_note 108 = .ok (.iconst 1, 1) := by decide +kernel
theorem dX12_note_109 : decode cX12_note 109 = .ok (.isub, 1) := by decide +kernel
theorem dX12_note_110 : decode cX12_note 110 = .ok (.istore 5, 2) := by decide +kernel
theorem dX12_note_112 : decode cX12_note 112 = .ok (.iload 4, 2) := by decide +kernel
theorem dX12_note_114 : decode cX12_note 114 = .ok (.istore 6, 2) := by decide +kernel
theorem dX12_note_116 : decode cX12_note 116 = .ok (.iload 6, 2) := by decide +kernel
theorem dX12_note_118 : decode cX12_note 118 = .ok (.iload 5, 2) := by decide +kernel
theorem dX12_note_120 : decode cX12_note 120 = .ok (.if_icmp .gt 33, 3) := by decide +kernel
theorem dX12_note_123 : decode cX12_note 123 = .ok (.aload_n 0, 1) := by decide +kernel
theorem dX12_note_124 : decode cX12_note 124 = .ok (.getfield 70, 3) := by decide +kernel
theorem dX12_note_127 : decode cX12_note 127 = .ok (.iload_n 3, 1) := by decide +kernel
theorem dX12_note_128 : decode cX12_note 128 = .ok (.aload_n 0, 1) := by decide +kernel
theorem dX12_note_129 : decode cX12_note 129 = .ok (.getfield 70, 3) := by decide +kernel
theorem dX12_note_132 : decode cX12_note 132 = .ok (.iload_n 3, 1) := by decide +kernel
theorem dX12_note_133 : decode cX12_note 133 = .ok (.laload, 1) := by decide +kernel
theorem dX12_note_134 : decode cX12_note 134 = .ok (.aload_n 0, 1) := by decide +kernel
theorem dX12_note_135 : decode cX12_note 135 = .ok (.getfield 54, 3) := by decide +kernel
theorem dX12_note_138 : decode cX12_note 138 = .ok (.iload_n 3, 1) := by decide +kernel
theorem dX12_note_139 : decode cX12_note 139 = .ok (.laload, 1) := by decide +kernel
theorem dX12_note_140 : decode cX12_note 140 = .ok (.lconst 1, 1) := by decide +kernel
theorem dX12_note_141 : decode cX12_note 141 = .ok (.iload 6, 2) := by decide +kernel
theorem dX12_note_143 : decode cX12_note 143 = .ok (.lshl, 1) := by decide +kernel
theorem dX12_note_144 : decode cX12_note 144 = .ok (.land, 1) := by decide +kernel
theorem dX12_note_145 : decode cX12_note 145 = .ok (.lor, 1) := by decide +kernel
theorem dX12_note_146 : decode cX12_note 146 = .ok (.lastore, 1) := by decide +kernel
theorem dX12_note_147 : decode cX12_note 147 = .ok (.iinc 6 1, 3) := by decide +kernel
theorem dX12_note_150 : decode cX12_note 150 = .ok (.goto (-34), 3) := by decide +kernel
theorem dX12_note_153 : decode cX12_note 153 = .ok (.aload_n 0, 1) := by decide +kernel
theorem dX12_note_154 : decode cX12_note 154 = .ok (.getfield 73, 3) := by decide +kernel
theorem dX12_note_157 : decode cX12_note 157 = .ok (.iload_n 3, 1) := by decide +kernel
theorem dX12_note_158 : decode cX12_note 158 = .ok (.aload_n 0, 1) := by decide +kernel
theorem dX12_note_159 : decode cX12_note 159 = .ok (.getfield 234, 3) := by decide +kernel
theorem dX12_note_162 : decode cX12_note 162 = .ok (.ifCond .eq 13, 3) := by decide +kernel
theorem dX12_note_165 : decode cX12_note 165 = .ok (.iload_n 2, 1) := by decide +kernel
theorem dX12_note_166 : decode cX12_note 166 = .ok (.aload_n 0, 1) := by decide +kernel
theorem dX12_note_167 : decode cX12_note 167 = .ok (.getfield 73, 3) := by decide +kernel
theorem dX12_note_170 : decode cX12_note 170 = .ok (.iload_n 3, 1) := by decide +kernel
theorem dX12_note_171 : decode cX12_note 171 = .ok (.iaload, 1) := by decide +kernel
theorem dX12_note_172 : decode cX12_note 172 = .ok (.if_icmp .ge 7, 3) := by decide +kernel
theorem dX12_note_175 : decode cX12_note 175 = .ok (.iload_n 2, 1) := by decide +kernel
theorem dX12_note_176 : decode cX12_note 176 = .ok (.goto 9, 3) := by decide +kernel
theorem dX12_note_179 : decode cX12_note 179 = .ok (.aload_n 0, 1) := by decide +kernel
theorem dX12_note_180 : decode cX12_note 180 = .ok (.getfield 73, 3) := by decide +kernel
theorem dX12_note_183 : decode cX12_note 183 = .ok (.iload_n 3, 1) := by decide +kernel
theorem dX12_note_184 : decode cX12_note 184 = .ok (.iaload, 1) := by decide +kernel
theorem dX12_note_185 : decode cX12_note 185 = .ok (.iastore, 1) := by decide +kernel
theorem dX12_note_186 : decode cX12_note 186 = .ok (.aload_n 0, 1) := by decide +kernel
theorem dX12_note_187 : decode cX12_note 187 = .ok (.getfield 76, 3) := by decide +kernel
theorem dX12_note_190 : decode cX12_note 190 = .ok (.iload_n 3, 1) := by decide +kernel
theorem dX12_note_191 : decode cX12_note 191 = .ok (.aload_n 0, 1) := by decide +kernel
theorem dX12_note_192 : decode cX12_note 192 = .ok (.getfield 234, 3) := by decide +kernel
theorem dX12_note_195 : decode cX12_note 195 = .ok (.ifCond .eq 13, 3) := by decide +kernel
theorem dX12_note_198 : decode cX12_note 198 = .ok (.iload_n 2, 1) := by decide +kernel
theorem dX12_note_199 : decode cX12_note 199 = .ok (.aload_n 0, 1) := by decide +kernel
theorem dX12_note_200 : decode cX12_note 200 = .ok (.getfield 76, 3) := by decide +kernel
theorem dX12_note_203 : decode cX12_note 203 = .ok (.iload_n 3, 1) := by decide +kernel
theorem dX12_note_204 : decode cX12_note 204 = .ok (.iaload, 1) := by decide +kernel
theorem dX12_note_205 : decode cX12_note 205 = .ok (.if_icmp .le 7, 3) := by decide +kernel
theorem dX12_note_208 : decode cX12_note 208 = .ok (.iload_n 2, 1) := by decide +kernel
theorem dX12_note_209 : decode cX12_note 209 = .ok (.goto 9, 3) := by decide +kernel
theorem dX12_note_212 : decode cX12_note 212 = .ok (.aload_n 0, 1) := by decide +kernel
theorem dX12_note_213 : decode cX12_note 213 = .ok (.getfield 76, 3) := by decide +kernel
theorem dX12_note_216 : decode cX12_note 216 = .ok (.iload_n 3, 1) := by decide +kernel
theorem dX12_note_217 : decode cX12_note 217 = .ok (.iaload, 1) := by decide +kernel
theorem dX12_note_218 : decode cX12_note 218 = .ok (.iastore, 1) := by decide +kernel
theorem dX12_note_219 : decode cX12_note 219 = .ok (.iinc 2 1, 3) := by decide +kernel
theorem dX12_note_222 : decode cX12_note 222 = .ok (.goto (-166), 3) := by decide +kernel
theorem dX12_note_225 : decode cX12_note 225 = .ok (.return_, 1) := by decide +kernel
theorem dX12_layOrders_0 : decode cX12_layOrders 0 = .ok (.aload_n 0, 1) := by decide +kernel
theorem dX12_layOrders_1 : decode cX12_layOrders 1 = .ok (.invokevirtual 237, 3) := by decide +kernel
theorem dX12_layOrders_4 : decode cX12_layOrders 4 = .ok (.aload_n 0, 1) := by decide +kernel
theorem dX12_layOrders_5 : decode cX12_layOrders 5 = .ok (.iconst 0, 1) := by decide +kernel
theorem dX12_layOrders_6 : decode cX12_layOrders 6 = .ok (.putfield 234, 3) := by decide +kernel
theorem dX12_layOrders_9 : decode cX12_layOrders 9 = .ok (.aload_n 0, 1) := by decide +kernel
theorem dX12_layOrders_10 : decode cX12_layOrders 10 = .ok (.iconst 0, 1) := by decide +kernel
theorem dX12_layOrders_11 : decode cX12_layOrders 11 = .ok (.putfield 240, 3) := by decide +kernel
theorem dX12_layOrders_14 : decode cX12_layOrders 14 = .ok (.iconst 0, 1) := by decide +kernel
theorem dX12_layOrders_15 : decode cX12_layOrders 15 = .ok (.istore 6, 2) := by decide +kernel
theorem dX12_layOrders_17 : decode cX12_layOrders 17 = .ok (.iload 6, 2) := by decide +kernel
theorem dX12_layOrders_19 : decode cX12_layOrders 19 = .ok (.bipush 7, 2) := by decide +kernel
theorem dX12_layOrders_21 : decode cX12_layOrders 21 = .ok (.if_icmp .ge 17, 3) := by decide +kernel
theorem dX12_layOrders_24 : decode cX12_layOrders 24 = .ok (.aload_n 0, 1) := by decide +kernel
theorem dX12_layOrders_25 : decode cX12_layOrders 25 = .ok (.getfield 70, 3) := by decide +kernel
theorem dX12_layOrders_28 : decode cX12_layOrders 28 = .ok (.iload 6, 2) := by decide +kernel
theorem dX12_layOrders_30 : decode cX12_layOrders 30 = .ok (.lconst 0, 1) := by decide +kernel
theorem dX12_layOrders_31 : decode cX12_layOrders 31 = .ok (.lastore, 1) := by decide +kernel
theorem dX12_layOrders_32 : decode cX12_layOrders 32 = .ok (.iinc 6 1, 3) := by decide +kernel
theorem dX12_layOrders_35 : decode cX12_layOrders 35 = .ok (.goto (-18), 3) := by decide +kernel
theorem dX12_layOrders_38 : decode cX12_layOrders 38 = .ok (.iconst 0, 1) := by decide +kernel
theorem dX12_layOrders_39 : decode cX12_layOrders 39 = .ok (.istore 6, 2) := by decide +kernel
theorem dX12_layOrders_41 : decode cX12_layOrders 41 = .ok (.iconst 0, 1) := by decide +kernel
theorem dX12_layOrders_42 : decode cX12_layOrders 42 = .ok (.istore 7, 2) := by decide +kernel
theorem dX12_layOrders_44 : decode cX12_layOrders 44 = .ok (.iconst 0, 1) := by decide +kernel
theorem dX12_layOrders_45 : decode cX12_layOrders 45 = .ok (.istore 8, 2) := by decide +kernel
theorem dX12_layOrders_47 : decode cX12_layOrders 47 = .ok (.iload 8, 2) := by decide +kernel
theorem dX12_layOrders_49 : decode cX12_layOrders 49 = .ok (.aload_n 0, 1) := by decide +kernel
theorem dX12_layOrders_50 : decode cX12_layOrders 50 = .ok (.getfield 166, 3) := by decide +kernel
theorem dX12_layOrders_53 : decode cX12_layOrders 53 = .ok (.if_icmp .ge 20, 3) := by decide +kernel
theorem dX12_layOrders_56 : decode cX12_layOrders 56 = .ok (.iload 7, 2) := by decide +kernel
theorem dX12_layOrders_58 : decode cX12_layOrders 58 = .ok (.iload_n 1, 1) := by decide +kernel
theorem dX12_layOrders_59 : decode cX12_layOrders 59 = .ok (.iload 8, 2) := by decide +kernel
theorem dX12_layOrders_61 : decode cX12_layOrders 61 = .ok (.ishr, 1) := by decide +kernel
theorem dX12_layOrders_62 : decode cX12_layOrders 62 = .ok (.iconst 1, 1) := by decide +kernel
theorem dX12_layOrders_63 : decode cX12_layOrders 63 = .ok (.iand, 1) := by decide +kernel
theorem dX12_layOrders_64 : decode cX12_layOrders 64 = .ok (.iadd, 1) := by decide +kernel
theorem dX12_layOrders_65 : decode cX12_layOrders 65 = .ok (.istore 7, 2) := by decide +kernel
theorem dX12_layOrders_67 : decode cX12_layOrders 67 = .ok (.iinc 8 1, 3) := by decide +kernel
theorem dX12_layOrders_70 : decode cX12_layOrders 70 = .ok (.goto (-23), 3) := by decide +kernel
theorem dX12_layOrders_73 : decode cX12_layOrders 73 = .ok (.iload 7, 2) := by decide +kernel
theorem dX12_layOrders_75 : decode cX12_layOrders 75 = .ok (.ifCond .ne 13, 3) := by decide +kernel
theorem dX12_layOrders_78 : decode cX12_layOrders 78 = .ok (.aload_n 0, 1) := by decide +kernel
theorem dX12_layOrders_79 : decode cX12_layOrders 79 = .ok (.iconst 1, 1) := by decide +kernel
theorem dX12_layOrders_80 : decode cX12_layOrders 80 = .ok (.putfield 234, 3) := by decide +kernel
theorem dX12_layOrders_83 : decode cX12_layOrders 83 = .ok (.aload_n 0, 1) := by decide +kernel
theorem dX12_layOrders_84 : decode cX12_layOrders 84 = .ok (.getfield 234, 3) := by decide +kernel
theorem dX12_layOrders_87 : decode cX12_layOrders 87 = .ok (.ireturn, 1) := by decide +kernel
theorem dX12_layOrders_88 : decode cX12_layOrders 88 = .ok (.iconst 0, 1) := by decide +kernel
theorem dX12_layOrders_89 : decode cX12_layOrders 89 = .ok (.istore 8, 2) := by decide +kernel
theorem dX12_layOrders_91 : decode cX12_layOrders 91 = .ok (.aload_n 0, 1) := by decide +kernel
theorem dX12_layOrders_92 : decode cX12_layOrders 92 = .ok (.getfield 61, 3) := by decide +kernel
theorem dX12_layOrders_95 : decode cX12_layOrders 95 = .ok (.iconst 0, 1) := by decide +kernel
theorem dX12_layOrders_96 : decode cX12_layOrders 96 = .ok (.iconst (-1), 1) := by decide +kernel
theorem dX12_layOrders_97 : decode cX12_layOrders 97 = .ok (.iastore, 1) := by decide +kernel
theorem dX12_layOrders_98 : decode cX12_layOrders 98 = .ok (.iload 6, 2) := by decide +kernel
theorem dX12_layOrders_100 : decode cX12_layOrders 100 = .ok (.ifCond .lt 205, 3) := by decide +kernel
theorem dX12_layOrders_103 : decode cX12_layOrders 103 = .ok (.aload_n 0, 1) := by decide +kernel
theorem dX12_layOrders_104 : decode cX12_layOrders 104 = .ok (.getfield 234, 3) := by decide +kernel
theorem dX12_layOrders_107 : decode cX12_layOrders 107 = .ok (.iload_n 2, 1) := by decide +kernel
theorem dX12_layOrders_108 : decode cX12_layOrders 108 = .ok (.if_icmp .ge 197, 3) := by decide +kernel
theorem dX12_layOrders_111 : decode cX12_layOrders 111 = .ok (.aload_n 0, 1) := by decide +kernel
theorem dX12_layOrders_112 : decode cX12_layOrders 112 = .ok (.getfield 61, 3) := by decide +kernel
theorem dX12_layOrders_115 : decode cX12_layOrders 115 = .ok (.iload 6, 2) := by decide +kernel
theorem dX12_layOrders_117 : decode cX12_layOrders 117 = .ok (.iaload, 1) := by decide +kernel
theorem dX12_layOrders_118 : decode cX12_layOrders 118 = .ok (.iconst (-1), 1) := by decide +kernel
theorem dX12_layOrders_119 : decode cX12_layOrders 119 = .ok (.if_icmp .ne 8, 3) := by decide +kernel
theorem dX12_layOrders_122 : decode cX12_layOrders 122 = .ok (.iload 8, 2) := by decide +kernel
theorem dX12_layOrders_124 : decode cX12_layOrders 124 = .ok (.goto 17, 3) := by decide +kernel
theorem dX12_layOrders_127 : decode cX12_layOrders 127 = .ok (.iload 8, 2) := by decide +kernel
theorem dX12_layOrders_129 : decode cX12_layOrders 129 = .ok (.iconst 1, 1) := by decide +kernel
theorem dX12_layOrders_130 : decode cX12_layOrders 130 = .ok (.aload_n 0, 1) := by decide +kernel
theorem dX12_layOrders_131 : decode cX12_layOrders 131 = .ok (.getfield 61, 3) := by decide +kernel
theorem dX12_layOrders_134 : decode cX12_layOrders 134 = .ok (.iload 6, 2) := by decide +kernel
theorem dX12_layOrders_136 : decode cX12_layOrders 136 = .ok (.iaload, 1) := by decide +kernel
theorem dX12_layOrders_137 : decode cX12_layOrders 137 = .ok (.ishl, 1) := by decide +kernel
theorem dX12_layOrders_138 : decode cX12_layOrders 138 = .ok (.iconst (-1), 1) := by decide +kernel
theorem dX12_layOrders_139 : decode cX12_layOrders 139 = .ok (.ixor, 1) := by decide +kernel
theorem dX12_layOrders_140 : decode cX12_layOrders 140 = .ok (.iand, 1) := by decide +kernel
theorem dX12_layOrders_141 : decode cX12_layOrders 141 = .ok (.istore 8, 2) := by decide +kernel
theorem dX12_layOrders_143 : decode cX12_layOrders 143 = .ok (.aload_n 0, 1) := by decide +kernel
theorem dX12_layOrders_144 : decode cX12_layOrders 144 = .ok (.getfield 61, 3) := by decide +kernel
theorem dX12_layOrders_147 : decode cX12_layOrders 147 = .ok (.iload 6, 2) := by decide +kernel
theorem dX12_layOrders_149 : decode cX12_layOrders 149 = .ok (.dup2, 1) := by decide +kernel
theorem dX12_layOrders_150 : decode cX12_layOrders 150 = .ok (.iaload, 1) := by decide +kernel
theorem dX12_layOrders_151 : decode cX12_layOrders 151 = .ok (.iconst 1, 1) := by decide +kernel
theorem dX12_layOrders_152 : decode cX12_layOrders 152 = .ok (.iadd, 1) := by decide +kernel
theorem dX12_layOrders_153 : decode cX12_layOrders 153 = .ok (.iastore, 1) := by decide +kernel
theorem dX12_layOrders_154 : decode cX12_layOrders 154 = .ok (.aload_n 0, 1) := by decide +kernel
theorem dX12_layOrders_155 : decode cX12_layOrders 155 = .ok (.getfield 61, 3) := by decide +kernel
theorem dX12_layOrders_158 : decode cX12_layOrders 158 = .ok (.iload 6, 2) := by decide +kernel
theorem dX12_layOrders_160 : decode cX12_layOrders 160 = .ok (.iaload, 1) := by decide +kernel
theorem dX12_layOrders_161 : decode cX12_layOrders 161 = .ok (.aload_n 0, 1) := by decide +kernel
theorem dX12_layOrders_162 : decode cX12_layOrders 162 = .ok (.getfield 166, 3) := by decide +kernel
theorem dX12_layOrders_165 : decode cX12_layOrders 165 = .ok (.if_icmp .ge 47, 3) := by decide +kernel
theorem dX12_layOrders_168 : decode cX12_layOrders 168 = .ok (.iload 8, 2) := by decide +kernel
theorem dX12_layOrders_170 : decode cX12_layOrders 170 = .ok (.aload_n 0, 1) := by decide +kernel
theorem dX12_layOrders_171 : decode cX12_layOrders 171 = .ok (.getfield 61, 3) := by decide +kernel
theorem dX12_layOrders_174 : decode cX12_layOrders 174 = .ok (.iload 6, 2) := by decide +kernel
theorem dX12_layOrders_176 : decode cX12_layOrders 176 = .ok (.iaload, 1) := by decide +kernel
theorem dX12_layOrders_177 : decode cX12_layOrders 177 = .ok (.ishr, 1) := by decide +kernel
theorem dX12_layOrders_178 : decode cX12_layOrders 178 = .ok (.iconst 1, 1) := by decide +kernel
theorem dX12_layOrders_179 : decode cX12_layOrders 179 = .ok (.iand, 1) := by decide +kernel
theorem dX12_layOrders_180 : decode cX12_layOrders 180 = .ok (.iload_n 1, 1) := by decide +kernel
theorem dX12_layOrders_181 : decode cX12_layOrders 181 = .ok (.iconst (-1), 1) := by decide +kernel
theorem dX12_layOrders_182 : decode cX12_layOrders 182 = .ok (.ixor, 1) := by decide +kernel
theorem dX12_layOrders_183 : decode cX12_layOrders 183 = .ok (.aload_n 0, 1) := by decide +kernel
theorem dX12_layOrders_184 : decode cX12_layOrders 184 = .ok (.getfield 61, 3) := by decide +kernel
theorem dX12_layOrders_187 : decode cX12_layOrders 187 = .ok (.iload 6, 2) := by decide +kernel
theorem dX12_layOrders_189 : decode cX12_layOrders 189 = .ok (.iaload, 1) := by decide +kernel
theorem dX12_layOrders_190 : decode cX12_layOrders 190 = .ok (.ishr, 1) := by decide +kernel
theorem dX12_layOrders_191 : decode cX12_layOrders 191 = .ok (.iconst 1, 1) := by decide +kernel
theorem dX12_layOrders_192 : decode cX12_layOrders 192 = .ok (.iand, 1) := by decide +kernel
theorem dX12_layOrders_193 : decode cX12_layOrders 193 = .ok (.ior, 1) := by decide +kernel
theorem dX12_layOrders_194 : decode cX12_layOrders 194 = .ok (.iconst 1, 1) := by decide +kernel
theorem dX12_layOrders_195 : decode cX12_layOrders 195 = .ok (.if_icmp .ne 17, 3) := by decide +kernel
theorem dX12_layOrders_198 : decode cX12_layOrders 198 = .ok (.aload_n 0, 1) := by decide +kernel
theorem dX12_layOrders_199 : decode cX12_layOrders 199 = .ok (.getfield 61, 3) := by decide +kernel
theorem dX12_layOrders_202 : decode cX12_layOrders 202 = .ok (.iload 6, 2) := by decide +kernel
theorem dX12_layOrders_204 : decode cX12_layOrders 204 = .ok (.dup2, 1) := by decide +kernel
theorem dX12_layOrders_205 : decode cX12_layOrders 205 = .ok (.iaload, 1) := by decide +kernel
theorem dX12_layOrders_206 : decode cX12_layOrders 206 = .ok (.iconst 1, 1) := by decide +kernel
theorem dX12_layOrders_207 : decode cX12_layOrders 207 = .ok (.iadd, 1) := by decide +kernel
theorem dX12_layOrders_208 : decode cX12_layOrders 208 = .ok (.iastore, 1) := by decide +kernel
theorem dX12_layOrders_209 : decode cX12_layOrders 209 = .ok (.goto (-55), 3) := by decide +kernel
theorem dX12_layOrders_212 : decode cX12_layOrders 212 = .ok (.aload_n 0, 1) := by decide +kernel
theorem dX12_layOrders_213 : decode cX12_layOrders 213 = .ok (.getfield 61, 3) := by decide +kernel
theorem dX12_layOrders_216 : decode cX12_layOrders 216 = .ok (.iload 6, 2) := by decide +kernel
theorem dX12_layOrders_218 : decode cX12_layOrders 218 = .ok (.iaload, 1) := by decide +kernel
theorem dX12_layOrders_219 : decode cX12_layOrders 219 = .ok (.aload_n 0, 1) := by decide +kernel
theorem dX12_layOrders_220 : decode cX12_layOrders 220 = .ok (.getfield 166, 3) := by decide +kernel
theorem dX12_layOrders_223 : decode cX12_layOrders 223 = .ok (.if_icmp .ne 9, 3) := by decide +kernel
theorem dX12_layOrders_226 : decode cX12_layOrders 226 = .ok (.iinc 6 (-1), 3) := by decide +kernel
theorem dX12_layOrders_229 : decode cX12_layOrders 229 = .ok (.goto (-131), 3) := by decide +kernel
theorem dX12_layOrders_232 : decode cX12_layOrders 232 = .ok (.aload_n 0, 1) := by decide +kernel
theorem dX12_layOrders_233 : decode cX12_layOrders 233 = .ok (.iload 6, 2) := by decide +kernel
theorem dX12_layOrders_235 : decode cX12_layOrders 235 = .ok (.iconst 1, 1) := by decide +kernel
theorem dX12_layOrders_236 : decode cX12_layOrders 236 = .ok (.iadd, 1) := by decide +kernel
theorem dX12_layOrders_237 : decode cX12_layOrders 237 = .ok (.invokevirtual 243, 3) := by decide +kernel
theorem dX12_layOrders_240 : decode cX12_layOrders 240 = .ok (.ifCond .eq (-142), 3) := by decide +kernel
theorem dX12_layOrders_243 : decode cX12_layOrders 243 = .ok (.aload_n 0, 1) := by decide +kernel
theorem dX12_layOrders_244 : decode cX12_layOrders 244 = .ok (.iload 6, 2) := by decide +kernel
theorem dX12_layOrders_246 : decode cX12_layOrders 246 = .ok (.iconst 1, 1) := by decide +kernel
theorem dX12_layOrders_247 : decode cX12_layOrders 247 = .ok (.iadd, 1) := by decide +kernel
theorem dX12_layOrders_248 : decode cX12_layOrders 248 = .ok (.invokevirtual 246, 3) := by decide +kernel
theorem dX12_layOrders_251 : decode cX12_layOrders 251 = .ok (.ifCond .eq (-153), 3) := by decide +kernel
theorem dX12_layOrders_254 : decode cX12_layOrders 254 = .ok (.iload 8, 2) := by decide +kernel
theorem dX12_layOrders_256 : decode cX12_layOrders 256 = .ok (.iconst 1, 1) := by decide +kernel
theorem dX12_layOrders_257 : decode cX12_layOrders 257 = .ok (.aload_n 0, 1) := by decide +kernel
theorem dX12_layOrders_258 : decode cX12_layOrders 258 = .ok (.getfield 61, 3) := by decide +kernel
theorem dX12_layOrders_261 : decode cX12_layOrders 261 = .ok (.iload 6, 2) := by decide +kernel
theorem dX12_layOrders_263 : decode cX12_layOrders 263 = .ok (.iaload, 1) := by decide +kernel
theorem dX12_layOrders_264 : decode cX12_layOrders 264 = .ok (.ishl, 1) := by decide +kernel
theorem dX12_layOrders_265 : decode cX12_layOrders 265 = .ok (.ior, 1) := by decide +kernel
theorem dX12_layOrders_266 : decode cX12_layOrders 266 = .ok (.istore 8, 2) := by decide +kernel
theorem dX12_layOrders_268 : decode cX12_layOrders 268 = .ok (.iload 6, 2) := by decide +kernel
theorem dX12_layOrders_270 : decode cX12_layOrders 270 = .ok (.iconst 1, 1) := by decide +kernel
theorem dX12_layOrders_271 : decode cX12_layOrders 271 = .ok (.iadd, 1) := by decide +kernel
theorem dX12_layOrders_272 : decode cX12_layOrders 272 = .ok (.iload 7, 2) := by decide +kernel
theorem dX12_layOrders_274 : decode cX12_layOrders 274 = .ok (.if_icmp .ne 17, 3) := by decide +kernel
theorem dX12_layOrders_277 : decode cX12_layOrders 277 = .ok (.aload_n 0, 1) := by decide +kernel
theorem dX12_layOrders_278 : decode cX12_layOrders 278 = .ok (.iload 7, 2) := by decide +kernel
theorem dX12_layOrders_280 : decode cX12_layOrders 280 = .ok (.iload_n 3, 1) := by decide +kernel
theorem dX12_layOrders_281 : decode cX12_layOrders 281 = .ok (.iload 4, 2) := by decide +kernel
theorem dX12_layOrders_283 : decode cX12_layOrders 283 = .ok (.iload 5, 2) := by decide +kernel
theorem dX12_layOrders_285 : decode cX12_layOrders 285 = .ok (.invokevirtual 249, 3) := by decide +kernel
theorem dX12_layOrders_288 : decode cX12_layOrders 288 = .ok (.goto (-190), 3) := by decide +kernel
theorem dX12_layOrders_291 : decode cX12_layOrders 291 = .ok (.iinc 6 1, 3) := by decide +kernel
theorem dX12_layOrders_294 : decode cX12_layOrders 294 = .ok (.aload_n 0, 1) := by decide +kernel
theorem dX12_layOrders_295 : decode cX12_layOrders 295 = .ok (.getfield 61, 3) := by decide +kernel
theorem dX12_layOrders_298 : decode cX12_layOrders 298 = .ok (.iload 6, 2) := by decide +kernel
theorem dX12_layOrders_300 : decode cX12_layOrders 300 = .ok (.iconst (-1), 1) := by decide +kernel
theorem dX12_layOrders_301 : decode cX12_layOrders 301 = .ok (.iastore, 1) := by decide +kernel
theorem dX12_layOrders_302 : decode cX12_layOrders 302 = .ok (.goto (-204), 3) := by decide +kernel
theorem dX12_layOrders_305 : decode cX12_layOrders 305 = .ok (.aload_n 0, 1) := by decide +kernel
theorem dX12_layOrders_306 : decode cX12_layOrders 306 = .ok (.getfield 234, 3) := by decide +kernel
theorem dX12_layOrders_309 : decode cX12_layOrders 309 = .ok (.ireturn, 1) := by decide +kernel
theorem dX12_weigh_0 : decode cX12_weigh 0 = .ok (.aload_n 0, 1) := by decide +kernel
theorem dX12_weigh_1 : decode cX12_weigh 1 = .ok (.iload_n 1, 1) := by decide +kernel
theorem dX12_weigh_2 : decode cX12_weigh 2 = .ok (.invokevirtual 252, 3) := by decide +kernel
theorem dX12_weigh_5 : decode cX12_weigh 5 = .ok (.bipush 9, 2) := by decide +kernel
theorem dX12_weigh_7 : decode cX12_weigh 7 = .ok (.istore 5, 2) := by decide +kernel
theorem dX12_weigh_9 : decode cX12_weigh 9 = .ok (.bipush 9, 2) := by decide +kernel
theorem dX12_weigh_11 : decode cX12_weigh 11 = .ok (.istore 6, 2) := by decide +kernel
theorem dX12_weigh_13 : decode cX12_weigh 13 = .ok (.iconst 0, 1) := by decide +kernel
theorem dX12_weigh_14 : decode cX12_weigh 14 = .ok (.istore 7, 2) := by decide +kernel
theorem dX12_weigh_16 : decode cX12_weigh 16 = .ok (.iload 7, 2) := by decide +kernel
theorem dX12_weigh_18 : decode cX12_weigh 18 = .ok (.iload_n 1, 1) := by decide +kernel
theorem dX12_weigh_19 : decode cX12_weigh 19 = .ok (.if_icmp .ge 82, 3) := by decide +kernel
theorem dX12_weigh_22 : decode cX12_weigh 22 = .ok (.aload_n 0, 1) := by decide +kernel
theorem dX12_weigh_23 : decode cX12_weigh 23 = .ok (.getfield 79, 3) := by decide +kernel
theorem dX12_weigh_26 : decode cX12_weigh 26 = .ok (.iload 7, 2) := by decide +kernel
theorem dX12_weigh_28 : decode cX12_weigh 28 = .ok (.aload_n 0, 1) := by decide +kernel
theorem dX12_weigh_29 : decode cX12_weigh 29 = .ok (.getfield 234, 3) := by decide +kernel
theorem dX12_weigh_32 : decode cX12_weigh 32 = .ok (.iload_n 2, 1) := by decide +kernel
theorem dX12_weigh_33 : decode cX12_weigh 33 = .ok (.if_icmp .ne 13, 3) := by decide +kernel
theorem dX12_weigh_36 : decode cX12_weigh 36 = .ok (.aload_n 0, 1) := by decide +kernel
theorem dX12_weigh_37 : decode cX12_weigh 37 = .ok (.getfield 61, 3) := by decide +kernel
theorem dX12_weigh_40 : decode cX12_weigh 40 = .ok (.iload 7, 2) := by decide +kernel
theorem dX12_weigh_42 : decode cX12_weigh 42 = .ok (.iaload, 1) := by decide +kernel
theorem dX12_weigh_43 : decode cX12_weigh 43 = .ok (.goto 10, 3) := by decide +kernel
theorem dX12_weigh_46 : decode cX12_weigh 46 = .ok (.aload_n 0, 1) := by decide +kernel
theorem dX12_weigh_47 : decode cX12_weigh 47 = .ok (.getfield 79, 3) := by decide +kernel
theorem dX12_weigh_50 : decode cX12_weigh 50 = .ok (.iload 7, 2) := by decide +kernel
theorem dX12_weigh_52 : decode cX12_weigh 52 = .ok (.iaload, 1) := by decide +kernel
theorem dX12_weigh_53 : decode cX12_weigh 53 = .ok (.iastore, 1) := by decide +kernel
theorem dX12_weigh_54 : decode cX12_weigh 54 = .ok (.aload_n 0, 1) := by decide +kernel
theorem dX12_weigh_55 : decode cX12_weigh 55 = .ok (.getfield 61, 3) := by decide +kernel
theorem dX12_weigh_58 : decode cX12_weigh 58 = .ok (.iload 7, 2) := by decide +kernel
theorem dX12_weigh_60 : decode cX12_weigh 60 = .ok (.iaload, 1) := by decide +kernel
theorem dX12_weigh_61 : decode cX12_weigh 61 = .ok (.iload_n 3, 1) := by decide +kernel
theorem dX12_weigh_62 : decode cX12_weigh 62 = .ok (.if_icmp .ne 8, 3) := by decide +kernel
theorem dX12_weigh_65 : decode cX12_weigh 65 = .ok (.iload 7, 2) := by decide +kernel
theorem dX12_weigh_67 : decode cX12_weigh 67 = .ok (.goto 5, 3) := by decide +kernel
theorem dX12_weigh_70 : decode cX12_weigh 70 = .ok (.iload 5, 2) := by decide +kernel
theorem dX12_weigh_72 : decode cX12_weigh 72 = .ok (.istore 5, 2) := by decide +kernel
theorem dX12_weigh_74 : decode cX12_weigh 74 = .ok (.aload_n 0, 1) := by decide +kernel
theorem dX12_weigh_75 : decode cX12_weigh 75 = .ok (.getfield 61, 3) := by decide +kernel
theorem dX12_weigh_78 : decode cX12_weigh 78 = .ok (.iload 7, 2) := by decide +kernel
theorem dX12_weigh_80 : decode cX12_weigh 80 = .ok (.iaload, 1) := by decide +kernel
theorem dX12_weigh_81 : decode cX12_weigh 81 = .ok (.iload 4, 2) := by decide +kernel
theorem dX12_weigh_83 : decode cX12_weigh 83 = .ok (.if_icmp .ne 8, 3) := by decide +kernel
theorem dX12_weigh_86 : decode cX12_weigh 86 = .ok (.iload 7, 2) := by decide +kernel
theorem dX12_weigh_88 : decode cX12_weigh 88 = .ok (.goto 5, 3) := by decide +kernel
theorem dX12_weigh_91 : decode cX12_weigh 91 = .ok (.iload 6, 2) := by decide +kernel
theorem dX12_weigh_93 : decode cX12_weigh 93 = .ok (.istore 6, 2) := by decide +kernel
theorem dX12_weigh_95 : decode cX12_weigh 95 = .ok (.iinc 7 1, 3) := by decide +kernel
theorem dX12_weigh_98 : decode cX12_weigh 98 = .ok (.goto (-82), 3) := by decide +kernel
theorem dX12_weigh_101 : decode cX12_weigh 101 = .ok (.aload_n 0, 1) := by decide +kernel
theorem dX12_weigh_102 : decode cX12_weigh 102 = .ok (.dup, 1) := by decide +kernel
theorem dX12_weigh_103 : decode cX12_weigh 103 = .ok (.getfield 240, 3) := by decide +kernel
theorem dX12_weigh_106 : decode cX12_weigh 106 = .ok (.iload 5, 2) := by decide +kernel
theorem dX12_weigh_108 : decode cX12_weigh 108 = .ok (.iload 6, 2) := by decide +kernel
theorem dX12_weigh_110 : decode cX12_weigh 110 = .ok (.if_icmp .ge 7, 3) := by decide +kernel
theorem dX12_weigh_113 : decode cX12_weigh 113 = .ok (.iconst 1, 1) := by decide +kernel
theorem dX12_weigh_114 : decode cX12_weigh 114 = .ok (.goto 4, 3) := by decide +kernel
theorem dX12_weigh_117 : decode cX12_weigh 117 = .ok (.iconst 0, 1) := by decide +kernel
theorem dX12_weigh_118 : decode cX12_weigh 118 = .ok (.iadd, 1) := by decide +kernel
theorem dX12_weigh_119 : decode cX12_weigh 119 = .ok (.putfield 240, 3) := by decide +kernel
theorem dX12_weigh_122 : decode cX12_weigh 122 = .ok (.aload_n 0, 1) := by decide +kernel
theorem dX12_weigh_123 : decode cX12_weigh 123 = .ok (.dup, 1) := by decide +kernel
theorem dX12_weigh_124 : decode cX12_weigh 124 = .ok (.getfield 234, 3) := by decide +kernel
theorem dX12_weigh_127 : decode cX12_weigh 127 = .ok (.iconst 1, 1) := by decide +kernel
theorem dX12_weigh_128 : decode cX12_weigh 128 = .ok (.iadd, 1) := by decide +kernel
theorem dX12_weigh_129 : decode cX12_weigh 129 = .ok (.putfield 234, 3) := by decide +kernel
theorem dX12_weigh_132 : decode cX12_weigh 132 = .ok (.return_, 1) := by decide +kernel
theorem dX12_whole_0 : decode cX12_whole 0 = .ok (.iconst 1, 1) := by decide +kernel
theorem dX12_whole_1 : decode cX12_whole 1 = .ok (.aload_n 0, 1) := by decide +kernel
theorem dX12_whole_2 : decode cX12_whole 2 = .ok (.getfield 166, 3) := by decide +kernel
theorem dX12_whole_5 : decode cX12_whole 5 = .ok (.ishl, 1) := by decide +kernel
theorem dX12_whole_6 : decode cX12_whole 6 = .ok (.iconst 1, 1) := by decide +kernel
theorem dX12_whole_7 : decode cX12_whole 7 = .ok (.isub, 1) := by decide +kernel
theorem dX12_whole_8 : decode cX12_whole 8 = .ok (.ireturn, 1) := by decide +kernel
theorem dX12_many_0 : decode cX12_many 0 = .ok (.aload_n 0, 1) := by decide +kernel
theorem dX12_many_1 : decode cX12_many 1 = .ok (.aload_n 0, 1) := by decide +kernel
theorem dX12_many_2 : decode cX12_many 2 = .ok (.invokevirtual 255, 3) := by decide +kernel
theorem dX12_many_5 : decode cX12_many 5 = .ok (.sipush 9999, 3) := by decide +kernel
theorem dX12_many_8 : decode cX12_many 8 = .ok (.iconst (-1), 1) := by decide +kernel
theorem dX12_many_9 : decode cX12_many 9 = .ok (.iconst (-1), 1) := by decide +kernel
theorem dX12_many_10 : decode cX12_many 10 = .ok (.iconst (-1), 1) := by decide +kernel
theorem dX12_many_11 : decode cX12_many 11 = .ok (.invokevirtual 258, 3) := by decide +kernel
theorem dX12_many_14 : decode cX12_many 14 = .ok (.ireturn, 1) := by decide +kernel
theorem dX12_isAny_0 : decode cX12_isAny 0 = .ok (.aload_n 0, 1) := by decide +kernel
theorem dX12_isAny_1 : decode cX12_isAny 1 = .ok (.iload_n 1, 1) := by decide +kernel
theorem dX12_isAny_2 : decode cX12_isAny 2 = .ok (.iconst 1, 1) := by decide +kernel
theorem dX12_isAny_3 : decode cX12_isAny 3 = .ok (.iconst (-1), 1) := by decide +kernel
theorem dX12_isAny_4 : decode cX12_isAny 4 = .ok (.iconst (-1), 1) := by decide +kernel
theorem dX12_isAny_5 : decode cX12_isAny 5 = .ok (.iconst (-1), 1) := by decide +kernel
theorem dX12_isAny_6 : decode cX12_isAny 6 = .ok (.invokevirtual 258, 3) := by decide +kernel
theorem dX12_isAny_9 : decode cX12_isAny 9 = .ok (.ifCond .le 7, 3) := by decide +kernel
theorem dX12_isAny_12 : decode cX12_isAny 12 = .ok (.iconst 1, 1) := by decide +kernel
theorem dX12_isAny_13 : decode cX12_isAny 13 = .ok (.goto 4, 3) := by decide +kernel
theorem dX12_isAny_16 : decode cX12_isAny 16 = .ok (.iconst 0, 1) := by decide +kernel
theorem dX12_isAny_17 : decode cX12_isAny 17 = .ok (.ireturn, 1) := by decide +kernel
theorem dX12_ones_0 : decode cX12_ones 0 = .ok (.iconst 0, 1) := by decide +kernel
theorem dX12_ones_1 : decode cX12_ones 1 = .ok (.istore_n 2, 1) := by decide +kernel
theorem dX12_ones_2 : decode cX12_ones 2 = .ok (.iconst 0, 1) := by decide +kernel
theorem dX12_ones_3 : decode cX12_ones 3 = .ok (.istore_n 3, 1) := by decide +kernel
theorem dX12_ones_4 : decode cX12_ones 4 = .ok (.iload_n 3, 1) := by decide +kernel
theorem dX12_ones_5 : decode cX12_ones 5 = .ok (.bipush 64, 2) := by decide +kernel
theorem dX12_ones_7 : decode cX12_ones 7 = .ok (.if_icmp .ge 25, 3) := by decide +kernel
theorem dX12_ones_10 : decode cX12_ones 10 = .ok (.iload_n 2, 1) := by decide +kernel
theorem dX12_ones_11 : decode cX12_ones 11 = .ok (.lload_n 0, 1) := by decide +kernel
theorem dX12_ones_12 : decode cX12_ones 12 = .ok (.iload_n 3, 1) := by decide +kernel
theorem dX12_ones_13 : decode cX12_ones 13 = .ok (.invokestatic 223, 3) := by decide +kernel
theorem dX12_ones_16 : decode cX12_ones 16 = .ok (.ifCond .eq 7, 3) := by decide +kernel
theorem dX12_ones_19 : decode cX12_ones 19 = .ok (.iconst 1, 1) := by decide +kernel
theorem dX12_ones_20 : decode cX12_ones 20 = .ok (.goto 4, 3) := by decide +kernel
theorem dX12_ones_23 : decode cX12_ones 23 = .ok (.iconst 0, 1) := by decide +kernel
theorem dX12_ones_24 : decode cX12_ones 24 = .ok (.iadd, 1) := by decide +kernel
theorem dX12_ones_25 : decode cX12_ones 25 = .ok (.istore_n 2, 1) := by decide +kernel
theorem dX12_ones_26 : decode cX12_ones 26 = .ok (.iinc 3 1, 3) := by decide +kernel
theorem dX12_ones_29 : decode cX12_ones 29 = .ok (.goto (-25), 3) := by decide +kernel
theorem dX12_ones_32 : decode cX12_ones 32 = .ok (.iload_n 2, 1) := by decide +kernel
theorem dX12_ones_33 : decode cX12_ones 33 = .ok (.ireturn, 1) := by decide +kernel
theorem dX12_shown_0 : decode cX12_shown 0 = .ok (.iload_n 2, 1) := by decide +kernel
theorem dX12_shown_1 : decode cX12_shown 1 = .ok (.ifCond .ne 8, 3) := by decide +kernel
theorem dX12_shown_4 : decode cX12_shown 4 = .ok (.lload_n 0, 1) := by decide +kernel
theorem dX12_shown_5 : decode cX12_shown 5 = .ok (.invokestatic 262, 3) := by decide +kernel
theorem dX12_shown_8 : decode cX12_shown 8 = .ok (.ireturn, 1) := by decide +kernel
theorem dX12_shown_9 : decode cX12_shown 9 = .ok (.iload_n 2, 1) := by decide +kernel
theorem dX12_shown_10 : decode cX12_shown 10 = .ok (.iconst 1, 1) := by decide +kernel
theorem dX12_shown_11 : decode cX12_shown 11 = .ok (.if_icmp .ne 11, 3) := by decide +kernel
theorem dX12_shown_14 : decode cX12_shown 14 = .ok (.lload_n 0, 1) := by decide +kernel
theorem dX12_shown_15 : decode cX12_shown 15 = .ok (.iconst (-1), 1) := by decide +kernel
theorem dX12_shown_16 : decode cX12_shown 16 = .ok (.invokestatic 227, 3) := by decide +kernel
theorem dX12_shown_19 : decode cX12_shown 19 = .ok (.goto 9, 3) := by decide +kernel
theorem dX12_shown_22 : decode cX12_shown 22 = .ok (.lload_n 0, 1) := by decide +kernel
theorem dX12_shown_23 : decode cX12_shown 23 = .ok (.bipush 48, 2) := by decide +kernel
theorem dX12_shown_25 : decode cX12_shown 25 = .ok (.invokestatic 231, 3) := by decide +kernel
theorem dX12_shown_28 : decode cX12_shown 28 = .ok (.istore_n 3, 1) := by decide +kernel
theorem dX12_shown_29 : decode cX12_shown 29 = .ok (.iload_n 3, 1) := by decide +kernel
theorem dX12_shown_30 : decode cX12_shown 30 = .ok (.iconst 0, 1) := by decide +kernel
theorem dX12_shown_31 : decode cX12_shown 31 = .ok (.bipush 47, 2) := by decide +kernel
theorem dX12_shown_33 : decode cX12_shown 33 = .ok (.invokestatic 88, 3) := by decide +kernel
theorem dX12_shown_36 : decode cX12_shown 36 = .ok (.ifCond .eq 7, 3) := by decide +kernel
theorem dX12_shown_39 : decode cX12_shown 39 = .ok (.iload_n 3, 1) := by decide +kernel
theorem dX12_shown_40 : decode cX12_shown 40 = .ok (.goto 4, 3) := by decide +kernel
theorem dX12_shown_43 : decode cX12_shown 43 = .ok (.iconst (-1), 1) := by decide +kernel
theorem dX12_shown_44 : decode cX12_shown 44 = .ok (.ireturn, 1) := by decide +kernel
theorem dX12_isBefore_0 : decode cX12_isBefore 0 = .ok (.iconst 0, 1) := by decide +kernel
theorem dX12_isBefore_1 : decode cX12_isBefore 1 = .ok (.istore_n 3, 1) := by decide +kernel
theorem dX12_isBefore_2 : decode cX12_isBefore 2 = .ok (.iconst 0, 1) := by decide +kernel
theorem dX12_isBefore_3 : decode cX12_isBefore 3 = .ok (.istore 4, 2) := by decide +kernel
theorem dX12_isBefore_5 : decode cX12_isBefore 5 = .ok (.iconst 0, 1) := by decide +kernel
theorem dX12_isBefore_6 : decode cX12_isBefore 6 = .ok (.istore 5, 2) := by decide +kernel
theorem dX12_isBefore_8 : decode cX12_isBefore 8 = .ok (.iload 5, 2) := by decide +kernel
theorem dX12_isBefore_10 : decode cX12_isBefore 10 = .ok (.aload_n 0, 1) := by decide +kernel
theorem dX12_isBefore_11 : decode cX12_isBefore 11 = .ok (.getfield 166, 3) := by decide +kernel
theorem dX12_isBefore_14 : decode cX12_isBefore 14 = .ok (.if_icmp .ge 32, 3) := by decide +kernel
theorem dX12_isBefore_17 : decode cX12_isBefore 17 = .ok (.iload 4, 2) := by decide +kernel
theorem dX12_isBefore_19 : decode cX12_isBefore 19 = .ok (.aload_n 0, 1) := by decide +kernel
theorem dX12_isBefore_20 : decode cX12_isBefore 20 = .ok (.iload_n 1, 1) := by decide +kernel
theorem dX12_isBefore_21 : decode cX12_isBefore 21 = .ok (.iload 5, 2) := by decide +kernel
theorem dX12_isBefore_23 : decode cX12_isBefore 23 = .ok (.invokevirtual 217, 3) := by decide +kernel
theorem dX12_isBefore_26 : decode cX12_isBefore 26 = .ok (.ifCond .eq 10, 3) := by decide +kernel
theorem dX12_isBefore_29 : decode cX12_isBefore 29 = .ok (.iconst 1, 1) := by decide +kernel
theorem dX12_isBefore_30 : decode cX12_isBefore 30 = .ok (.iload 5, 2) := by decide +kernel
theorem dX12_isBefore_32 : decode cX12_isBefore 32 = .ok (.ishl, 1) := by decide +kernel
theorem dX12_isBefore_33 : decode cX12_isBefore 33 = .ok (.goto 4, 3) := by decide +kernel
theorem dX12_isBefore_36 : decode cX12_isBefore 36 = .ok (.iconst 0, 1) := by decide +kernel
theorem dX12_isBefore_37 : decode cX12_isBefore 37 = .ok (.ior, 1) := by decide +kernel
theorem dX12_isBefore_38 : decode cX12_isBefore 38 = .ok (.istore 4, 2) := by decide +kernel
theorem dX12_isBefore_40 : decode cX12_isBefore 40 = .ok (.iinc 5 1, 3) := by decide +kernel
theorem dX12_isBefore_43 : decode cX12_isBefore 43 = .ok (.goto (-35), 3) := by decide +kernel
theorem dX12_isBefore_46 : decode cX12_isBefore 46 = .ok (.iload 4, 2) := by decide +kernel
theorem dX12_isBefore_48 : decode cX12_isBefore 48 = .ok (.iload_n 3, 1) := by decide +kernel
theorem dX12_isBefore_49 : decode cX12_isBefore 49 = .ok (.if_icmp .eq 79, 3) := by decide +kernel
theorem dX12_isBefore_52 : decode cX12_isBefore 52 = .ok (.iload 4, 2) := by decide +kernel
theorem dX12_isBefore_54 : decode cX12_isBefore 54 = .ok (.istore_n 3, 1) := by decide +kernel
theorem dX12_isBefore_55 : decode cX12_isBefore 55 = .ok (.iconst 0, 1) := by decide +kernel
theorem dX12_isBefore_56 : decode cX12_isBefore 56 = .ok (.istore 5, 2) := by decide +kernel
theorem dX12_isBefore_58 : decode cX12_isBefore 58 = .ok (.iload 5, 2) := by decide +kernel
theorem dX12_isBefore_60 : decode cX12_isBefore 60 = .ok (.aload_n 0, 1) := by decide +kernel
theorem dX12_isBefore_61 : decode cX12_isBefore 61 = .ok (.getfield 166, 3) := by decide +kernel
theorem dX12_isBefore_64 : decode cX12_isBefore 64 = .ok (.if_icmp .ge 61, 3) := by decide +kernel
theorem dX12_isBefore_67 : decode cX12_isBefore 67 = .ok (.iconst 0, 1) := by decide +kernel
theorem dX12_isBefore_68 : decode cX12_isBefore 68 = .ok (.istore 6, 2) := by decide +kernel
theorem dX12_isBefore_70 : decode cX12_isBefore 70 = .ok (.iload 6, 2) := by decide +kernel
theorem dX12_isBefore_72 : decode cX12_isBefore 72 = .ok (.aload_n 0, 1) := by decide +kernel
theorem dX12_isBefore_73 : decode cX12_isBefore 73 = .ok (.getfield 166, 3) := by decide +kernel
theorem dX12_isBefore_76 : decode cX12_isBefore 76 = .ok (.if_icmp .ge 43, 3) := by decide +kernel
theorem dX12_isBefore_79 : decode cX12_isBefore 79 = .ok (.iload_n 3, 1) := by decide +kernel
theorem dX12_isBefore_80 : decode cX12_isBefore 80 = .ok (.iload 5, 2) := by decide +kernel
theorem dX12_isBefore_82 : decode cX12_isBefore 82 = .ok (.ishr, 1) := by decide +kernel
theorem dX12_isBefore_83 : decode cX12_isBefore 83 = .ok (.iconst 1, 1) := by decide +kernel
theorem dX12_isBefore_84 : decode cX12_isBefore 84 = .ok (.iand, 1) := by decide +kernel
theorem dX12_isBefore_85 : decode cX12_isBefore 85 = .ok (.iconst 1, 1) := by decide +kernel
theorem dX12_isBefore_86 : decode cX12_isBefore 86 = .ok (.if_icmp .ne 33, 3) := by decide +kernel
theorem dX12_isBefore_89 : decode cX12_isBefore 89 = .ok (.iload 4, 2) := by decide +kernel
theorem dX12_isBefore_91 : decode cX12_isBefore 91 = .ok (.aload_n 0, 1) := by decide +kernel
theorem dX12_isBefore_92 : decode cX12_isBefore 92 = .ok (.iload 5, 2) := by decide +kernel
theorem dX12_isBefore_94 : decode cX12_isBefore 94 = .ok (.iload 6, 2) := by decide +kernel
theorem dX12_isBefore_96 : decode cX12_isBefore 96 = .ok (.invokevirtual 217, 3) := by decide +kernel
theorem dX12_isBefore_99 : decode cX12_isBefore 99 = .ok (.ifCond .eq 10, 3) := by decide +kernel
theorem dX12_isBefore_102 : decode cX12_isBefore 102 = .ok (.iconst 1, 1) := by decide +kernel
theorem dX12_isBefore_103 : decode cX12_isBefore 103 = .ok (.iload 6, 2) := by decide +kernel
theorem dX12_isBefore_105 : decode cX12_isBefore 105 = .ok (.ishl, 1) := by decide +kernel
theorem dX12_isBefore_106 : decode cX12_isBefore 106 = .ok (.goto 4, 3) := by decide +kernel
theorem dX12_isBefore_109 : decode cX12_isBefore 109 = .ok (.iconst 0, 1) := by decide +kernel
theorem dX12_isBefore_110 : decode cX12_isBefore 110 = .ok (.ior, 1) := by decide +kernel
theorem dX12_isBefore_111 : decode cX12_isBefore 111 = .ok (.istore 4, 2) := by decide +kernel
theorem dX12_isBefore_113 : decode cX12_isBefore 113 = .ok (.iinc 6 1, 3) := by decide +kernel
theorem dX12_isBefore_116 : decode cX12_isBefore 116 = .ok (.goto (-46), 3) := by decide +kernel
theorem dX12_isBefore_119 : decode cX12_isBefore 119 = .ok (.iinc 5 1, 3) := by decide +kernel
theorem dX12_isBefore_122 : decode cX12_isBefore 122 = .ok (.goto (-64), 3) := by decide +kernel
theorem dX12_isBefore_125 : decode cX12_isBefore 125 = .ok (.goto (-79), 3) := by decide +kernel
theorem dX12_isBefore_128 : decode cX12_isBefore 128 = .ok (.iload 4, 2) := by decide +kernel
theorem dX12_isBefore_130 : decode cX12_isBefore 130 = .ok (.iload_n 2, 1) := by decide +kernel
theorem dX12_isBefore_131 : decode cX12_isBefore 131 = .ok (.ishr, 1) := by decide +kernel
theorem dX12_isBefore_132 : decode cX12_isBefore 132 = .ok (.iconst 1, 1) := by decide +kernel
theorem dX12_isBefore_133 : decode cX12_isBefore 133 = .ok (.iand, 1) := by decide +kernel
theorem dX12_isBefore_134 : decode cX12_isBefore 134 = .ok (.iconst 1, 1) := by decide +kernel
theorem dX12_isBefore_135 : decode cX12_isBefore 135 = .ok (.if_icmp .ne 7, 3) := by decide +kernel
theorem dX12_isBefore_138 : decode cX12_isBefore 138 = .ok (.iconst 1, 1) := by decide +kernel
theorem dX12_isBefore_139 : decode cX12_isBefore 139 = .ok (.goto 4, 3) := by decide +kernel
theorem dX12_isBefore_142 : decode cX12_isBefore 142 = .ok (.iconst 0, 1) := by decide +kernel
theorem dX12_isBefore_143 : decode cX12_isBefore 143 = .ok (.ireturn, 1) := by decide +kernel
theorem dX12_lettersOf_0 : decode cX12_lettersOf 0 = .ok (.iconst 0, 1) := by decide +kernel
theorem dX12_lettersOf_1 : decode cX12_lettersOf 1 = .ok (.istore_n 2, 1) := by decide +kernel
theorem dX12_lettersOf_2 : decode cX12_lettersOf 2 = .ok (.aload_n 0, 1) := by decide +kernel
theorem dX12_lettersOf_3 : decode cX12_lettersOf 3 = .ok (.getfield 32, 3) := by decide +kernel
theorem dX12_lettersOf_6 : decode cX12_lettersOf 6 = .ok (.iload_n 1, 1) := by decide +kernel
theorem dX12_lettersOf_7 : decode cX12_lettersOf 7 = .ok (.iaload, 1) := by decide +kernel
theorem dX12_lettersOf_8 : decode cX12_lettersOf 8 = .ok (.istore_n 3, 1) := by decide +kernel
theorem dX12_lettersOf_9 : decode cX12_lettersOf 9 = .ok (.iload_n 3, 1) := by decide +kernel
theorem dX12_lettersOf_10 : decode cX12_lettersOf 10 = .ok (.ifCond .le 14, 3) := by decide +kernel
theorem dX12_lettersOf_13 : decode cX12_lettersOf 13 = .ok (.iinc 2 1, 3) := by decide +kernel
theorem dX12_lettersOf_16 : decode cX12_lettersOf 16 = .ok (.iload_n 3, 1) := by decide +kernel
theorem dX12_lettersOf_17 : decode cX12_lettersOf 17 = .ok (.bipush 27, 2) := by decide +kernel
theorem dX12_lettersOf_19 : decode cX12_lettersOf 19 = .ok (.idiv, 1) := by decide +kernel
theorem dX12_lettersOf_20 : decode cX12_lettersOf 20 = .ok (.istore_n 3, 1) := by decide +kernel
theorem dX12_lettersOf_21 : decode cX12_lettersOf 21 = .ok (.goto (-12), 3) := by decide +kernel
theorem dX12_lettersOf_24 : decode cX12_lettersOf 24 = .ok (.iload_n 2, 1) := by decide +kernel
theorem dX12_lettersOf_25 : decode cX12_lettersOf 25 = .ok (.ireturn, 1) := by decide +kernel
theorem dX12_countOf_0 : decode cX12_countOf 0 = .ok (.iconst 0, 1) := by decide +kernel
theorem dX12_countOf_1 : decode cX12_countOf 1 = .ok (.istore_n 3, 1) := by decide +kernel
theorem dX12_countOf_2 : decode cX12_countOf 2 = .ok (.iconst 0, 1) := by decide +kernel
theorem dX12_countOf_3 : decode cX12_countOf 3 = .ok (.istore 4, 2) := by decide +kernel
theorem dX12_countOf_5 : decode cX12_countOf 5 = .ok (.iload 4, 2) := by decide +kernel
theorem dX12_countOf_7 : decode cX12_countOf 7 = .ok (.iload_n 2, 1) := by decide +kernel
theorem dX12_countOf_8 : decode cX12_countOf 8 = .ok (.ifCond .eq 12, 3) := by decide +kernel
theorem dX12_countOf_11 : decode cX12_countOf 11 = .ok (.aload_n 0, 1) := by decide +kernel
theorem dX12_countOf_12 : decode cX12_countOf 12 = .ok (.getfield 38, 3) := by decide +kernel
theorem dX12_countOf_15 : decode cX12_countOf 15 = .ok (.iconst 0, 1) := by decide +kernel
theorem dX12_countOf_16 : decode cX12_countOf 16 = .ok (.iaload, 1) := by decide +kernel
theorem dX12_countOf_17 : decode cX12_countOf 17 = .ok (.goto 7, 3) := by decide +kernel
theorem dX12_countOf_20 : decode cX12_countOf 20 = .ok (.aload_n 0, 1) := by decide +kernel
theorem dX12_countOf_21 : decode cX12_countOf 21 = .ok (.getfield 166, 3) := by decide +kernel
theorem dX12_countOf_24 : decode cX12_countOf 24 = .ok (.if_icmp .ge 54, 3) := by decide +kernel
theorem dX12_countOf_27 : decode cX12_countOf 27 = .ok (.iload_n 3, 1) := by decide +kernel
theorem dX12_countOf_28 : decode cX12_countOf 28 = .ok (.iload_n 2, 1) := by decide +kernel
theorem dX12_countOf_29 : decode cX12_countOf 29 = .ok (.ifCond .eq 26, 3) := by decide +kernel
theorem dX12_countOf_32 : decode cX12_countOf 32 = .ok (.aload_n 0, 1) := by decide +kernel
theorem dX12_countOf_33 : decode cX12_countOf 33 = .ok (.getfield 38, 3) := by decide +kernel
theorem dX12_countOf_36 : decode cX12_countOf 36 = .ok (.iconst 4, 1) := by decide +kernel
theorem dX12_countOf_37 : decode cX12_countOf 37 = .ok (.iload 4, 2) := by decide +kernel
theorem dX12_countOf_39 : decode cX12_countOf 39 = .ok (.imul, 1) := by decide +kernel
theorem dX12_countOf_40 : decode cX12_countOf 40 = .ok (.iconst 1, 1) := by decide +kernel
theorem dX12_countOf_41 : decode cX12_countOf 41 = .ok (.iadd, 1) := by decide +kernel
theorem dX12_countOf_42 : decode cX12_countOf 42 = .ok (.iaload, 1) := by decide +kernel
theorem dX12_countOf_43 : decode cX12_countOf 43 = .ok (.iload_n 1, 1) := by decide +kernel
theorem dX12_countOf_44 : decode cX12_countOf 44 = .ok (.if_icmp .ne 7, 3) := by decide +kernel
theorem dX12_countOf_47 : decode cX12_countOf 47 = .ok (.iconst 1, 1) := by decide +kernel
theorem dX12_countOf_48 : decode cX12_countOf 48 = .ok (.goto 22, 3) := by decide +kernel
theorem dX12_countOf_51 : decode cX12_countOf 51 = .ok (.iconst 0, 1) := by decide +kernel
theorem dX12_countOf_52 : decode cX12_countOf 52 = .ok (.goto 18, 3) := by decide +kernel
theorem dX12_countOf_55 : decode cX12_countOf 55 = .ok (.aload_n 0, 1) := by decide +kernel
theorem dX12_countOf_56 : decode cX12_countOf 56 = .ok (.iload 4, 2) := by decide +kernel
theorem dX12_countOf_58 : decode cX12_countOf 58 = .ok (.iload_n 1, 1) := by decide +kernel
theorem dX12_countOf_59 : decode cX12_countOf 59 = .ok (.invokevirtual 266, 3) := by decide +kernel
theorem dX12_countOf_62 : decode cX12_countOf 62 = .ok (.ifCond .eq 7, 3) := by decide +kernel
theorem dX12_countOf_65 : decode cX12_countOf 65 = .ok (.iconst 1, 1) := by decide +kernel
theorem dX12_countOf_66 : decode cX12_countOf 66 = .ok (.goto 4, 3) := by decide +kernel
theorem dX12_countOf_69 : decode cX12_countOf 69 = .ok (.iconst 0, 1) := by decide +kernel
theorem dX12_countOf_70 : decode cX12_countOf 70 = .ok (.iadd, 1) := by decide +kernel
theorem dX12_countOf_71 : decode cX12_countOf 71 = .ok (.istore_n 3, 1) := by decide +kernel
theorem dX12_countOf_72 : decode cX12_countOf 72 = .ok (.iinc 4 1, 3) := by decide +kernel
theorem dX12_countOf_75 : decode cX12_countOf 75 = .ok (.goto (-70), 3) := by decide +kernel
theorem dX12_countOf_78 : decode cX12_countOf 78 = .ok (.iload_n 3, 1) := by decide +kernel
theorem dX12_countOf_79 : decode cX12_countOf 79 = .ok (.ireturn, 1) := by decide +kernel
theorem dX12_picture_0 : decode cX12_picture 0 = .ok (.aload_n 0, 1) := by decide +kernel
theorem dX12_picture_1 : decode cX12_picture 1 = .ok (.iload_n 1, 1) := by decide +kernel
theorem dX12_picture_2 : decode cX12_picture 2 = .ok (.invokevirtual 269, 3) := by decide +kernel
theorem dX12_picture_5 : decode cX12_picture 5 = .ok (.ifCond .ne 6, 3) := by decide +kernel
theorem dX12_picture_8 : decode cX12_picture 8 = .ok (.bipush (-2), 2) := by decide +kernel
theorem dX12_picture_10 : decode cX12_picture 10 = .ok (.ireturn, 1) := by decide +kernel
theorem dX12_picture_11 : decode cX12_picture 11 = .ok (.aload_n 0, 1) := by decide +kernel
theorem dX12_picture_12 : decode cX12_picture 12 = .ok (.iload_n 1, 1) := by decide +kernel
theorem dX12_picture_13 : decode cX12_picture 13 = .ok (.invokevirtual 214, 3) := by decide +kernel
theorem dX12_picture_16 : decode cX12_picture 16 = .ok (.iload_n 2, 1) := by decide +kernel
theorem dX12_picture_17 : decode cX12_picture 17 = .ok (.tableswitch 74 0 5 #[39, 45, 61, 61, 61, 45], 39) := by decide +kernel
theorem dX12_picture_56 : decode cX12_picture 56 = .ok (.aload_n 0, 1) := by decide +kernel
theorem dX12_picture_57 : decode cX12_picture 57 = .ok (.iload_n 1, 1) := by decide +kernel
theorem dX12_picture_58 : decode cX12_picture 58 = .ok (.invokevirtual 272, 3) := by decide +kernel
theorem dX12_picture_61 : decode cX12_picture 61 = .ok (.ireturn, 1) := by decide +kernel
theorem dX12_picture_62 : decode cX12_picture 62 = .ok (.aload_n 0, 1) := by decide +kernel
theorem dX12_picture_63 : decode cX12_picture 63 = .ok (.iload_n 1, 1) := by decide +kernel
theorem dX12_picture_64 : decode cX12_picture 64 = .ok (.iload_n 2, 1) := by decide +kernel
theorem dX12_picture_65 : decode cX12_picture 65 = .ok (.iconst 1, 1) := by decide +kernel
theorem dX12_picture_66 : decode cX12_picture 66 = .ok (.if_icmp .ne 7, 3) := by decide +kernel
theorem dX12_picture_69 : decode cX12_picture 69 = .ok (.iconst 1, 1) := by decide +kernel
theorem dX12_picture_70 : decode cX12_picture 70 = .ok (.goto 4, 3) := by decide +kernel
theorem dX12_picture_73 : decode cX12_picture 73 = .ok (.iconst 0, 1) := by decide +kernel
theorem dX12_picture_74 : decode cX12_picture 74 = .ok (.invokevirtual 275, 3) := by decide +kernel
theorem dX12_picture_77 : decode cX12_picture 77 = .ok (.ireturn, 1) := by decide +kernel
theorem dX12_picture_78 : decode cX12_picture 78 = .ok (.aload_n 0, 1) := by decide +kernel
theorem dX12_picture_79 : decode cX12_picture 79 = .ok (.getfield 54, 3) := by decide +kernel
theorem dX12_picture_82 : decode cX12_picture 82 = .ok (.iload_n 1, 1) := by decide +kernel
theorem dX12_picture_83 : decode cX12_picture 83 = .ok (.laload, 1) := by decide +kernel
theorem dX12_picture_84 : decode cX12_picture 84 = .ok (.iload_n 2, 1) := by decide +kernel
theorem dX12_picture_85 : decode cX12_picture 85 = .ok (.iconst 2, 1) := by decide +kernel
theorem dX12_picture_86 : decode cX12_picture 86 = .ok (.isub, 1) := by decide +kernel
theorem dX12_picture_87 : decode cX12_picture 87 = .ok (.invokestatic 279, 3) := by decide +kernel
theorem dX12_picture_90 : decode cX12_picture 90 = .ok (.ireturn, 1) := by decide +kernel
theorem dX12_picture_91 : decode cX12_picture 91 = .ok (.bipush (-3), 2) := by decide +kernel
theorem dX12_picture_93 : decode cX12_picture 93 = .ok (.ireturn, 1) := by decide +kernel
theorem dX12_thing_0 : decode cX12_thing 0 = .ok (.iload_n 1, 1) := by decide +kernel
theorem dX12_thing_1 : decode cX12_thing 1 = .ok (.iconst 0, 1) := by decide +kernel
theorem dX12_thing_2 : decode cX12_thing 2 = .ok (.aload_n 0, 1) := by decide +kernel
theorem dX12_thing_3 : decode cX12_thing 3 = .ok (.getfield 169, 3) := by decide +kernel
theorem dX12_thing_6 : decode cX12_thing 6 = .ok (.iconst 1, 1) := by decide +kernel
theorem dX12_thing_7 : decode cX12_thing 7 = .ok (.isub, 1) := by decide +kernel
theorem dX12_thing_8 : decode cX12_thing 8 = .ok (.invokestatic 88, 3) := by decide +kernel
theorem dX12_thing_11 : decode cX12_thing 11 = .ok (.ifCond .ne 6, 3) := by decide +kernel
theorem dX12_thing_14 : decode cX12_thing 14 = .ok (.bipush (-2), 2) := by decide +kernel
theorem dX12_thing_16 : decode cX12_thing 16 = .ok (.ireturn, 1) := by decide +kernel
theorem dX12_thing_17 : decode cX12_thing 17 = .ok (.iload_n 2, 1) := by decide +kernel
theorem dX12_thing_18 : decode cX12_thing 18 = .ok (.iconst 0, 1) := by decide +kernel
theorem dX12_thing_19 : decode cX12_thing 19 = .ok (.iconst 2, 1) := by decide +kernel
theorem dX12_thing_20 : decode cX12_thing 20 = .ok (.invokestatic 88, 3) := by decide +kernel
theorem dX12_thing_23 : decode cX12_thing 23 = .ok (.ifCond .ne 6, 3) := by decide +kernel
theorem dX12_thing_26 : decode cX12_thing 26 = .ok (.bipush (-3), 2) := by decide +kernel
theorem dX12_thing_28 : decode cX12_thing 28 = .ok (.ireturn, 1) := by decide +kernel
theorem dX12_thing_29 : decode cX12_thing 29 = .ok (.iconst 0, 1) := by decide +kernel
theorem dX12_thing_30 : decode cX12_thing 30 = .ok (.istore_n 3, 1) := by decide +kernel
theorem dX12_thing_31 : decode cX12_thing 31 = .ok (.iconst 0, 1) := by decide +kernel
theorem dX12_thing_32 : decode cX12_thing 32 = .ok (.istore 4, 2) := by decide +kernel
theorem dX12_thing_34 : decode cX12_thing 34 = .ok (.iload 4, 2) := by decide +kernel
theorem dX12_thing_36 : decode cX12_thing 36 = .ok (.aload_n 0, 1) := by decide +kernel
theorem dX12_thing_37 : decode cX12_thing 37 = .ok (.getfield 166, 3) := by decide +kernel
theorem dX12_thing_40 : decode cX12_thing 40 = .ok (.if_icmp .ge 48, 3) := by decide +kernel
theorem dX12_thing_43 : decode cX12_thing 43 = .ok (.iload_n 3, 1) := by decide +kernel
theorem dX12_thing_44 : decode cX12_thing 44 = .ok (.aload_n 0, 1) := by decide +kernel
theorem dX12_thing_45 : decode cX12_thing 45 = .ok (.iload 4, 2) := by decide +kernel
theorem dX12_thing_47 : decode cX12_thing 47 = .ok (.iconst 2, 1) := by decide +kernel
theorem dX12_thing_48 : decode cX12_thing 48 = .ok (.iload_n 1, 1) := by decide +kernel
theorem dX12_thing_49 : decode cX12_thing 49 = .ok (.iadd, 1) := by decide +kernel
theorem dX12_thing_50 : decode cX12_thing 50 = .ok (.invokevirtual 211, 3) := by decide +kernel
theorem dX12_thing_53 : decode cX12_thing 53 = .ok (.iload_n 2, 1) := by decide +kernel
theorem dX12_thing_54 : decode cX12_thing 54 = .ok (.iconst 1, 1) := by decide +kernel
theorem dX12_thing_55 : decode cX12_thing 55 = .ok (.isub, 1) := by decide +kernel
theorem dX12_thing_56 : decode cX12_thing 56 = .ok (.if_icmp .lt 23, 3) := by decide +kernel
theorem dX12_thing_59 : decode cX12_thing 59 = .ok (.aload_n 0, 1) := by decide +kernel
theorem dX12_thing_60 : decode cX12_thing 60 = .ok (.iload 4, 2) := by decide +kernel
theorem dX12_thing_62 : decode cX12_thing 62 = .ok (.iconst 2, 1) := by decide +kernel
theorem dX12_thing_63 : decode cX12_thing 63 = .ok (.iload_n 1, 1) := by decide +kernel
theorem dX12_thing_64 : decode cX12_thing 64 = .ok (.iadd, 1) := by decide +kernel
theorem dX12_thing_65 : decode cX12_thing 65 = .ok (.invokevirtual 211, 3) := by decide +kernel
theorem dX12_thing_68 : decode cX12_thing 68 = .ok (.iconst (-1), 1) := by decide +kernel
theorem dX12_thing_69 : decode cX12_thing 69 = .ok (.if_icmp .eq 10, 3) := by decide +kernel
theorem dX12_thing_72 : decode cX12_thing 72 = .ok (.iconst 1, 1) := by decide +kernel
theorem dX12_thing_73 : decode cX12_thing 73 = .ok (.iload 4, 2) := by decide +kernel
theorem dX12_thing_75 : decode cX12_thing 75 = .ok (.ishl, 1) := by decide +kernel
theorem dX12_thing_76 : decode cX12_thing 76 = .ok (.goto 4, 3) := by decide +kernel
theorem dX12_thing_79 : decode cX12_thing 79 = .ok (.iconst 0, 1) := by decide +kernel
theorem dX12_thing_80 : decode cX12_thing 80 = .ok (.ior, 1) := by decide +kernel
theorem dX12_thing_81 : decode cX12_thing 81 = .ok (.istore_n 3, 1) := by decide +kernel
theorem dX12_thing_82 : decode cX12_thing 82 = .ok (.iinc 4 1, 3) := by decide +kernel
theorem dX12_thing_85 : decode cX12_thing 85 = .ok (.goto (-51), 3) := by decide +kernel
theorem dX12_thing_88 : decode cX12_thing 88 = .ok (.iload_n 2, 1) := by decide +kernel
theorem dX12_thing_89 : decode cX12_thing 89 = .ok (.ifCond .ne 12, 3) := by decide +kernel
theorem dX12_thing_92 : decode cX12_thing 92 = .ok (.aload_n 0, 1) := by decide +kernel
theorem dX12_thing_93 : decode cX12_thing 93 = .ok (.getfield 35, 3) := by decide +kernel
theorem dX12_thing_96 : decode cX12_thing 96 = .ok (.iload_n 1, 1) := by decide +kernel
theorem dX12_thing_97 : decode cX12_thing 97 = .ok (.iaload, 1) := by decide +kernel
theorem dX12_thing_98 : decode cX12_thing 98 = .ok (.goto 4, 3) := by decide +kernel
theorem dX12_thing_101 : decode cX12_thing 101 = .ok (.iload_n 3, 1) := by decide +kernel
theorem dX12_thing_102 : decode cX12_thing 102 = .ok (.ireturn, 1) := by decide +kernel
theorem dX12_piece_0 : decode cX12_piece 0 = .ok (.aload_n 0, 1) := by decide +kernel
theorem dX12_piece_1 : decode cX12_piece 1 = .ok (.iload_n 1, 1) := by decide +kernel
theorem dX12_piece_2 : decode cX12_piece 2 = .ok (.invokevirtual 269, 3) := by decide +kernel
theorem dX12_piece_5 : decode cX12_piece 5 = .ok (.ifCond .ne 6, 3) := by decide +kernel
theorem dX12_piece_8 : decode cX12_piece 8 = .ok (.bipush (-2), 2) := by decide +kernel
theorem dX12_piece_10 : decode cX12_piece 10 = .ok (.ireturn, 1) := by decide +kernel
theorem dX12_piece_11 : decode cX12_piece 11 = .ok (.aload_n 0, 1) := by decide +kernel
theorem dX12_piece_12 : decode cX12_piece 12 = .ok (.iload_n 2, 1) := by decide +kernel
theorem dX12_piece_13 : decode cX12_piece 13 = .ok (.invokevirtual 282, 3) := by decide +kernel
theorem dX12_piece_16 : decode cX12_piece 16 = .ok (.ifCond .eq 12, 3) := by decide +kernel
theorem dX12_piece_19 : decode cX12_piece 19 = .ok (.iload_n 3, 1) := by decide +kernel
theorem dX12_piece_20 : decode cX12_piece 20 = .ok (.iconst 0, 1) := by decide +kernel
theorem dX12_piece_21 : decode cX12_piece 21 = .ok (.iconst 2, 1) := by decide +kernel
theorem dX12_piece_22 : decode cX12_piece 22 = .ok (.invokestatic 88, 3) := by decide +kernel
theorem dX12_piece_25 : decode cX12_piece 25 = .ok (.ifCond .ne 6, 3) := by decide +kernel
theorem dX12_piece_28 : decode cX12_piece 28 = .ok (.bipush (-3), 2) := by decide +kernel
theorem dX12_piece_30 : decode cX12_piece 30 = .ok (.ireturn, 1) := by decide +kernel
theorem dX12_piece_31 : decode cX12_piece 31 = .ok (.aload_n 0, 1) := by decide +kernel
theorem dX12_piece_32 : decode cX12_piece 32 = .ok (.iload_n 1, 1) := by decide +kernel
theorem dX12_piece_33 : decode cX12_piece 33 = .ok (.iload_n 2, 1) := by decide +kernel
theorem dX12_piece_34 : decode cX12_piece 34 = .ok (.invokevirtual 192, 3) := by decide +kernel
theorem dX12_piece_37 : decode cX12_piece 37 = .ok (.istore 4, 2) := by decide +kernel
theorem dX12_piece_39 : decode cX12_piece 39 = .ok (.iload 4, 2) := by decide +kernel
theorem dX12_piece_41 : decode cX12_piece 41 = .ok (.iconst (-1), 1) := by decide +kernel
theorem dX12_piece_42 : decode cX12_piece 42 = .ok (.if_icmp .ne 7, 3) := by decide +kernel
theorem dX12_piece_45 : decode cX12_piece 45 = .ok (.iconst (-1), 1) := by decide +kernel
theorem dX12_piece_46 : decode cX12_piece 46 = .ok (.goto 26, 3) := by decide +kernel
theorem dX12_piece_49 : decode cX12_piece 49 = .ok (.iload_n 3, 1) := by decide +kernel
theorem dX12_piece_50 : decode cX12_piece 50 = .ok (.iconst 2, 1) := by decide +kernel
theorem dX12_piece_51 : decode cX12_piece 51 = .ok (.if_icmp .ne 8, 3) := by decide +kernel
theorem dX12_piece_54 : decode cX12_piece 54 = .ok (.iload 4, 2) := by decide +kernel
theorem dX12_piece_56 : decode cX12_piece 56 = .ok (.goto 16, 3) := by decide +kernel
theorem dX12_piece_59 : decode cX12_piece 59 = .ok (.aload_n 0, 1) := by decide +kernel
theorem dX12_piece_60 : decode cX12_piece 60 = .ok (.getfield 38, 3) := by decide +kernel
theorem dX12_piece_63 : decode cX12_piece 63 = .ok (.iconst 4, 1) := by decide +kernel
theorem dX12_piece_64 : decode cX12_piece 64 = .ok (.iload 4, 2) := by decide +kernel
theorem dX12_piece_66 : decode cX12_piece 66 = .ok (.imul, 1) := by decide +kernel
theorem dX12_piece_67 : decode cX12_piece 67 = .ok (.iconst 3, 1) := by decide +kernel
theorem dX12_piece_68 : decode cX12_piece 68 = .ok (.iadd, 1) := by decide +kernel
theorem dX12_piece_69 : decode cX12_piece 69 = .ok (.iload_n 3, 1) := by decide +kernel
theorem dX12_piece_70 : decode cX12_piece 70 = .ok (.iadd, 1) := by decide +kernel
theorem dX12_piece_71 : decode cX12_piece 71 = .ok (.iaload, 1) := by decide +kernel
theorem dX12_piece_72 : decode cX12_piece 72 = .ok (.ireturn, 1) := by decide +kernel
theorem dX12_told_0 : decode cX12_told 0 = .ok (.iload_n 1, 1) := by decide +kernel
theorem dX12_told_1 : decode cX12_told 1 = .ok (.ifCond .lt 12, 3) := by decide +kernel
theorem dX12_told_4 : decode cX12_told 4 = .ok (.iload_n 2, 1) := by decide +kernel
theorem dX12_told_5 : decode cX12_told 5 = .ok (.iconst 0, 1) := by decide +kernel
theorem dX12_told_6 : decode cX12_told 6 = .ok (.iconst 1, 1) := by decide +kernel
theorem dX12_told_7 : decode cX12_told 7 = .ok (.invokestatic 88, 3) := by decide +kernel
theorem dX12_told_10 : decode cX12_told 10 = .ok (.ifCond .ne 6, 3) := by decide +kernel
theorem dX12_told_13 : decode cX12_told 13 = .ok (.bipush (-3), 2) := by decide +kernel
theorem dX12_told_15 : decode cX12_told 15 = .ok (.ireturn, 1) := by decide +kernel
theorem dX12_told_16 : decode cX12_told 16 = .ok (.iload_n 1, 1) := by decide +kernel
theorem dX12_told_17 : decode cX12_told 17 = .ok (.aload_n 0, 1) := by decide +kernel
theorem dX12_told_18 : decode cX12_told 18 = .ok (.getfield 38, 3) := by decide +kernel
theorem dX12_told_21 : decode cX12_told 21 = .ok (.iconst 0, 1) := by decide +kernel
theorem dX12_told_22 : decode cX12_told 22 = .ok (.iaload, 1) := by decide +kernel
theorem dX12_told_23 : decode cX12_told 23 = .ok (.if_icmp .ge 18, 3) := by decide +kernel
theorem dX12_told_26 : decode cX12_told 26 = .ok (.aload_n 0, 1) := by decide +kernel
theorem dX12_told_27 : decode cX12_told 27 = .ok (.getfield 38, 3) := by decide +kernel
theorem dX12_told_30 : decode cX12_told 30 = .ok (.iconst 4, 1) := by decide +kernel
theorem dX12_told_31 : decode cX12_told 31 = .ok (.iload_n 1, 1) := by decide +kernel
theorem dX12_told_32 : decode cX12_told 32 = .ok (.imul, 1) := by decide +kernel
theorem dX12_told_33 : decode cX12_told 33 = .ok (.iconst 1, 1) := by decide +kernel
theorem dX12_told_34 : decode cX12_told 34 = .ok (.iadd, 1) := by decide +kernel
theorem dX12_told_35 : decode cX12_told 35 = .ok (.iload_n 2, 1) := by decide +kernel
theorem dX12_told_36 : decode cX12_told 36 = .ok (.iadd, 1) := by decide +kernel
theorem dX12_told_37 : decode cX12_told 37 = .ok (.iaload, 1) := by decide +kernel
theorem dX12_told_38 : decode cX12_told 38 = .ok (.goto 4, 3) := by decide +kernel
theorem dX12_told_41 : decode cX12_told 41 = .ok (.iconst (-1), 1) := by decide +kernel
theorem dX12_told_42 : decode cX12_told 42 = .ok (.ireturn, 1) := by decide +kernel
theorem dX12_sun_0 : decode cX12_sun 0 = .ok (.iload_n 1, 1) := by decide +kernel
theorem dX12_sun_1 : decode cX12_sun 1 = .ok (.iconst 0, 1) := by decide +kernel
theorem dX12_sun_2 : decode cX12_sun 2 = .ok (.bipush 47, 2) := by decide +kernel
theorem dX12_sun_4 : decode cX12_sun 4 = .ok (.invokestatic 88, 3) := by decide +kernel
theorem dX12_sun_7 : decode cX12_sun 7 = .ok (.ifCond .eq 12, 3) := by decide +kernel
theorem dX12_sun_10 : decode cX12_sun 10 = .ok (.iload_n 2, 1) := by decide +kernel
theorem dX12_sun_11 : decode cX12_sun 11 = .ok (.iconst 0, 1) := by decide +kernel
theorem dX12_sun_12 : decode cX12_sun 12 = .ok (.iconst 1, 1) := by decide +kernel
theorem dX12_sun_13 : decode cX12_sun 13 = .ok (.invokestatic 88, 3) := by decide +kernel
theorem dX12_sun_16 : decode cX12_sun 16 = .ok (.ifCond .ne 6, 3) := by decide +kernel
theorem dX12_sun_19 : decode cX12_sun 19 = .ok (.bipush (-3), 2) := by decide +kernel
theorem dX12_sun_21 : decode cX12_sun 21 = .ok (.ireturn, 1) := by decide +kernel
theorem dX12_sun_22 : decode cX12_sun 22 = .ok (.aload_n 0, 1) := by decide +kernel
theorem dX12_sun_23 : decode cX12_sun 23 = .ok (.iload_n 1, 1) := by decide +kernel
theorem dX12_sun_24 : decode cX12_sun 24 = .ok (.invokevirtual 198, 3) := by decide +kernel
theorem dX12_sun_27 : decode cX12_sun 27 = .ok (.ifCond .ne 7, 3) := by decide +kernel
theorem dX12_sun_30 : decode cX12_sun 30 = .ok (.iconst (-1), 1) := by decide +kernel
theorem dX12_sun_31 : decode cX12_sun 31 = .ok (.goto 20, 3) := by decide +kernel
theorem dX12_sun_34 : decode cX12_sun 34 = .ok (.iload_n 2, 1) := by decide +kernel
theorem dX12_sun_35 : decode cX12_sun 35 = .ok (.ifCond .ne 11, 3) := by decide +kernel
theorem dX12_sun_38 : decode cX12_sun 38 = .ok (.aload_n 0, 1) := by decide +kernel
theorem dX12_sun_39 : decode cX12_sun 39 = .ok (.iload_n 1, 1) := by decide +kernel
theorem dX12_sun_40 : decode cX12_sun 40 = .ok (.invokevirtual 195, 3) := by decide +kernel
theorem dX12_sun_43 : decode cX12_sun 43 = .ok (.goto 8, 3) := by decide +kernel
theorem dX12_sun_46 : decode cX12_sun 46 = .ok (.aload_n 0, 1) := by decide +kernel
theorem dX12_sun_47 : decode cX12_sun 47 = .ok (.iload_n 1, 1) := by decide +kernel
theorem dX12_sun_48 : decode cX12_sun 48 = .ok (.invokevirtual 205, 3) := by decide +kernel
theorem dX12_sun_51 : decode cX12_sun 51 = .ok (.ireturn, 1) := by decide +kernel
theorem dX12_put_0 : decode cX12_put 0 = .ok (.aload_n 0, 1) := by decide +kernel
theorem dX12_put_1 : decode cX12_put 1 = .ok (.getfield 189, 3) := by decide +kernel
theorem dX12_put_4 : decode cX12_put 4 = .ok (.bipush 8, 2) := by decide +kernel
theorem dX12_put_6 : decode cX12_put 6 = .ok (.if_icmp .ne 31, 3) := by decide +kernel
theorem dX12_put_9 : decode cX12_put 9 = .ok (.aload_n 0, 1) := by decide +kernel
theorem dX12_put_10 : decode cX12_put 10 = .ok (.getfield 44, 3) := by decide +kernel
theorem dX12_put_13 : decode cX12_put 13 = .ok (.sipush 225, 3) := by decide +kernel
theorem dX12_put_16 : decode cX12_put 16 = .ok (.aload_n 0, 1) := by decide +kernel
theorem dX12_put_17 : decode cX12_put 17 = .ok (.getfield 44, 3) := by decide +kernel
theorem dX12_put_20 : decode cX12_put 20 = .ok (.iconst 0, 1) := by decide +kernel
theorem dX12_put_21 : decode cX12_put 21 = .ok (.sipush 1575, 3) := by decide +kernel
theorem dX12_put_24 : decode cX12_put 24 = .ok (.invokestatic 172, 3) := by decide +kernel
theorem dX12_put_27 : decode cX12_put 27 = .ok (.aload_n 0, 1) := by decide +kernel
theorem dX12_put_28 : decode cX12_put 28 = .ok (.dup, 1) := by decide +kernel
theorem dX12_put_29 : decode cX12_put 29 = .ok (.getfield 189, 3) := by decide +kernel
theorem dX12_put_32 : decode cX12_put 32 = .ok (.iconst 1, 1) := by decide +kernel
theorem dX12_put_33 : decode cX12_put 33 = .ok (.isub, 1) := by decide +kernel
theorem dX12_put_34 : decode cX12_put 34 = .ok (.putfield 189, 3) := by decide +kernel
theorem dX12_put_37 : decode cX12_put 37 = .ok (.aload_n 0, 1) := by decide +kernel
theorem dX12_put_38 : decode cX12_put 38 = .ok (.getfield 38, 3) := by decide +kernel
theorem dX12_put_41 : decode cX12_put 41 = .ok (.iconst 0, 1) := by decide +kernel
theorem dX12_put_42 : decode cX12_put 42 = .ok (.aload_n 0, 1) := by decide +kernel
theorem dX12_put_43 : decode cX12_put 43 = .ok (.getfield 44, 3) := by decide +kernel
theorem dX12_put_46 : decode cX12_put 46 = .ok (.sipush 225, 3) := by decide +kernel
theorem dX12_put_49 : decode cX12_put 49 = .ok (.aload_n 0, 1) := by decide +kernel
theorem dX12_put_50 : decode cX12_put 50 = .ok (.getfield 189, 3) := by decide +kernel
theorem dX12_put_53 : decode cX12_put 53 = .ok (.imul, 1) := by decide +kernel
theorem dX12_put_54 : decode cX12_put 54 = .ok (.sipush 225, 3) := by decide +kernel
theorem dX12_put_57 : decode cX12_put 57 = .ok (.invokestatic 172, 3) := by decide +kernel
theorem dX12_put_60 : decode cX12_put 60 = .ok (.aload_n 0, 1) := by decide +kernel
theorem dX12_put_61 : decode cX12_put 61 = .ok (.dup, 1) := by decide +kernel
theorem dX12_put_62 : decode cX12_put 62 = .ok (.getfield 189, 3) := by decide +kernel
theorem dX12_put_65 : decode cX12_put 65 = .ok (.iconst 1, 1) := by decide +kernel
theorem dX12_put_66 : decode cX12_put 66 = .ok (.iadd, 1) := by decide +kernel
theorem dX12_put_67 : decode cX12_put 67 = .ok (.putfield 189, 3) := by decide +kernel
theorem dX12_put_70 : decode cX12_put 70 = .ok (.return_, 1) := by decide +kernel
theorem dX12_newPiece_0 : decode cX12_newPiece 0 = .ok (.aload_n 0, 1) := by decide +kernel
theorem dX12_newPiece_1 : decode cX12_newPiece 1 = .ok (.invokevirtual 285, 3) := by decide +kernel
theorem dX12_newPiece_4 : decode cX12_newPiece 4 = .ok (.aload_n 0, 1) := by decide +kernel
theorem dX12_newPiece_5 : decode cX12_newPiece 5 = .ok (.iload_n 1, 1) := by decide +kernel
theorem dX12_newPiece_6 : decode cX12_newPiece 6 = .ok (.iload_n 2, 1) := by decide +kernel
theorem dX12_newPiece_7 : decode cX12_newPiece 7 = .ok (.iload_n 3, 1) := by decide +kernel
theorem dX12_newPiece_8 : decode cX12_newPiece 8 = .ok (.iload 4, 2) := by decide +kernel
theorem dX12_newPiece_10 : decode cX12_newPiece 10 = .ok (.invokevirtual 182, 3) := by decide +kernel
theorem dX12_newPiece_13 : decode cX12_newPiece 13 = .ok (.aload_n 0, 1) := by decide +kernel
theorem dX12_newPiece_14 : decode cX12_newPiece 14 = .ok (.getfield 38, 3) := by decide +kernel
theorem dX12_newPiece_17 : decode cX12_newPiece 17 = .ok (.iconst 0, 1) := by decide +kernel
theorem dX12_newPiece_18 : decode cX12_newPiece 18 = .ok (.iaload, 1) := by decide +kernel
theorem dX12_newPiece_19 : decode cX12_newPiece 19 = .ok (.ireturn, 1) := by decide +kernel
theorem dX12_point_0 : decode cX12_point 0 = .ok (.aload_n 0, 1) := by decide +kernel
theorem dX12_point_1 : decode cX12_point 1 = .ok (.iload_n 1, 1) := by decide +kernel
theorem dX12_point_2 : decode cX12_point 2 = .ok (.invokevirtual 269, 3) := by decide +kernel
theorem dX12_point_5 : decode cX12_point 5 = .ok (.ifCond .ne 6, 3) := by decide +kernel
theorem dX12_point_8 : decode cX12_point 8 = .ok (.bipush (-2), 2) := by decide +kernel
theorem dX12_point_10 : decode cX12_point 10 = .ok (.ireturn, 1) := by decide +kernel
theorem dX12_point_11 : decode cX12_point 11 = .ok (.iload_n 2, 1) := by decide +kernel
theorem dX12_point_12 : decode cX12_point 12 = .ok (.iconst 0, 1) := by decide +kernel
theorem dX12_point_13 : decode cX12_point 13 = .ok (.bipush 24, 2) := by decide +kernel
theorem dX12_point_15 : decode cX12_point 15 = .ok (.invokestatic 88, 3) := by decide +kernel
theorem dX12_point_18 : decode cX12_point 18 = .ok (.ifCond .eq 24, 3) := by decide +kernel
theorem dX12_point_21 : decode cX12_point 21 = .ok (.iload_n 3, 1) := by decide +kernel
theorem dX12_point_22 : decode cX12_point 22 = .ok (.iconst 0, 1) := by decide +kernel
theorem dX12_point_23 : decode cX12_point 23 = .ok (.bipush 9, 2) := by decide +kernel
theorem dX12_point_25 : decode cX12_point 25 = .ok (.invokestatic 88, 3) := by decide +kernel
theorem dX12_point_28 : decode cX12_point 28 = .ok (.ifCond .eq 14, 3) := by decide +kernel
theorem dX12_point_31 : decode cX12_point 31 = .ok (.aload_n 0, 1) := by decide +kernel
theorem dX12_point_32 : decode cX12_point 32 = .ok (.iload_n 1, 1) := by decide +kernel
theorem dX12_point_33 : decode cX12_point 33 = .ok (.iconst 0, 1) := by decide +kernel
theorem dX12_point_34 : decode cX12_point 34 = .ok (.iload_n 2, 1) := by decide +kernel
theorem dX12_point_35 : decode cX12_point 35 = .ok (.iload_n 3, 1) := by decide +kernel
theorem dX12_point_36 : decode cX12_point 36 = .ok (.invokevirtual 288, 3) := by decide +kernel
theorem dX12_point_39 : decode cX12_point 39 = .ok (.goto 5, 3) := by decide +kernel
theorem dX12_point_42 : decode cX12_point 42 = .ok (.bipush (-3), 2) := by decide +kernel
theorem dX12_point_44 : decode cX12_point 44 = .ok (.ireturn, 1) := by decide +kernel
theorem dX12_length_0 : decode cX12_length 0 = .ok (.aload_n 0, 1) := by decide +kernel
theorem dX12_length_1 : decode cX12_length 1 = .ok (.iload_n 1, 1) := by decide +kernel
theorem dX12_length_2 : decode cX12_length 2 = .ok (.invokevirtual 269, 3) := by decide +kernel
theorem dX12_length_5 : decode cX12_length 5 = .ok (.ifCond .ne 6, 3) := by decide +kernel
theorem dX12_length_8 : decode cX12_length 8 = .ok (.bipush (-2), 2) := by decide +kernel
theorem dX12_length_10 : decode cX12_length 10 = .ok (.ireturn, 1) := by decide +kernel
theorem dX12_length_11 : decode cX12_length 11 = .ok (.iload_n 2, 1) := by decide +kernel
theorem dX12_length_12 : decode cX12_length 12 = .ok (.iconst 0, 1) := by decide +kernel
theorem dX12_length_13 : decode cX12_length 13 = .ok (.sipush 999, 3) := by decide +kernel
theorem dX12_length_16 : decode cX12_length 16 = .ok (.invokestatic 88, 3) := by decide +kernel
theorem dX12_length_19 : decode cX12_length 19 = .ok (.ifCond .eq 24, 3) := by decide +kernel
theorem dX12_length_22 : decode cX12_length 22 = .ok (.iload_n 3, 1) := by decide +kernel
theorem dX12_length_23 : decode cX12_length 23 = .ok (.iconst 0, 1) := by decide +kernel
theorem dX12_length_24 : decode cX12_length 24 = .ok (.bipush 99, 2) := by decide +kernel
theorem dX12_length_26 : decode cX12_length 26 = .ok (.invokestatic 88, 3) := by decide +kernel
theorem dX12_length_29 : decode cX12_length 29 = .ok (.ifCond .eq 14, 3) := by decide +kernel
theorem dX12_length_32 : decode cX12_length 32 = .ok (.aload_n 0, 1) := by decide +kernel
theorem dX12_length_33 : decode cX12_length 33 = .ok (.iload_n 1, 1) := by decide +kernel
theorem dX12_length_34 : decode cX12_length 34 = .ok (.iconst 1, 1) := by decide +kernel
theorem dX12_length_35 : decode cX12_length 35 = .ok (.iload_n 2, 1) := by decide +kernel
theorem dX12_length_36 : decode cX12_length 36 = .ok (.iload_n 3, 1) := by decide +kernel
theorem dX12_length_37 : decode cX12_length 37 = .ok (.invokevirtual 288, 3) := by decide +kernel
theorem dX12_length_40 : decode cX12_length 40 = .ok (.goto 5, 3) := by decide +kernel
theorem dX12_length_43 : decode cX12_length 43 = .ok (.bipush (-3), 2) := by decide +kernel
theorem dX12_length_45 : decode cX12_length 45 = .ok (.ireturn, 1) := by decide +kernel
theorem dX12_see_0 : decode cX12_see 0 = .ok (.aload_n 0, 1) := by decide +kernel
theorem dX12_see_1 : decode cX12_see 1 = .ok (.iload_n 1, 1) := by decide +kernel
theorem dX12_see_2 : decode cX12_see 2 = .ok (.invokevirtual 269, 3) := by decide +kernel
theorem dX12_see_5 : decode cX12_see 5 = .ok (.ifCond .eq 17, 3) := by decide +kernel
theorem dX12_see_8 : decode cX12_see 8 = .ok (.iload_n 2, 1) := by decide +kernel
theorem dX12_see_9 : decode cX12_see 9 = .ok (.iconst 0, 1) := by decide +kernel
theorem dX12_see_10 : decode cX12_see 10 = .ok (.aload_n 0, 1) := by decide +kernel
theorem dX12_see_11 : decode cX12_see 11 = .ok (.getfield 169, 3) := by decide +kernel
theorem dX12_see_14 : decode cX12_see 14 = .ok (.iconst 1, 1) := by decide +kernel
theorem dX12_see_15 : decode cX12_see 15 = .ok (.isub, 1) := by decide +kernel
theorem dX12_see_16 : decode cX12_see 16 = .ok (.invokestatic 88, 3) := by decide +kernel
theorem dX12_see_19 : decode cX12_see 19 = .ok (.ifCond .ne 6, 3) := by decide +kernel
theorem dX12_see_22 : decode cX12_see 22 = .ok (.bipush (-2), 2) := by decide +kernel
theorem dX12_see_24 : decode cX12_see 24 = .ok (.ireturn, 1) := by decide +kernel
theorem dX12_see_25 : decode cX12_see 25 = .ok (.iload_n 3, 1) := by decide +kernel
theorem dX12_see_26 : decode cX12_see 26 = .ok (.iconst 0, 1) := by decide +kernel
theorem dX12_see_27 : decode cX12_see 27 = .ok (.aload_n 0, 1) := by decide +kernel
theorem dX12_see_28 : decode cX12_see 28 = .ok (.iconst 2, 1) := by decide +kernel
theorem dX12_see_29 : decode cX12_see 29 = .ok (.iload_n 2, 1) := by decide +kernel
theorem dX12_see_30 : decode cX12_see 30 = .ok (.iadd, 1) := by decide +kernel
theorem dX12_see_31 : decode cX12_see 31 = .ok (.invokevirtual 292, 3) := by decide +kernel
theorem dX12_see_34 : decode cX12_see 34 = .ok (.invokestatic 88, 3) := by decide +kernel
theorem dX12_see_37 : decode cX12_see 37 = .ok (.ifCond .eq 16, 3) := by decide +kernel
theorem dX12_see_40 : decode cX12_see 40 = .ok (.aload_n 0, 1) := by decide +kernel
theorem dX12_see_41 : decode cX12_see 41 = .ok (.iload_n 1, 1) := by decide +kernel
theorem dX12_see_42 : decode cX12_see 42 = .ok (.iconst 2, 1) := by decide +kernel
theorem dX12_see_43 : decode cX12_see 43 = .ok (.iload_n 2, 1) := by decide +kernel
theorem dX12_see_44 : decode cX12_see 44 = .ok (.iadd, 1) := by decide +kernel
theorem dX12_see_45 : decode cX12_see 45 = .ok (.iload_n 3, 1) := by decide +kernel
theorem dX12_see_46 : decode cX12_see 46 = .ok (.iconst 0, 1) := by decide +kernel
theorem dX12_see_47 : decode cX12_see 47 = .ok (.invokevirtual 288, 3) := by decide +kernel
theorem dX12_see_50 : decode cX12_see 50 = .ok (.goto 5, 3) := by decide +kernel
theorem dX12_see_53 : decode cX12_see 53 = .ok (.bipush (-3), 2) := by decide +kernel
theorem dX12_see_55 : decode cX12_see 55 = .ok (.ireturn, 1) := by decide +kernel
theorem dX12_strike_0 : decode cX12_strike 0 = .ok (.aload_n 0, 1) := by decide +kernel
theorem dX12_strike_1 : decode cX12_strike 1 = .ok (.iload_n 1, 1) := by decide +kernel
theorem dX12_strike_2 : decode cX12_strike 2 = .ok (.invokevirtual 269, 3) := by decide +kernel
theorem dX12_strike_5 : decode cX12_strike 5 = .ok (.ifCond .ne 6, 3) := by decide +kernel
theorem dX12_strike_8 : decode cX12_strike 8 = .ok (.bipush (-2), 2) := by decide +kernel
theorem dX12_strike_10 : decode cX12_strike 10 = .ok (.ireturn, 1) := by decide +kernel
theorem dX12_strike_11 : decode cX12_strike 11 = .ok (.aload_n 0, 1) := by decide +kernel
theorem dX12_strike_12 : decode cX12_strike 12 = .ok (.iload_n 2, 1) := by decide +kernel
theorem dX12_strike_13 : decode cX12_strike 13 = .ok (.invokevirtual 282, 3) := by decide +kernel
theorem dX12_strike_16 : decode cX12_strike 16 = .ok (.ifCond .ne 6, 3) := by decide +kernel
theorem dX12_strike_19 : decode cX12_strike 19 = .ok (.bipush (-3), 2) := by decide +kernel
theorem dX12_strike_21 : decode cX12_strike 21 = .ok (.ireturn, 1) := by decide +kernel
theorem dX12_strike_22 : decode cX12_strike 22 = .ok (.aload_n 0, 1) := by decide +kernel
theorem dX12_strike_23 : decode cX12_strike 23 = .ok (.iload_n 1, 1) := by decide +kernel
theorem dX12_strike_24 : decode cX12_strike 24 = .ok (.iload_n 2, 1) := by decide +kernel
theorem dX12_strike_25 : decode cX12_strike 25 = .ok (.invokevirtual 192, 3) := by decide +kernel
theorem dX12_strike_28 : decode cX12_strike 28 = .ok (.istore_n 3, 1) := by decide +kernel
theorem dX12_strike_29 : decode cX12_strike 29 = .ok (.iload_n 3, 1) := by decide +kernel
theorem dX12_strike_30 : decode cX12_strike 30 = .ok (.iconst (-1), 1) := by decide +kernel
theorem dX12_strike_31 : decode cX12_strike 31 = .ok (.if_icmp .ne 6, 3) := by decide +kernel
theorem dX12_strike_34 : decode cX12_strike 34 = .ok (.bipush (-4), 2) := by decide +kernel
theorem dX12_strike_36 : decode cX12_strike 36 = .ok (.ireturn, 1) := by decide +kernel
theorem dX12_strike_37 : decode cX12_strike 37 = .ok (.aload_n 0, 1) := by decide +kernel
theorem dX12_strike_38 : decode cX12_strike 38 = .ok (.invokevirtual 285, 3) := by decide +kernel
theorem dX12_strike_41 : decode cX12_strike 41 = .ok (.aload_n 0, 1) := by decide +kernel
theorem dX12_strike_42 : decode cX12_strike 42 = .ok (.iload_n 3, 1) := by decide +kernel
theorem dX12_strike_43 : decode cX12_strike 43 = .ok (.invokevirtual 295, 3) := by decide +kernel
theorem dX12_strike_46 : decode cX12_strike 46 = .ok (.aload_n 0, 1) := by decide +kernel
theorem dX12_strike_47 : decode cX12_strike 47 = .ok (.getfield 38, 3) := by decide +kernel
theorem dX12_strike_50 : decode cX12_strike 50 = .ok (.iconst 0, 1) := by decide +kernel
theorem dX12_strike_51 : decode cX12_strike 51 = .ok (.iaload, 1) := by decide +kernel
theorem dX12_strike_52 : decode cX12_strike 52 = .ok (.ireturn, 1) := by decide +kernel
theorem dX12_undo_0 : decode cX12_undo 0 = .ok (.aload_n 0, 1) := by decide +kernel
theorem dX12_undo_1 : decode cX12_undo 1 = .ok (.getfield 189, 3) := by decide +kernel
theorem dX12_undo_4 : decode cX12_undo 4 = .ok (.ifCond .ne 6, 3) := by decide +kernel
theorem dX12_undo_7 : decode cX12_undo 7 = .ok (.bipush (-4), 2) := by decide +kernel
theorem dX12_undo_9 : decode cX12_undo 9 = .ok (.ireturn, 1) := by decide +kernel
theorem dX12_undo_10 : decode cX12_undo 10 = .ok (.aload_n 0, 1) := by decide +kernel
theorem dX12_undo_11 : decode cX12_undo 11 = .ok (.dup, 1) := by decide +kernel
theorem dX12_undo_12 : decode cX12_undo 12 = .ok (.getfield 189, 3) := by decide +kernel
theorem dX12_undo_15 : decode cX12_undo 15 = .ok (.iconst 1, 1) := by decide +kernel
theorem dX12_undo_16 : decode cX12_undo 16 = .ok (.isub, 1) := by decide +kernel
theorem dX12_undo_17 : decode cX12_undo 17 = .ok (.putfield 189, 3) := by decide +kernel
theorem dX12_undo_20 : decode cX12_undo 20 = .ok (.aload_n 0, 1) := by decide +kernel
theorem dX12_undo_21 : decode cX12_undo 21 = .ok (.getfield 44, 3) := by decide +kernel
theorem dX12_undo_24 : decode cX12_undo 24 = .ok (.sipush 225, 3) := by decide +kernel
theorem dX12_undo_27 : decode cX12_undo 27 = .ok (.aload_n 0, 1) := by decide +kernel
theorem dX12_undo_28 : decode cX12_undo 28 = .ok (.getfield 189, 3) := by decide +kernel
theorem dX12_undo_31 : decode cX12_undo 31 = .ok (.imul, 1) := by decide +kernel
theorem dX12_undo_32 : decode cX12_undo 32 = .ok (.aload_n 0, 1) := by decide +kernel
theorem dX12_undo_33 : decode cX12_undo 33 = .ok (.getfield 38, 3) := by decide +kernel
theorem dX12_undo_36 : decode cX12_undo 36 = .ok (.iconst 0, 1) := by decide +kernel
theorem dX12_undo_37 : decode cX12_undo 37 = .ok (.sipush 225, 3) := by decide +kernel
theorem dX12_undo_40 : decode cX12_undo 40 = .ok (.invokestatic 172, 3) := by decide +kernel
theorem dX12_undo_43 : decode cX12_undo 43 = .ok (.aload_n 0, 1) := by decide +kernel
theorem dX12_undo_44 : decode cX12_undo 44 = .ok (.getfield 189, 3) := by decide +kernel
theorem dX12_undo_47 : decode cX12_undo 47 = .ok (.ireturn, 1) := by decide +kernel
theorem dX12_keep_0 : decode cX12_keep 0 = .ok (.iload_n 1, 1) := by decide +kernel
theorem dX12_keep_1 : decode cX12_keep 1 = .ok (.iconst 0, 1) := by decide +kernel
theorem dX12_keep_2 : decode cX12_keep 2 = .ok (.iconst 1, 1) := by decide +kernel
theorem dX12_keep_3 : decode cX12_keep 3 = .ok (.invokestatic 88, 3) := by decide +kernel
theorem dX12_keep_6 : decode cX12_keep 6 = .ok (.ifCond .ne 6, 3) := by decide +kernel
theorem dX12_keep_9 : decode cX12_keep 9 = .ok (.bipush (-2), 2) := by decide +kernel
theorem dX12_keep_11 : decode cX12_keep 11 = .ok (.ireturn, 1) := by decide +kernel
theorem dX12_keep_12 : decode cX12_keep 12 = .ok (.aload_n 0, 1) := by decide +kernel
theorem dX12_keep_13 : decode cX12_keep 13 = .ok (.getfield 38, 3) := by decide +kernel
theorem dX12_keep_16 : decode cX12_keep 16 = .ok (.iconst 0, 1) := by decide +kernel
theorem dX12_keep_17 : decode cX12_keep 17 = .ok (.aload_n 0, 1) := by decide +kernel
theorem dX12_keep_18 : decode cX12_keep 18 = .ok (.getfield 47, 3) := by decide +kernel
theorem dX12_keep_21 : decode cX12_keep 21 = .ok (.sipush 225, 3) := by decide +kernel
theorem dX12_keep_24 : decode cX12_keep 24 = .ok (.iload_n 1, 1) := by decide +kernel
theorem dX12_keep_25 : decode cX12_keep 25 = .ok (.imul, 1) := by decide +kernel
theorem dX12_keep_26 : decode cX12_keep 26 = .ok (.sipush 225, 3) := by decide +kernel
theorem dX12_keep_29 : decode cX12_keep 29 = .ok (.invokestatic 172, 3) := by decide +kernel
theorem dX12_keep_32 : decode cX12_keep 32 = .ok (.aload_n 0, 1) := by decide +kernel
theorem dX12_keep_33 : decode cX12_keep 33 = .ok (.getfield 50, 3) := by decide +kernel
theorem dX12_keep_36 : decode cX12_keep 36 = .ok (.iload_n 1, 1) := by decide +kernel
theorem dX12_keep_37 : decode cX12_keep 37 = .ok (.iconst 1, 1) := by decide +kernel
theorem dX12_keep_38 : decode cX12_keep 38 = .ok (.bastore, 1) := by decide +kernel
theorem dX12_keep_39 : decode cX12_keep 39 = .ok (.aload_n 0, 1) := by decide +kernel
theorem dX12_keep_40 : decode cX12_keep 40 = .ok (.getfield 38, 3) := by decide +kernel
theorem dX12_keep_43 : decode cX12_keep 43 = .ok (.iconst 0, 1) := by decide +kernel
theorem dX12_keep_44 : decode cX12_keep 44 = .ok (.iaload, 1) := by decide +kernel
theorem dX12_keep_45 : decode cX12_keep 45 = .ok (.ireturn, 1) := by decide +kernel
theorem dX12_back_0 : decode cX12_back 0 = .ok (.iload_n 1, 1) := by decide +kernel
theorem dX12_back_1 : decode cX12_back 1 = .ok (.iconst 0, 1) := by decide +kernel
theorem dX12_back_2 : decode cX12_back 2 = .ok (.iconst 1, 1) := by decide +kernel
theorem dX12_back_3 : decode cX12_back 3 = .ok (.invokestatic 88, 3) := by decide +kernel
theorem dX12_back_6 : decode cX12_back 6 = .ok (.ifCond .ne 6, 3) := by decide +kernel
theorem dX12_back_9 : decode cX12_back 9 = .ok (.bipush (-2), 2) := by decide +kernel
theorem dX12_back_11 : decode cX12_back 11 = .ok (.ireturn, 1) := by decide +kernel
theorem dX12_back_12 : decode cX12_back 12 = .ok (.aload_n 0, 1) := by decide +kernel
theorem dX12_back_13 : decode cX12_back 13 = .ok (.getfield 50, 3) := by decide +kernel
theorem dX12_back_16 : decode cX12_back 16 = .ok (.iload_n 1, 1) := by decide +kernel
theorem dX12_back_17 : decode cX12_back 17 = .ok (.baload, 1) := by decide +kernel
theorem dX12_back_18 : decode cX12_back 18 = .ok (.ifCond .ne 6, 3) := by decide +kernel
theorem dX12_back_21 : decode cX12_back 21 = .ok (.bipush (-4), 2) := by decide +kernel
theorem dX12_back_23 : decode cX12_back 23 = .ok (.ireturn, 1) := by decide +kernel
theorem dX12_back_24 : decode cX12_back 24 = .ok (.aload_n 0, 1) := by decide +kernel
theorem dX12_back_25 : decode cX12_back 25 = .ok (.getfield 47, 3) := by decide +kernel
theorem dX12_back_28 : decode cX12_back 28 = .ok (.sipush 225, 3) := by decide +kernel
theorem dX12_back_31 : decode cX12_back 31 = .ok (.iload_n 1, 1) := by decide +kernel
theorem dX12_back_32 : decode cX12_back 32 = .ok (.imul, 1) := by decide +kernel
theorem dX12_back_33 : decode cX12_back 33 = .ok (.aload_n 0, 1) := by decide +kernel
theorem dX12_back_34 : decode cX12_back 34 = .ok (.getfield 38, 3) := by decide +kernel
theorem dX12_back_37 : decode cX12_back 37 = .ok (.iconst 0, 1) := by decide +kernel
theorem dX12_back_38 : decode cX12_back 38 = .ok (.sipush 225, 3) := by decide +kernel
theorem dX12_back_41 : decode cX12_back 41 = .ok (.invokestatic 172, 3) := by decide +kernel
theorem dX12_back_44 : decode cX12_back 44 = .ok (.aload_n 0, 1) := by decide +kernel
theorem dX12_back_45 : decode cX12_back 45 = .ok (.iconst 0, 1) := by decide +kernel
theorem dX12_back_46 : decode cX12_back 46 = .ok (.putfield 189, 3) := by decide +kernel
theorem dX12_back_49 : decode cX12_back 49 = .ok (.aload_n 0, 1) := by decide +kernel
theorem dX12_back_50 : decode cX12_back 50 = .ok (.getfield 38, 3) := by decide +kernel
theorem dX12_back_53 : decode cX12_back 53 = .ok (.iconst 0, 1) := by decide +kernel
theorem dX12_back_54 : decode cX12_back 54 = .ok (.iaload, 1) := by decide +kernel
theorem dX12_back_55 : decode cX12_back 55 = .ok (.ireturn, 1) := by decide +kernel
theorem dX12_areTwo_0 : decode cX12_areTwo 0 = .ok (.aload_n 0, 1) := by decide +kernel
theorem dX12_areTwo_1 : decode cX12_areTwo 1 = .ok (.iload_n 1, 1) := by decide +kernel
theorem dX12_areTwo_2 : decode cX12_areTwo 2 = .ok (.invokevirtual 269, 3) := by decide +kernel
theorem dX12_areTwo_5 : decode cX12_areTwo 5 = .ok (.ifCond .eq 20, 3) := by decide +kernel
theorem dX12_areTwo_8 : decode cX12_areTwo 8 = .ok (.aload_n 0, 1) := by decide +kernel
theorem dX12_areTwo_9 : decode cX12_areTwo 9 = .ok (.iload_n 2, 1) := by decide +kernel
theorem dX12_areTwo_10 : decode cX12_areTwo 10 = .ok (.invokevirtual 269, 3) := by decide +kernel
theorem dX12_areTwo_13 : decode cX12_areTwo 13 = .ok (.ifCond .eq 12, 3) := by decide +kernel
theorem dX12_areTwo_16 : decode cX12_areTwo 16 = .ok (.iload_n 1, 1) := by decide +kernel
theorem dX12_areTwo_17 : decode cX12_areTwo 17 = .ok (.iload_n 2, 1) := by decide +kernel
theorem dX12_areTwo_18 : decode cX12_areTwo 18 = .ok (.if_icmp .eq 7, 3) := by decide +kernel
theorem dX12_areTwo_21 : decode cX12_areTwo 21 = .ok (.iconst 1, 1) := by decide +kernel
theorem dX12_areTwo_22 : decode cX12_areTwo 22 = .ok (.goto 4, 3) := by decide +kernel
theorem dX12_areTwo_25 : decode cX12_areTwo 25 = .ok (.iconst 0, 1) := by decide +kernel
theorem dX12_areTwo_26 : decode cX12_areTwo 26 = .ok (.ireturn, 1) := by decide +kernel
theorem dX12_before_0 : decode cX12_before 0 = .ok (.aload_n 0, 1) := by decide +kernel
theorem dX12_before_1 : decode cX12_before 1 = .ok (.iload_n 1, 1) := by decide +kernel
theorem dX12_before_2 : decode cX12_before 2 = .ok (.iload_n 2, 1) := by decide +kernel
theorem dX12_before_3 : decode cX12_before 3 = .ok (.invokevirtual 298, 3) := by decide +kernel
theorem dX12_before_6 : decode cX12_before 6 = .ok (.ifCond .ne 8, 3) := by decide +kernel
theorem dX12_before_9 : decode cX12_before 9 = .ok (.bipush (-2), 2) := by decide +kernel
theorem dX12_before_11 : decode cX12_before 11 = .ok (.goto 17, 3) := by decide +kernel
theorem dX12_before_14 : decode cX12_before 14 = .ok (.aload_n 0, 1) := by decide +kernel
theorem dX12_before_15 : decode cX12_before 15 = .ok (.iload_n 1, 1) := by decide +kernel
theorem dX12_before_16 : decode cX12_before 16 = .ok (.iload_n 2, 1) := by decide +kernel
theorem dX12_before_17 : decode cX12_before 17 = .ok (.invokevirtual 266, 3) := by decide +kernel
theorem dX12_before_20 : decode cX12_before 20 = .ok (.ifCond .eq 7, 3) := by decide +kernel
theorem dX12_before_23 : decode cX12_before 23 = .ok (.iconst 1, 1) := by decide +kernel
theorem dX12_before_24 : decode cX12_before 24 = .ok (.goto 4, 3) := by decide +kernel
theorem dX12_before_27 : decode cX12_before 27 = .ok (.iconst 0, 1) := by decide +kernel
theorem dX12_before_28 : decode cX12_before 28 = .ok (.ireturn, 1) := by decide +kernel
theorem dX12_orders_0 : decode cX12_orders 0 = .ok (.aload_n 0, 1) := by decide +kernel
theorem dX12_orders_1 : decode cX12_orders 1 = .ok (.invokevirtual 301, 3) := by decide +kernel
theorem dX12_orders_4 : decode cX12_orders 4 = .ok (.ireturn, 1) := by decide +kernel
theorem dX12_order_0 : decode cX12_order 0 = .ok (.iload_n 1, 1) := by decide +kernel
theorem dX12_order_1 : decode cX12_order 1 = .ok (.ifCond .lt 7, 3) := by decide +kernel
theorem dX12_order_4 : decode cX12_order 4 = .ok (.iload_n 2, 1) := by decide +kernel
theorem dX12_order_5 : decode cX12_order 5 = .ok (.ifCond .ge 6, 3) := by decide +kernel
theorem dX12_order_8 : decode cX12_order 8 = .ok (.bipush (-3), 2) := by decide +kernel
theorem dX12_order_10 : decode cX12_order 10 = .ok (.ireturn, 1) := by decide +kernel
theorem dX12_order_11 : decode cX12_order 11 = .ok (.iload_n 2, 1) := by decide +kernel
theorem dX12_order_12 : decode cX12_order 12 = .ok (.aload_n 0, 1) := by decide +kernel
theorem dX12_order_13 : decode cX12_order 13 = .ok (.getfield 166, 3) := by decide +kernel
theorem dX12_order_16 : decode cX12_order 16 = .ok (.if_icmp .ge 21, 3) := by decide +kernel
theorem dX12_order_19 : decode cX12_order 19 = .ok (.aload_n 0, 1) := by decide +kernel
theorem dX12_order_20 : decode cX12_order 20 = .ok (.aload_n 0, 1) := by decide +kernel
theorem dX12_order_21 : decode cX12_order 21 = .ok (.invokevirtual 255, 3) := by decide +kernel
theorem dX12_order_24 : decode cX12_order 24 = .ok (.sipush 9999, 3) := by decide +kernel
theorem dX12_order_27 : decode cX12_order 27 = .ok (.iload_n 1, 1) := by decide +kernel
theorem dX12_order_28 : decode cX12_order 28 = .ok (.iconst (-1), 1) := by decide +kernel
theorem dX12_order_29 : decode cX12_order 29 = .ok (.iconst (-1), 1) := by decide +kernel
theorem dX12_order_30 : decode cX12_order 30 = .ok (.invokevirtual 258, 3) := by decide +kernel
theorem dX12_order_33 : decode cX12_order 33 = .ok (.iload_n 1, 1) := by decide +kernel
theorem dX12_order_34 : decode cX12_order 34 = .ok (.if_icmp .gt 5, 3) := by decide +kernel
theorem dX12_order_37 : decode cX12_order 37 = .ok (.iconst (-1), 1) := by decide +kernel
theorem dX12_order_38 : decode cX12_order 38 = .ok (.ireturn, 1) := by decide +kernel
theorem dX12_order_39 : decode cX12_order 39 = .ok (.aload_n 0, 1) := by decide +kernel
theorem dX12_order_40 : decode cX12_order 40 = .ok (.getfield 79, 3) := by decide +kernel
theorem dX12_order_43 : decode cX12_order 43 = .ok (.iload_n 2, 1) := by decide +kernel
theorem dX12_order_44 : decode cX12_order 44 = .ok (.iaload, 1) := by decide +kernel
theorem dX12_order_45 : decode cX12_order 45 = .ok (.ireturn, 1) := by decide +kernel
theorem dX12_place_0 : decode cX12_place 0 = .ok (.aload_n 0, 1) := by decide +kernel
theorem dX12_place_1 : decode cX12_place 1 = .ok (.iload_n 1, 1) := by decide +kernel
theorem dX12_place_2 : decode cX12_place 2 = .ok (.invokevirtual 269, 3) := by decide +kernel
theorem dX12_place_5 : decode cX12_place 5 = .ok (.ifCond .ne 6, 3) := by decide +kernel
theorem dX12_place_8 : decode cX12_place 8 = .ok (.bipush (-2), 2) := by decide +kernel
theorem dX12_place_10 : decode cX12_place 10 = .ok (.ireturn, 1) := by decide +kernel
theorem dX12_place_11 : decode cX12_place 11 = .ok (.iload_n 2, 1) := by decide +kernel
theorem dX12_place_12 : decode cX12_place 12 = .ok (.iconst 0, 1) := by decide +kernel
theorem dX12_place_13 : decode cX12_place 13 = .ok (.iconst 1, 1) := by decide +kernel
theorem dX12_place_14 : decode cX12_place 14 = .ok (.invokestatic 88, 3) := by decide +kernel
theorem dX12_place_17 : decode cX12_place 17 = .ok (.ifCond .ne 6, 3) := by decide +kernel
theorem dX12_place_20 : decode cX12_place 20 = .ok (.bipush (-3), 2) := by decide +kernel
theorem dX12_place_22 : decode cX12_place 22 = .ok (.ireturn, 1) := by decide +kernel
theorem dX12_place_23 : decode cX12_place 23 = .ok (.aload_n 0, 1) := by decide +kernel
theorem dX12_place_24 : decode cX12_place 24 = .ok (.invokevirtual 301, 3) := by decide +kernel
theorem dX12_place_27 : decode cX12_place 27 = .ok (.ifCond .ne 6, 3) := by decide +kernel
theorem dX12_place_30 : decode cX12_place 30 = .ok (.bipush (-4), 2) := by decide +kernel
theorem dX12_place_32 : decode cX12_place 32 = .ok (.ireturn, 1) := by decide +kernel
theorem dX12_place_33 : decode cX12_place 33 = .ok (.iload_n 2, 1) := by decide +kernel
theorem dX12_place_34 : decode cX12_place 34 = .ok (.ifCond .ne 12, 3) := by decide +kernel
theorem dX12_place_37 : decode cX12_place 37 = .ok (.aload_n 0, 1) := by decide +kernel
theorem dX12_place_38 : decode cX12_place 38 = .ok (.getfield 73, 3) := by decide +kernel
theorem dX12_place_41 : decode cX12_place 41 = .ok (.iload_n 1, 1) := by decide +kernel
theorem dX12_place_42 : decode cX12_place 42 = .ok (.iaload, 1) := by decide +kernel
theorem dX12_place_43 : decode cX12_place 43 = .ok (.goto 9, 3) := by decide +kernel
theorem dX12_place_46 : decode cX12_place 46 = .ok (.aload_n 0, 1) := by decide +kernel
theorem dX12_place_47 : decode cX12_place 47 = .ok (.getfield 76, 3) := by decide +kernel
theorem dX12_place_50 : decode cX12_place 50 = .ok (.iload_n 1, 1) := by decide +kernel
theorem dX12_place_51 : decode cX12_place 51 = .ok (.iaload, 1) := by decide +kernel
theorem dX12_place_52 : decode cX12_place 52 = .ok (.ireturn, 1) := by decide +kernel
theorem dX12_often_0 : decode cX12_often 0 = .ok (.aload_n 0, 1) := by decide +kernel
theorem dX12_often_1 : decode cX12_often 1 = .ok (.iload_n 1, 1) := by decide +kernel
theorem dX12_often_2 : decode cX12_often 2 = .ok (.iload_n 2, 1) := by decide +kernel
theorem dX12_often_3 : decode cX12_often 3 = .ok (.invokevirtual 298, 3) := by decide +kernel
theorem dX12_often_6 : decode cX12_often 6 = .ok (.ifCond .ne 6, 3) := by decide +kernel
theorem dX12_often_9 : decode cX12_often 9 = .ok (.bipush (-2), 2) := by decide +kernel
theorem dX12_often_11 : decode cX12_often 11 = .ok (.ireturn, 1) := by decide +kernel
theorem dX12_often_12 : decode cX12_often 12 = .ok (.aload_n 0, 1) := by decide +kernel
theorem dX12_often_13 : decode cX12_often 13 = .ok (.aload_n 0, 1) := by decide +kernel
theorem dX12_often_14 : decode cX12_often 14 = .ok (.invokevirtual 255, 3) := by decide +kernel
theorem dX12_often_17 : decode cX12_often 17 = .ok (.sipush 9999, 3) := by decide +kernel
theorem dX12_often_20 : decode cX12_often 20 = .ok (.iconst (-1), 1) := by decide +kernel
theorem dX12_often_21 : decode cX12_often 21 = .ok (.iload_n 1, 1) := by decide +kernel
theorem dX12_often_22 : decode cX12_often 22 = .ok (.iload_n 2, 1) := by decide +kernel
theorem dX12_often_23 : decode cX12_often 23 = .ok (.invokevirtual 258, 3) := by decide +kernel
theorem dX12_often_26 : decode cX12_often 26 = .ok (.pop, 1) := by decide +kernel
theorem dX12_often_27 : decode cX12_often 27 = .ok (.aload_n 0, 1) := by decide +kernel
theorem dX12_often_28 : decode cX12_often 28 = .ok (.getfield 240, 3) := by decide +kernel
theorem dX12_often_31 : decode cX12_often 31 = .ok (.ireturn, 1) := by decide +kernel
theorem dX12_left_0 : decode cX12_left 0 = .ok (.aload_n 0, 1) := by decide +kernel
theorem dX12_left_1 : decode cX12_left 1 = .ok (.iload_n 1, 1) := by decide +kernel
theorem dX12_left_2 : decode cX12_left 2 = .ok (.invokevirtual 269, 3) := by decide +kernel
theorem dX12_left_5 : decode cX12_left 5 = .ok (.ifCond .ne 6, 3) := by decide +kernel
theorem dX12_left_8 : decode cX12_left 8 = .ok (.bipush (-2), 2) := by decide +kernel
theorem dX12_left_10 : decode cX12_left 10 = .ok (.ireturn, 1) := by decide +kernel
theorem dX12_left_11 : decode cX12_left 11 = .ok (.iload_n 2, 1) := by decide +kernel
theorem dX12_left_12 : decode cX12_left 12 = .ok (.iconst 0, 1) := by decide +kernel
theorem dX12_left_13 : decode cX12_left 13 = .ok (.iconst 2, 1) := by decide +kernel
theorem dX12_left_14 : decode cX12_left 14 = .ok (.invokestatic 88, 3) := by decide +kernel
theorem dX12_left_17 : decode cX12_left 17 = .ok (.ifCond .ne 6, 3) := by decide +kernel
theorem dX12_left_20 : decode cX12_left 20 = .ok (.bipush (-3), 2) := by decide +kernel
theorem dX12_left_22 : decode cX12_left 22 = .ok (.ireturn, 1) := by decide +kernel
theorem dX12_left_23 : decode cX12_left 23 = .ok (.aload_n 0, 1) := by decide +kernel
theorem dX12_left_24 : decode cX12_left 24 = .ok (.invokevirtual 301, 3) := by decide +kernel
theorem dX12_left_27 : decode cX12_left 27 = .ok (.pop, 1) := by decide +kernel
theorem dX12_left_28 : decode cX12_left 28 = .ok (.aload_n 0, 1) := by decide +kernel
theorem dX12_left_29 : decode cX12_left 29 = .ok (.getfield 70, 3) := by decide +kernel
theorem dX12_left_32 : decode cX12_left 32 = .ok (.iload_n 1, 1) := by decide +kernel
theorem dX12_left_33 : decode cX12_left 33 = .ok (.laload, 1) := by decide +kernel
theorem dX12_left_34 : decode cX12_left 34 = .ok (.iload_n 2, 1) := by decide +kernel
theorem dX12_left_35 : decode cX12_left 35 = .ok (.invokestatic 279, 3) := by decide +kernel
theorem dX12_left_38 : decode cX12_left 38 = .ok (.ireturn, 1) := by decide +kernel
theorem dX12_knotOf_0 : decode cX12_knotOf 0 = .ok (.aload_n 0, 1) := by decide +kernel
theorem dX12_knotOf_1 : decode cX12_knotOf 1 = .ok (.aload_n 0, 1) := by decide +kernel
theorem dX12_knotOf_2 : decode cX12_knotOf 2 = .ok (.invokevirtual 255, 3) := by decide +kernel
theorem dX12_knotOf_5 : decode cX12_knotOf 5 = .ok (.invokevirtual 304, 3) := by decide +kernel
theorem dX12_knotOf_8 : decode cX12_knotOf 8 = .ok (.ifCond .eq 5, 3) := by decide +kernel
theorem dX12_knotOf_11 : decode cX12_knotOf 11 = .ok (.iconst (-1), 1) := by decide +kernel
theorem dX12_knotOf_12 : decode cX12_knotOf 12 = .ok (.ireturn, 1) := by decide +kernel
theorem dX12_knotOf_13 : decode cX12_knotOf 13 = .ok (.aload_n 0, 1) := by decide +kernel
theorem dX12_knotOf_14 : decode cX12_knotOf 14 = .ok (.invokevirtual 255, 3) := by decide +kernel
theorem dX12_knotOf_17 : decode cX12_knotOf 17 = .ok (.istore_n 1, 1) := by decide +kernel
theorem dX12_knotOf_18 : decode cX12_knotOf 18 = .ok (.iconst 1, 1) := by decide +kernel
theorem dX12_knotOf_19 : decode cX12_knotOf 19 = .ok (.istore_n 2, 1) := by decide +kernel
theorem dX12_knotOf_20 : decode cX12_knotOf 20 = .ok (.iload_n 2, 1) := by decide +kernel
theorem dX12_knotOf_21 : decode cX12_knotOf 21 = .ok (.aload_n 0, 1) := by decide +kernel
theorem dX12_knotOf_22 : decode cX12_knotOf 22 = .ok (.invokevirtual 255, 3) := by decide +kernel
theorem dX12_knotOf_25 : decode cX12_knotOf 25 = .ok (.if_icmp .ge 46, 3) := by decide +kernel
theorem dX12_knotOf_28 : decode cX12_knotOf 28 = .ok (.iload_n 2, 1) := by decide +kernel
theorem dX12_knotOf_29 : decode cX12_knotOf 29 = .ok (.i2l, 1) := by decide +kernel
theorem dX12_knotOf_30 : decode cX12_knotOf 30 = .ok (.invokestatic 262, 3) := by decide +kernel
theorem dX12_knotOf_33 : decode cX12_knotOf 33 = .ok (.iload_n 1, 1) := by decide +kernel
theorem dX12_knotOf_34 : decode cX12_knotOf 34 = .ok (.i2l, 1) := by decide +kernel
theorem dX12_knotOf_35 : decode cX12_knotOf 35 = .ok (.invokestatic 262, 3) := by decide +kernel
theorem dX12_knotOf_38 : decode cX12_knotOf 38 = .ok (.if_icmp .ge 7, 3) := by decide +kernel
theorem dX12_knotOf_41 : decode cX12_knotOf 41 = .ok (.iconst 1, 1) := by decide +kernel
theorem dX12_knotOf_42 : decode cX12_knotOf 42 = .ok (.goto 4, 3) := by decide +kernel
theorem dX12_knotOf_45 : decode cX12_knotOf 45 = .ok (.iconst 0, 1) := by decide +kernel
theorem dX12_knotOf_46 : decode cX12_knotOf 46 = .ok (.istore_n 3, 1) := by decide +kernel
theorem dX12_knotOf_47 : decode cX12_knotOf 47 = .ok (.iload_n 3, 1) := by decide +kernel
theorem dX12_knotOf_48 : decode cX12_knotOf 48 = .ok (.ifCond .eq 15, 3) := by decide +kernel
theorem dX12_knotOf_51 : decode cX12_knotOf 51 = .ok (.aload_n 0, 1) := by decide +kernel
theorem dX12_knotOf_52 : decode cX12_knotOf 52 = .ok (.iload_n 2, 1) := by decide +kernel
theorem dX12_knotOf_53 : decode cX12_knotOf 53 = .ok (.invokevirtual 304, 3) := by decide +kernel
theorem dX12_knotOf_56 : decode cX12_knotOf 56 = .ok (.ifCond .ne 7, 3) := by decide +kernel
theorem dX12_knotOf_59 : decode cX12_knotOf 59 = .ok (.iload_n 2, 1) := by decide +kernel
theorem dX12_knotOf_60 : decode cX12_knotOf 60 = .ok (.goto 4, 3) := by decide +kernel
theorem dX12_knotOf_63 : decode cX12_knotOf 63 = .ok (.iload_n 1, 1) := by decide +kernel
theorem dX12_knotOf_64 : decode cX12_knotOf 64 = .ok (.istore_n 1, 1) := by decide +kernel
theorem dX12_knotOf_65 : decode cX12_knotOf 65 = .ok (.iinc 2 1, 3) := by decide +kernel
theorem dX12_knotOf_68 : decode cX12_knotOf 68 = .ok (.goto (-48), 3) := by decide +kernel
theorem dX12_knotOf_71 : decode cX12_knotOf 71 = .ok (.iload_n 1, 1) := by decide +kernel
theorem dX12_knotOf_72 : decode cX12_knotOf 72 = .ok (.ireturn, 1) := by decide +kernel
theorem dX12_knot_0 : decode cX12_knot 0 = .ok (.iload_n 1, 1) := by decide +kernel
theorem dX12_knot_1 : decode cX12_knot 1 = .ok (.iconst 0, 1) := by decide +kernel
theorem dX12_knot_2 : decode cX12_knot 2 = .ok (.iconst 1, 1) := by decide +kernel
theorem dX12_knot_3 : decode cX12_knot 3 = .ok (.invokestatic 88, 3) := by decide +kernel
theorem dX12_knot_6 : decode cX12_knot 6 = .ok (.ifCond .ne 6, 3) := by decide +kernel
theorem dX12_knot_9 : decode cX12_knot 9 = .ok (.bipush (-3), 2) := by decide +kernel
theorem dX12_knot_11 : decode cX12_knot 11 = .ok (.ireturn, 1) := by decide +kernel
theorem dX12_knot_12 : decode cX12_knot 12 = .ok (.aload_n 0, 1) := by decide +kernel
theorem dX12_knot_13 : decode cX12_knot 13 = .ok (.invokevirtual 307, 3) := by decide +kernel
theorem dX12_knot_16 : decode cX12_knot 16 = .ok (.istore_n 2, 1) := by decide +kernel
theorem dX12_knot_17 : decode cX12_knot 17 = .ok (.iload_n 2, 1) := by decide +kernel
theorem dX12_knot_18 : decode cX12_knot 18 = .ok (.iconst (-1), 1) := by decide +kernel
theorem dX12_knot_19 : decode cX12_knot 19 = .ok (.if_icmp .eq 7, 3) := by decide +kernel
theorem dX12_knot_22 : decode cX12_knot 22 = .ok (.iload_n 1, 1) := by decide +kernel
theorem dX12_knot_23 : decode cX12_knot 23 = .ok (.ifCond .ne 7, 3) := by decide +kernel
theorem dX12_knot_26 : decode cX12_knot 26 = .ok (.iload_n 2, 1) := by decide +kernel
theorem dX12_knot_27 : decode cX12_knot 27 = .ok (.goto 8, 3) := by decide +kernel
theorem dX12_knot_30 : decode cX12_knot 30 = .ok (.iload_n 2, 1) := by decide +kernel
theorem dX12_knot_31 : decode cX12_knot 31 = .ok (.i2l, 1) := by decide +kernel
theorem dX12_knot_32 : decode cX12_knot 32 = .ok (.invokestatic 262, 3) := by decide +kernel
theorem dX12_knot_35 : decode cX12_knot 35 = .ok (.ireturn, 1) := by decide +kernel
theorem dX12_loose_0 : decode cX12_loose 0 = .ok (.iload_n 1, 1) := by decide +kernel
theorem dX12_loose_1 : decode cX12_loose 1 = .ok (.iconst (-1), 1) := by decide +kernel
theorem dX12_loose_2 : decode cX12_loose 2 = .ok (.if_icmp .ge 6, 3) := by decide +kernel
theorem dX12_loose_5 : decode cX12_loose 5 = .ok (.bipush (-3), 2) := by decide +kernel
theorem dX12_loose_7 : decode cX12_loose 7 = .ok (.ireturn, 1) := by decide +kernel
theorem dX12_loose_8 : decode cX12_loose 8 = .ok (.iconst 0, 1) := by decide +kernel
theorem dX12_loose_9 : decode cX12_loose 9 = .ok (.istore_n 2, 1) := by decide +kernel
theorem dX12_loose_10 : decode cX12_loose 10 = .ok (.iconst (-1), 1) := by decide +kernel
theorem dX12_loose_11 : decode cX12_loose 11 = .ok (.istore_n 3, 1) := by decide +kernel
theorem dX12_loose_12 : decode cX12_loose 12 = .ok (.aload_n 0, 1) := by decide +kernel
theorem dX12_loose_13 : decode cX12_loose 13 = .ok (.aload_n 0, 1) := by decide +kernel
theorem dX12_loose_14 : decode cX12_loose 14 = .ok (.invokevirtual 255, 3) := by decide +kernel
theorem dX12_loose_17 : decode cX12_loose 17 = .ok (.invokevirtual 304, 3) := by decide +kernel
theorem dX12_loose_20 : decode cX12_loose 20 = .ok (.istore 4, 2) := by decide +kernel
theorem dX12_loose_22 : decode cX12_loose 22 = .ok (.aload_n 0, 1) := by decide +kernel
theorem dX12_loose_23 : decode cX12_loose 23 = .ok (.getfield 38, 3) := by decide +kernel
theorem dX12_loose_26 : decode cX12_loose 26 = .ok (.iconst 0, 1) := by decide +kernel
theorem dX12_loose_27 : decode cX12_loose 27 = .ok (.aload_n 0, 1) := by decide +kernel
theorem dX12_loose_28 : decode cX12_loose 28 = .ok (.getfield 41, 3) := by decide +kernel
theorem dX12_loose_31 : decode cX12_loose 31 = .ok (.iconst 0, 1) := by decide +kernel
theorem dX12_loose_32 : decode cX12_loose 32 = .ok (.sipush 225, 3) := by decide +kernel
theorem dX12_loose_35 : decode cX12_loose 35 = .ok (.invokestatic 172, 3) := by decide +kernel
theorem dX12_loose_38 : decode cX12_loose 38 = .ok (.iconst 0, 1) := by decide +kernel
theorem dX12_loose_39 : decode cX12_loose 39 = .ok (.istore 5, 2) := by decide +kernel
theorem dX12_loose_41 : decode cX12_loose 41 = .ok (.iload 5, 2) := by decide +kernel
theorem dX12_loose_43 : decode cX12_loose 43 = .ok (.aload_n 0, 1) := by decide +kernel
theorem dX12_loose_44 : decode cX12_loose 44 = .ok (.getfield 41, 3) := by decide +kernel
theorem dX12_loose_47 : decode cX12_loose 47 = .ok (.iconst 0, 1) := by decide +kernel
theorem dX12_loose_48 : decode cX12_loose 48 = .ok (.iaload, 1) := by decide +kernel
theorem dX12_loose_49 : decode cX12_loose 49 = .ok (.if_icmp .ge 62, 3) := by decide +kernel
theorem dX12_loose_52 : decode cX12_loose 52 = .ok (.iload 4, 2) := by decide +kernel
theorem dX12_loose_54 : decode cX12_loose 54 = .ok (.ifCond .ne 57, 3) := by decide +kernel
theorem dX12_loose_57 : decode cX12_loose 57 = .ok (.aload_n 0, 1) := by decide +kernel
theorem dX12_loose_58 : decode cX12_loose 58 = .ok (.iload 5, 2) := by decide +kernel
theorem dX12_loose_60 : decode cX12_loose 60 = .ok (.invokevirtual 295, 3) := by decide +kernel
theorem dX12_loose_63 : decode cX12_loose 63 = .ok (.aload_n 0, 1) := by decide +kernel
theorem dX12_loose_64 : decode cX12_loose 64 = .ok (.aload_n 0, 1) := by decide +kernel
theorem dX12_loose_65 : decode cX12_loose 65 = .ok (.invokevirtual 255, 3) := by decide +kernel
theorem dX12_loose_68 : decode cX12_loose 68 = .ok (.invokevirtual 304, 3) := by decide +kernel
theorem dX12_loose_71 : decode cX12_loose 71 = .ok (.ifCond .eq 18, 3) := by decide +kernel
theorem dX12_loose_74 : decode cX12_loose 74 = .ok (.iload_n 2, 1) := by decide +kernel
theorem dX12_loose_75 : decode cX12_loose 75 = .ok (.iload_n 1, 1) := by decide +kernel
theorem dX12_loose_76 : decode cX12_loose 76 = .ok (.if_icmp .ne 8, 3) := by decide +kernel
theorem dX12_loose_79 : decode cX12_loose 79 = .ok (.iload 5, 2) := by decide +kernel
theorem dX12_loose_81 : decode cX12_loose 81 = .ok (.goto 4, 3) := by decide +kernel
theorem dX12_loose_84 : decode cX12_loose 84 = .ok (.iload_n 3, 1) := by decide +kernel
theorem dX12_loose_85 : decode cX12_loose 85 = .ok (.istore_n 3, 1) := by decide +kernel
theorem dX12_loose_86 : decode cX12_loose 86 = .ok (.iinc 2 1, 3) := by decide +kernel
theorem dX12_loose_89 : decode cX12_loose 89 = .ok (.aload_n 0, 1) := by decide +kernel
theorem dX12_loose_90 : decode cX12_loose 90 = .ok (.getfield 41, 3) := by decide +kernel
theorem dX12_loose_93 : decode cX12_loose 93 = .ok (.iconst 0, 1) := by decide +kernel
theorem dX12_loose_94 : decode cX12_loose 94 = .ok (.aload_n 0, 1) := by decide +kernel
theorem dX12_loose_95 : decode cX12_loose 95 = .ok (.getfield 38, 3) := by decide +kernel
theorem dX12_loose_98 : decode cX12_loose 98 = .ok (.iconst 0, 1) := by decide +kernel
theorem dX12_loose_99 : decode cX12_loose 99 = .ok (.sipush 225, 3) := by decide +kernel
theorem dX12_loose_102 : decode cX12_loose 102 = .ok (.invokestatic 172, 3) := by decide +kernel
theorem dX12_loose_105 : decode cX12_loose 105 = .ok (.iinc 5 1, 3) := by decide +kernel
theorem dX12_loose_108 : decode cX12_loose 108 = .ok (.goto (-67), 3) := by decide +kernel
theorem dX12_loose_111 : decode cX12_loose 111 = .ok (.iload_n 1, 1) := by decide +kernel
theorem dX12_loose_112 : decode cX12_loose 112 = .ok (.iconst (-1), 1) := by decide +kernel
theorem dX12_loose_113 : decode cX12_loose 113 = .ok (.if_icmp .ne 7, 3) := by decide +kernel
theorem dX12_loose_116 : decode cX12_loose 116 = .ok (.iload_n 2, 1) := by decide +kernel
theorem dX12_loose_117 : decode cX12_loose 117 = .ok (.goto 4, 3) := by decide +kernel
theorem dX12_loose_120 : decode cX12_loose 120 = .ok (.iload_n 3, 1) := by decide +kernel
theorem dX12_loose_121 : decode cX12_loose 121 = .ok (.ireturn, 1) := by decide +kernel
theorem dX12_wouldBe_0 : decode cX12_wouldBe 0 = .ok (.aload_n 0, 1) := by decide +kernel
theorem dX12_wouldBe_1 : decode cX12_wouldBe 1 = .ok (.getfield 38, 3) := by decide +kernel
theorem dX12_wouldBe_4 : decode cX12_wouldBe 4 = .ok (.iconst 0, 1) := by decide +kernel
theorem dX12_wouldBe_5 : decode cX12_wouldBe 5 = .ok (.aload_n 0, 1) := by decide +kernel
theorem dX12_wouldBe_6 : decode cX12_wouldBe 6 = .ok (.getfield 41, 3) := by decide +kernel
theorem dX12_wouldBe_9 : decode cX12_wouldBe 9 = .ok (.iconst 0, 1) := by decide +kernel
theorem dX12_wouldBe_10 : decode cX12_wouldBe 10 = .ok (.sipush 225, 3) := by decide +kernel
theorem dX12_wouldBe_13 : decode cX12_wouldBe 13 = .ok (.invokestatic 172, 3) := by decide +kernel
theorem dX12_wouldBe_16 : decode cX12_wouldBe 16 = .ok (.aload_n 0, 1) := by decide +kernel
theorem dX12_wouldBe_17 : decode cX12_wouldBe 17 = .ok (.iload_n 1, 1) := by decide +kernel
theorem dX12_wouldBe_18 : decode cX12_wouldBe 18 = .ok (.iload_n 2, 1) := by decide +kernel
theorem dX12_wouldBe_19 : decode cX12_wouldBe 19 = .ok (.iload_n 3, 1) := by decide +kernel
theorem dX12_wouldBe_20 : decode cX12_wouldBe 20 = .ok (.iconst 0, 1) := by decide +kernel
theorem dX12_wouldBe_21 : decode cX12_wouldBe 21 = .ok (.invokevirtual 182, 3) := by decide +kernel
theorem dX12_wouldBe_24 : decode cX12_wouldBe 24 = .ok (.aload_n 0, 1) := by decide +kernel
theorem dX12_wouldBe_25 : decode cX12_wouldBe 25 = .ok (.invokevirtual 301, 3) := by decide +kernel
theorem dX12_wouldBe_28 : decode cX12_wouldBe 28 = .ok (.istore 4, 2) := by decide +kernel
theorem dX12_wouldBe_30 : decode cX12_wouldBe 30 = .ok (.aload_n 0, 1) := by decide +kernel
theorem dX12_wouldBe_31 : decode cX12_wouldBe 31 = .ok (.getfield 41, 3) := by decide +kernel
theorem dX12_wouldBe_34 : decode cX12_wouldBe 34 = .ok (.iconst 0, 1) := by decide +kernel
theorem dX12_wouldBe_35 : decode cX12_wouldBe 35 = .ok (.aload_n 0, 1) := by decide +kernel
theorem dX12_wouldBe_36 : decode cX12_wouldBe 36 = .ok (.getfield 38, 3) := by decide +kernel
theorem dX12_wouldBe_39 : decode cX12_wouldBe 39 = .ok (.iconst 0, 1) := by decide +kernel
theorem dX12_wouldBe_40 : decode cX12_wouldBe 40 = .ok (.sipush 225, 3) := by decide +kernel
theorem dX12_wouldBe_43 : decode cX12_wouldBe 43 = .ok (.invokestatic 172, 3) := by decide +kernel
theorem dX12_wouldBe_46 : decode cX12_wouldBe 46 = .ok (.iload 4, 2) := by decide +kernel
theorem dX12_wouldBe_48 : decode cX12_wouldBe 48 = .ok (.ireturn, 1) := by decide +kernel
theorem dX12_would_0 : decode cX12_would 0 = .ok (.aload_n 0, 1) := by decide +kernel
theorem dX12_would_1 : decode cX12_would 1 = .ok (.iload_n 1, 1) := by decide +kernel
theorem dX12_would_2 : decode cX12_would 2 = .ok (.invokevirtual 269, 3) := by decide +kernel
theorem dX12_would_5 : decode cX12_would 5 = .ok (.ifCond .ne 6, 3) := by decide +kernel
theorem dX12_would_8 : decode cX12_would 8 = .ok (.bipush (-2), 2) := by decide +kernel
theorem dX12_would_10 : decode cX12_would 10 = .ok (.ireturn, 1) := by decide +kernel
theorem dX12_would_11 : decode cX12_would 11 = .ok (.aload_n 0, 1) := by decide +kernel
theorem dX12_would_12 : decode cX12_would 12 = .ok (.iload_n 2, 1) := by decide +kernel
theorem dX12_would_13 : decode cX12_would 13 = .ok (.invokevirtual 282, 3) := by decide +kernel
theorem dX12_would_16 : decode cX12_would 16 = .ok (.ifCond .eq 16, 3) := by decide +kernel
theorem dX12_would_19 : decode cX12_would 19 = .ok (.iload_n 3, 1) := by decide +kernel
theorem dX12_would_20 : decode cX12_would 20 = .ok (.iconst 0, 1) := by decide +kernel
theorem dX12_would_21 : decode cX12_would 21 = .ok (.aload_n 0, 1) := by decide +kernel
theorem dX12_would_22 : decode cX12_would 22 = .ok (.iload_n 2, 1) := by decide +kernel
theorem dX12_would_23 : decode cX12_would 23 = .ok (.invokevirtual 292, 3) := by decide +kernel
theorem dX12_would_26 : decode cX12_would 26 = .ok (.invokestatic 88, 3) := by decide +kernel
theorem dX12_would_29 : decode cX12_would 29 = .ok (.ifCond .ne 6, 3) := by decide +kernel
theorem dX12_would_32 : decode cX12_would 32 = .ok (.bipush (-3), 2) := by decide +kernel
theorem dX12_would_34 : decode cX12_would 34 = .ok (.ireturn, 1) := by decide +kernel
theorem dX12_would_35 : decode cX12_would 35 = .ok (.aload_n 0, 1) := by decide +kernel
theorem dX12_would_36 : decode cX12_would 36 = .ok (.iload_n 1, 1) := by decide +kernel
theorem dX12_would_37 : decode cX12_would 37 = .ok (.iload_n 2, 1) := by decide +kernel
theorem dX12_would_38 : decode cX12_would 38 = .ok (.iload_n 3, 1) := by decide +kernel
theorem dX12_would_39 : decode cX12_would 39 = .ok (.invokevirtual 310, 3) := by decide +kernel
theorem dX12_would_42 : decode cX12_would 42 = .ok (.ireturn, 1) := by decide +kernel
theorem dX12_ask_0 : decode cX12_ask 0 = .ok (.iload_n 1, 1) := by decide +kernel
theorem dX12_ask_1 : decode cX12_ask 1 = .ok (.iconst 0, 1) := by decide +kernel
theorem dX12_ask_2 : decode cX12_ask 2 = .ok (.iconst 1, 1) := by decide +kernel
theorem dX12_ask_3 : decode cX12_ask 3 = .ok (.invokestatic 88, 3) := by decide +kernel
theorem dX12_ask_6 : decode cX12_ask 6 = .ok (.ifCond .ne 6, 3) := by decide +kernel
theorem dX12_ask_9 : decode cX12_ask 9 = .ok (.bipush (-3), 2) := by decide +kernel
theorem dX12_ask_11 : decode cX12_ask 11 = .ok (.ireturn, 1) := by decide +kernel
theorem dX12_ask_12 : decode cX12_ask 12 = .ok (.aload_n 0, 1) := by decide +kernel
theorem dX12_ask_13 : decode cX12_ask 13 = .ok (.invokevirtual 301, 3) := by decide +kernel
theorem dX12_ask_16 : decode cX12_ask 16 = .ok (.istore_n 2, 1) := by decide +kernel
theorem dX12_ask_17 : decode cX12_ask 17 = .ok (.iconst (-1), 1) := by decide +kernel
theorem dX12_ask_18 : decode cX12_ask 18 = .ok (.istore_n 3, 1) := by decide +kernel
theorem dX12_ask_19 : decode cX12_ask 19 = .ok (.iconst 0, 1) := by decide +kernel
theorem dX12_ask_20 : decode cX12_ask 20 = .ok (.istore 4, 2) := by decide +kernel
theorem dX12_ask_22 : decode cX12_ask 22 = .ok (.iload 4, 2) := by decide +kernel
theorem dX12_ask_24 : decode cX12_ask 24 = .ok (.aload_n 0, 1) := by decide +kernel
theorem dX12_ask_25 : decode cX12_ask 25 = .ok (.getfield 166, 3) := by decide +kernel
theorem dX12_ask_28 : decode cX12_ask 28 = .ok (.if_icmp .ge 128, 3) := by decide +kernel
theorem dX12_ask_31 : decode cX12_ask 31 = .ok (.iconst 0, 1) := by decide +kernel
theorem dX12_ask_32 : decode cX12_ask 32 = .ok (.istore 5, 2) := by decide +kernel
theorem dX12_ask_34 : decode cX12_ask 34 = .ok (.iload 5, 2) := by decide +kernel
theorem dX12_ask_36 : decode cX12_ask 36 = .ok (.aload_n 0, 1) := by decide +kernel
theorem dX12_ask_37 : decode cX12_ask 37 = .ok (.getfield 169, 3) := by decide +kernel
theorem dX12_ask_40 : decode cX12_ask 40 = .ok (.if_icmp .ge 110, 3) := by decide +kernel
theorem dX12_ask_43 : decode cX12_ask 43 = .ok (.aload_n 0, 1) := by decide +kernel
theorem dX12_ask_44 : decode cX12_ask 44 = .ok (.getfield 35, 3) := by decide +kernel
theorem dX12_ask_47 : decode cX12_ask 47 = .ok (.iload 5, 2) := by decide +kernel
theorem dX12_ask_49 : decode cX12_ask 49 = .ok (.iaload, 1) := by decide +kernel
theorem dX12_ask_50 : decode cX12_ask 50 = .ok (.iconst 3, 1) := by decide +kernel
theorem dX12_ask_51 : decode cX12_ask 51 = .ok (.if_icmp .eq 93, 3) := by decide +kernel
theorem dX12_ask_54 : decode cX12_ask 54 = .ok (.aload_n 0, 1) := by decide +kernel
theorem dX12_ask_55 : decode cX12_ask 55 = .ok (.iload 4, 2) := by decide +kernel
theorem dX12_ask_57 : decode cX12_ask 57 = .ok (.iconst 2, 1) := by decide +kernel
theorem dX12_ask_58 : decode cX12_ask 58 = .ok (.iload 5, 2) := by decide +kernel
theorem dX12_ask_60 : decode cX12_ask 60 = .ok (.iadd, 1) := by decide +kernel
theorem dX12_ask_61 : decode cX12_ask 61 = .ok (.invokevirtual 192, 3) := by decide +kernel
theorem dX12_ask_64 : decode cX12_ask 64 = .ok (.iconst (-1), 1) := by decide +kernel
theorem dX12_ask_65 : decode cX12_ask 65 = .ok (.if_icmp .ne 79, 3) := by decide +kernel
theorem dX12_ask_68 : decode cX12_ask 68 = .ok (.aload_n 0, 1) := by decide +kernel
theorem dX12_ask_69 : decode cX12_ask 69 = .ok (.iload 4, 2) := by decide +kernel
theorem dX12_ask_71 : decode cX12_ask 71 = .ok (.iconst 2, 1) := by decide +kernel
theorem dX12_ask_72 : decode cX12_ask 72 = .ok (.iload 5, 2) := by decide +kernel
theorem dX12_ask_74 : decode cX12_ask 74 = .ok (.iadd, 1) := by decide +kernel
theorem dX12_ask_75 : decode cX12_ask 75 = .ok (.iconst 0, 1) := by decide +kernel
theorem dX12_ask_76 : decode cX12_ask 76 = .ok (.invokevirtual 310, 3) := by decide +kernel
theorem dX12_ask_79 : decode cX12_ask 79 = .ok (.istore 6, 2) := by decide +kernel
theorem dX12_ask_81 : decode cX12_ask 81 = .ok (.aload_n 0, 1) := by decide +kernel
theorem dX12_ask_82 : decode cX12_ask 82 = .ok (.iload 4, 2) := by decide +kernel
theorem dX12_ask_84 : decode cX12_ask 84 = .ok (.iconst 2, 1) := by decide +kernel
theorem dX12_ask_85 : decode cX12_ask 85 = .ok (.iload 5, 2) := by decide +kernel
theorem dX12_ask_87 : decode cX12_ask 87 = .ok (.iadd, 1) := by decide +kernel
theorem dX12_ask_88 : decode cX12_ask 88 = .ok (.iconst 1, 1) := by decide +kernel
theorem dX12_ask_89 : decode cX12_ask 89 = .ok (.invokevirtual 310, 3) := by decide +kernel
theorem dX12_ask_92 : decode cX12_ask 92 = .ok (.istore 7, 2) := by decide +kernel
theorem dX12_ask_94 : decode cX12_ask 94 = .ok (.iload 6, 2) := by decide +kernel
theorem dX12_ask_96 : decode cX12_ask 96 = .ok (.iload 7, 2) := by decide +kernel
theorem dX12_ask_98 : decode cX12_ask 98 = .ok (.if_icmp .le 8, 3) := by decide +kernel
theorem dX12_ask_101 : decode cX12_ask 101 = .ok (.iload 6, 2) := by decide +kernel
theorem dX12_ask_103 : decode cX12_ask 103 = .ok (.goto 5, 3) := by decide +kernel
theorem dX12_ask_106 : decode cX12_ask 106 = .ok (.iload 7, 2) := by decide +kernel
theorem dX12_ask_108 : decode cX12_ask 108 = .ok (.istore 8, 2) := by decide +kernel
theorem dX12_ask_110 : decode cX12_ask 110 = .ok (.iload 8, 2) := by decide +kernel
theorem dX12_ask_112 : decode cX12_ask 112 = .ok (.iload_n 2, 1) := by decide +kernel
theorem dX12_ask_113 : decode cX12_ask 113 = .ok (.if_icmp .ge 16, 3) := by decide +kernel
theorem dX12_ask_116 : decode cX12_ask 116 = .ok (.bipush 10, 2) := by decide +kernel
theorem dX12_ask_118 : decode cX12_ask 118 = .ok (.iload 4, 2) := by decide +kernel
theorem dX12_ask_120 : decode cX12_ask 120 = .ok (.imul, 1) := by decide +kernel
theorem dX12_ask_121 : decode cX12_ask 121 = .ok (.iconst 2, 1) := by decide +kernel
theorem dX12_ask_122 : decode cX12_ask 122 = .ok (.iadd, 1) := by decide +kernel
theorem dX12_ask_123 : decode cX12_ask 123 = .ok (.iload 5, 2) := by decide +kernel
theorem dX12_ask_125 : decode cX12_ask 125 = .ok (.iadd, 1) := by decide +kernel
theorem dX12_ask_126 : decode cX12_ask 126 = .ok (.goto 4, 3) := by decide +kernel
theorem dX12_ask_129 : decode cX12_ask 129 = .ok (.iload_n 3, 1) := by decide +kernel
theorem dX12_ask_130 : decode cX12_ask 130 = .ok (.istore_n 3, 1) := by decide +kernel
theorem dX12_ask_131 : decode cX12_ask 131 = .ok (.iload 8, 2) := by decide +kernel
theorem dX12_ask_133 : decode cX12_ask 133 = .ok (.iload_n 2, 1) := by decide +kernel
theorem dX12_ask_134 : decode cX12_ask 134 = .ok (.if_icmp .ge 8, 3) := by decide +kernel
theorem dX12_ask_137 : decode cX12_ask 137 = .ok (.iload 8, 2) := by decide +kernel
theorem dX12_ask_139 : decode cX12_ask 139 = .ok (.goto 4, 3) := by decide +kernel
theorem dX12_ask_142 : decode cX12_ask 142 = .ok (.iload_n 2, 1) := by decide +kernel
theorem dX12_ask_143 : decode cX12_ask 143 = .ok (.istore_n 2, 1) := by decide +kernel
theorem dX12_ask_144 : decode cX12_ask 144 = .ok (.iinc 5 1, 3) := by decide +kernel
theorem dX12_ask_147 : decode cX12_ask 147 = .ok (.goto (-113), 3) := by decide +kernel
theorem dX12_ask_150 : decode cX12_ask 150 = .ok (.iinc 4 1, 3) := by decide +kernel
theorem dX12_ask_153 : decode cX12_ask 153 = .ok (.goto (-131), 3) := by decide +kernel
theorem dX12_ask_156 : decode cX12_ask 156 = .ok (.iload_n 3, 1) := by decide +kernel
theorem dX12_ask_157 : decode cX12_ask 157 = .ok (.iconst (-1), 1) := by decide +kernel
theorem dX12_ask_158 : decode cX12_ask 158 = .ok (.if_icmp .eq 7, 3) := by decide +kernel
theorem dX12_ask_161 : decode cX12_ask 161 = .ok (.iload_n 1, 1) := by decide +kernel
theorem dX12_ask_162 : decode cX12_ask 162 = .ok (.ifCond .ne 7, 3) := by decide +kernel
theorem dX12_ask_165 : decode cX12_ask 165 = .ok (.iload_n 3, 1) := by decide +kernel
theorem dX12_ask_166 : decode cX12_ask 166 = .ok (.goto 4, 3) := by decide +kernel
theorem dX12_ask_169 : decode cX12_ask 169 = .ok (.iload_n 2, 1) := by decide +kernel
theorem dX12_ask_170 : decode cX12_ask 170 = .ok (.ireturn, 1) := by decide +kernel
theorem dX12_isStrip_0 : decode cX12_isStrip 0 = .ok (.iload_n 0, 1) := by decide +kernel
theorem dX12_isStrip_1 : decode cX12_isStrip 1 = .ok (.iconst 0, 1) := by decide +kernel
theorem dX12_isStrip_2 : decode cX12_isStrip 2 = .ok (.iconst 2, 1) := by decide +kernel
theorem dX12_isStrip_3 : decode cX12_isStrip 3 = .ok (.invokestatic 88, 3) := by decide +kernel
theorem dX12_isStrip_6 : decode cX12_isStrip 6 = .ok (.ireturn, 1) := by decide +kernel
theorem dX12_lack_0 : decode cX12_lack 0 = .ok (.aload_n 0, 1) := by decide +kernel
theorem dX12_lack_1 : decode cX12_lack 1 = .ok (.getfield 82, 3) := by decide +kernel
theorem dX12_lack_4 : decode cX12_lack 4 = .ok (.iload_n 1, 1) := by decide +kernel
theorem dX12_lack_5 : decode cX12_lack 5 = .ok (.iaload, 1) := by decide +kernel
theorem dX12_lack_6 : decode cX12_lack 6 = .ok (.iconst (-1), 1) := by decide +kernel
theorem dX12_lack_7 : decode cX12_lack 7 = .ok (.if_icmp .ne 8, 3) := by decide +kernel
theorem dX12_lack_10 : decode cX12_lack 10 = .ok (.bipush (-11), 2) := by decide +kernel
theorem dX12_lack_12 : decode cX12_lack 12 = .ok (.goto 25, 3) := by decide +kernel
theorem dX12_lack_15 : decode cX12_lack 15 = .ok (.iload_n 2, 1) := by decide +kernel
theorem dX12_lack_16 : decode cX12_lack 16 = .ok (.iconst 0, 1) := by decide +kernel
theorem dX12_lack_17 : decode cX12_lack 17 = .ok (.aload_n 0, 1) := by decide +kernel
theorem dX12_lack_18 : decode cX12_lack 18 = .ok (.getfield 82, 3) := by decide +kernel
theorem dX12_lack_21 : decode cX12_lack 21 = .ok (.iload_n 1, 1) := by decide +kernel
theorem dX12_lack_22 : decode cX12_lack 22 = .ok (.iaload, 1) := by decide +kernel
theorem dX12_lack_23 : decode cX12_lack 23 = .ok (.iconst 1, 1) := by decide +kernel
theorem dX12_lack_24 : decode cX12_lack 24 = .ok (.isub, 1) := by decide +kernel
theorem dX12_lack_25 : decode cX12_lack 25 = .ok (.invokestatic 88, 3) := by decide +kernel
theorem dX12_lack_28 : decode cX12_lack 28 = .ok (.ifCond .eq 7, 3) := by decide +kernel
theorem dX12_lack_31 : decode cX12_lack 31 = .ok (.iconst 0, 1) := by decide +kernel
theorem dX12_lack_32 : decode cX12_lack 32 = .ok (.goto 5, 3) := by decide +kernel
theorem dX12_lack_35 : decode cX12_lack 35 = .ok (.bipush (-12), 2) := by decide +kernel
theorem dX12_lack_37 : decode cX12_lack 37 = .ok (.ireturn, 1) := by decide +kernel
theorem dX12_strip_0 : decode cX12_strip 0 = .ok (.iload_n 1, 1) := by decide +kernel
theorem dX12_strip_1 : decode cX12_strip 1 = .ok (.invokestatic 314, 3) := by decide +kernel
theorem dX12_strip_4 : decode cX12_strip 4 = .ok (.ifCond .ne 6, 3) := by decide +kernel
theorem dX12_strip_7 : decode cX12_strip 7 = .ok (.bipush (-2), 2) := by decide +kernel
theorem dX12_strip_9 : decode cX12_strip 9 = .ok (.ireturn, 1) := by decide +kernel
theorem dX12_strip_10 : decode cX12_strip 10 = .ok (.iload_n 2, 1) := by decide +kernel
theorem dX12_strip_11 : decode cX12_strip 11 = .ok (.bipush 8, 2) := by decide +kernel
theorem dX12_strip_13 : decode cX12_strip 13 = .ok (.if_icmp .le 6, 3) := by decide +kernel
theorem dX12_strip_16 : decode cX12_strip 16 = .ok (.bipush (-3), 2) := by decide +kernel
theorem dX12_strip_18 : decode cX12_strip 18 = .ok (.ireturn, 1) := by decide +kernel
theorem dX12_strip_19 : decode cX12_strip 19 = .ok (.iload_n 2, 1) := by decide +kernel
theorem dX12_strip_20 : decode cX12_strip 20 = .ok (.ifCond .ge 6, 3) := by decide +kernel
theorem dX12_strip_23 : decode cX12_strip 23 = .ok (.bipush (-13), 2) := by decide +kernel
theorem dX12_strip_25 : decode cX12_strip 25 = .ok (.ireturn, 1) := by decide +kernel
theorem dX12_strip_26 : decode cX12_strip 26 = .ok (.aload_n 0, 1) := by decide +kernel
theorem dX12_strip_27 : decode cX12_strip 27 = .ok (.getfield 82, 3) := by decide +kernel
theorem dX12_strip_30 : decode cX12_strip 30 = .ok (.iload_n 1, 1) := by decide +kernel
theorem dX12_strip_31 : decode cX12_strip 31 = .ok (.iload_n 2, 1) := by decide +kernel
theorem dX12_strip_32 : decode cX12_strip 32 = .ok (.iastore, 1) := by decide +kernel
theorem dX12_strip_33 : decode cX12_strip 33 = .ok (.iconst 0, 1) := by decide +kernel
theorem dX12_strip_34 : decode cX12_strip 34 = .ok (.istore_n 3, 1) := by decide +kernel
theorem dX12_strip_35 : decode cX12_strip 35 = .ok (.iload_n 3, 1) := by decide +kernel
theorem dX12_strip_36 : decode cX12_strip 36 = .ok (.iload_n 2, 1) := by decide +kernel
theorem dX12_strip_37 : decode cX12_strip 37 = .ok (.if_icmp .ge 21, 3) := by decide +kernel
theorem dX12_strip_40 : decode cX12_strip 40 = .ok (.aload_n 0, 1) := by decide +kernel
theorem dX12_strip_41 : decode cX12_strip 41 = .ok (.getfield 85, 3) := by decide +kernel
theorem dX12_strip_44 : decode cX12_strip 44 = .ok (.bipush 8, 2) := by decide +kernel
theorem dX12_strip_46 : decode cX12_strip 46 = .ok (.iload_n 1, 1) := by decide +kernel
theorem dX12_strip_47 : decode cX12_strip 47 = .ok (.imul, 1) := by decide +kernel
theorem dX12_strip_48 : decode cX12_strip 48 = .ok (.iload_n 3, 1) := by decide +kernel
theorem dX12_strip_49 : decode cX12_strip 49 = .ok (.iadd, 1) := by decide +kernel
theorem dX12_strip_50 : decode cX12_strip 50 = .ok (.lconst 0, 1) := by decide +kernel
theorem dX12_strip_51 : decode cX12_strip 51 = .ok (.lastore, 1) := by decide +kernel
theorem dX12_strip_52 : decode cX12_strip 52 = .ok (.iinc 3 1, 3) := by decide +kernel
theorem dX12_strip_55 : decode cX12_strip 55 = .ok (.goto (-20), 3) := by decide +kernel
theorem dX12_strip_58 : decode cX12_strip 58 = .ok (.iload_n 2, 1) := by decide +kernel
theorem dX12_strip_59 : decode cX12_strip 59 = .ok (.ireturn, 1) := by decide +kernel
theorem dX12_set_0 : decode cX12_set 0 = .ok (.iload_n 1, 1) := by decide +kernel
theorem dX12_set_1 : decode cX12_set 1 = .ok (.invokestatic 314, 3) := by decide +kernel
theorem dX12_set_4 : decode cX12_set 4 = .ok (.ifCond .ne 6, 3) := by decide +kernel
theorem dX12_set_7 : decode cX12_set 7 = .ok (.bipush (-2), 2) := by decide +kernel
theorem dX12_set_9 : decode cX12_set 9 = .ok (.ireturn, 1) := by decide +kernel
theorem dX12_set_10 : decode cX12_set 10 = .ok (.aload_n 0, 1) := by decide +kernel
theorem dX12_set_11 : decode cX12_set 11 = .ok (.iload_n 1, 1) := by decide +kernel
theorem dX12_set_12 : decode cX12_set 12 = .ok (.iload_n 2, 1) := by decide +kernel
theorem dX12_set_13 : decode cX12_set 13 = .ok (.invokevirtual 317, 3) := by decide +kernel
theorem dX12_set_16 : decode cX12_set 16 = .ok (.istore 4, 2) := by decide +kernel
theorem dX12_set_18 : decode cX12_set 18 = .ok (.iload 4, 2) := by decide +kernel
theorem dX12_set_20 : decode cX12_set 20 = .ok (.ifCond .eq 6, 3) := by decide +kernel
theorem dX12_set_23 : decode cX12_set 23 = .ok (.iload 4, 2) := by decide +kernel
theorem dX12_set_25 : decode cX12_set 25 = .ok (.ireturn, 1) := by decide +kernel
theorem dX12_set_26 : decode cX12_set 26 = .ok (.aload_n 0, 1) := by decide +kernel
theorem dX12_set_27 : decode cX12_set 27 = .ok (.getfield 85, 3) := by decide +kernel
theorem dX12_set_30 : decode cX12_set 30 = .ok (.bipush 8, 2) := by decide +kernel
theorem dX12_set_32 : decode cX12_set 32 = .ok (.iload_n 1, 1) := by decide +kernel
theorem dX12_set_33 : decode cX12_set 33 = .ok (.imul, 1) := by decide +kernel
theorem dX12_set_34 : decode cX12_set 34 = .ok (.iload_n 2, 1) := by decide +kernel
theorem dX12_set_35 : decode cX12_set 35 = .ok (.iadd, 1) := by decide +kernel
theorem dX12_set_36 : decode cX12_set 36 = .ok (.iload_n 3, 1) := by decide +kernel
theorem dX12_set_37 : decode cX12_set 37 = .ok (.i2l, 1) := by decide +kernel
theorem dX12_set_38 : decode cX12_set 38 = .ok (.lastore, 1) := by decide +kernel
theorem dX12_set_39 : decode cX12_set 39 = .ok (.iconst 1, 1) := by decide +kernel
theorem dX12_set_40 : decode cX12_set 40 = .ok (.ireturn, 1) := by decide +kernel
theorem dX12_load_0 : decode cX12_load 0 = .ok (.iload_n 1, 1) := by decide +kernel
theorem dX12_load_1 : decode cX12_load 1 = .ok (.invokestatic 314, 3) := by decide +kernel
theorem dX12_load_4 : decode cX12_load 4 = .ok (.ifCond .eq 11, 3) := by decide +kernel
theorem dX12_load_7 : decode cX12_load 7 = .ok (.aload_n 0, 1) := by decide +kernel
theorem dX12_load_8 : decode cX12_load 8 = .ok (.iload_n 3, 1) := by decide +kernel
theorem dX12_load_9 : decode cX12_load 9 = .ok (.invokevirtual 269, 3) := by decide +kernel
theorem dX12_load_12 : decode cX12_load 12 = .ok (.ifCond .ne 6, 3) := by decide +kernel
theorem dX12_load_15 : decode cX12_load 15 = .ok (.bipush (-2), 2) := by decide +kernel
theorem dX12_load_17 : decode cX12_load 17 = .ok (.ireturn, 1) := by decide +kernel
theorem dX12_load_18 : decode cX12_load 18 = .ok (.iload 4, 2) := by decide +kernel
theorem dX12_load_20 : decode cX12_load 20 = .ok (.iconst 0, 1) := by decide +kernel
theorem dX12_load_21 : decode cX12_load 21 = .ok (.iconst 1, 1) := by decide +kernel
theorem dX12_load_22 : decode cX12_load 22 = .ok (.invokestatic 88, 3) := by decide +kernel
theorem dX12_load_25 : decode cX12_load 25 = .ok (.ifCond .ne 6, 3) := by decide +kernel
theorem dX12_load_28 : decode cX12_load 28 = .ok (.bipush (-3), 2) := by decide +kernel
theorem dX12_load_30 : decode cX12_load 30 = .ok (.ireturn, 1) := by decide +kernel
theorem dX12_load_31 : decode cX12_load 31 = .ok (.aload_n 0, 1) := by decide +kernel
theorem dX12_load_32 : decode cX12_load 32 = .ok (.iload_n 1, 1) := by decide +kernel
theorem dX12_load_33 : decode cX12_load 33 = .ok (.iload_n 2, 1) := by decide +kernel
theorem dX12_load_34 : decode cX12_load 34 = .ok (.invokevirtual 317, 3) := by decide +kernel
theorem dX12_load_37 : decode cX12_load 37 = .ok (.istore 5, 2) := by decide +kernel
theorem dX12_load_39 : decode cX12_load 39 = .ok (.iload 5, 2) := by decide +kernel
theorem dX12_load_41 : decode cX12_load 41 = .ok (.ifCond .eq 6, 3) := by decide +kernel
theorem dX12_load_44 : decode cX12_load 44 = .ok (.iload 5, 2) := by decide +kernel
theorem dX12_load_46 : decode cX12_load 46 = .ok (.ireturn, 1) := by decide +kernel
theorem dX12_load_47 : decode cX12_load 47 = .ok (.aload_n 0, 1) := by decide +kernel
theorem dX12_load_48 : decode cX12_load 48 = .ok (.invokevirtual 301, 3) := by decide +kernel
theorem dX12_load_51 : decode cX12_load 51 = .ok (.pop, 1) := by decide +kernel
theorem dX12_load_52 : decode cX12_load 52 = .ok (.aload_n 0, 1) := by decide +kernel
theorem dX12_load_53 : decode cX12_load 53 = .ok (.getfield 85, 3) := by decide +kernel
theorem dX12_load_56 : decode cX12_load 56 = .ok (.bipush 8, 2) := by decide +kernel
theorem dX12_load_58 : decode cX12_load 58 = .ok (.iload_n 1, 1) := by decide +kernel
theorem dX12_load_59 : decode cX12_load 59 = .ok (.imul, 1) := by decide +kernel
theorem dX12_load_60 : decode cX12_load 60 = .ok (.iload_n 2, 1) := by decide +kernel
theorem dX12_load_61 : decode cX12_load 61 = .ok (.iadd, 1) := by decide +kernel
theorem dX12_load_62 : decode cX12_load 62 = .ok (.iload 4, 2) := by decide +kernel
theorem dX12_load_64 : decode cX12_load 64 = .ok (.ifCond .ne 12, 3) := by decide +kernel
theorem dX12_load_67 : decode cX12_load 67 = .ok (.aload_n 0, 1) := by decide +kernel
theorem dX12_load_68 : decode cX12_load 68 = .ok (.getfield 54, 3) := by decide +kernel
theorem dX12_load_71 : decode cX12_load 71 = .ok (.iload_n 3, 1) := by decide +kernel
theorem dX12_load_72 : decode cX12_load 72 = .ok (.laload, 1) := by decide +kernel
theorem dX12_load_73 : decode cX12_load 73 = .ok (.goto 9, 3) := by decide +kernel
theorem dX12_load_76 : decode cX12_load 76 = .ok (.aload_n 0, 1) := by decide +kernel
theorem dX12_load_77 : decode cX12_load 77 = .ok (.getfield 70, 3) := by decide +kernel
theorem dX12_load_80 : decode cX12_load 80 = .ok (.iload_n 3, 1) := by decide +kernel
theorem dX12_load_81 : decode cX12_load 81 = .ok (.laload, 1) := by decide +kernel
theorem dX12_load_82 : decode cX12_load 82 = .ok (.lastore, 1) := by decide +kernel
theorem dX12_load_83 : decode cX12_load 83 = .ok (.aload_n 0, 1) := by decide +kernel
theorem dX12_load_84 : decode cX12_load 84 = .ok (.getfield 85, 3) := by decide +kernel
theorem dX12_load_87 : decode cX12_load 87 = .ok (.bipush 8, 2) := by decide +kernel
theorem dX12_load_89 : decode cX12_load 89 = .ok (.iload_n 1, 1) := by decide +kernel
theorem dX12_load_90 : decode cX12_load 90 = .ok (.imul, 1) := by decide +kernel
theorem dX12_load_91 : decode cX12_load 91 = .ok (.iload_n 2, 1) := by decide +kernel
theorem dX12_load_92 : decode cX12_load 92 = .ok (.iadd, 1) := by decide +kernel
theorem dX12_load_93 : decode cX12_load 93 = .ok (.laload, 1) := by decide +kernel
theorem dX12_load_94 : decode cX12_load 94 = .ok (.invokestatic 262, 3) := by decide +kernel
theorem dX12_load_97 : decode cX12_load 97 = .ok (.ireturn, 1) := by decide +kernel
theorem dX12_work_0 : decode cX12_work 0 = .ok (.iload_n 1, 1) := by decide +kernel
theorem dX12_work_1 : decode cX12_work 1 = .ok (.invokestatic 314, 3) := by decide +kernel
theorem dX12_work_4 : decode cX12_work 4 = .ok (.ifCond .ne 6, 3) := by decide +kernel
theorem dX12_work_7 : decode cX12_work 7 = .ok (.bipush (-2), 2) := by decide +kernel
theorem dX12_work_9 : decode cX12_work 9 = .ok (.ireturn, 1) := by decide +kernel
theorem dX12_work_10 : decode cX12_work 10 = .ok (.iload_n 3, 1) := by decide +kernel
theorem dX12_work_11 : decode cX12_work 11 = .ok (.iconst 0, 1) := by decide +kernel
theorem dX12_work_12 : decode cX12_work 12 = .ok (.iconst 3, 1) := by decide +kernel
theorem dX12_work_13 : decode cX12_work 13 = .ok (.invokestatic 88, 3) := by decide +kernel
theorem dX12_work_16 : decode cX12_work 16 = .ok (.ifCond .eq 19, 3) := by decide +kernel
theorem dX12_work_19 : decode cX12_work 19 = .ok (.iload_n 3, 1) := by decide +kernel
theorem dX12_work_20 : decode cX12_work 20 = .ok (.iconst 1, 1) := by decide +kernel
theorem dX12_work_21 : decode cX12_work 21 = .ok (.if_icmp .le 17, 3) := by decide +kernel
theorem dX12_work_24 : decode cX12_work 24 = .ok (.iload 4, 2) := by decide +kernel
theorem dX12_work_26 : decode cX12_work 26 = .ok (.iconst 0, 1) := by decide +kernel
theorem dX12_work_27 : decode cX12_work 27 = .ok (.bipush 99, 2) := by decide +kernel
theorem dX12_work_29 : decode cX12_work 29 = .ok (.invokestatic 88, 3) := by decide +kernel
theorem dX12_work_32 : decode cX12_work 32 = .ok (.ifCond .ne 6, 3) := by decide +kernel
theorem dX12_work_35 : decode cX12_work 35 = .ok (.bipush (-3), 2) := by decide +kernel
theorem dX12_work_37 : decode cX12_work 37 = .ok (.ireturn, 1) := by decide +kernel
theorem dX12_work_38 : decode cX12_work 38 = .ok (.aload_n 0, 1) := by decide +kernel
theorem dX12_work_39 : decode cX12_work 39 = .ok (.iload_n 1, 1) := by decide +kernel
theorem dX12_work_40 : decode cX12_work 40 = .ok (.iload_n 2, 1) := by decide +kernel
theorem dX12_work_41 : decode cX12_work 41 = .ok (.invokevirtual 317, 3) := by decide +kernel
theorem dX12_work_44 : decode cX12_work 44 = .ok (.istore 5, 2) := by decide +kernel
theorem dX12_work_46 : decode cX12_work 46 = .ok (.iload_n 3, 1) := by decide +kernel
theorem dX12_work_47 : decode cX12_work 47 = .ok (.iconst 2, 1) := by decide +kernel
theorem dX12_work_48 : decode cX12_work 48 = .ok (.if_icmp .ge 18, 3) := by decide +kernel
theorem dX12_work_51 : decode cX12_work 51 = .ok (.iload 5, 2) := by decide +kernel
theorem dX12_work_53 : decode cX12_work 53 = .ok (.ifCond .ne 13, 3) := by decide +kernel
theorem dX12_work_56 : decode cX12_work 56 = .ok (.aload_n 0, 1) := by decide +kernel
theorem dX12_work_57 : decode cX12_work 57 = .ok (.iload_n 1, 1) := by decide +kernel
theorem dX12_work_58 : decode cX12_work 58 = .ok (.iload 4, 2) := by decide +kernel
theorem dX12_work_60 : decode cX12_work 60 = .ok (.invokevirtual 317, 3) := by decide +kernel
theorem dX12_work_63 : decode cX12_work 63 = .ok (.goto 5, 3) := by decide +kernel
theorem dX12_work_66 : decode cX12_work 66 = .ok (.iload 5, 2) := by decide +kernel
theorem dX12_work_68 : decode cX12_work 68 = .ok (.istore 6, 2) := by decide +kernel
theorem dX12_work_70 : decode cX12_work 70 = .ok (.iload 6, 2) := by decide +kernel
theorem dX12_work_72 : decode cX12_work 72 = .ok (.ifCond .eq 6, 3) := by decide +kernel
theorem dX12_work_75 : decode cX12_work 75 = .ok (.iload 6, 2) := by decide +kernel
theorem dX12_work_77 : decode cX12_work 77 = .ok (.ireturn, 1) := by decide +kernel
theorem dX12_work_78 : decode cX12_work 78 = .ok (.aload_n 0, 1) := by decide +kernel
theorem dX12_work_79 : decode cX12_work 79 = .ok (.getfield 85, 3) := by decide +kernel
theorem dX12_work_82 : decode cX12_work 82 = .ok (.bipush 8, 2) := by decide +kernel
theorem dX12_work_84 : decode cX12_work 84 = .ok (.iload_n 1, 1) := by decide +kernel
theorem dX12_work_85 : decode cX12_work 85 = .ok (.imul, 1) := by decide +kernel
theorem dX12_work_86 : decode cX12_work 86 = .ok (.iload_n 2, 1) := by decide +kernel
theorem dX12_work_87 : decode cX12_work 87 = .ok (.iadd, 1) := by decide +kernel
theorem dX12_work_88 : decode cX12_work 88 = .ok (.laload, 1) := by decide +kernel
theorem dX12_work_89 : decode cX12_work 89 = .ok (.lstore 7, 2) := by decide +kernel
theorem dX12_work_91 : decode cX12_work 91 = .ok (.iload_n 3, 1) := by decide +kernel
theorem dX12_work_92 : decode cX12_work 92 = .ok (.iconst 2, 1) := by decide +kernel
theorem dX12_work_93 : decode cX12_work 93 = .ok (.if_icmp .ge 18, 3) := by decide +kernel
theorem dX12_work_96 : decode cX12_work 96 = .ok (.aload_n 0, 1) := by decide +kernel
theorem dX12_work_97 : decode cX12_work 97 = .ok (.getfield 85, 3) := by decide +kernel
theorem dX12_work_100 : decode cX12_work 100 = .ok (.bipush 8, 2) := by decide +kernel
theorem dX12_work_102 : decode cX12_work 102 = .ok (.iload_n 1, 1) := by decide +kernel
theorem dX12_work_103 : decode cX12_work 103 = .ok (.imul, 1) := by decide +kernel
theorem dX12_work_104 : decode cX12_work 104 = .ok (.iload 4, 2) := by decide +kernel
theorem dX12_work_106 : decode cX12_work 106 = .ok (.iadd, 1) := by decide +kernel
theorem dX12_work_107 : decode cX12_work 107 = .ok (.laload, 1) := by decide +kernel
theorem dX12_work_108 : decode cX12_work 108 = .ok (.goto 4, 3) := by decide +kernel
theorem dX12_work_111 : decode cX12_work 111 = .ok (.lconst 0, 1) := by decide +kernel
theorem dX12_work_112 : decode cX12_work 112 = .ok (.lstore 9, 2) := by decide +kernel
theorem dX12_work_114 : decode cX12_work 114 = .ok (.aload_n 0, 1) := by decide +kernel
theorem dX12_work_115 : decode cX12_work 115 = .ok (.iload_n 3, 1) := by decide +kernel
theorem dX12_work_116 : decode cX12_work 116 = .ok (.ifCond .ne 11, 3) := by decide +kernel
theorem dX12_work_119 : decode cX12_work 119 = .ok (.lload 7, 2) := by decide +kernel
theorem dX12_work_121 : decode cX12_work 121 = .ok (.lload 9, 2) := by decide +kernel
theorem dX12_work_123 : decode cX12_work 123 = .ok (.land, 1) := by decide +kernel
theorem dX12_work_124 : decode cX12_work 124 = .ok (.goto 34, 3) := by decide +kernel
theorem dX12_work_127 : decode cX12_work 127 = .ok (.iload_n 3, 1) := by decide +kernel
theorem dX12_work_128 : decode cX12_work 128 = .ok (.iconst 1, 1) := by decide +kernel
theorem dX12_work_129 : decode cX12_work 129 = .ok (.if_icmp .ne 11, 3) := by decide +kernel
theorem dX12_work_132 : decode cX12_work 132 = .ok (.lload 7, 2) := by decide +kernel
theorem dX12_work_134 : decode cX12_work 134 = .ok (.lload 9, 2) := by decide +kernel
theorem dX12_work_136 : decode cX12_work 136 = .ok (.lor, 1) := by decide +kernel
theorem dX12_work_137 : decode cX12_work 137 = .ok (.goto 21, 3) := by decide +kernel
theorem dX12_work_140 : decode cX12_work 140 = .ok (.iload_n 3, 1) := by decide +kernel
theorem dX12_work_141 : decode cX12_work 141 = .ok (.iconst 2, 1) := by decide +kernel
theorem dX12_work_142 : decode cX12_work 142 = .ok (.if_icmp .ne 11, 3) := by decide +kernel
theorem dX12_work_145 : decode cX12_work 145 = .ok (.lload 7, 2) := by decide +kernel
theorem dX12_work_147 : decode cX12_work 147 = .ok (.iload 4, 2) := by decide +kernel
theorem dX12_work_149 : decode cX12_work 149 = .ok (.lshl, 1) := by decide +kernel
theorem dX12_work_150 : decode cX12_work 150 = .ok (.goto 8, 3) := by decide +kernel
theorem dX12_work_153 : decode cX12_work 153 = .ok (.lload 7, 2) := by decide +kernel
theorem dX12_work_155 : decode cX12_work 155 = .ok (.iload 4, 2) := by decide +kernel
theorem dX12_work_157 : decode cX12_work 157 = .ok (.lshr, 1) := by decide +kernel
theorem dX12_work_158 : decode cX12_work 158 = .ok (.putfield 320, 3) := by decide +kernel
theorem dX12_work_161 : decode cX12_work 161 = .ok (.aload_n 0, 1) := by decide +kernel
theorem dX12_work_162 : decode cX12_work 162 = .ok (.getfield 85, 3) := by decide +kernel
theorem dX12_work_165 : decode cX12_work 165 = .ok (.bipush 8, 2) := by decide +kernel
theorem dX12_work_167 : decode cX12_work 167 = .ok (.iload_n 1, 1) := by decide +kernel
theorem dX12_work_168 : decode cX12_work 168 = .ok (.imul, 1) := by decide +kernel
theorem dX12_work_169 : decode cX12_work 169 = .ok (.iload_n 2, 1) := by decide +kernel
theorem dX12_work_170 : decode cX12_work 170 = .ok (.iadd, 1) := by decide +kernel
theorem dX12_work_171 : decode cX12_work 171 = .ok (.aload_n 0, 1) := by decide +kernel
theorem dX12_work_172 : decode cX12_work 172 = .ok (.getfield 320, 3) := by decide +kernel
theorem dX12_work_175 : decode cX12_work 175 = .ok (.lastore, 1) := by decide +kernel
theorem dX12_work_176 : decode cX12_work 176 = .ok (.iconst 1, 1) := by decide +kernel
theorem dX12_work_177 : decode cX12_work 177 = .ok (.ireturn, 1) := by decide +kernel
theorem dX12_bits_0 : decode cX12_bits 0 = .ok (.iload_n 1, 1) := by decide +kernel
theorem dX12_bits_1 : decode cX12_bits 1 = .ok (.invokestatic 314, 3) := by decide +kernel
theorem dX12_bits_4 : decode cX12_bits 4 = .ok (.ifCond .ne 6, 3) := by decide +kernel
theorem dX12_bits_7 : decode cX12_bits 7 = .ok (.bipush (-2), 2) := by decide +kernel
theorem dX12_bits_9 : decode cX12_bits 9 = .ok (.ireturn, 1) := by decide +kernel
theorem dX12_bits_10 : decode cX12_bits 10 = .ok (.aload_n 0, 1) := by decide +kernel
theorem dX12_bits_11 : decode cX12_bits 11 = .ok (.iload_n 1, 1) := by decide +kernel
theorem dX12_bits_12 : decode cX12_bits 12 = .ok (.iload_n 2, 1) := by decide +kernel
theorem dX12_bits_13 : decode cX12_bits 13 = .ok (.invokevirtual 317, 3) := by decide +kernel
theorem dX12_bits_16 : decode cX12_bits 16 = .ok (.istore_n 3, 1) := by decide +kernel
theorem dX12_bits_17 : decode cX12_bits 17 = .ok (.iload_n 3, 1) := by decide +kernel
theorem dX12_bits_18 : decode cX12_bits 18 = .ok (.ifCond .eq 7, 3) := by decide +kernel
theorem dX12_bits_21 : decode cX12_bits 21 = .ok (.iload_n 3, 1) := by decide +kernel
theorem dX12_bits_22 : decode cX12_bits 22 = .ok (.goto 17, 3) := by decide +kernel
theorem dX12_bits_25 : decode cX12_bits 25 = .ok (.aload_n 0, 1) := by decide +kernel
theorem dX12_bits_26 : decode cX12_bits 26 = .ok (.getfield 85, 3) := by decide +kernel
theorem dX12_bits_29 : decode cX12_bits 29 = .ok (.bipush 8, 2) := by decide +kernel
theorem dX12_bits_31 : decode cX12_bits 31 = .ok (.iload_n 1, 1) := by decide +kernel
theorem dX12_bits_32 : decode cX12_bits 32 = .ok (.imul, 1) := by decide +kernel
theorem dX12_bits_33 : decode cX12_bits 33 = .ok (.iload_n 2, 1) := by decide +kernel
theorem dX12_bits_34 : decode cX12_bits 34 = .ok (.iadd, 1) := by decide +kernel
theorem dX12_bits_35 : decode cX12_bits 35 = .ok (.laload, 1) := by decide +kernel
theorem dX12_bits_36 : decode cX12_bits 36 = .ok (.invokestatic 262, 3) := by decide +kernel
theorem dX12_bits_39 : decode cX12_bits 39 = .ok (.ireturn, 1) := by decide +kernel
theorem dX12_sum_0 : decode cX12_sum 0 = .ok (.iload_n 1, 1) := by decide +kernel
theorem dX12_sum_1 : decode cX12_sum 1 = .ok (.invokestatic 314, 3) := by decide +kernel
theorem dX12_sum_4 : decode cX12_sum 4 = .ok (.ifCond .ne 6, 3) := by decide +kernel
theorem dX12_sum_7 : decode cX12_sum 7 = .ok (.bipush (-2), 2) := by decide +kernel
theorem dX12_sum_9 : decode cX12_sum 9 = .ok (.ireturn, 1) := by decide +kernel
theorem dX12_sum_10 : decode cX12_sum 10 = .ok (.aload_n 0, 1) := by decide +kernel
theorem dX12_sum_11 : decode cX12_sum 11 = .ok (.getfield 82, 3) := by decide +kernel
theorem dX12_sum_14 : decode cX12_sum 14 = .ok (.iload_n 1, 1) := by decide +kernel
theorem dX12_sum_15 : decode cX12_sum 15 = .ok (.iaload, 1) := by decide +kernel
theorem dX12_sum_16 : decode cX12_sum 16 = .ok (.iconst (-1), 1) := by decide +kernel
theorem dX12_sum_17 : decode cX12_sum 17 = .ok (.if_icmp .ne 6, 3) := by decide +kernel
theorem dX12_sum_20 : decode cX12_sum 20 = .ok (.bipush (-11), 2) := by decide +kernel
theorem dX12_sum_22 : decode cX12_sum 22 = .ok (.ireturn, 1) := by decide +kernel
theorem dX12_sum_23 : decode cX12_sum 23 = .ok (.aload_n 0, 1) := by decide +kernel
theorem dX12_sum_24 : decode cX12_sum 24 = .ok (.lconst 0, 1) := by decide +kernel
theorem dX12_sum_25 : decode cX12_sum 25 = .ok (.putfield 320, 3) := by decide +kernel
theorem dX12_sum_28 : decode cX12_sum 28 = .ok (.iconst 0, 1) := by decide +kernel
theorem dX12_sum_29 : decode cX12_sum 29 = .ok (.istore_n 2, 1) := by decide +kernel
theorem dX12_sum_30 : decode cX12_sum 30 = .ok (.iload_n 2, 1) := by decide +kernel
theorem dX12_sum_31 : decode cX12_sum 31 = .ok (.aload_n 0, 1) := by decide +kernel
theorem dX12_sum_32 : decode cX12_sum 32 = .ok (.getfield 82, 3) := by decide +kernel
theorem dX12_sum_35 : decode cX12_sum 35 = .ok (.iload_n 1, 1) := by decide +kernel
theorem dX12_sum_36 : decode cX12_sum 36 = .ok (.iaload, 1) := by decide +kernel
theorem dX12_sum_37 : decode cX12_sum 37 = .ok (.if_icmp .ge 29, 3) := by decide +kernel
theorem dX12_sum_40 : decode cX12_sum 40 = .ok (.aload_n 0, 1) := by decide +kernel
theorem dX12_sum_41 : decode cX12_sum 41 = .ok (.dup, 1) := by decide +kernel
theorem dX12_sum_42 : decode cX12_sum 42 = .ok (.getfield 320, 3) := by decide +kernel
theorem dX12_sum_45 : decode cX12_sum 45 = .ok (.aload_n 0, 1) := by decide +kernel
theorem dX12_sum_46 : decode cX12_sum 46 = .ok (.getfield 85, 3) := by decide +kernel
theorem dX12_sum_49 : decode cX12_sum 49 = .ok (.bipush 8, 2) := by decide +kernel
theorem dX12_sum_51 : decode cX12_sum 51 = .ok (.iload_n 1, 1) := by decide +kernel
theorem dX12_sum_52 : decode cX12_sum 52 = .ok (.imul, 1) := by decide +kernel
theorem dX12_sum_53 : decode cX12_sum 53 = .ok (.iload_n 2, 1) := by decide +kernel
theorem dX12_sum_54 : decode cX12_sum 54 = .ok (.iadd, 1) := by decide +kernel
theorem dX12_sum_55 : decode cX12_sum 55 = .ok (.laload, 1) := by decide +kernel
theorem dX12_sum_56 : decode cX12_sum 56 = .ok (.ladd, 1) := by decide +kernel
theorem dX12_sum_57 : decode cX12_sum 57 = .ok (.putfield 320, 3) := by decide +kernel
theorem dX12_sum_60 : decode cX12_sum 60 = .ok (.iinc 2 1, 3) := by decide +kernel
theorem dX12_sum_63 : decode cX12_sum 63 = .ok (.goto (-33), 3) := by decide +kernel
theorem dX12_sum_66 : decode cX12_sum 66 = .ok (.aload_n 0, 1) := by decide +kernel
theorem dX12_sum_67 : decode cX12_sum 67 = .ok (.getfield 82, 3) := by decide +kernel
theorem dX12_sum_70 : decode cX12_sum 70 = .ok (.iload_n 1, 1) := by decide +kernel
theorem dX12_sum_71 : decode cX12_sum 71 = .ok (.iaload, 1) := by decide +kernel
theorem dX12_sum_72 : decode cX12_sum 72 = .ok (.ireturn, 1) := by decide +kernel
theorem dX12_drop_0 : decode cX12_drop 0 = .ok (.iload_n 1, 1) := by decide +kernel
theorem dX12_drop_1 : decode cX12_drop 1 = .ok (.invokestatic 314, 3) := by decide +kernel
theorem dX12_drop_4 : decode cX12_drop 4 = .ok (.ifCond .ne 6, 3) := by decide +kernel
theorem dX12_drop_7 : decode cX12_drop 7 = .ok (.bipush (-2), 2) := by decide +kernel
theorem dX12_drop_9 : decode cX12_drop 9 = .ok (.ireturn, 1) := by decide +kernel
theorem dX12_drop_10 : decode cX12_drop 10 = .ok (.aload_n 0, 1) := by decide +kernel
theorem dX12_drop_11 : decode cX12_drop 11 = .ok (.getfield 82, 3) := by decide +kernel
theorem dX12_drop_14 : decode cX12_drop 14 = .ok (.iload_n 1, 1) := by decide +kernel
theorem dX12_drop_15 : decode cX12_drop 15 = .ok (.iaload, 1) := by decide +kernel
theorem dX12_drop_16 : decode cX12_drop 16 = .ok (.istore_n 2, 1) := by decide +kernel
theorem dX12_drop_17 : decode cX12_drop 17 = .ok (.aload_n 0, 1) := by decide +kernel
theorem dX12_drop_18 : decode cX12_drop 18 = .ok (.getfield 82, 3) := by decide +kernel
theorem dX12_drop_21 : decode cX12_drop 21 = .ok (.iload_n 1, 1) := by decide +kernel
theorem dX12_drop_22 : decode cX12_drop 22 = .ok (.iconst (-1), 1) := by decide +kernel
theorem dX12_drop_23 : decode cX12_drop 23 = .ok (.iastore, 1) := by decide +kernel
theorem dX12_drop_24 : decode cX12_drop 24 = .ok (.iload_n 2, 1) := by decide +kernel
theorem dX12_drop_25 : decode cX12_drop 25 = .ok (.iconst (-1), 1) := by decide +kernel
theorem dX12_drop_26 : decode cX12_drop 26 = .ok (.if_icmp .ne 8, 3) := by decide +kernel
theorem dX12_drop_29 : decode cX12_drop 29 = .ok (.bipush (-11), 2) := by decide +kernel
theorem dX12_drop_31 : decode cX12_drop 31 = .ok (.goto 4, 3) := by decide +kernel
theorem dX12_drop_34 : decode cX12_drop 34 = .ok (.iload_n 2, 1) := by decide +kernel
theorem dX12_drop_35 : decode cX12_drop 35 = .ok (.ireturn, 1) := by decide +kernel
theorem dX12_latest_0 : decode cX12_latest 0 = .ok (.aload_n 0, 1) := by decide +kernel
theorem dX12_latest_1 : decode cX12_latest 1 = .ok (.getfield 320, 3) := by decide +kernel
theorem dX12_latest_4 : decode cX12_latest 4 = .ok (.lreturn, 1) := by decide +kernel
theorem dX12_pairs_0 : decode cX12_pairs 0 = .ok (.iconst 0, 1) := by decide +kernel
theorem dX12_pairs_1 : decode cX12_pairs 1 = .ok (.istore_n 1, 1) := by decide +kernel
theorem dX12_pairs_2 : decode cX12_pairs 2 = .ok (.iconst 0, 1) := by decide +kernel
theorem dX12_pairs_3 : decode cX12_pairs 3 = .ok (.istore_n 2, 1) := by decide +kernel
theorem dX12_pairs_4 : decode cX12_pairs 4 = .ok (.iload_n 2, 1) := by decide +kernel
theorem dX12_pairs_5 : decode cX12_pairs 5 = .ok (.aload_n 0, 1) := by decide +kernel
theorem dX12_pairs_6 : decode cX12_pairs 6 = .ok (.getfield 166, 3) := by decide +kernel
theorem dX12_pairs_9 : decode cX12_pairs 9 = .ok (.if_icmp .ge 47, 3) := by decide +kernel
theorem dX12_pairs_12 : decode cX12_pairs 12 = .ok (.iconst 0, 1) := by decide +kernel
theorem dX12_pairs_13 : decode cX12_pairs 13 = .ok (.istore_n 3, 1) := by decide +kernel
theorem dX12_pairs_14 : decode cX12_pairs 14 = .ok (.iload_n 3, 1) := by decide +kernel
theorem dX12_pairs_15 : decode cX12_pairs 15 = .ok (.aload_n 0, 1) := by decide +kernel
theorem dX12_pairs_16 : decode cX12_pairs 16 = .ok (.getfield 166, 3) := by decide +kernel
theorem dX12_pairs_19 : decode cX12_pairs 19 = .ok (.if_icmp .ge 31, 3) := by decide +kernel
theorem dX12_pairs_22 : decode cX12_pairs 22 = .ok (.iload_n 1, 1) := by decide +kernel
theorem dX12_pairs_23 : decode cX12_pairs 23 = .ok (.iload_n 2, 1) := by decide +kernel
theorem dX12_pairs_24 : decode cX12_pairs 24 = .ok (.iload_n 3, 1) := by decide +kernel
theorem dX12_pairs_25 : decode cX12_pairs 25 = .ok (.if_icmp .eq 16, 3) := by decide +kernel
theorem dX12_pairs_28 : decode cX12_pairs 28 = .ok (.aload_n 0, 1) := by decide +kernel
theorem dX12_pairs_29 : decode cX12_pairs 29 = .ok (.iload_n 2, 1) := by decide +kernel
theorem dX12_pairs_30 : decode cX12_pairs 30 = .ok (.iload_n 3, 1) := by decide +kernel
theorem dX12_pairs_31 : decode cX12_pairs 31 = .ok (.invokevirtual 266, 3) := by decide +kernel
theorem dX12_pairs_34 : decode cX12_pairs 34 = .ok (.ifCond .eq 7, 3) := by decide +kernel
theorem dX12_pairs_37 : decode cX12_pairs 37 = .ok (.iconst 1, 1) := by decide +kernel
theorem dX12_pairs_38 : decode cX12_pairs 38 = .ok (.goto 4, 3) := by decide +kernel
theorem dX12_pairs_41 : decode cX12_pairs 41 = .ok (.iconst 0, 1) := by decide +kernel
theorem dX12_pairs_42 : decode cX12_pairs 42 = .ok (.iadd, 1) := by decide +kernel
theorem dX12_pairs_43 : decode cX12_pairs 43 = .ok (.istore_n 1, 1) := by decide +kernel
theorem dX12_pairs_44 : decode cX12_pairs 44 = .ok (.iinc 3 1, 3) := by decide +kernel
theorem dX12_pairs_47 : decode cX12_pairs 47 = .ok (.goto (-33), 3) := by decide +kernel
theorem dX12_pairs_50 : decode cX12_pairs 50 = .ok (.iinc 2 1, 3) := by decide +kernel
theorem dX12_pairs_53 : decode cX12_pairs 53 = .ok (.goto (-49), 3) := by decide +kernel
theorem dX12_pairs_56 : decode cX12_pairs 56 = .ok (.iload_n 1, 1) := by decide +kernel
theorem dX12_pairs_57 : decode cX12_pairs 57 = .ok (.ireturn, 1) := by decide +kernel
theorem dX12_placesOfAll_0 : decode cX12_placesOfAll 0 = .ok (.iconst 0, 1) := by decide +kernel
theorem dX12_placesOfAll_1 : decode cX12_placesOfAll 1 = .ok (.istore_n 1, 1) := by decide +kernel
theorem dX12_placesOfAll_2 : decode cX12_placesOfAll 2 = .ok (.iconst 0, 1) := by decide +kernel
theorem dX12_placesOfAll_3 : decode cX12_placesOfAll 3 = .ok (.istore_n 2, 1) := by decide +kernel
theorem dX12_placesOfAll_4 : decode cX12_placesOfAll 4 = .ok (.iload_n 2, 1) := by decide +kernel
theorem dX12_placesOfAll_5 : decode cX12_placesOfAll 5 = .ok (.iconst 3, 1) := by decide +kernel
theorem dX12_placesOfAll_6 : decode cX12_placesOfAll 6 = .ok (.if_icmp .ge 32, 3) := by decide +kernel
theorem dX12_placesOfAll_9 : decode cX12_placesOfAll 9 = .ok (.iload_n 1, 1) := by decide +kernel
theorem dX12_placesOfAll_10 : decode cX12_placesOfAll 10 = .ok (.aload_n 0, 1) := by decide +kernel
theorem dX12_placesOfAll_11 : decode cX12_placesOfAll 11 = .ok (.getfield 82, 3) := by decide +kernel
theorem dX12_placesOfAll_14 : decode cX12_placesOfAll 14 = .ok (.iload_n 2, 1) := by decide +kernel
theorem dX12_placesOfAll_15 : decode cX12_placesOfAll 15 = .ok (.iaload, 1) := by decide +kernel
theorem dX12_placesOfAll_16 : decode cX12_placesOfAll 16 = .ok (.iconst (-1), 1) := by decide +kernel
theorem dX12_placesOfAll_17 : decode cX12_placesOfAll 17 = .ok (.if_icmp .ne 7, 3) := by decide +kernel
theorem dX12_placesOfAll_20 : decode cX12_placesOfAll 20 = .ok (.iconst 0, 1) := by decide +kernel
theorem dX12_placesOfAll_21 : decode cX12_placesOfAll 21 = .ok (.goto 9, 3) := by decide +kernel
theorem dX12_placesOfAll_24 : decode cX12_placesOfAll 24 = .ok (.aload_n 0, 1) := by decide +kernel
theorem dX12_placesOfAll_25 : decode cX12_placesOfAll 25 = .ok (.getfield 82, 3) := by decide +kernel
theorem dX12_placesOfAll_28 : decode cX12_placesOfAll 28 = .ok (.iload_n 2, 1) := by decide +kernel
theorem dX12_placesOfAll_29 : decode cX12_placesOfAll 29 = .ok (.iaload, 1) := by decide +kernel
theorem dX12_placesOfAll_30 : decode cX12_placesOfAll 30 = .ok (.iadd, 1) := by decide +kernel
theorem dX12_placesOfAll_31 : decode cX12_placesOfAll 31 = .ok (.istore_n 1, 1) := by decide +kernel
theorem dX12_placesOfAll_32 : decode cX12_placesOfAll 32 = .ok (.iinc 2 1, 3) := by decide +kernel
theorem dX12_placesOfAll_35 : decode cX12_placesOfAll 35 = .ok (.goto (-31), 3) := by decide +kernel
theorem dX12_placesOfAll_38 : decode cX12_placesOfAll 38 = .ok (.iload_n 1, 1) := by decide +kernel
theorem dX12_placesOfAll_39 : decode cX12_placesOfAll 39 = .ok (.ireturn, 1) := by decide +kernel
theorem dX12_count_0 : decode cX12_count 0 = .ok (.iload_n 1, 1) := by decide +kernel
theorem dX12_count_1 : decode cX12_count 1 = .ok (.tableswitch 107 0 9 #[55, 60, 65, 72, 77, 82, 87, 92, 97, 102], 55) := by decide +kernel
theorem dX12_count_56 : decode cX12_count 56 = .ok (.aload_n 0, 1) := by decide +kernel
theorem dX12_count_57 : decode cX12_count 57 = .ok (.getfield 166, 3) := by decide +kernel
theorem dX12_count_60 : decode cX12_count 60 = .ok (.ireturn, 1) := by decide +kernel
theorem dX12_count_61 : decode cX12_count 61 = .ok (.aload_n 0, 1) := by decide +kernel
theorem dX12_count_62 : decode cX12_count 62 = .ok (.getfield 169, 3) := by decide +kernel
theorem dX12_count_65 : decode cX12_count 65 = .ok (.ireturn, 1) := by decide +kernel
theorem dX12_count_66 : decode cX12_count 66 = .ok (.aload_n 0, 1) := by decide +kernel
theorem dX12_count_67 : decode cX12_count 67 = .ok (.getfield 38, 3) := by decide +kernel
theorem dX12_count_70 : decode cX12_count 70 = .ok (.iconst 0, 1) := by decide +kernel
theorem dX12_count_71 : decode cX12_count 71 = .ok (.iaload, 1) := by decide +kernel
theorem dX12_count_72 : decode cX12_count 72 = .ok (.ireturn, 1) := by decide +kernel
theorem dX12_count_73 : decode cX12_count 73 = .ok (.aload_n 0, 1) := by decide +kernel
theorem dX12_count_74 : decode cX12_count 74 = .ok (.invokevirtual 324, 3) := by decide +kernel
theorem dX12_count_77 : decode cX12_count 77 = .ok (.ireturn, 1) := by decide +kernel
theorem dX12_count_78 : decode cX12_count 78 = .ok (.aload_n 0, 1) := by decide +kernel
theorem dX12_count_79 : decode cX12_count 79 = .ok (.getfield 22, 3) := by decide +kernel
theorem dX12_count_82 : decode cX12_count 82 = .ok (.ireturn, 1) := by decide +kernel
theorem dX12_count_83 : decode cX12_count 83 = .ok (.aload_n 0, 1) := by decide +kernel
theorem dX12_count_84 : decode cX12_count 84 = .ok (.getfield 26, 3) := by decide +kernel
theorem dX12_count_87 : decode cX12_count 87 = .ok (.ireturn, 1) := by decide +kernel
theorem dX12_count_88 : decode cX12_count 88 = .ok (.aload_n 0, 1) := by decide +kernel
theorem dX12_count_89 : decode cX12_count 89 = .ok (.getfield 29, 3) := by decide +kernel
theorem dX12_count_92 : decode cX12_count 92 = .ok (.ireturn, 1) := by decide +kernel
theorem dX12_count_93 : decode cX12_count 93 = .ok (.aload_n 0, 1) := by decide +kernel
theorem dX12_count_94 : decode cX12_count 94 = .ok (.invokevirtual 327, 3) := by decide +kernel
theorem dX12_count_97 : decode cX12_count 97 = .ok (.ireturn, 1) := by decide +kernel
theorem dX12_count_98 : decode cX12_count 98 = .ok (.aload_n 0, 1) := by decide +kernel
theorem dX12_count_99 : decode cX12_count 99 = .ok (.getfield 189, 3) := by decide +kernel
theorem dX12_count_102 : decode cX12_count 102 = .ok (.ireturn, 1) := by decide +kernel
theorem dX12_count_103 : decode cX12_count 103 = .ok (.aload_n 0, 1) := by decide +kernel
theorem dX12_count_104 : decode cX12_count 104 = .ok (.getfield 92, 3) := by decide +kernel
theorem dX12_count_107 : decode cX12_count 107 = .ok (.ireturn, 1) := by decide +kernel
theorem dX12_count_108 : decode cX12_count 108 = .ok (.bipush (-3), 2) := by decide +kernel
theorem dX12_count_110 : decode cX12_count 110 = .ok (.ireturn, 1) := by decide +kernel
theorem dJ6_numberOfLeadingZeros_0f7a4_0 : decode cJ6_numberOfLeadingZeros_0f7a4 0 = .ok (.iload_n 0, 1) := by decide +kernel
theorem dJ6_numberOfLeadingZeros_0f7a4_1 : decode cJ6_numberOfLeadingZeros_0f7a4 1 = .ok (.ifCond .gt 14, 3) := by decide +kernel
theorem dJ6_numberOfLeadingZeros_0f7a4_4 : decode cJ6_numberOfLeadingZeros_0f7a4 4 = .ok (.iload_n 0, 1) := by decide +kernel
theorem dJ6_numberOfLeadingZeros_0f7a4_5 : decode cJ6_numberOfLeadingZeros_0f7a4 5 = .ok (.ifCond .ne 8, 3) := by decide +kernel
theorem dJ6_numberOfLeadingZeros_0f7a4_8 : decode cJ6_numberOfLeadingZeros_0f7a4 8 = .ok (.bipush 32, 2) := by decide +kernel
theorem dJ6_numberOfLeadingZeros_0f7a4_10 : decode cJ6_numberOfLeadingZeros_0f7a4 10 = .ok (.goto 4, 3) := by decide +kernel
theorem dJ6_numberOfLeadingZeros_0f7a4_13 : decode cJ6_numberOfLeadingZeros_0f7a4 13 = .ok (.iconst 0, 1) := by decide +kernel
theorem dJ6_numberOfLeadingZeros_0f7a4_14 : decode cJ6_numberOfLeadingZeros_0f7a4 14 = .ok (.ireturn, 1) := by decide +kernel
theorem dJ6_numberOfLeadingZeros_0f7a4_15 : decode cJ6_numberOfLeadingZeros_0f7a4 15 = .ok (.bipush 31, 2) := by decide +kernel
theorem dJ6_numberOfLeadingZeros_0f7a4_17 : decode cJ6_numberOfLeadingZeros_0f7a4 17 = .ok (.istore_n 1, 1) := by decide +kernel
theorem dJ6_numberOfLeadingZeros_0f7a4_18 : decode cJ6_numberOfLeadingZeros_0f7a4 18 = .ok (.iload_n 0, 1) := by decide +kernel
theorem dJ6_numberOfLeadingZeros_0f7a4_19 : decode cJ6_numberOfLeadingZeros_0f7a4 19 = .ok (.ldc_w 264, 3) := by decide +kernel
theorem dJ6_numberOfLeadingZeros_0f7a4_22 : decode cJ6_numberOfLeadingZeros_0f7a4 22 = .ok (.if_icmp .lt 11, 3) := by decide +kernel
theorem dJ6_numberOfLeadingZeros_0f7a4_25 : decode cJ6_numberOfLeadingZeros_0f7a4 25 = .ok (.iinc 1 (-16), 3) := by decide +kernel
theorem dJ6_numberOfLeadingZeros_0f7a4_28 : decode cJ6_numberOfLeadingZeros_0f7a4 28 = .ok (.iload_n 0, 1) := by decide +kernel
theorem dJ6_numberOfLeadingZeros_0f7a4_29 : decode cJ6_numberOfLeadingZeros_0f7a4 29 = .ok (.bipush 16, 2) := by decide +kernel
theorem dJ6_numberOfLeadingZeros_0f7a4_31 : decode cJ6_numberOfLeadingZeros_0f7a4 31 = .ok (.iushr, 1) := by decide +kernel
theorem dJ6_numberOfLeadingZeros_0f7a4_32 : decode cJ6_numberOfLeadingZeros_0f7a4 32 = .ok (.istore_n 0, 1) := by decide +kernel
theorem dJ6_numberOfLeadingZeros_0f7a4_33 : decode cJ6_numberOfLeadingZeros_0f7a4 33 = .ok (.iload_n 0, 1) := by decide +kernel
theorem dJ6_numberOfLeadingZeros_0f7a4_34 : decode cJ6_numberOfLeadingZeros_0f7a4 34 = .ok (.sipush 256, 3) := by decide +kernel
theorem dJ6_numberOfLeadingZeros_0f7a4_37 : decode cJ6_numberOfLeadingZeros_0f7a4 37 = .ok (.if_icmp .lt 11, 3) := by decide +kernel
theorem dJ6_numberOfLeadingZeros_0f7a4_40 : decode cJ6_numberOfLeadingZeros_0f7a4 40 = .ok (.iinc 1 (-8), 3) := by decide +kernel
theorem dJ6_numberOfLeadingZeros_0f7a4_43 : decode cJ6_numberOfLeadingZeros_0f7a4 43 = .ok (.iload_n 0, 1) := by decide +kernel
theorem dJ6_numberOfLeadingZeros_0f7a4_44 : decode cJ6_numberOfLeadingZeros_0f7a4 44 = .ok (.bipush 8, 2) := by decide +kernel
theorem dJ6_numberOfLeadingZeros_0f7a4_46 : decode cJ6_numberOfLeadingZeros_0f7a4 46 = .ok (.iushr, 1) := by decide +kernel
theorem dJ6_numberOfLeadingZeros_0f7a4_47 : decode cJ6_numberOfLeadingZeros_0f7a4 47 = .ok (.istore_n 0, 1) := by decide +kernel
theorem dJ6_numberOfLeadingZeros_0f7a4_48 : decode cJ6_numberOfLeadingZeros_0f7a4 48 = .ok (.iload_n 0, 1) := by decide +kernel
theorem dJ6_numberOfLeadingZeros_0f7a4_49 : decode cJ6_numberOfLeadingZeros_0f7a4 49 = .ok (.bipush 16, 2) := by decide +kernel
theorem dJ6_numberOfLeadingZeros_0f7a4_51 : decode cJ6_numberOfLeadingZeros_0f7a4 51 = .ok (.if_icmp .lt 10, 3) := by decide +kernel
theorem dJ6_numberOfLeadingZeros_0f7a4_54 : decode cJ6_numberOfLeadingZeros_0f7a4 54 = .ok (.iinc 1 (-4), 3) := by decide +kernel
theorem dJ6_numberOfLeadingZeros_0f7a4_57 : decode cJ6_numberOfLeadingZeros_0f7a4 57 = .ok (.iload_n 0, 1) := by decide +kernel
theorem dJ6_numberOfLeadingZeros_0f7a4_58 : decode cJ6_numberOfLeadingZeros_0f7a4 58 = .ok (.iconst 4, 1) := by decide +kernel
theorem dJ6_numberOfLeadingZeros_0f7a4_59 : decode cJ6_numberOfLeadingZeros_0f7a4 59 = .ok (.iushr, 1) := by decide +kernel
theorem dJ6_numberOfLeadingZeros_0f7a4_60 : decode cJ6_numberOfLeadingZeros_0f7a4 60 = .ok (.istore_n 0, 1) := by decide +kernel
theorem dJ6_numberOfLeadingZeros_0f7a4_61 : decode cJ6_numberOfLeadingZeros_0f7a4 61 = .ok (.iload_n 0, 1) := by decide +kernel
theorem dJ6_numberOfLeadingZeros_0f7a4_62 : decode cJ6_numberOfLeadingZeros_0f7a4 62 = .ok (.iconst 4, 1) := by decide +kernel
theorem dJ6_numberOfLeadingZeros_0f7a4_63 : decode cJ6_numberOfLeadingZeros_0f7a4 63 = .ok (.if_icmp .lt 10, 3) := by decide +kernel
theorem dJ6_numberOfLeadingZeros_0f7a4_66 : decode cJ6_numberOfLeadingZeros_0f7a4 66 = .ok (.iinc 1 (-2), 3) := by decide +kernel
theorem dJ6_numberOfLeadingZeros_0f7a4_69 : decode cJ6_numberOfLeadingZeros_0f7a4 69 = .ok (.iload_n 0, 1) := by decide +kernel
theorem dJ6_numberOfLeadingZeros_0f7a4_70 : decode cJ6_numberOfLeadingZeros_0f7a4 70 = .ok (.iconst 2, 1) := by decide +kernel
theorem dJ6_numberOfLeadingZeros_0f7a4_71 : decode cJ6_numberOfLeadingZeros_0f7a4 71 = .ok (.iushr, 1) := by decide +kernel
theorem dJ6_numberOfLeadingZeros_0f7a4_72 : decode cJ6_numberOfLeadingZeros_0f7a4 72 = .ok (.istore_n 0, 1) := by decide +kernel
theorem dJ6_numberOfLeadingZeros_0f7a4_73 : decode cJ6_numberOfLeadingZeros_0f7a4 73 = .ok (.iload_n 1, 1) := by decide +kernel
theorem dJ6_numberOfLeadingZeros_0f7a4_74 : decode cJ6_numberOfLeadingZeros_0f7a4 74 = .ok (.iload_n 0, 1) := by decide +kernel
theorem dJ6_numberOfLeadingZeros_0f7a4_75 : decode cJ6_numberOfLeadingZeros_0f7a4 75 = .ok (.iconst 1, 1) := by decide +kernel
theorem dJ6_numberOfLeadingZeros_0f7a4_76 : decode cJ6_numberOfLeadingZeros_0f7a4 76 = .ok (.iushr, 1) := by decide +kernel
theorem dJ6_numberOfLeadingZeros_0f7a4_77 : decode cJ6_numberOfLeadingZeros_0f7a4 77 = .ok (.isub, 1) := by decide +kernel
theorem dJ6_numberOfLeadingZeros_0f7a4_78 : decode cJ6_numberOfLeadingZeros_0f7a4 78 = .ok (.ireturn, 1) := by decide +kernel
theorem dJ6_numberOfTrailingZeros_0f7a4_0 : decode cJ6_numberOfTrailingZeros_0f7a4 0 = .ok (.iload_n 0, 1) := by decide +kernel
theorem dJ6_numberOfTrailingZeros_0f7a4_1 : decode cJ6_numberOfTrailingZeros_0f7a4 1 = .ok (.iconst (-1), 1) := by decide +kernel
theorem dJ6_numberOfTrailingZeros_0f7a4_2 : decode cJ6_numberOfTrailingZeros_0f7a4 2 = .ok (.ixor, 1) := by decide +kernel
theorem dJ6_numberOfTrailingZeros_0f7a4_3 : decode cJ6_numberOfTrailingZeros_0f7a4 3 = .ok (.iload_n 0, 1) := by decide +kernel
theorem dJ6_numberOfTrailingZeros_0f7a4_4 : decode cJ6_numberOfTrailingZeros_0f7a4 4 = .ok (.iconst 1, 1) := by decide +kernel
theorem dJ6_numberOfTrailingZeros_0f7a4_5 : decode cJ6_numberOfTrailingZeros_0f7a4 5 = .ok (.isub, 1) := by decide +kernel
theorem dJ6_numberOfTrailingZeros_0f7a4_6 : decode cJ6_numberOfTrailingZeros_0f7a4 6 = .ok (.iand, 1) := by decide +kernel
theorem dJ6_numberOfTrailingZeros_0f7a4_7 : decode cJ6_numberOfTrailingZeros_0f7a4 7 = .ok (.istore_n 0, 1) := by decide +kernel
theorem dJ6_numberOfTrailingZeros_0f7a4_8 : decode cJ6_numberOfTrailingZeros_0f7a4 8 = .ok (.iload_n 0, 1) := by decide +kernel
theorem dJ6_numberOfTrailingZeros_0f7a4_9 : decode cJ6_numberOfTrailingZeros_0f7a4 9 = .ok (.ifCond .gt 8, 3) := by decide +kernel
theorem dJ6_numberOfTrailingZeros_0f7a4_12 : decode cJ6_numberOfTrailingZeros_0f7a4 12 = .ok (.iload_n 0, 1) := by decide +kernel
theorem dJ6_numberOfTrailingZeros_0f7a4_13 : decode cJ6_numberOfTrailingZeros_0f7a4 13 = .ok (.bipush 32, 2) := by decide +kernel
theorem dJ6_numberOfTrailingZeros_0f7a4_15 : decode cJ6_numberOfTrailingZeros_0f7a4 15 = .ok (.iand, 1) := by decide +kernel
theorem dJ6_numberOfTrailingZeros_0f7a4_16 : decode cJ6_numberOfTrailingZeros_0f7a4 16 = .ok (.ireturn, 1) := by decide +kernel
theorem dJ6_numberOfTrailingZeros_0f7a4_17 : decode cJ6_numberOfTrailingZeros_0f7a4 17 = .ok (.iconst 1, 1) := by decide +kernel
theorem dJ6_numberOfTrailingZeros_0f7a4_18 : decode cJ6_numberOfTrailingZeros_0f7a4 18 = .ok (.istore_n 1, 1) := by decide +kernel
theorem dJ6_numberOfTrailingZeros_0f7a4_19 : decode cJ6_numberOfTrailingZeros_0f7a4 19 = .ok (.iload_n 0, 1) := by decide +kernel
theorem dJ6_numberOfTrailingZeros_0f7a4_20 : decode cJ6_numberOfTrailingZeros_0f7a4 20 = .ok (.ldc_w 264, 3) := by decide +kernel
theorem dJ6_numberOfTrailingZeros_0f7a4_23 : decode cJ6_numberOfTrailingZeros_0f7a4 23 = .ok (.if_icmp .le 11, 3) := by decide +kernel
theorem dJ6_numberOfTrailingZeros_0f7a4_26 : decode cJ6_numberOfTrailingZeros_0f7a4 26 = .ok (.iinc 1 16, 3) := by decide +kernel
theorem dJ6_numberOfTrailingZeros_0f7a4_29 : decode cJ6_numberOfTrailingZeros_0f7a4 29 = .ok (.iload_n 0, 1) := by decide +kernel
theorem dJ6_numberOfTrailingZeros_0f7a4_30 : decode cJ6_numberOfTrailingZeros_0f7a4 30 = .ok (.bipush 16, 2) := by decide +kernel
theorem dJ6_numberOfTrailingZeros_0f7a4_32 : decode cJ6_numberOfTrailingZeros_0f7a4 32 = .ok (.iushr, 1) := by decide +kernel
theorem dJ6_numberOfTrailingZeros_0f7a4_33 : decode cJ6_numberOfTrailingZeros_0f7a4 33 = .ok (.istore_n 0, 1) := by decide +kernel
theorem dJ6_numberOfTrailingZeros_0f7a4_34 : decode cJ6_numberOfTrailingZeros_0f7a4 34 = .ok (.iload_n 0, 1) := by decide +kernel
theorem dJ6_numberOfTrailingZeros_0f7a4_35 : decode cJ6_numberOfTrailingZeros_0f7a4 35 = .ok (.sipush 256, 3) := by decide +kernel
theorem dJ6_numberOfTrailingZeros_0f7a4_38 : decode cJ6_numberOfTrailingZeros_0f7a4 38 = .ok (.if_icmp .le 11, 3) := by decide +kernel
theorem dJ6_numberOfTrailingZeros_0f7a4_41 : decode cJ6_numberOfTrailingZeros_0f7a4 41 = .ok (.iinc 1 8, 3) := by decide +kernel
theorem dJ6_numberOfTrailingZeros_0f7a4_44 : decode cJ6_numberOfTrailingZeros_0f7a4 44 = .ok (.iload_n 0, 1) := by decide +kernel
theorem dJ6_numberOfTrailingZeros_0f7a4_45 : decode cJ6_numberOfTrailingZeros_0f7a4 45 = .ok (.bipush 8, 2) := by decide +kernel
theorem dJ6_numberOfTrailingZeros_0f7a4_47 : decode cJ6_numberOfTrailingZeros_0f7a4 47 = .ok (.iushr, 1) := by decide +kernel
theorem dJ6_numberOfTrailingZeros_0f7a4_48 : decode cJ6_numberOfTrailingZeros_0f7a4 48 = .ok (.istore_n 0, 1) := by decide +kernel
theorem dJ6_numberOfTrailingZeros_0f7a4_49 : decode cJ6_numberOfTrailingZeros_0f7a4 49 = .ok (.iload_n 0, 1) := by decide +kernel
theorem dJ6_numberOfTrailingZeros_0f7a4_50 : decode cJ6_numberOfTrailingZeros_0f7a4 50 = .ok (.bipush 16, 2) := by decide +kernel
theorem dJ6_numberOfTrailingZeros_0f7a4_52 : decode cJ6_numberOfTrailingZeros_0f7a4 52 = .ok (.if_icmp .le 10, 3) := by decide +kernel
theorem dJ6_numberOfTrailingZeros_0f7a4_55 : decode cJ6_numberOfTrailingZeros_0f7a4 55 = .ok (.iinc 1 4, 3) := by decide +kernel
theorem dJ6_numberOfTrailingZeros_0f7a4_58 : decode cJ6_numberOfTrailingZeros_0f7a4 58 = .ok (.iload_n 0, 1) := by decide +kernel
theorem dJ6_numberOfTrailingZeros_0f7a4_59 : decode cJ6_numberOfTrailingZeros_0f7a4 59 = .ok (.iconst 4, 1) := by decide +kernel
theorem dJ6_numberOfTrailingZeros_0f7a4_60 : decode cJ6_numberOfTrailingZeros_0f7a4 60 = .ok (.iushr, 1) := by decide +kernel
theorem dJ6_numberOfTrailingZeros_0f7a4_61 : decode cJ6_numberOfTrailingZeros_0f7a4 61 = .ok (.istore_n 0, 1) := by decide +kernel
theorem dJ6_numberOfTrailingZeros_0f7a4_62 : decode cJ6_numberOfTrailingZeros_0f7a4 62 = .ok (.iload_n 0, 1) := by decide +kernel
theorem dJ6_numberOfTrailingZeros_0f7a4_63 : decode cJ6_numberOfTrailingZeros_0f7a4 63 = .ok (.iconst 4, 1) := by decide +kernel
theorem dJ6_numberOfTrailingZeros_0f7a4_64 : decode cJ6_numberOfTrailingZeros_0f7a4 64 = .ok (.if_icmp .le 10, 3) := by decide +kernel
theorem dJ6_numberOfTrailingZeros_0f7a4_67 : decode cJ6_numberOfTrailingZeros_0f7a4 67 = .ok (.iinc 1 2, 3) := by decide +kernel
theorem dJ6_numberOfTrailingZeros_0f7a4_70 : decode cJ6_numberOfTrailingZeros_0f7a4 70 = .ok (.iload_n 0, 1) := by decide +kernel
theorem dJ6_numberOfTrailingZeros_0f7a4_71 : decode cJ6_numberOfTrailingZeros_0f7a4 71 = .ok (.iconst 2, 1) := by decide +kernel
theorem dJ6_numberOfTrailingZeros_0f7a4_72 : decode cJ6_numberOfTrailingZeros_0f7a4 72 = .ok (.iushr, 1) := by decide +kernel
theorem dJ6_numberOfTrailingZeros_0f7a4_73 : decode cJ6_numberOfTrailingZeros_0f7a4 73 = .ok (.istore_n 0, 1) := by decide +kernel
theorem dJ6_numberOfTrailingZeros_0f7a4_74 : decode cJ6_numberOfTrailingZeros_0f7a4 74 = .ok (.iload_n 1, 1) := by decide +kernel
theorem dJ6_numberOfTrailingZeros_0f7a4_75 : decode cJ6_numberOfTrailingZeros_0f7a4 75 = .ok (.iload_n 0, 1) := by decide +kernel
theorem dJ6_numberOfTrailingZeros_0f7a4_76 : decode cJ6_numberOfTrailingZeros_0f7a4 76 = .ok (.iconst 1, 1) := by decide +kernel
theorem dJ6_numberOfTrailingZeros_0f7a4_77 : decode cJ6_numberOfTrailingZeros_0f7a4 77 = .ok (.iushr, 1) := by decide +kernel
theorem dJ6_numberOfTrailingZeros_0f7a4_78 : decode cJ6_numberOfTrailingZeros_0f7a4 78 = .ok (.iadd, 1) := by decide +kernel
theorem dJ6_numberOfTrailingZeros_0f7a4_79 : decode cJ6_numberOfTrailingZeros_0f7a4 79 = .ok (.ireturn, 1) := by decide +kernel
theorem dJ6_bitCount_0f7a4_0 : decode cJ6_bitCount_0f7a4 0 = .ok (.iload_n 0, 1) := by decide +kernel
theorem dJ6_bitCount_0f7a4_1 : decode cJ6_bitCount_0f7a4 1 = .ok (.iload_n 0, 1) := by decide +kernel
theorem dJ6_bitCount_0f7a4_2 : decode cJ6_bitCount_0f7a4 2 = .ok (.iconst 1, 1) := by decide +kernel
theorem dJ6_bitCount_0f7a4_3 : decode cJ6_bitCount_0f7a4 3 = .ok (.iushr, 1) := by decide +kernel
theorem dJ6_bitCount_0f7a4_4 : decode cJ6_bitCount_0f7a4 4 = .ok (.ldc_w 265, 3) := by decide +kernel
theorem dJ6_bitCount_0f7a4_7 : decode cJ6_bitCount_0f7a4 7 = .ok (.iand, 1) := by decide +kernel
theorem dJ6_bitCount_0f7a4_8 : decode cJ6_bitCount_0f7a4 8 = .ok (.isub, 1) := by decide +kernel
theorem dJ6_bitCount_0f7a4_9 : decode cJ6_bitCount_0f7a4 9 = .ok (.istore_n 0, 1) := by decide +kernel
theorem dJ6_bitCount_0f7a4_10 : decode cJ6_bitCount_0f7a4 10 = .ok (.iload_n 0, 1) := by decide +kernel
theorem dJ6_bitCount_0f7a4_11 : decode cJ6_bitCount_0f7a4 11 = .ok (.ldc_w 266, 3) := by decide +kernel
theorem dJ6_bitCount_0f7a4_14 : decode cJ6_bitCount_0f7a4 14 = .ok (.iand, 1) := by decide +kernel
theorem dJ6_bitCount_0f7a4_15 : decode cJ6_bitCount_0f7a4 15 = .ok (.iload_n 0, 1) := by decide +kernel
theorem dJ6_bitCount_0f7a4_16 : decode cJ6_bitCount_0f7a4 16 = .ok (.iconst 2, 1) := by decide +kernel
theorem dJ6_bitCount_0f7a4_17 : decode cJ6_bitCount_0f7a4 17 = .ok (.iushr, 1) := by decide +kernel
theorem dJ6_bitCount_0f7a4_18 : decode cJ6_bitCount_0f7a4 18 = .ok (.ldc_w 266, 3) := by decide +kernel
theorem dJ6_bitCount_0f7a4_21 : decode cJ6_bitCount_0f7a4 21 = .ok (.iand, 1) := by decide +kernel
theorem dJ6_bitCount_0f7a4_22 : decode cJ6_bitCount_0f7a4 22 = .ok (.iadd, 1) := by decide +kernel
theorem dJ6_bitCount_0f7a4_23 : decode cJ6_bitCount_0f7a4 23 = .ok (.istore_n 0, 1) := by decide +kernel
theorem dJ6_bitCount_0f7a4_24 : decode cJ6_bitCount_0f7a4 24 = .ok (.iload_n 0, 1) := by decide +kernel
theorem dJ6_bitCount_0f7a4_25 : decode cJ6_bitCount_0f7a4 25 = .ok (.iload_n 0, 1) := by decide +kernel
theorem dJ6_bitCount_0f7a4_26 : decode cJ6_bitCount_0f7a4 26 = .ok (.iconst 4, 1) := by decide +kernel
theorem dJ6_bitCount_0f7a4_27 : decode cJ6_bitCount_0f7a4 27 = .ok (.iushr, 1) := by decide +kernel
theorem dJ6_bitCount_0f7a4_28 : decode cJ6_bitCount_0f7a4 28 = .ok (.iadd, 1) := by decide +kernel
theorem dJ6_bitCount_0f7a4_29 : decode cJ6_bitCount_0f7a4 29 = .ok (.ldc_w 267, 3) := by decide +kernel
theorem dJ6_bitCount_0f7a4_32 : decode cJ6_bitCount_0f7a4 32 = .ok (.iand, 1) := by decide +kernel
theorem dJ6_bitCount_0f7a4_33 : decode cJ6_bitCount_0f7a4 33 = .ok (.istore_n 0, 1) := by decide +kernel
theorem dJ6_bitCount_0f7a4_34 : decode cJ6_bitCount_0f7a4 34 = .ok (.iload_n 0, 1) := by decide +kernel
theorem dJ6_bitCount_0f7a4_35 : decode cJ6_bitCount_0f7a4 35 = .ok (.iload_n 0, 1) := by decide +kernel
theorem dJ6_bitCount_0f7a4_36 : decode cJ6_bitCount_0f7a4 36 = .ok (.bipush 8, 2) := by decide +kernel
theorem dJ6_bitCount_0f7a4_38 : decode cJ6_bitCount_0f7a4 38 = .ok (.iushr, 1) := by decide +kernel
theorem dJ6_bitCount_0f7a4_39 : decode cJ6_bitCount_0f7a4 39 = .ok (.iadd, 1) := by decide +kernel
theorem dJ6_bitCount_0f7a4_40 : decode cJ6_bitCount_0f7a4 40 = .ok (.istore_n 0, 1) := by decide +kernel
theorem dJ6_bitCount_0f7a4_41 : decode cJ6_bitCount_0f7a4 41 = .ok (.iload_n 0, 1) := by decide +kernel
theorem dJ6_bitCount_0f7a4_42 : decode cJ6_bitCount_0f7a4 42 = .ok (.iload_n 0, 1) := by decide +kernel
theorem dJ6_bitCount_0f7a4_43 : decode cJ6_bitCount_0f7a4 43 = .ok (.bipush 16, 2) := by decide +kernel
theorem dJ6_bitCount_0f7a4_45 : decode cJ6_bitCount_0f7a4 45 = .ok (.iushr, 1) := by decide +kernel
theorem dJ6_bitCount_0f7a4_46 : decode cJ6_bitCount_0f7a4 46 = .ok (.iadd, 1) := by decide +kernel
theorem dJ6_bitCount_0f7a4_47 : decode cJ6_bitCount_0f7a4 47 = .ok (.istore_n 0, 1) := by decide +kernel
theorem dJ6_bitCount_0f7a4_48 : decode cJ6_bitCount_0f7a4 48 = .ok (.iload_n 0, 1) := by decide +kernel
theorem dJ6_bitCount_0f7a4_49 : decode cJ6_bitCount_0f7a4 49 = .ok (.bipush 63, 2) := by decide +kernel
theorem dJ6_bitCount_0f7a4_51 : decode cJ6_bitCount_0f7a4 51 = .ok (.iand, 1) := by decide +kernel
theorem dJ6_bitCount_0f7a4_52 : decode cJ6_bitCount_0f7a4 52 = .ok (.ireturn, 1) := by decide +kernel
theorem dJ13_numberOfLeadingZeros_95d88_0 : decode cJ13_numberOfLeadingZeros_95d88 0 = .ok (.lload_n 0, 1) := by decide +kernel
theorem dJ13_numberOfLeadingZeros_95d88_1 : decode cJ13_numberOfLeadingZeros_95d88 1 = .ok (.bipush 32, 2) := by decide +kernel
theorem dJ13_numberOfLeadingZeros_95d88_3 : decode cJ13_numberOfLeadingZeros_95d88 3 = .ok (.lushr, 1) := by decide +kernel
theorem dJ13_numberOfLeadingZeros_95d88_4 : decode cJ13_numberOfLeadingZeros_95d88 4 = .ok (.l2i, 1) := by decide +kernel
theorem dJ13_numberOfLeadingZeros_95d88_5 : decode cJ13_numberOfLeadingZeros_95d88 5 = .ok (.istore_n 2, 1) := by decide +kernel
theorem dJ13_numberOfLeadingZeros_95d88_6 : decode cJ13_numberOfLeadingZeros_95d88 6 = .ok (.iload_n 2, 1) := by decide +kernel
theorem dJ13_numberOfLeadingZeros_95d88_7 : decode cJ13_numberOfLeadingZeros_95d88 7 = .ok (.ifCond .ne 14, 3) := by decide +kernel
theorem dJ13_numberOfLeadingZeros_95d88_10 : decode cJ13_numberOfLeadingZeros_95d88 10 = .ok (.bipush 32, 2) := by decide +kernel
theorem dJ13_numberOfLeadingZeros_95d88_12 : decode cJ13_numberOfLeadingZeros_95d88 12 = .ok (.lload_n 0, 1) := by decide +kernel
theorem dJ13_numberOfLeadingZeros_95d88_13 : decode cJ13_numberOfLeadingZeros_95d88 13 = .ok (.l2i, 1) := by decide +kernel
theorem dJ13_numberOfLeadingZeros_95d88_14 : decode cJ13_numberOfLeadingZeros_95d88 14 = .ok (.invokestatic 308, 3) := by decide +kernel
theorem dJ13_numberOfLeadingZeros_95d88_17 : decode cJ13_numberOfLeadingZeros_95d88 17 = .ok (.iadd, 1) := by decide +kernel
theorem dJ13_numberOfLeadingZeros_95d88_18 : decode cJ13_numberOfLeadingZeros_95d88 18 = .ok (.goto 7, 3) := by decide +kernel
theorem dJ13_numberOfLeadingZeros_95d88_21 : decode cJ13_numberOfLeadingZeros_95d88 21 = .ok (.iload_n 2, 1) := by decide +kernel
theorem dJ13_numberOfLeadingZeros_95d88_22 : decode cJ13_numberOfLeadingZeros_95d88 22 = .ok (.invokestatic 308, 3) := by decide +kernel
theorem dJ13_numberOfLeadingZeros_95d88_25 : decode cJ13_numberOfLeadingZeros_95d88 25 = .ok (.ireturn, 1) := by decide +kernel
theorem dJ13_numberOfTrailingZeros_95d88_0 : decode cJ13_numberOfTrailingZeros_95d88 0 = .ok (.lload_n 0, 1) := by decide +kernel
theorem dJ13_numberOfTrailingZeros_95d88_1 : decode cJ13_numberOfTrailingZeros_95d88 1 = .ok (.l2i, 1) := by decide +kernel
theorem dJ13_numberOfTrailingZeros_95d88_2 : decode cJ13_numberOfTrailingZeros_95d88 2 = .ok (.istore_n 2, 1) := by decide +kernel
theorem dJ13_numberOfTrailingZeros_95d88_3 : decode cJ13_numberOfTrailingZeros_95d88 3 = .ok (.iload_n 2, 1) := by decide +kernel
theorem dJ13_numberOfTrailingZeros_95d88_4 : decode cJ13_numberOfTrailingZeros_95d88 4 = .ok (.ifCond .ne 17, 3) := by decide +kernel
theorem dJ13_numberOfTrailingZeros_95d88_7 : decode cJ13_numberOfTrailingZeros_95d88 7 = .ok (.bipush 32, 2) := by decide +kernel
theorem dJ13_numberOfTrailingZeros_95d88_9 : decode cJ13_numberOfTrailingZeros_95d88 9 = .ok (.lload_n 0, 1) := by decide +kernel
theorem dJ13_numberOfTrailingZeros_95d88_10 : decode cJ13_numberOfTrailingZeros_95d88 10 = .ok (.bipush 32, 2) := by decide +kernel
theorem dJ13_numberOfTrailingZeros_95d88_12 : decode cJ13_numberOfTrailingZeros_95d88 12 = .ok (.lushr, 1) := by decide +kernel
theorem dJ13_numberOfTrailingZeros_95d88_13 : decode cJ13_numberOfTrailingZeros_95d88 13 = .ok (.l2i, 1) := by decide +kernel
theorem dJ13_numberOfTrailingZeros_95d88_14 : decode cJ13_numberOfTrailingZeros_95d88 14 = .ok (.invokestatic 311, 3) := by decide +kernel
theorem dJ13_numberOfTrailingZeros_95d88_17 : decode cJ13_numberOfTrailingZeros_95d88 17 = .ok (.iadd, 1) := by decide +kernel
theorem dJ13_numberOfTrailingZeros_95d88_18 : decode cJ13_numberOfTrailingZeros_95d88 18 = .ok (.goto 7, 3) := by decide +kernel
theorem dJ13_numberOfTrailingZeros_95d88_21 : decode cJ13_numberOfTrailingZeros_95d88 21 = .ok (.iload_n 2, 1) := by decide +kernel
theorem dJ13_numberOfTrailingZeros_95d88_22 : decode cJ13_numberOfTrailingZeros_95d88 22 = .ok (.invokestatic 311, 3) := by decide +kernel
theorem dJ13_numberOfTrailingZeros_95d88_25 : decode cJ13_numberOfTrailingZeros_95d88 25 = .ok (.ireturn, 1) := by decide +kernel
theorem dJ13_bitCount_95d88_0 : decode cJ13_bitCount_95d88 0 = .ok (.lload_n 0, 1) := by decide +kernel
theorem dJ13_bitCount_95d88_1 : decode cJ13_bitCount_95d88 1 = .ok (.lload_n 0, 1) := by decide +kernel
theorem dJ13_bitCount_95d88_2 : decode cJ13_bitCount_95d88 2 = .ok (.iconst 1, 1) := by decide +kernel
theorem dJ13_bitCount_95d88_3 : decode cJ13_bitCount_95d88 3 = .ok (.lushr, 1) := by decide +kernel
theorem dJ13_bitCount_95d88_4 : decode cJ13_bitCount_95d88 4 = .ok (.ldc2_w 314, 3) := by decide +kernel
theorem dJ13_bitCount_95d88_7 : decode cJ13_bitCount_95d88 7 = .ok (.land, 1) := by decide +kernel
theorem dJ13_bitCount_95d88_8 : decode cJ13_bitCount_95d88 8 = .ok (.lsub, 1) := by decide +kernel
theorem dJ13_bitCount_95d88_9 : decode cJ13_bitCount_95d88 9 = .ok (.lstore_n 0, 1) := by decide +kernel
theorem dJ13_bitCount_95d88_10 : decode cJ13_bitCount_95d88 10 = .ok (.lload_n 0, 1) := by decide +kernel
theorem dJ13_bitCount_95d88_11 : decode cJ13_bitCount_95d88 11 = .ok (.ldc2_w 316, 3) := by decide +kernel
theorem dJ13_bitCount_95d88_14 : decode cJ13_bitCount_95d88 14 = .ok (.land, 1) := by decide +kernel
theorem dJ13_bitCount_95d88_15 : decode cJ13_bitCount_95d88 15 = .ok (.lload_n 0, 1) := by decide +kernel
theorem dJ13_bitCount_95d88_16 : decode cJ13_bitCount_95d88 16 = .ok (.iconst 2, 1) := by decide +kernel
theorem dJ13_bitCount_95d88_17 : decode cJ13_bitCount_95d88 17 = .ok (.lushr, 1) := by decide +kernel
theorem dJ13_bitCount_95d88_18 : decode cJ13_bitCount_95d88 18 = .ok (.ldc2_w 316, 3) := by decide +kernel
theorem dJ13_bitCount_95d88_21 : decode cJ13_bitCount_95d88 21 = .ok (.land, 1) := by decide +kernel
theorem dJ13_bitCount_95d88_22 : decode cJ13_bitCount_95d88 22 = .ok (.ladd, 1) := by decide +kernel
theorem dJ13_bitCount_95d88_23 : decode cJ13_bitCount_95d88 23 = .ok (.lstore_n 0, 1) := by decide +kernel
theorem dJ13_bitCount_95d88_24 : decode cJ13_bitCount_95d88 24 = .ok (.lload_n 0, 1) := by decide +kernel
theorem dJ13_bitCount_95d88_25 : decode cJ13_bitCount_95d88 25 = .ok (.lload_n 0, 1) := by decide +kernel
theorem dJ13_bitCount_95d88_26 : decode cJ13_bitCount_95d88 26 = .ok (.iconst 4, 1) := by decide +kernel
theorem dJ13_bitCount_95d88_27 : decode cJ13_bitCount_95d88 27 = .ok (.lushr, 1) := by decide +kernel
theorem dJ13_bitCount_95d88_28 : decode cJ13_bitCount_95d88 28 = .ok (.ladd, 1) := by decide +kernel
theorem dJ13_bitCount_95d88_29 : decode cJ13_bitCount_95d88 29 = .ok (.ldc2_w 318, 3) := by decide +kernel
theorem dJ13_bitCount_95d88_32 : decode cJ13_bitCount_95d88 32 = .ok (.land, 1) := by decide +kernel
theorem dJ13_bitCount_95d88_33 : decode cJ13_bitCount_95d88 33 = .ok (.lstore_n 0, 1) := by decide +kernel
theorem dJ13_bitCount_95d88_34 : decode cJ13_bitCount_95d88 34 = .ok (.lload_n 0, 1) := by decide +kernel
theorem dJ13_bitCount_95d88_35 : decode cJ13_bitCount_95d88 35 = .ok (.lload_n 0, 1) := by decide +kernel
theorem dJ13_bitCount_95d88_36 : decode cJ13_bitCount_95d88 36 = .ok (.bipush 8, 2) := by decide +kernel
theorem dJ13_bitCount_95d88_38 : decode cJ13_bitCount_95d88 38 = .ok (.lushr, 1) := by decide +kernel
theorem dJ13_bitCount_95d88_39 : decode cJ13_bitCount_95d88 39 = .ok (.ladd, 1) := by decide +kernel
theorem dJ13_bitCount_95d88_40 : decode cJ13_bitCount_95d88 40 = .ok (.lstore_n 0, 1) := by decide +kernel
theorem dJ13_bitCount_95d88_41 : decode cJ13_bitCount_95d88 41 = .ok (.lload_n 0, 1) := by decide +kernel
theorem dJ13_bitCount_95d88_42 : decode cJ13_bitCount_95d88 42 = .ok (.lload_n 0, 1) := by decide +kernel
theorem dJ13_bitCount_95d88_43 : decode cJ13_bitCount_95d88 43 = .ok (.bipush 16, 2) := by decide +kernel
theorem dJ13_bitCount_95d88_45 : decode cJ13_bitCount_95d88 45 = .ok (.lushr, 1) := by decide +kernel
theorem dJ13_bitCount_95d88_46 : decode cJ13_bitCount_95d88 46 = .ok (.ladd, 1) := by decide +kernel
theorem dJ13_bitCount_95d88_47 : decode cJ13_bitCount_95d88 47 = .ok (.lstore_n 0, 1) := by decide +kernel
theorem dJ13_bitCount_95d88_48 : decode cJ13_bitCount_95d88 48 = .ok (.lload_n 0, 1) := by decide +kernel
theorem dJ13_bitCount_95d88_49 : decode cJ13_bitCount_95d88 49 = .ok (.lload_n 0, 1) := by decide +kernel
theorem dJ13_bitCount_95d88_50 : decode cJ13_bitCount_95d88 50 = .ok (.bipush 32, 2) := by decide +kernel
theorem dJ13_bitCount_95d88_52 : decode cJ13_bitCount_95d88 52 = .ok (.lushr, 1) := by decide +kernel
theorem dJ13_bitCount_95d88_53 : decode cJ13_bitCount_95d88 53 = .ok (.ladd, 1) := by decide +kernel
theorem dJ13_bitCount_95d88_54 : decode cJ13_bitCount_95d88 54 = .ok (.lstore_n 0, 1) := by decide +kernel
theorem dJ13_bitCount_95d88_55 : decode cJ13_bitCount_95d88 55 = .ok (.lload_n 0, 1) := by decide +kernel
theorem dJ13_bitCount_95d88_56 : decode cJ13_bitCount_95d88 56 = .ok (.l2i, 1) := by decide +kernel
theorem dJ13_bitCount_95d88_57 : decode cJ13_bitCount_95d88 57 = .ok (.bipush 127, 2) := by decide +kernel
theorem dJ13_bitCount_95d88_59 : decode cJ13_bitCount_95d88 59 = .ok (.iand, 1) := by decide +kernel
theorem dJ13_bitCount_95d88_60 : decode cJ13_bitCount_95d88 60 = .ok (.ireturn, 1) := by decide +kernel
theorem dJ9_floorMod_7cf53_0 : decode cJ9_floorMod_7cf53 0 = .ok (.iload_n 0, 1) := by decide +kernel
theorem dJ9_floorMod_7cf53_1 : decode cJ9_floorMod_7cf53 1 = .ok (.iload_n 1, 1) := by decide +kernel
theorem dJ9_floorMod_7cf53_2 : decode cJ9_floorMod_7cf53 2 = .ok (.irem, 1) := by decide +kernel
theorem dJ9_floorMod_7cf53_3 : decode cJ9_floorMod_7cf53 3 = .ok (.istore_n 2, 1) := by decide +kernel
theorem dJ9_floorMod_7cf53_4 : decode cJ9_floorMod_7cf53 4 = .ok (.iload_n 0, 1) := by decide +kernel
theorem dJ9_floorMod_7cf53_5 : decode cJ9_floorMod_7cf53 5 = .ok (.iload_n 1, 1) := by decide +kernel
theorem dJ9_floorMod_7cf53_6 : decode cJ9_floorMod_7cf53 6 = .ok (.ixor, 1) := by decide +kernel
theorem dJ9_floorMod_7cf53_7 : decode cJ9_floorMod_7cf53 7 = .ok (.ifCond .ge 11, 3) := by decide +kernel
theorem dJ9_floorMod_7cf53_10 : decode cJ9_floorMod_7cf53 10 = .ok (.iload_n 2, 1) := by decide +kernel
theorem dJ9_floorMod_7cf53_11 : decode cJ9_floorMod_7cf53 11 = .ok (.ifCond .eq 7, 3) := by decide +kernel
theorem dJ9_floorMod_7cf53_14 : decode cJ9_floorMod_7cf53 14 = .ok (.iload_n 2, 1) := by decide +kernel
theorem dJ9_floorMod_7cf53_15 : decode cJ9_floorMod_7cf53 15 = .ok (.iload_n 1, 1) := by decide +kernel
theorem dJ9_floorMod_7cf53_16 : decode cJ9_floorMod_7cf53 16 = .ok (.iadd, 1) := by decide +kernel
theorem dJ9_floorMod_7cf53_17 : decode cJ9_floorMod_7cf53 17 = .ok (.ireturn, 1) := by decide +kernel
theorem dJ9_floorMod_7cf53_18 : decode cJ9_floorMod_7cf53 18 = .ok (.iload_n 2, 1) := by decide +kernel
theorem dJ9_floorMod_7cf53_19 : decode cJ9_floorMod_7cf53 19 = .ok (.ireturn, 1) := by decide +kernel
theorem dJ9_abs_0f7a4_0 : decode cJ9_abs_0f7a4 0 = .ok (.iload_n 0, 1) := by decide +kernel
theorem dJ9_abs_0f7a4_1 : decode cJ9_abs_0f7a4 1 = .ok (.ifCond .ge 8, 3) := by decide +kernel
theorem dJ9_abs_0f7a4_4 : decode cJ9_abs_0f7a4 4 = .ok (.iload_n 0, 1) := by decide +kernel
theorem dJ9_abs_0f7a4_5 : decode cJ9_abs_0f7a4 5 = .ok (.ineg, 1) := by decide +kernel
theorem dJ9_abs_0f7a4_6 : decode cJ9_abs_0f7a4 6 = .ok (.goto 4, 3) := by decide +kernel
theorem dJ9_abs_0f7a4_9 : decode cJ9_abs_0f7a4 9 = .ok (.iload_n 0, 1) := by decide +kernel
theorem dJ9_abs_0f7a4_10 : decode cJ9_abs_0f7a4 10 = .ok (.ireturn, 1) := by decide +kernel
theorem dJ9_max_7cf53_0 : decode cJ9_max_7cf53 0 = .ok (.iload_n 0, 1) := by decide +kernel
theorem dJ9_max_7cf53_1 : decode cJ9_max_7cf53 1 = .ok (.iload_n 1, 1) := by decide +kernel
theorem dJ9_max_7cf53_2 : decode cJ9_max_7cf53 2 = .ok (.if_icmp .lt 7, 3) := by decide +kernel
theorem dJ9_max_7cf53_5 : decode cJ9_max_7cf53 5 = .ok (.iload_n 0, 1) := by decide +kernel
theorem dJ9_max_7cf53_6 : decode cJ9_max_7cf53 6 = .ok (.goto 4, 3) := by decide +kernel
theorem dJ9_max_7cf53_9 : decode cJ9_max_7cf53 9 = .ok (.iload_n 1, 1) := by decide +kernel
theorem dJ9_max_7cf53_10 : decode cJ9_max_7cf53 10 = .ok (.ireturn, 1) := by decide +kernel
theorem dJ9_min_7cf53_0 : decode cJ9_min_7cf53 0 = .ok (.iload_n 0, 1) := by decide +kernel
theorem dJ9_min_7cf53_1 : decode cJ9_min_7cf53 1 = .ok (.iload_n 1, 1) := by decide +kernel
theorem dJ9_min_7cf53_2 : decode cJ9_min_7cf53 2 = .ok (.if_icmp .gt 7, 3) := by decide +kernel
theorem dJ9_min_7cf53_5 : decode cJ9_min_7cf53 5 = .ok (.iload_n 0, 1) := by decide +kernel
theorem dJ9_min_7cf53_6 : decode cJ9_min_7cf53 6 = .ok (.goto 4, 3) := by decide +kernel
theorem dJ9_min_7cf53_9 : decode cJ9_min_7cf53 9 = .ok (.iload_n 1, 1) := by decide +kernel
theorem dJ9_min_7cf53_10 : decode cJ9_min_7cf53 10 = .ok (.ireturn, 1) := by decide +kernel
theorem dJ0_length_8abf5_0 : decode cJ0_length_8abf5 0 = .ok (.aload_n 0, 1) := by decide +kernel
theorem dJ0_length_8abf5_1 : decode cJ0_length_8abf5 1 = .ok (.getfield 9, 3) := by decide +kernel
theorem dJ0_length_8abf5_4 : decode cJ0_length_8abf5 4 = .ok (.arraylength, 1) := by decide +kernel
theorem dJ0_length_8abf5_5 : decode cJ0_length_8abf5 5 = .ok (.aload_n 0, 1) := by decide +kernel
theorem dJ0_length_8abf5_6 : decode cJ0_length_8abf5 6 = .ok (.invokevirtual 335, 3) := by decide +kernel
theorem dJ0_length_8abf5_9 : decode cJ0_length_8abf5 9 = .ok (.ishr, 1) := by decide +kernel
theorem dJ0_length_8abf5_10 : decode cJ0_length_8abf5 10 = .ok (.ireturn, 1) := by decide +kernel
theorem dJ0_charAt_5068e_0 : decode cJ0_charAt_5068e 0 = .ok (.aload_n 0, 1) := by decide +kernel
theorem dJ0_charAt_5068e_1 : decode cJ0_charAt_5068e 1 = .ok (.invokevirtual 492, 3) := by decide +kernel
theorem dJ0_charAt_5068e_4 : decode cJ0_charAt_5068e 4 = .ok (.ifCond .eq 12, 3) := by decide +kernel
theorem dJ0_charAt_5068e_7 : decode cJ0_charAt_5068e 7 = .ok (.aload_n 0, 1) := by decide +kernel
theorem dJ0_charAt_5068e_8 : decode cJ0_charAt_5068e 8 = .ok (.getfield 9, 3) := by decide +kernel
theorem dJ0_charAt_5068e_11 : decode cJ0_charAt_5068e 11 = .ok (.iload_n 1, 1) := by decide +kernel
theorem dJ0_charAt_5068e_12 : decode cJ0_charAt_5068e 12 = .ok (.invokestatic 495, 3) := by decide +kernel
theorem dJ0_charAt_5068e_15 : decode cJ0_charAt_5068e 15 = .ok (.ireturn, 1) := by decide +kernel
theorem dJ0_charAt_5068e_16 : decode cJ0_charAt_5068e 16 = .ok (.aload_n 0, 1) := by decide +kernel
theorem dJ0_charAt_5068e_17 : decode cJ0_charAt_5068e 17 = .ok (.getfield 9, 3) := by decide +kernel
theorem dJ0_charAt_5068e_20 : decode cJ0_charAt_5068e 20 = .ok (.iload_n 1, 1) := by decide +kernel
theorem dJ0_charAt_5068e_21 : decode cJ0_charAt_5068e 21 = .ok (.invokestatic 498, 3) := by decide +kernel
theorem dJ0_charAt_5068e_24 : decode cJ0_charAt_5068e 24 = .ok (.ireturn, 1) := by decide +kernel
theorem dJ0_coder_7d493_0 : decode cJ0_coder_7d493 0 = .ok (.getstatic 38, 3) := by decide +kernel
theorem dJ0_coder_7d493_3 : decode cJ0_coder_7d493 3 = .ok (.ifCond .eq 10, 3) := by decide +kernel
theorem dJ0_coder_7d493_6 : decode cJ0_coder_7d493 6 = .ok (.aload_n 0, 1) := by decide +kernel
theorem dJ0_coder_7d493_7 : decode cJ0_coder_7d493 7 = .ok (.getfield 15, 3) := by decide +kernel
theorem dJ0_coder_7d493_10 : decode cJ0_coder_7d493 10 = .ok (.goto 4, 3) := by decide +kernel
theorem dJ0_coder_7d493_13 : decode cJ0_coder_7d493 13 = .ok (.iconst 1, 1) := by decide +kernel
theorem dJ0_coder_7d493_14 : decode cJ0_coder_7d493 14 = .ok (.ireturn, 1) := by decide +kernel
theorem dJ0_isLatin1_aae02_0 : decode cJ0_isLatin1_aae02 0 = .ok (.getstatic 38, 3) := by decide +kernel
theorem dJ0_isLatin1_aae02_3 : decode cJ0_isLatin1_aae02 3 = .ok (.ifCond .eq 14, 3) := by decide +kernel
theorem dJ0_isLatin1_aae02_6 : decode cJ0_isLatin1_aae02 6 = .ok (.aload_n 0, 1) := by decide +kernel
theorem dJ0_isLatin1_aae02_7 : decode cJ0_isLatin1_aae02 7 = .ok (.getfield 15, 3) := by decide +kernel
theorem dJ0_isLatin1_aae02_10 : decode cJ0_isLatin1_aae02 10 = .ok (.ifCond .ne 7, 3) := by decide +kernel
theorem dJ0_isLatin1_aae02_13 : decode cJ0_isLatin1_aae02 13 = .ok (.iconst 1, 1) := by decide +kernel
theorem dJ0_isLatin1_aae02_14 : decode cJ0_isLatin1_aae02 14 = .ok (.goto 4, 3) := by decide +kernel
theorem dJ0_isLatin1_aae02_17 : decode cJ0_isLatin1_aae02 17 = .ok (.iconst 0, 1) := by decide +kernel
theorem dJ0_isLatin1_aae02_18 : decode cJ0_isLatin1_aae02 18 = .ok (.ireturn, 1) := by decide +kernel
theorem dJ0_checkIndex_df160_0 : decode cJ0_checkIndex_df160 0 = .ok (.iload_n 0, 1) := by decide +kernel
theorem dJ0_checkIndex_df160_1 : decode cJ0_checkIndex_df160 1 = .ok (.iload_n 1, 1) := by decide +kernel
theorem dJ0_checkIndex_df160_2 : decode cJ0_checkIndex_df160 2 = .ok (.getstatic 1053, 3) := by decide +kernel
theorem dJ0_checkIndex_df160_5 : decode cJ0_checkIndex_df160 5 = .ok (.invokestatic 1059, 3) := by decide +kernel
theorem dJ0_checkIndex_df160_8 : decode cJ0_checkIndex_df160 8 = .ok (.pop, 1) := by decide +kernel
theorem dJ0_checkIndex_df160_9 : decode cJ0_checkIndex_df160 9 = .ok (.return_, 1) := by decide +kernel
theorem dJ1_charAt_3b067_0 : decode cJ1_charAt_3b067 0 = .ok (.iload_n 1, 1) := by decide +kernel
theorem dJ1_charAt_3b067_1 : decode cJ1_charAt_3b067 1 = .ok (.aload_n 0, 1) := by decide +kernel
theorem dJ1_charAt_3b067_2 : decode cJ1_charAt_3b067 2 = .ok (.arraylength, 1) := by decide +kernel
theorem dJ1_charAt_3b067_3 : decode cJ1_charAt_3b067 3 = .ok (.invokestatic 9, 3) := by decide +kernel
theorem dJ1_charAt_3b067_6 : decode cJ1_charAt_3b067 6 = .ok (.aload_n 0, 1) := by decide +kernel
theorem dJ1_charAt_3b067_7 : decode cJ1_charAt_3b067 7 = .ok (.iload_n 1, 1) := by decide +kernel
theorem dJ1_charAt_3b067_8 : decode cJ1_charAt_3b067 8 = .ok (.baload, 1) := by decide +kernel
theorem dJ1_charAt_3b067_9 : decode cJ1_charAt_3b067 9 = .ok (.sipush 255, 3) := by decide +kernel
theorem dJ1_charAt_3b067_12 : decode cJ1_charAt_3b067 12 = .ok (.iand, 1) := by decide +kernel
theorem dJ1_charAt_3b067_13 : decode cJ1_charAt_3b067 13 = .ok (.i2c, 1) := by decide +kernel
theorem dJ1_charAt_3b067_14 : decode cJ1_charAt_3b067 14 = .ok (.ireturn, 1) := by decide +kernel
theorem dJ2_getChar_3b067_0 : decode cJ2_getChar_3b067 0 = .ok (.getstatic 44, 3) := by decide +kernel
theorem dJ2_getChar_3b067_3 : decode cJ2_getChar_3b067 3 = .ok (.ifCond .ne 25, 3) := by decide +kernel
theorem dJ2_getChar_3b067_6 : decode cJ2_getChar_3b067 6 = .ok (.iload_n 1, 1) := by decide +kernel
theorem dJ2_getChar_3b067_7 : decode cJ2_getChar_3b067 7 = .ok (.ifCond .lt 11, 3) := by decide +kernel
theorem dJ2_getChar_3b067_10 : decode cJ2_getChar_3b067 10 = .ok (.iload_n 1, 1) := by decide +kernel
theorem dJ2_getChar_3b067_11 : decode cJ2_getChar_3b067 11 = .ok (.aload_n 0, 1) := by decide +kernel
theorem dJ2_getChar_3b067_12 : decode cJ2_getChar_3b067 12 = .ok (.invokestatic 48, 3) := by decide +kernel
theorem dJ2_getChar_3b067_15 : decode cJ2_getChar_3b067 15 = .ok (.if_icmp .lt 13, 3) := by decide +kernel
theorem dJ2_getChar_3b067_18 : decode cJ2_getChar_3b067 18 = .ok (.new 52, 3) := by decide +kernel
theorem dJ2_getChar_3b067_21 : decode cJ2_getChar_3b067 21 = .ok (.dup, 1) := by decide +kernel
theorem dJ2_getChar_3b067_22 : decode cJ2_getChar_3b067 22 = .ok (.ldc 54, 2) := by decide +kernel
theorem dJ2_getChar_3b067_24 : decode cJ2_getChar_3b067 24 = .ok (.invokespecial 56, 3) := by decide +kernel
theorem dJ2_getChar_3b067_27 : decode cJ2_getChar_3b067 27 = .ok (.athrow, 1) := by decide +kernel
theorem dJ2_getChar_3b067_28 : decode cJ2_getChar_3b067 28 = .ok (.iload_n 1, 1) := by decide +kernel
theorem dJ2_getChar_3b067_29 : decode cJ2_getChar_3b067 29 = .ok (.iconst 1, 1) := by decide +kernel
theorem dJ2_getChar_3b067_30 : decode cJ2_getChar_3b067 30 = .ok (.ishl, 1) := by decide +kernel
theorem dJ2_getChar_3b067_31 : decode cJ2_getChar_3b067 31 = .ok (.istore_n 1, 1) := by decide +kernel
theorem dJ2_getChar_3b067_32 : decode cJ2_getChar_3b067 32 = .ok (.aload_n 0, 1) := by decide +kernel
theorem dJ2_getChar_3b067_33 : decode cJ2_getChar_3b067 33 = .ok (.iload_n 1, 1) := by decide +kernel
theorem dJ2_getChar_3b067_34 : decode cJ2_getChar_3b067 34 = .ok (.iinc 1 1, 3) := by decide +kernel
theorem dJ2_getChar_3b067_37 : decode cJ2_getChar_3b067 37 = .ok (.baload, 1) := by decide +kernel
theorem dJ2_getChar_3b067_38 : decode cJ2_getChar_3b067 38 = .ok (.sipush 255, 3) := by decide +kernel
theorem dJ2_getChar_3b067_41 : decode cJ2_getChar_3b067 41 = .ok (.iand, 1) := by decide +kernel
theorem dJ2_getChar_3b067_42 : decode cJ2_getChar_3b067 42 = .ok (.getstatic 59, 3) := by decide +kernel
theorem dJ2_getChar_3b067_45 : decode cJ2_getChar_3b067 45 = .ok (.ishl, 1) := by decide +kernel
theorem dJ2_getChar_3b067_46 : decode cJ2_getChar_3b067 46 = .ok (.aload_n 0, 1) := by decide +kernel
theorem dJ2_getChar_3b067_47 : decode cJ2_getChar_3b067 47 = .ok (.iload_n 1, 1) := by decide +kernel
theorem dJ2_getChar_3b067_48 : decode cJ2_getChar_3b067 48 = .ok (.baload, 1) := by decide +kernel
theorem dJ2_getChar_3b067_49 : decode cJ2_getChar_3b067 49 = .ok (.sipush 255, 3) := by decide +kernel
theorem dJ2_getChar_3b067_52 : decode cJ2_getChar_3b067 52 = .ok (.iand, 1) := by decide +kernel
theorem dJ2_getChar_3b067_53 : decode cJ2_getChar_3b067 53 = .ok (.getstatic 63, 3) := by decide +kernel
theorem dJ2_getChar_3b067_56 : decode cJ2_getChar_3b067 56 = .ok (.ishl, 1) := by decide +kernel
theorem dJ2_getChar_3b067_57 : decode cJ2_getChar_3b067 57 = .ok (.ior, 1) := by decide +kernel
theorem dJ2_getChar_3b067_58 : decode cJ2_getChar_3b067 58 = .ok (.i2c, 1) := by decide +kernel
theorem dJ2_getChar_3b067_59 : decode cJ2_getChar_3b067 59 = .ok (.ireturn, 1) := by decide +kernel
theorem dJ2_length_9d52b_0 : decode cJ2_length_9d52b 0 = .ok (.aload_n 0, 1) := by decide +kernel
theorem dJ2_length_9d52b_1 : decode cJ2_length_9d52b 1 = .ok (.arraylength, 1) := by decide +kernel
theorem dJ2_length_9d52b_2 : decode cJ2_length_9d52b 2 = .ok (.iconst 1, 1) := by decide +kernel
theorem dJ2_length_9d52b_3 : decode cJ2_length_9d52b 3 = .ok (.ishr, 1) := by decide +kernel
theorem dJ2_length_9d52b_4 : decode cJ2_length_9d52b 4 = .ok (.ireturn, 1) := by decide +kernel
theorem dJ2_charAt_3b067_0 : decode cJ2_charAt_3b067 0 = .ok (.iload_n 1, 1) := by decide +kernel
theorem dJ2_charAt_3b067_1 : decode cJ2_charAt_3b067 1 = .ok (.aload_n 0, 1) := by decide +kernel
theorem dJ2_charAt_3b067_2 : decode cJ2_charAt_3b067 2 = .ok (.invokestatic 67, 3) := by decide +kernel
theorem dJ2_charAt_3b067_5 : decode cJ2_charAt_3b067 5 = .ok (.aload_n 0, 1) := by decide +kernel
theorem dJ2_charAt_3b067_6 : decode cJ2_charAt_3b067 6 = .ok (.iload_n 1, 1) := by decide +kernel
theorem dJ2_charAt_3b067_7 : decode cJ2_charAt_3b067 7 = .ok (.invokestatic 71, 3) := by decide +kernel
theorem dJ2_charAt_3b067_10 : decode cJ2_charAt_3b067 10 = .ok (.ireturn, 1) := by decide +kernel
theorem dJ2_checkIndex_2214a_0 : decode cJ2_checkIndex_2214a 0 = .ok (.iload_n 0, 1) := by decide +kernel
theorem dJ2_checkIndex_2214a_1 : decode cJ2_checkIndex_2214a 1 = .ok (.aload_n 1, 1) := by decide +kernel
theorem dJ2_checkIndex_2214a_2 : decode cJ2_checkIndex_2214a 2 = .ok (.invokestatic 48, 3) := by decide +kernel
theorem dJ2_checkIndex_2214a_5 : decode cJ2_checkIndex_2214a 5 = .ok (.invokestatic 414, 3) := by decide +kernel
theorem dJ2_checkIndex_2214a_8 : decode cJ2_checkIndex_2214a 8 = .ok (.return_, 1) := by decide +kernel
theorem dJ7_fill_d0a16_0 : decode cJ7_fill_d0a16 0 = .ok (.iconst 0, 1) := by decide +kernel
theorem dJ7_fill_d0a16_1 : decode cJ7_fill_d0a16 1 = .ok (.istore_n 3, 1) := by decide +kernel
theorem dJ7_fill_d0a16_2 : decode cJ7_fill_d0a16 2 = .ok (.aload_n 0, 1) := by decide +kernel
theorem dJ7_fill_d0a16_3 : decode cJ7_fill_d0a16 3 = .ok (.arraylength, 1) := by decide +kernel
theorem dJ7_fill_d0a16_4 : decode cJ7_fill_d0a16 4 = .ok (.istore 4, 2) := by decide +kernel
theorem dJ7_fill_d0a16_6 : decode cJ7_fill_d0a16 6 = .ok (.iload_n 3, 1) := by decide +kernel
theorem dJ7_fill_d0a16_7 : decode cJ7_fill_d0a16 7 = .ok (.iload 4, 2) := by decide +kernel
theorem dJ7_fill_d0a16_9 : decode cJ7_fill_d0a16 9 = .ok (.if_icmp .ge 13, 3) := by decide +kernel
theorem dJ7_fill_d0a16_12 : decode cJ7_fill_d0a16 12 = .ok (.aload_n 0, 1) := by decide +kernel
theorem dJ7_fill_d0a16_13 : decode cJ7_fill_d0a16 13 = .ok (.iload_n 3, 1) := by decide +kernel
theorem dJ7_fill_d0a16_14 : decode cJ7_fill_d0a16 14 = .ok (.lload_n 1, 1) := by decide +kernel
theorem dJ7_fill_d0a16_15 : decode cJ7_fill_d0a16 15 = .ok (.lastore, 1) := by decide +kernel
theorem dJ7_fill_d0a16_16 : decode cJ7_fill_d0a16 16 = .ok (.iinc 3 1, 3) := by decide +kernel
theorem dJ7_fill_d0a16_19 : decode cJ7_fill_d0a16 19 = .ok (.goto (-13), 3) := by decide +kernel
theorem dJ7_fill_d0a16_22 : decode cJ7_fill_d0a16 22 = .ok (.return_, 1) := by decide +kernel
theorem dJ7_fill_53178_0 : decode cJ7_fill_53178 0 = .ok (.iconst 0, 1) := by decide +kernel
theorem dJ7_fill_53178_1 : decode cJ7_fill_53178 1 = .ok (.istore_n 2, 1) := by decide +kernel
theorem dJ7_fill_53178_2 : decode cJ7_fill_53178 2 = .ok (.aload_n 0, 1) := by decide +kernel
theorem dJ7_fill_53178_3 : decode cJ7_fill_53178 3 = .ok (.arraylength, 1) := by decide +kernel
theorem dJ7_fill_53178_4 : decode cJ7_fill_53178 4 = .ok (.istore_n 3, 1) := by decide +kernel
theorem dJ7_fill_53178_5 : decode cJ7_fill_53178 5 = .ok (.iload_n 2, 1) := by decide +kernel
theorem dJ7_fill_53178_6 : decode cJ7_fill_53178 6 = .ok (.iload_n 3, 1) := by decide +kernel
theorem dJ7_fill_53178_7 : decode cJ7_fill_53178 7 = .ok (.if_icmp .ge 13, 3) := by decide +kernel
theorem dJ7_fill_53178_10 : decode cJ7_fill_53178 10 = .ok (.aload_n 0, 1) := by decide +kernel
theorem dJ7_fill_53178_11 : decode cJ7_fill_53178 11 = .ok (.iload_n 2, 1) := by decide +kernel
theorem dJ7_fill_53178_12 : decode cJ7_fill_53178 12 = .ok (.iload_n 1, 1) := by decide +kernel
theorem dJ7_fill_53178_13 : decode cJ7_fill_53178 13 = .ok (.iastore, 1) := by decide +kernel
theorem dJ7_fill_53178_14 : decode cJ7_fill_53178 14 = .ok (.iinc 2 1, 3) := by decide +kernel
theorem dJ7_fill_53178_17 : decode cJ7_fill_53178 17 = .ok (.goto (-12), 3) := by decide +kernel
theorem dJ7_fill_53178_20 : decode cJ7_fill_53178 20 = .ok (.return_, 1) := by decide +kernel
theorem dJ3_checkIndex_8e157_0 : decode cJ3_checkIndex_8e157 0 = .ok (.iload_n 0, 1) := by decide +kernel
theorem dJ3_checkIndex_8e157_1 : decode cJ3_checkIndex_8e157 1 = .ok (.ifCond .lt 8, 3) := by decide +kernel
theorem dJ3_checkIndex_8e157_4 : decode cJ3_checkIndex_8e157 4 = .ok (.iload_n 0, 1) := by decide +kernel
theorem dJ3_checkIndex_8e157_5 : decode cJ3_checkIndex_8e157 5 = .ok (.iload_n 1, 1) := by decide +kernel
theorem dJ3_checkIndex_8e157_6 : decode cJ3_checkIndex_8e157 6 = .ok (.if_icmp .lt 10, 3) := by decide +kernel
theorem dJ3_checkIndex_8e157_9 : decode cJ3_checkIndex_8e157 9 = .ok (.aload_n 2, 1) := by decide +kernel
theorem dJ3_checkIndex_8e157_10 : decode cJ3_checkIndex_8e157 10 = .ok (.iload_n 0, 1) := by decide +kernel
theorem dJ3_checkIndex_8e157_11 : decode cJ3_checkIndex_8e157 11 = .ok (.iload_n 1, 1) := by decide +kernel
theorem dJ3_checkIndex_8e157_12 : decode cJ3_checkIndex_8e157 12 = .ok (.invokestatic 95, 3) := by decide +kernel
theorem dJ3_checkIndex_8e157_15 : decode cJ3_checkIndex_8e157 15 = .ok (.athrow, 1) := by decide +kernel
theorem dJ3_checkIndex_8e157_16 : decode cJ3_checkIndex_8e157 16 = .ok (.iload_n 0, 1) := by decide +kernel
theorem dJ3_checkIndex_8e157_17 : decode cJ3_checkIndex_8e157 17 = .ok (.ireturn, 1) := by decide +kernel
theorem dL_law_0 : decode cL_law 0 = .ok (.new 7, 3) := by decide +kernel
theorem dL_law_3 : decode cL_law 3 = .ok (.dup, 1) := by decide +kernel
theorem dL_law_4 : decode cL_law 4 = .ok (.invokespecial 9, 3) := by decide +kernel
theorem dL_law_7 : decode cL_law 7 = .ok (.astore_n 1, 1) := by decide +kernel
theorem dL_law_8 : decode cL_law 8 = .ok (.new 10, 3) := by decide +kernel
theorem dL_law_11 : decode cL_law 11 = .ok (.dup, 1) := by decide +kernel
theorem dL_law_12 : decode cL_law 12 = .ok (.invokespecial 12, 3) := by decide +kernel
theorem dL_law_15 : decode cL_law 15 = .ok (.astore_n 2, 1) := by decide +kernel
theorem dL_law_16 : decode cL_law 16 = .ok (.iconst 0, 1) := by decide +kernel
theorem dL_law_17 : decode cL_law 17 = .ok (.istore_n 3, 1) := by decide +kernel
theorem dL_law_18 : decode cL_law 18 = .ok (.iload_n 3, 1) := by decide +kernel
theorem dL_law_19 : decode cL_law 19 = .ok (.aload_n 0, 1) := by decide +kernel
theorem dL_law_20 : decode cL_law 20 = .ok (.arraylength, 1) := by decide +kernel
theorem dL_law_21 : decode cL_law 21 = .ok (.iconst 5, 1) := by decide +kernel
theorem dL_law_22 : decode cL_law 22 = .ok (.isub, 1) := by decide +kernel
theorem dL_law_23 : decode cL_law 23 = .ok (.if_icmp .gt 1234, 3) := by decide +kernel
theorem dL_law_26 : decode cL_law 26 = .ok (.aload_n 0, 1) := by decide +kernel
theorem dL_law_27 : decode cL_law 27 = .ok (.iload_n 3, 1) := by decide +kernel
theorem dL_law_28 : decode cL_law 28 = .ok (.iaload, 1) := by decide +kernel
theorem dL_law_29 : decode cL_law 29 = .ok (.bipush 63, 2) := by decide +kernel
theorem dL_law_31 : decode cL_law 31 = .ok (.iand, 1) := by decide +kernel
theorem dL_law_32 : decode cL_law 32 = .ok (.tableswitch 1219 0 35 #[160, 183, 196, 209, 222, 235, 268, 301, 344, 377, 410, 453, 496, 539, 572, 585, 608, 631, 664, 677, 710, 743, 776, 809, 832, 855, 898, 921, 954, 997, 1050, 1103, 1136, 1159, 1182, 1196], 160) := by decide +kernel
theorem dL_law_192 : decode cL_law 192 = .ok (.aload_n 1, 1) := by decide +kernel
theorem dL_law_193 : decode cL_law 193 = .ok (.aload_n 0, 1) := by decide +kernel
theorem dL_law_194 : decode cL_law 194 = .ok (.iload_n 3, 1) := by decide +kernel
theorem dL_law_195 : decode cL_law 195 = .ok (.iconst 1, 1) := by decide +kernel
theorem dL_law_196 : decode cL_law 196 = .ok (.iadd, 1) := by decide +kernel
theorem dL_law_197 : decode cL_law 197 = .ok (.iaload, 1) := by decide +kernel
theorem dL_law_198 : decode cL_law 198 = .ok (.invokevirtual 13, 3) := by decide +kernel
theorem dL_law_201 : decode cL_law 201 = .ok (.aload_n 2, 1) := by decide +kernel
theorem dL_law_202 : decode cL_law 202 = .ok (.aload_n 0, 1) := by decide +kernel
theorem dL_law_203 : decode cL_law 203 = .ok (.iload_n 3, 1) := by decide +kernel
theorem dL_law_204 : decode cL_law 204 = .ok (.iconst 1, 1) := by decide +kernel
theorem dL_law_205 : decode cL_law 205 = .ok (.iadd, 1) := by decide +kernel
theorem dL_law_206 : decode cL_law 206 = .ok (.iaload, 1) := by decide +kernel
theorem dL_law_207 : decode cL_law 207 = .ok (.invokevirtual 17, 3) := by decide +kernel
theorem dL_law_210 : decode cL_law 210 = .ok (.if_icmp .eq 1041, 3) := by decide +kernel
theorem dL_law_213 : decode cL_law 213 = .ok (.iconst 0, 1) := by decide +kernel
theorem dL_law_214 : decode cL_law 214 = .ok (.ireturn, 1) := by decide +kernel
theorem dL_law_215 : decode cL_law 215 = .ok (.aload_n 1, 1) := by decide +kernel
theorem dL_law_216 : decode cL_law 216 = .ok (.invokevirtual 18, 3) := by decide +kernel
theorem dL_law_219 : decode cL_law 219 = .ok (.aload_n 2, 1) := by decide +kernel
theorem dL_law_220 : decode cL_law 220 = .ok (.invokevirtual 22, 3) := by decide +kernel
theorem dL_law_223 : decode cL_law 223 = .ok (.if_icmp .eq 1028, 3) := by decide +kernel
theorem dL_law_226 : decode cL_law 226 = .ok (.iconst 0, 1) := by decide +kernel
theorem dL_law_227 : decode cL_law 227 = .ok (.ireturn, 1) := by decide +kernel
theorem dL_law_228 : decode cL_law 228 = .ok (.aload_n 1, 1) := by decide +kernel
theorem dL_law_229 : decode cL_law 229 = .ok (.invokevirtual 23, 3) := by decide +kernel
theorem dL_law_232 : decode cL_law 232 = .ok (.aload_n 2, 1) := by decide +kernel
theorem dL_law_233 : decode cL_law 233 = .ok (.invokevirtual 26, 3) := by decide +kernel
theorem dL_law_236 : decode cL_law 236 = .ok (.if_icmp .eq 1015, 3) := by decide +kernel
theorem dL_law_239 : decode cL_law 239 = .ok (.iconst 0, 1) := by decide +kernel
theorem dL_law_240 : decode cL_law 240 = .ok (.ireturn, 1) := by decide +kernel
theorem dL_law_241 : decode cL_law 241 = .ok (.aload_n 1, 1) := by decide +kernel
theorem dL_law_242 : decode cL_law 242 = .ok (.invokevirtual 27, 3) := by decide +kernel
theorem dL_law_245 : decode cL_law 245 = .ok (.aload_n 2, 1) := by decide +kernel
theorem dL_law_246 : decode cL_law 246 = .ok (.invokevirtual 30, 3) := by decide +kernel
theorem dL_law_249 : decode cL_law 249 = .ok (.if_icmp .eq 1002, 3) := by decide +kernel
theorem dL_law_252 : decode cL_law 252 = .ok (.iconst 0, 1) := by decide +kernel
theorem dL_law_253 : decode cL_law 253 = .ok (.ireturn, 1) := by decide +kernel
theorem dL_law_254 : decode cL_law 254 = .ok (.aload_n 1, 1) := by decide +kernel
theorem dL_law_255 : decode cL_law 255 = .ok (.invokevirtual 31, 3) := by decide +kernel
theorem dL_law_258 : decode cL_law 258 = .ok (.aload_n 2, 1) := by decide +kernel
theorem dL_law_259 : decode cL_law 259 = .ok (.invokevirtual 34, 3) := by decide +kernel
theorem dL_law_262 : decode cL_law 262 = .ok (.if_icmp .eq 989, 3) := by decide +kernel
theorem dL_law_265 : decode cL_law 265 = .ok (.iconst 0, 1) := by decide +kernel
theorem dL_law_266 : decode cL_law 266 = .ok (.ireturn, 1) := by decide +kernel
theorem dL_law_267 : decode cL_law 267 = .ok (.aload_n 1, 1) := by decide +kernel
theorem dL_law_268 : decode cL_law 268 = .ok (.aload_n 0, 1) := by decide +kernel
theorem dL_law_269 : decode cL_law 269 = .ok (.iload_n 3, 1) := by decide +kernel
theorem dL_law_270 : decode cL_law 270 = .ok (.iconst 1, 1) := by decide +kernel
theorem dL_law_271 : decode cL_law 271 = .ok (.iadd, 1) := by decide +kernel
theorem dL_law_272 : decode cL_law 272 = .ok (.iaload, 1) := by decide +kernel
theorem dL_law_273 : decode cL_law 273 = .ok (.aload_n 0, 1) := by decide +kernel
theorem dL_law_274 : decode cL_law 274 = .ok (.iload_n 3, 1) := by decide +kernel
theorem dL_law_275 : decode cL_law 275 = .ok (.iconst 2, 1) := by decide +kernel
theorem dL_law_276 : decode cL_law 276 = .ok (.iadd, 1) := by decide +kernel
theorem dL_law_277 : decode cL_law 277 = .ok (.iaload, 1) := by decide +kernel
theorem dL_law_278 : decode cL_law 278 = .ok (.invokevirtual 35, 3) := by decide +kernel
theorem dL_law_281 : decode cL_law 281 = .ok (.aload_n 2, 1) := by decide +kernel
theorem dL_law_282 : decode cL_law 282 = .ok (.aload_n 0, 1) := by decide +kernel
theorem dL_law_283 : decode cL_law 283 = .ok (.iload_n 3, 1) := by decide +kernel
theorem dL_law_284 : decode cL_law 284 = .ok (.iconst 1, 1) := by decide +kernel
theorem dL_law_285 : decode cL_law 285 = .ok (.iadd, 1) := by decide +kernel
theorem dL_law_286 : decode cL_law 286 = .ok (.iaload, 1) := by decide +kernel
theorem dL_law_287 : decode cL_law 287 = .ok (.aload_n 0, 1) := by decide +kernel
theorem dL_law_288 : decode cL_law 288 = .ok (.iload_n 3, 1) := by decide +kernel
theorem dL_law_289 : decode cL_law 289 = .ok (.iconst 2, 1) := by decide +kernel
theorem dL_law_290 : decode cL_law 290 = .ok (.iadd, 1) := by decide +kernel
theorem dL_law_291 : decode cL_law 291 = .ok (.iaload, 1) := by decide +kernel
theorem dL_law_292 : decode cL_law 292 = .ok (.invokevirtual 39, 3) := by decide +kernel
theorem dL_law_295 : decode cL_law 295 = .ok (.if_icmp .eq 956, 3) := by decide +kernel
theorem dL_law_298 : decode cL_law 298 = .ok (.iconst 0, 1) := by decide +kernel
theorem dL_law_299 : decode cL_law 299 = .ok (.ireturn, 1) := by decide +kernel
theorem dL_law_300 : decode cL_law 300 = .ok (.aload_n 1, 1) := by decide +kernel
theorem dL_law_301 : decode cL_law 301 = .ok (.aload_n 0, 1) := by decide +kernel
theorem dL_law_302 : decode cL_law 302 = .ok (.iload_n 3, 1) := by decide +kernel
theorem dL_law_303 : decode cL_law 303 = .ok (.iconst 1, 1) := by decide +kernel
theorem dL_law_304 : decode cL_law 304 = .ok (.iadd, 1) := by decide +kernel
theorem dL_law_305 : decode cL_law 305 = .ok (.iaload, 1) := by decide +kernel
theorem dL_law_306 : decode cL_law 306 = .ok (.aload_n 0, 1) := by decide +kernel
theorem dL_law_307 : decode cL_law 307 = .ok (.iload_n 3, 1) := by decide +kernel
theorem dL_law_308 : decode cL_law 308 = .ok (.iconst 2, 1) := by decide +kernel
theorem dL_law_309 : decode cL_law 309 = .ok (.iadd, 1) := by decide +kernel
theorem dL_law_310 : decode cL_law 310 = .ok (.iaload, 1) := by decide +kernel
theorem dL_law_311 : decode cL_law 311 = .ok (.invokevirtual 40, 3) := by decide +kernel
theorem dL_law_314 : decode cL_law 314 = .ok (.aload_n 2, 1) := by decide +kernel
theorem dL_law_315 : decode cL_law 315 = .ok (.aload_n 0, 1) := by decide +kernel
theorem dL_law_316 : decode cL_law 316 = .ok (.iload_n 3, 1) := by decide +kernel
theorem dL_law_317 : decode cL_law 317 = .ok (.iconst 1, 1) := by decide +kernel
theorem dL_law_318 : decode cL_law 318 = .ok (.iadd, 1) := by decide +kernel
theorem dL_law_319 : decode cL_law 319 = .ok (.iaload, 1) := by decide +kernel
theorem dL_law_320 : decode cL_law 320 = .ok (.aload_n 0, 1) := by decide +kernel
theorem dL_law_321 : decode cL_law 321 = .ok (.iload_n 3, 1) := by decide +kernel
theorem dL_law_322 : decode cL_law 322 = .ok (.iconst 2, 1) := by decide +kernel
theorem dL_law_323 : decode cL_law 323 = .ok (.iadd, 1) := by decide +kernel
theorem dL_law_324 : decode cL_law 324 = .ok (.iaload, 1) := by decide +kernel
theorem dL_law_325 : decode cL_law 325 = .ok (.invokevirtual 43, 3) := by decide +kernel
theorem dL_law_328 : decode cL_law 328 = .ok (.if_icmp .eq 923, 3) := by decide +kernel
theorem dL_law_331 : decode cL_law 331 = .ok (.iconst 0, 1) := by decide +kernel
theorem dL_law_332 : decode cL_law 332 = .ok (.ireturn, 1) := by decide +kernel
theorem dL_law_333 : decode cL_law 333 = .ok (.aload_n 1, 1) := by decide +kernel
theorem dL_law_334 : decode cL_law 334 = .ok (.aload_n 0, 1) := by decide +kernel
theorem dL_law_335 : decode cL_law 335 = .ok (.iload_n 3, 1) := by decide +kernel
theorem dL_law_336 : decode cL_law 336 = .ok (.iconst 1, 1) := by decide +kernel
theorem dL_law_337 : decode cL_law 337 = .ok (.iadd, 1) := by decide +kernel
theorem dL_law_338 : decode cL_law 338 = .ok (.iaload, 1) := by decide +kernel
theorem dL_law_339 : decode cL_law 339 = .ok (.aload_n 0, 1) := by decide +kernel
theorem dL_law_340 : decode cL_law 340 = .ok (.iload_n 3, 1) := by decide +kernel
theorem dL_law_341 : decode cL_law 341 = .ok (.iconst 2, 1) := by decide +kernel
theorem dL_law_342 : decode cL_law 342 = .ok (.iadd, 1) := by decide +kernel
theorem dL_law_343 : decode cL_law 343 = .ok (.iaload, 1) := by decide +kernel
theorem dL_law_344 : decode cL_law 344 = .ok (.aload_n 0, 1) := by decide +kernel
theorem dL_law_345 : decode cL_law 345 = .ok (.iload_n 3, 1) := by decide +kernel
theorem dL_law_346 : decode cL_law 346 = .ok (.iconst 3, 1) := by decide +kernel
theorem dL_law_347 : decode cL_law 347 = .ok (.iadd, 1) := by decide +kernel
theorem dL_law_348 : decode cL_law 348 = .ok (.iaload, 1) := by decide +kernel
theorem dL_law_349 : decode cL_law 349 = .ok (.invokevirtual 44, 3) := by decide +kernel
theorem dL_law_352 : decode cL_law 352 = .ok (.aload_n 2, 1) := by decide +kernel
theorem dL_law_353 : decode cL_law 353 = .ok (.aload_n 0, 1) := by decide +kernel
theorem dL_law_354 : decode cL_law 354 = .ok (.iload_n 3, 1) := by decide +kernel
theorem dL_law_355 : decode cL_law 355 = .ok (.iconst 1, 1) := by decide +kernel
theorem dL_law_356 : decode cL_law 356 = .ok (.iadd, 1) := by decide +kernel
theorem dL_law_357 : decode cL_law 357 = .ok (.iaload, 1) := by decide +kernel
theorem dL_law_358 : decode cL_law 358 = .ok (.aload_n 0, 1) := by decide +kernel
theorem dL_law_359 : decode cL_law 359 = .ok (.iload_n 3, 1) := by decide +kernel
theorem dL_law_360 : decode cL_law 360 = .ok (.iconst 2, 1) := by decide +kernel
theorem dL_law_361 : decode cL_law 361 = .ok (.iadd, 1) := by decide +kernel
theorem dL_law_362 : decode cL_law 362 = .ok (.iaload, 1) := by decide +kernel
theorem dL_law_363 : decode cL_law 363 = .ok (.aload_n 0, 1) := by decide +kernel
theorem dL_law_364 : decode cL_law 364 = .ok (.iload_n 3, 1) := by decide +kernel
theorem dL_law_365 : decode cL_law 365 = .ok (.iconst 3, 1) := by decide +kernel
theorem dL_law_366 : decode cL_law 366 = .ok (.iadd, 1) := by decide +kernel
theorem dL_law_367 : decode cL_law 367 = .ok (.iaload, 1) := by decide +kernel
theorem dL_law_368 : decode cL_law 368 = .ok (.invokevirtual 48, 3) := by decide +kernel
theorem dL_law_371 : decode cL_law 371 = .ok (.if_icmp .eq 880, 3) := by decide +kernel
theorem dL_law_374 : decode cL_law 374 = .ok (.iconst 0, 1) := by decide +kernel
theorem dL_law_375 : decode cL_law 375 = .ok (.ireturn, 1) := by decide +kernel
theorem dL_law_376 : decode cL_law 376 = .ok (.aload_n 1, 1) := by decide +kernel
theorem dL_law_377 : decode cL_law 377 = .ok (.aload_n 0, 1) := by decide +kernel
theorem dL_law_378 : decode cL_law 378 = .ok (.iload_n 3, 1) := by decide +kernel
theorem dL_law_379 : decode cL_law 379 = .ok (.iconst 1, 1) := by decide +kernel
theorem dL_law_380 : decode cL_law 380 = .ok (.iadd, 1) := by decide +kernel
theorem dL_law_381 : decode cL_law 381 = .ok (.iaload, 1) := by decide +kernel
theorem dL_law_382 : decode cL_law 382 = .ok (.aload_n 0, 1) := by decide +kernel
theorem dL_law_383 : decode cL_law 383 = .ok (.iload_n 3, 1) := by decide +kernel
theorem dL_law_384 : decode cL_law 384 = .ok (.iconst 2, 1) := by decide +kernel
theorem dL_law_385 : decode cL_law 385 = .ok (.iadd, 1) := by decide +kernel
theorem dL_law_386 : decode cL_law 386 = .ok (.iaload, 1) := by decide +kernel
theorem dL_law_387 : decode cL_law 387 = .ok (.invokevirtual 49, 3) := by decide +kernel
theorem dL_law_390 : decode cL_law 390 = .ok (.aload_n 2, 1) := by decide +kernel
theorem dL_law_391 : decode cL_law 391 = .ok (.aload_n 0, 1) := by decide +kernel
theorem dL_law_392 : decode cL_law 392 = .ok (.iload_n 3, 1) := by decide +kernel
theorem dL_law_393 : decode cL_law 393 = .ok (.iconst 1, 1) := by decide +kernel
theorem dL_law_394 : decode cL_law 394 = .ok (.iadd, 1) := by decide +kernel
theorem dL_law_395 : decode cL_law 395 = .ok (.iaload, 1) := by decide +kernel
theorem dL_law_396 : decode cL_law 396 = .ok (.aload_n 0, 1) := by decide +kernel
theorem dL_law_397 : decode cL_law 397 = .ok (.iload_n 3, 1) := by decide +kernel
theorem dL_law_398 : decode cL_law 398 = .ok (.iconst 2, 1) := by decide +kernel
theorem dL_law_399 : decode cL_law 399 = .ok (.iadd, 1) := by decide +kernel
theorem dL_law_400 : decode cL_law 400 = .ok (.iaload, 1) := by decide +kernel
theorem dL_law_401 : decode cL_law 401 = .ok (.invokevirtual 52, 3) := by decide +kernel
theorem dL_law_404 : decode cL_law 404 = .ok (.if_icmp .eq 847, 3) := by decide +kernel
theorem dL_law_407 : decode cL_law 407 = .ok (.iconst 0, 1) := by decide +kernel
theorem dL_law_408 : decode cL_law 408 = .ok (.ireturn, 1) := by decide +kernel
theorem dL_law_409 : decode cL_law 409 = .ok (.aload_n 1, 1) := by decide +kernel
theorem dL_law_410 : decode cL_law 410 = .ok (.aload_n 0, 1) := by decide +kernel
theorem dL_law_411 : decode cL_law 411 = .ok (.iload_n 3, 1) := by decide +kernel
theorem dL_law_412 : decode cL_law 412 = .ok (.iconst 1, 1) := by decide +kernel
theorem dL_law_413 : decode cL_law 413 = .ok (.iadd, 1) := by decide +kernel
theorem dL_law_414 : decode cL_law 414 = .ok (.iaload, 1) := by decide +kernel
theorem dL_law_415 : decode cL_law 415 = .ok (.aload_n 0, 1) := by decide +kernel
theorem dL_law_416 : decode cL_law 416 = .ok (.iload_n 3, 1) := by decide +kernel
theorem dL_law_417 : decode cL_law 417 = .ok (.iconst 2, 1) := by decide +kernel
theorem dL_law_418 : decode cL_law 418 = .ok (.iadd, 1) := by decide +kernel
theorem dL_law_419 : decode cL_law 419 = .ok (.iaload, 1) := by decide +kernel
theorem dL_law_420 : decode cL_law 420 = .ok (.invokevirtual 53, 3) := by decide +kernel
theorem dL_law_423 : decode cL_law 423 = .ok (.aload_n 2, 1) := by decide +kernel
theorem dL_law_424 : decode cL_law 424 = .ok (.aload_n 0, 1) := by decide +kernel
theorem dL_law_425 : decode cL_law 425 = .ok (.iload_n 3, 1) := by decide +kernel
theorem dL_law_426 : decode cL_law 426 = .ok (.iconst 1, 1) := by decide +kernel
theorem dL_law_427 : decode cL_law 427 = .ok (.iadd, 1) := by decide +kernel
theorem dL_law_428 : decode cL_law 428 = .ok (.iaload, 1) := by decide +kernel
theorem dL_law_429 : decode cL_law 429 = .ok (.aload_n 0, 1) := by decide +kernel
theorem dL_law_430 : decode cL_law 430 = .ok (.iload_n 3, 1) := by decide +kernel
theorem dL_law_431 : decode cL_law 431 = .ok (.iconst 2, 1) := by decide +kernel
theorem dL_law_432 : decode cL_law 432 = .ok (.iadd, 1) := by decide +kernel
theorem dL_law_433 : decode cL_law 433 = .ok (.iaload, 1) := by decide +kernel
theorem dL_law_434 : decode cL_law 434 = .ok (.invokevirtual 56, 3) := by decide +kernel
theorem dL_law_437 : decode cL_law 437 = .ok (.if_icmp .eq 814, 3) := by decide +kernel
theorem dL_law_440 : decode cL_law 440 = .ok (.iconst 0, 1) := by decide +kernel
theorem dL_law_441 : decode cL_law 441 = .ok (.ireturn, 1) := by decide +kernel
theorem dL_law_442 : decode cL_law 442 = .ok (.aload_n 1, 1) := by decide +kernel
theorem dL_law_443 : decode cL_law 443 = .ok (.aload_n 0, 1) := by decide +kernel
theorem dL_law_444 : decode cL_law 444 = .ok (.iload_n 3, 1) := by decide +kernel
theorem dL_law_445 : decode cL_law 445 = .ok (.iconst 1, 1) := by decide +kernel
theorem dL_law_446 : decode cL_law 446 = .ok (.iadd, 1) := by decide +kernel
theorem dL_law_447 : decode cL_law 447 = .ok (.iaload, 1) := by decide +kernel
theorem dL_law_448 : decode cL_law 448 = .ok (.aload_n 0, 1) := by decide +kernel
theorem dL_law_449 : decode cL_law 449 = .ok (.iload_n 3, 1) := by decide +kernel
theorem dL_law_450 : decode cL_law 450 = .ok (.iconst 2, 1) := by decide +kernel
theorem dL_law_451 : decode cL_law 451 = .ok (.iadd, 1) := by decide +kernel
theorem dL_law_452 : decode cL_law 452 = .ok (.iaload, 1) := by decide +kernel
theorem dL_law_453 : decode cL_law 453 = .ok (.aload_n 0, 1) := by decide +kernel
theorem dL_law_454 : decode cL_law 454 = .ok (.iload_n 3, 1) := by decide +kernel
theorem dL_law_455 : decode cL_law 455 = .ok (.iconst 3, 1) := by decide +kernel
theorem dL_law_456 : decode cL_law 456 = .ok (.iadd, 1) := by decide +kernel
theorem dL_law_457 : decode cL_law 457 = .ok (.iaload, 1) := by decide +kernel
theorem dL_law_458 : decode cL_law 458 = .ok (.invokevirtual 57, 3) := by decide +kernel
theorem dL_law_461 : decode cL_law 461 = .ok (.aload_n 2, 1) := by decide +kernel
theorem dL_law_462 : decode cL_law 462 = .ok (.aload_n 0, 1) := by decide +kernel
theorem dL_law_463 : decode cL_law 463 = .ok (.iload_n 3, 1) := by decide +kernel
theorem dL_law_464 : decode cL_law 464 = .ok (.iconst 1, 1) := by decide +kernel
theorem dL_law_465 : decode cL_law 465 = .ok (.iadd, 1) := by decide +kernel
theorem dL_law_466 : decode cL_law 466 = .ok (.iaload, 1) := by decide +kernel
theorem dL_law_467 : decode cL_law 467 = .ok (.aload_n 0, 1) := by decide +kernel
theorem dL_law_468 : decode cL_law 468 = .ok (.iload_n 3, 1) := by decide +kernel
theorem dL_law_469 : decode cL_law 469 = .ok (.iconst 2, 1) := by decide +kernel
theorem dL_law_470 : decode cL_law 470 = .ok (.iadd, 1) := by decide +kernel
theorem dL_law_471 : decode cL_law 471 = .ok (.iaload, 1) := by decide +kernel
theorem dL_law_472 : decode cL_law 472 = .ok (.aload_n 0, 1) := by decide +kernel
theorem dL_law_473 : decode cL_law 473 = .ok (.iload_n 3, 1) := by decide +kernel
theorem dL_law_474 : decode cL_law 474 = .ok (.iconst 3, 1) := by decide +kernel
theorem dL_law_475 : decode cL_law 475 = .ok (.iadd, 1) := by decide +kernel
theorem dL_law_476 : decode cL_law 476 = .ok (.iaload, 1) := by decide +kernel
theorem dL_law_477 : decode cL_law 477 = .ok (.invokevirtual 60, 3) := by decide +kernel
theorem dL_law_480 : decode cL_law 480 = .ok (.if_icmp .eq 771, 3) := by decide +kernel
theorem dL_law_483 : decode cL_law 483 = .ok (.iconst 0, 1) := by decide +kernel
theorem dL_law_484 : decode cL_law 484 = .ok (.ireturn, 1) := by decide +kernel
theorem dL_law_485 : decode cL_law 485 = .ok (.aload_n 1, 1) := by decide +kernel
theorem dL_law_486 : decode cL_law 486 = .ok (.aload_n 0, 1) := by decide +kernel
theorem dL_law_487 : decode cL_law 487 = .ok (.iload_n 3, 1) := by decide +kernel
theorem dL_law_488 : decode cL_law 488 = .ok (.iconst 1, 1) := by decide +kernel
theorem dL_law_489 : decode cL_law 489 = .ok (.iadd, 1) := by decide +kernel
theorem dL_law_490 : decode cL_law 490 = .ok (.iaload, 1) := by decide +kernel
theorem dL_law_491 : decode cL_law 491 = .ok (.aload_n 0, 1) := by decide +kernel
theorem dL_law_492 : decode cL_law 492 = .ok (.iload_n 3, 1) := by decide +kernel
theorem dL_law_493 : decode cL_law 493 = .ok (.iconst 2, 1) := by decide +kernel
theorem dL_law_494 : decode cL_law 494 = .ok (.iadd, 1) := by decide +kernel
theorem dL_law_495 : decode cL_law 495 = .ok (.iaload, 1) := by decide +kernel
theorem dL_law_496 : decode cL_law 496 = .ok (.aload_n 0, 1) := by decide +kernel
theorem dL_law_497 : decode cL_law 497 = .ok (.iload_n 3, 1) := by decide +kernel
theorem dL_law_498 : decode cL_law 498 = .ok (.iconst 3, 1) := by decide +kernel
theorem dL_law_499 : decode cL_law 499 = .ok (.iadd, 1) := by decide +kernel
theorem dL_law_500 : decode cL_law 500 = .ok (.iaload, 1) := by decide +kernel
theorem dL_law_501 : decode cL_law 501 = .ok (.invokevirtual 61, 3) := by decide +kernel
theorem dL_law_504 : decode cL_law 504 = .ok (.aload_n 2, 1) := by decide +kernel
theorem dL_law_505 : decode cL_law 505 = .ok (.aload_n 0, 1) := by decide +kernel
theorem dL_law_506 : decode cL_law 506 = .ok (.iload_n 3, 1) := by decide +kernel
theorem dL_law_507 : decode cL_law 507 = .ok (.iconst 1, 1) := by decide +kernel
theorem dL_law_508 : decode cL_law 508 = .ok (.iadd, 1) := by decide +kernel
theorem dL_law_509 : decode cL_law 509 = .ok (.iaload, 1) := by decide +kernel
theorem dL_law_510 : decode cL_law 510 = .ok (.aload_n 0, 1) := by decide +kernel
theorem dL_law_511 : decode cL_law 511 = .ok (.iload_n 3, 1) := by decide +kernel
theorem dL_law_512 : decode cL_law 512 = .ok (.iconst 2, 1) := by decide +kernel
theorem dL_law_513 : decode cL_law 513 = .ok (.iadd, 1) := by decide +kernel
theorem dL_law_514 : decode cL_law 514 = .ok (.iaload, 1) := by decide +kernel
theorem dL_law_515 : decode cL_law 515 = .ok (.aload_n 0, 1) := by decide +kernel
theorem dL_law_516 : decode cL_law 516 = .ok (.iload_n 3, 1) := by decide +kernel
theorem dL_law_517 : decode cL_law 517 = .ok (.iconst 3, 1) := by decide +kernel
theorem dL_law_518 : decode cL_law 518 = .ok (.iadd, 1) := by decide +kernel
theorem dL_law_519 : decode cL_law 519 = .ok (.iaload, 1) := by decide +kernel
theorem dL_law_520 : decode cL_law 520 = .ok (.invokevirtual 64, 3) := by decide +kernel
theorem dL_law_523 : decode cL_law 523 = .ok (.if_icmp .eq 728, 3) := by decide +kernel
theorem dL_law_526 : decode cL_law 526 = .ok (.iconst 0, 1) := by decide +kernel
theorem dL_law_527 : decode cL_law 527 = .ok (.ireturn, 1) := by decide +kernel
theorem dL_law_528 : decode cL_law 528 = .ok (.aload_n 1, 1) := by decide +kernel
theorem dL_law_529 : decode cL_law 529 = .ok (.aload_n 0, 1) := by decide +kernel
theorem dL_law_530 : decode cL_law 530 = .ok (.iload_n 3, 1) := by decide +kernel
theorem dL_law_531 : decode cL_law 531 = .ok (.iconst 1, 1) := by decide +kernel
theorem dL_law_532 : decode cL_law 532 = .ok (.iadd, 1) := by decide +kernel
theorem dL_law_533 : decode cL_law 533 = .ok (.iaload, 1) := by decide +kernel
theorem dL_law_534 : decode cL_law 534 = .ok (.aload_n 0, 1) := by decide +kernel
theorem dL_law_535 : decode cL_law 535 = .ok (.iload_n 3, 1) := by decide +kernel
theorem dL_law_536 : decode cL_law 536 = .ok (.iconst 2, 1) := by decide +kernel
theorem dL_law_537 : decode cL_law 537 = .ok (.iadd, 1) := by decide +kernel
theorem dL_law_538 : decode cL_law 538 = .ok (.iaload, 1) := by decide +kernel
theorem dL_law_539 : decode cL_law 539 = .ok (.aload_n 0, 1) := by decide +kernel
theorem dL_law_540 : decode cL_law 540 = .ok (.iload_n 3, 1) := by decide +kernel
theorem dL_law_541 : decode cL_law 541 = .ok (.iconst 3, 1) := by decide +kernel
theorem dL_law_542 : decode cL_law 542 = .ok (.iadd, 1) := by decide +kernel
theorem dL_law_543 : decode cL_law 543 = .ok (.iaload, 1) := by decide +kernel
theorem dL_law_544 : decode cL_law 544 = .ok (.invokevirtual 65, 3) := by decide +kernel
theorem dL_law_547 : decode cL_law 547 = .ok (.aload_n 2, 1) := by decide +kernel
theorem dL_law_548 : decode cL_law 548 = .ok (.aload_n 0, 1) := by decide +kernel
theorem dL_law_549 : decode cL_law 549 = .ok (.iload_n 3, 1) := by decide +kernel
theorem dL_law_550 : decode cL_law 550 = .ok (.iconst 1, 1) := by decide +kernel
theorem dL_law_551 : decode cL_law 551 = .ok (.iadd, 1) := by decide +kernel
theorem dL_law_552 : decode cL_law 552 = .ok (.iaload, 1) := by decide +kernel
theorem dL_law_553 : decode cL_law 553 = .ok (.aload_n 0, 1) := by decide +kernel
theorem dL_law_554 : decode cL_law 554 = .ok (.iload_n 3, 1) := by decide +kernel
theorem dL_law_555 : decode cL_law 555 = .ok (.iconst 2, 1) := by decide +kernel
theorem dL_law_556 : decode cL_law 556 = .ok (.iadd, 1) := by decide +kernel
theorem dL_law_557 : decode cL_law 557 = .ok (.iaload, 1) := by decide +kernel
theorem dL_law_558 : decode cL_law 558 = .ok (.aload_n 0, 1) := by decide +kernel
theorem dL_law_559 : decode cL_law 559 = .ok (.iload_n 3, 1) := by decide +kernel
theorem dL_law_560 : decode cL_law 560 = .ok (.iconst 3, 1) := by decide +kernel
theorem dL_law_561 : decode cL_law 561 = .ok (.iadd, 1) := by decide +kernel
theorem dL_law_562 : decode cL_law 562 = .ok (.iaload, 1) := by decide +kernel
theorem dL_law_563 : decode cL_law 563 = .ok (.invokevirtual 68, 3) := by decide +kernel
theorem dL_law_566 : decode cL_law 566 = .ok (.if_icmp .eq 685, 3) := by decide +kernel
theorem dL_law_569 : decode cL_law 569 = .ok (.iconst 0, 1) := by decide +kernel
theorem dL_law_570 : decode cL_law 570 = .ok (.ireturn, 1) := by decide +kernel
theorem dL_law_571 : decode cL_law 571 = .ok (.aload_n 1, 1) := by decide +kernel
theorem dL_law_572 : decode cL_law 572 = .ok (.aload_n 0, 1) := by decide +kernel
theorem dL_law_573 : decode cL_law 573 = .ok (.iload_n 3, 1) := by decide +kernel
theorem dL_law_574 : decode cL_law 574 = .ok (.iconst 1, 1) := by decide +kernel
theorem dL_law_575 : decode cL_law 575 = .ok (.iadd, 1) := by decide +kernel
theorem dL_law_576 : decode cL_law 576 = .ok (.iaload, 1) := by decide +kernel
theorem dL_law_577 : decode cL_law 577 = .ok (.aload_n 0, 1) := by decide +kernel
theorem dL_law_578 : decode cL_law 578 = .ok (.iload_n 3, 1) := by decide +kernel
theorem dL_law_579 : decode cL_law 579 = .ok (.iconst 2, 1) := by decide +kernel
theorem dL_law_580 : decode cL_law 580 = .ok (.iadd, 1) := by decide +kernel
theorem dL_law_581 : decode cL_law 581 = .ok (.iaload, 1) := by decide +kernel
theorem dL_law_582 : decode cL_law 582 = .ok (.invokevirtual 69, 3) := by decide +kernel
theorem dL_law_585 : decode cL_law 585 = .ok (.aload_n 2, 1) := by decide +kernel
theorem dL_law_586 : decode cL_law 586 = .ok (.aload_n 0, 1) := by decide +kernel
theorem dL_law_587 : decode cL_law 587 = .ok (.iload_n 3, 1) := by decide +kernel
theorem dL_law_588 : decode cL_law 588 = .ok (.iconst 1, 1) := by decide +kernel
theorem dL_law_589 : decode cL_law 589 = .ok (.iadd, 1) := by decide +kernel
theorem dL_law_590 : decode cL_law 590 = .ok (.iaload, 1) := by decide +kernel
theorem dL_law_591 : decode cL_law 591 = .ok (.aload_n 0, 1) := by decide +kernel
theorem dL_law_592 : decode cL_law 592 = .ok (.iload_n 3, 1) := by decide +kernel
theorem dL_law_593 : decode cL_law 593 = .ok (.iconst 2, 1) := by decide +kernel
theorem dL_law_594 : decode cL_law 594 = .ok (.iadd, 1) := by decide +kernel
theorem dL_law_595 : decode cL_law 595 = .ok (.iaload, 1) := by decide +kernel
theorem dL_law_596 : decode cL_law 596 = .ok (.invokevirtual 72, 3) := by decide +kernel
theorem dL_law_599 : decode cL_law 599 = .ok (.if_icmp .eq 652, 3) := by decide +kernel
theorem dL_law_602 : decode cL_law 602 = .ok (.iconst 0, 1) := by decide +kernel
theorem dL_law_603 : decode cL_law 603 = .ok (.ireturn, 1) := by decide +kernel
theorem dL_law_604 : decode cL_law 604 = .ok (.aload_n 1, 1) := by decide +kernel
theorem dL_law_605 : decode cL_law 605 = .ok (.invokevirtual 73, 3) := by decide +kernel
theorem dL_law_608 : decode cL_law 608 = .ok (.aload_n 2, 1) := by decide +kernel
theorem dL_law_609 : decode cL_law 609 = .ok (.invokevirtual 76, 3) := by decide +kernel
theorem dL_law_612 : decode cL_law 612 = .ok (.if_icmp .eq 639, 3) := by decide +kernel
theorem dL_law_615 : decode cL_law 615 = .ok (.iconst 0, 1) := by decide +kernel
theorem dL_law_616 : decode cL_law 616 = .ok (.ireturn, 1) := by decide +kernel
theorem dL_law_617 : decode cL_law 617 = .ok (.aload_n 1, 1) := by decide +kernel
theorem dL_law_618 : decode cL_law 618 = .ok (.aload_n 0, 1) := by decide +kernel
theorem dL_law_619 : decode cL_law 619 = .ok (.iload_n 3, 1) := by decide +kernel
theorem dL_law_620 : decode cL_law 620 = .ok (.iconst 1, 1) := by decide +kernel
theorem dL_law_621 : decode cL_law 621 = .ok (.iadd, 1) := by decide +kernel
theorem dL_law_622 : decode cL_law 622 = .ok (.iaload, 1) := by decide +kernel
theorem dL_law_623 : decode cL_law 623 = .ok (.invokevirtual 77, 3) := by decide +kernel
theorem dL_law_626 : decode cL_law 626 = .ok (.aload_n 2, 1) := by decide +kernel
theorem dL_law_627 : decode cL_law 627 = .ok (.aload_n 0, 1) := by decide +kernel
theorem dL_law_628 : decode cL_law 628 = .ok (.iload_n 3, 1) := by decide +kernel
theorem dL_law_629 : decode cL_law 629 = .ok (.iconst 1, 1) := by decide +kernel
theorem dL_law_630 : decode cL_law 630 = .ok (.iadd, 1) := by decide +kernel
theorem dL_law_631 : decode cL_law 631 = .ok (.iaload, 1) := by decide +kernel
theorem dL_law_632 : decode cL_law 632 = .ok (.invokevirtual 80, 3) := by decide +kernel
theorem dL_law_635 : decode cL_law 635 = .ok (.if_icmp .eq 616, 3) := by decide +kernel
theorem dL_law_638 : decode cL_law 638 = .ok (.iconst 0, 1) := by decide +kernel
theorem dL_law_639 : decode cL_law 639 = .ok (.ireturn, 1) := by decide +kernel
theorem dL_law_640 : decode cL_law 640 = .ok (.aload_n 1, 1) := by decide +kernel
theorem dL_law_641 : decode cL_law 641 = .ok (.aload_n 0, 1) := by decide +kernel
theorem dL_law_642 : decode cL_law 642 = .ok (.iload_n 3, 1) := by decide +kernel
theorem dL_law_643 : decode cL_law 643 = .ok (.iconst 1, 1) := by decide +kernel
theorem dL_law_644 : decode cL_law 644 = .ok (.iadd, 1) := by decide +kernel
theorem dL_law_645 : decode cL_law 645 = .ok (.iaload, 1) := by decide +kernel
theorem dL_law_646 : decode cL_law 646 = .ok (.invokevirtual 81, 3) := by decide +kernel
theorem dL_law_649 : decode cL_law 649 = .ok (.aload_n 2, 1) := by decide +kernel
theorem dL_law_650 : decode cL_law 650 = .ok (.aload_n 0, 1) := by decide +kernel
theorem dL_law_651 : decode cL_law 651 = .ok (.iload_n 3, 1) := by decide +kernel
theorem dL_law_652 : decode cL_law 652 = .ok (.iconst 1, 1) := by decide +kernel
theorem dL_law_653 : decode cL_law 653 = .ok (.iadd, 1) := by decide +kernel
theorem dL_law_654 : decode cL_law 654 = .ok (.iaload, 1) := by decide +kernel
theorem dL_law_655 : decode cL_law 655 = .ok (.invokevirtual 84, 3) := by decide +kernel
theorem dL_law_658 : decode cL_law 658 = .ok (.if_icmp .eq 593, 3) := by decide +kernel
theorem dL_law_661 : decode cL_law 661 = .ok (.iconst 0, 1) := by decide +kernel
theorem dL_law_662 : decode cL_law 662 = .ok (.ireturn, 1) := by decide +kernel
theorem dL_law_663 : decode cL_law 663 = .ok (.aload_n 1, 1) := by decide +kernel
theorem dL_law_664 : decode cL_law 664 = .ok (.aload_n 0, 1) := by decide +kernel
theorem dL_law_665 : decode cL_law 665 = .ok (.iload_n 3, 1) := by decide +kernel
theorem dL_law_666 : decode cL_law 666 = .ok (.iconst 1, 1) := by decide +kernel
theorem dL_law_667 : decode cL_law 667 = .ok (.iadd, 1) := by decide +kernel
theorem dL_law_668 : decode cL_law 668 = .ok (.iaload, 1) := by decide +kernel
theorem dL_law_669 : decode cL_law 669 = .ok (.aload_n 0, 1) := by decide +kernel
theorem dL_law_670 : decode cL_law 670 = .ok (.iload_n 3, 1) := by decide +kernel
theorem dL_law_671 : decode cL_law 671 = .ok (.iconst 2, 1) := by decide +kernel
theorem dL_law_672 : decode cL_law 672 = .ok (.iadd, 1) := by decide +kernel
theorem dL_law_673 : decode cL_law 673 = .ok (.iaload, 1) := by decide +kernel
theorem dL_law_674 : decode cL_law 674 = .ok (.invokevirtual 85, 3) := by decide +kernel
theorem dL_law_677 : decode cL_law 677 = .ok (.aload_n 2, 1) := by decide +kernel
theorem dL_law_678 : decode cL_law 678 = .ok (.aload_n 0, 1) := by decide +kernel
theorem dL_law_679 : decode cL_law 679 = .ok (.iload_n 3, 1) := by decide +kernel
theorem dL_law_680 : decode cL_law 680 = .ok (.iconst 1, 1) := by decide +kernel
theorem dL_law_681 : decode cL_law 681 = .ok (.iadd, 1) := by decide +kernel
theorem dL_law_682 : decode cL_law 682 = .ok (.iaload, 1) := by decide +kernel
theorem dL_law_683 : decode cL_law 683 = .ok (.aload_n 0, 1) := by decide +kernel
theorem dL_law_684 : decode cL_law 684 = .ok (.iload_n 3, 1) := by decide +kernel
theorem dL_law_685 : decode cL_law 685 = .ok (.iconst 2, 1) := by decide +kernel
theorem dL_law_686 : decode cL_law 686 = .ok (.iadd, 1) := by decide +kernel
theorem dL_law_687 : decode cL_law 687 = .ok (.iaload, 1) := by decide +kernel
theorem dL_law_688 : decode cL_law 688 = .ok (.invokevirtual 88, 3) := by decide +kernel
theorem dL_law_691 : decode cL_law 691 = .ok (.if_icmp .eq 560, 3) := by decide +kernel
theorem dL_law_694 : decode cL_law 694 = .ok (.iconst 0, 1) := by decide +kernel
theorem dL_law_695 : decode cL_law 695 = .ok (.ireturn, 1) := by decide +kernel
theorem dL_law_696 : decode cL_law 696 = .ok (.aload_n 1, 1) := by decide +kernel
theorem dL_law_697 : decode cL_law 697 = .ok (.invokevirtual 89, 3) := by decide +kernel
theorem dL_law_700 : decode cL_law 700 = .ok (.aload_n 2, 1) := by decide +kernel
theorem dL_law_701 : decode cL_law 701 = .ok (.invokevirtual 92, 3) := by decide +kernel
theorem dL_law_704 : decode cL_law 704 = .ok (.if_icmp .eq 547, 3) := by decide +kernel
theorem dL_law_707 : decode cL_law 707 = .ok (.iconst 0, 1) := by decide +kernel
theorem dL_law_708 : decode cL_law 708 = .ok (.ireturn, 1) := by decide +kernel
theorem dL_law_709 : decode cL_law 709 = .ok (.aload_n 1, 1) := by decide +kernel
theorem dL_law_710 : decode cL_law 710 = .ok (.aload_n 0, 1) := by decide +kernel
theorem dL_law_711 : decode cL_law 711 = .ok (.iload_n 3, 1) := by decide +kernel
theorem dL_law_712 : decode cL_law 712 = .ok (.iconst 1, 1) := by decide +kernel
theorem dL_law_713 : decode cL_law 713 = .ok (.iadd, 1) := by decide +kernel
theorem dL_law_714 : decode cL_law 714 = .ok (.iaload, 1) := by decide +kernel
theorem dL_law_715 : decode cL_law 715 = .ok (.aload_n 0, 1) := by decide +kernel
theorem dL_law_716 : decode cL_law 716 = .ok (.iload_n 3, 1) := by decide +kernel
theorem dL_law_717 : decode cL_law 717 = .ok (.iconst 2, 1) := by decide +kernel
theorem dL_law_718 : decode cL_law 718 = .ok (.iadd, 1) := by decide +kernel
theorem dL_law_719 : decode cL_law 719 = .ok (.iaload, 1) := by decide +kernel
theorem dL_law_720 : decode cL_law 720 = .ok (.invokevirtual 93, 3) := by decide +kernel
theorem dL_law_723 : decode cL_law 723 = .ok (.aload_n 2, 1) := by decide +kernel
theorem dL_law_724 : decode cL_law 724 = .ok (.aload_n 0, 1) := by decide +kernel
theorem dL_law_725 : decode cL_law 725 = .ok (.iload_n 3, 1) := by decide +kernel
theorem dL_law_726 : decode cL_law 726 = .ok (.iconst 1, 1) := by decide +kernel
theorem dL_law_727 : decode cL_law 727 = .ok (.iadd, 1) := by decide +kernel
theorem dL_law_728 : decode cL_law 728 = .ok (.iaload, 1) := by decide +kernel
theorem dL_law_729 : decode cL_law 729 = .ok (.aload_n 0, 1) := by decide +kernel
theorem dL_law_730 : decode cL_law 730 = .ok (.iload_n 3, 1) := by decide +kernel
theorem dL_law_731 : decode cL_law 731 = .ok (.iconst 2, 1) := by decide +kernel
theorem dL_law_732 : decode cL_law 732 = .ok (.iadd, 1) := by decide +kernel
theorem dL_law_733 : decode cL_law 733 = .ok (.iaload, 1) := by decide +kernel
theorem dL_law_734 : decode cL_law 734 = .ok (.invokevirtual 96, 3) := by decide +kernel
theorem dL_law_737 : decode cL_law 737 = .ok (.if_icmp .eq 514, 3) := by decide +kernel
theorem dL_law_740 : decode cL_law 740 = .ok (.iconst 0, 1) := by decide +kernel
theorem dL_law_741 : decode cL_law 741 = .ok (.ireturn, 1) := by decide +kernel
theorem dL_law_742 : decode cL_law 742 = .ok (.aload_n 1, 1) := by decide +kernel
theorem dL_law_743 : decode cL_law 743 = .ok (.aload_n 0, 1) := by decide +kernel
theorem dL_law_744 : decode cL_law 744 = .ok (.iload_n 3, 1) := by decide +kernel
theorem dL_law_745 : decode cL_law 745 = .ok (.iconst 1, 1) := by decide +kernel
theorem dL_law_746 : decode cL_law 746 = .ok (.iadd, 1) := by decide +kernel
theorem dL_law_747 : decode cL_law 747 = .ok (.iaload, 1) := by decide +kernel
theorem dL_law_748 : decode cL_law 748 = .ok (.aload_n 0, 1) := by decide +kernel
theorem dL_law_749 : decode cL_law 749 = .ok (.iload_n 3, 1) := by decide +kernel
theorem dL_law_750 : decode cL_law 750 = .ok (.iconst 2, 1) := by decide +kernel
theorem dL_law_751 : decode cL_law 751 = .ok (.iadd, 1) := by decide +kernel
theorem dL_law_752 : decode cL_law 752 = .ok (.iaload, 1) := by decide +kernel
theorem dL_law_753 : decode cL_law 753 = .ok (.invokevirtual 97, 3) := by decide +kernel
theorem dL_law_756 : decode cL_law 756 = .ok (.aload_n 2, 1) := by decide +kernel
theorem dL_law_757 : decode cL_law 757 = .ok (.aload_n 0, 1) := by decide +kernel
theorem dL_law_758 : decode cL_law 758 = .ok (.iload_n 3, 1) := by decide +kernel
theorem dL_law_759 : decode cL_law 759 = .ok (.iconst 1, 1) := by decide +kernel
theorem dL_law_760 : decode cL_law 760 = .ok (.iadd, 1) := by decide +kernel
theorem dL_law_761 : decode cL_law 761 = .ok (.iaload, 1) := by decide +kernel
theorem dL_law_762 : decode cL_law 762 = .ok (.aload_n 0, 1) := by decide +kernel
theorem dL_law_763 : decode cL_law 763 = .ok (.iload_n 3, 1) := by decide +kernel
theorem dL_law_764 : decode cL_law 764 = .ok (.iconst 2, 1) := by decide +kernel
theorem dL_law_765 : decode cL_law 765 = .ok (.iadd, 1) := by decide +kernel
theorem dL_law_766 : decode cL_law 766 = .ok (.iaload, 1) := by decide +kernel
theorem dL_law_767 : decode cL_law 767 = .ok (.invokevirtual 100, 3) := by decide +kernel
theorem dL_law_770 : decode cL_law 770 = .ok (.if_icmp .eq 481, 3) := by decide +kernel
theorem dL_law_773 : decode cL_law 773 = .ok (.iconst 0, 1) := by decide +kernel
theorem dL_law_774 : decode cL_law 774 = .ok (.ireturn, 1) := by decide +kernel
theorem dL_law_775 : decode cL_law 775 = .ok (.aload_n 1, 1) := by decide +kernel
theorem dL_law_776 : decode cL_law 776 = .ok (.aload_n 0, 1) := by decide +kernel
theorem dL_law_777 : decode cL_law 777 = .ok (.iload_n 3, 1) := by decide +kernel
theorem dL_law_778 : decode cL_law 778 = .ok (.iconst 1, 1) := by decide +kernel
theorem dL_law_779 : decode cL_law 779 = .ok (.iadd, 1) := by decide +kernel
theorem dL_law_780 : decode cL_law 780 = .ok (.iaload, 1) := by decide +kernel
theorem dL_law_781 : decode cL_law 781 = .ok (.aload_n 0, 1) := by decide +kernel
theorem dL_law_782 : decode cL_law 782 = .ok (.iload_n 3, 1) := by decide +kernel
theorem dL_law_783 : decode cL_law 783 = .ok (.iconst 2, 1) := by decide +kernel
theorem dL_law_784 : decode cL_law 784 = .ok (.iadd, 1) := by decide +kernel
theorem dL_law_785 : decode cL_law 785 = .ok (.iaload, 1) := by decide +kernel
theorem dL_law_786 : decode cL_law 786 = .ok (.invokevirtual 101, 3) := by decide +kernel
theorem dL_law_789 : decode cL_law 789 = .ok (.aload_n 2, 1) := by decide +kernel
theorem dL_law_790 : decode cL_law 790 = .ok (.aload_n 0, 1) := by decide +kernel
theorem dL_law_791 : decode cL_law 791 = .ok (.iload_n 3, 1) := by decide +kernel
theorem dL_law_792 : decode cL_law 792 = .ok (.iconst 1, 1) := by decide +kernel
theorem dL_law_793 : decode cL_law 793 = .ok (.iadd, 1) := by decide +kernel
theorem dL_law_794 : decode cL_law 794 = .ok (.iaload, 1) := by decide +kernel
theorem dL_law_795 : decode cL_law 795 = .ok (.aload_n 0, 1) := by decide +kernel
theorem dL_law_796 : decode cL_law 796 = .ok (.iload_n 3, 1) := by decide +kernel
theorem dL_law_797 : decode cL_law 797 = .ok (.iconst 2, 1) := by decide +kernel
theorem dL_law_798 : decode cL_law 798 = .ok (.iadd, 1) := by decide +kernel
theorem dL_law_799 : decode cL_law 799 = .ok (.iaload, 1) := by decide +kernel
theorem dL_law_800 : decode cL_law 800 = .ok (.invokevirtual 104, 3) := by decide +kernel
theorem dL_law_803 : decode cL_law 803 = .ok (.if_icmp .eq 448, 3) := by decide +kernel
theorem dL_law_806 : decode cL_law 806 = .ok (.iconst 0, 1) := by decide +kernel
theorem dL_law_807 : decode cL_law 807 = .ok (.ireturn, 1) := by decide +kernel
theorem dL_law_808 : decode cL_law 808 = .ok (.aload_n 1, 1) := by decide +kernel
theorem dL_law_809 : decode cL_law 809 = .ok (.aload_n 0, 1) := by decide +kernel
theorem dL_law_810 : decode cL_law 810 = .ok (.iload_n 3, 1) := by decide +kernel
theorem dL_law_811 : decode cL_law 811 = .ok (.iconst 1, 1) := by decide +kernel
theorem dL_law_812 : decode cL_law 812 = .ok (.iadd, 1) := by decide +kernel
theorem dL_law_813 : decode cL_law 813 = .ok (.iaload, 1) := by decide +kernel
theorem dL_law_814 : decode cL_law 814 = .ok (.aload_n 0, 1) := by decide +kernel
theorem dL_law_815 : decode cL_law 815 = .ok (.iload_n 3, 1) := by decide +kernel
theorem dL_law_816 : decode cL_law 816 = .ok (.iconst 2, 1) := by decide +kernel
theorem dL_law_817 : decode cL_law 817 = .ok (.iadd, 1) := by decide +kernel
theorem dL_law_818 : decode cL_law 818 = .ok (.iaload, 1) := by decide +kernel
theorem dL_law_819 : decode cL_law 819 = .ok (.invokevirtual 105, 3) := by decide +kernel
theorem dL_law_822 : decode cL_law 822 = .ok (.aload_n 2, 1) := by decide +kernel
theorem dL_law_823 : decode cL_law 823 = .ok (.aload_n 0, 1) := by decide +kernel
theorem dL_law_824 : decode cL_law 824 = .ok (.iload_n 3, 1) := by decide +kernel
theorem dL_law_825 : decode cL_law 825 = .ok (.iconst 1, 1) := by decide +kernel
theorem dL_law_826 : decode cL_law 826 = .ok (.iadd, 1) := by decide +kernel
theorem dL_law_827 : decode cL_law 827 = .ok (.iaload, 1) := by decide +kernel
theorem dL_law_828 : decode cL_law 828 = .ok (.aload_n 0, 1) := by decide +kernel
theorem dL_law_829 : decode cL_law 829 = .ok (.iload_n 3, 1) := by decide +kernel
theorem dL_law_830 : decode cL_law 830 = .ok (.iconst 2, 1) := by decide +kernel
theorem dL_law_831 : decode cL_law 831 = .ok (.iadd, 1) := by decide +kernel
theorem dL_law_832 : decode cL_law 832 = .ok (.iaload, 1) := by decide +kernel
theorem dL_law_833 : decode cL_law 833 = .ok (.invokevirtual 108, 3) := by decide +kernel
theorem dL_law_836 : decode cL_law 836 = .ok (.if_icmp .eq 415, 3) := by decide +kernel
theorem dL_law_839 : decode cL_law 839 = .ok (.iconst 0, 1) := by decide +kernel
theorem dL_law_840 : decode cL_law 840 = .ok (.ireturn, 1) := by decide +kernel
theorem dL_law_841 : decode cL_law 841 = .ok (.aload_n 1, 1) := by decide +kernel
theorem dL_law_842 : decode cL_law 842 = .ok (.aload_n 0, 1) := by decide +kernel
theorem dL_law_843 : decode cL_law 843 = .ok (.iload_n 3, 1) := by decide +kernel
theorem dL_law_844 : decode cL_law 844 = .ok (.iconst 1, 1) := by decide +kernel
theorem dL_law_845 : decode cL_law 845 = .ok (.iadd, 1) := by decide +kernel
theorem dL_law_846 : decode cL_law 846 = .ok (.iaload, 1) := by decide +kernel
theorem dL_law_847 : decode cL_law 847 = .ok (.invokevirtual 109, 3) := by decide +kernel
theorem dL_law_850 : decode cL_law 850 = .ok (.aload_n 2, 1) := by decide +kernel
theorem dL_law_851 : decode cL_law 851 = .ok (.aload_n 0, 1) := by decide +kernel
theorem dL_law_852 : decode cL_law 852 = .ok (.iload_n 3, 1) := by decide +kernel
theorem dL_law_853 : decode cL_law 853 = .ok (.iconst 1, 1) := by decide +kernel
theorem dL_law_854 : decode cL_law 854 = .ok (.iadd, 1) := by decide +kernel
theorem dL_law_855 : decode cL_law 855 = .ok (.iaload, 1) := by decide +kernel
theorem dL_law_856 : decode cL_law 856 = .ok (.invokevirtual 112, 3) := by decide +kernel
theorem dL_law_859 : decode cL_law 859 = .ok (.if_icmp .eq 392, 3) := by decide +kernel
theorem dL_law_862 : decode cL_law 862 = .ok (.iconst 0, 1) := by decide +kernel
theorem dL_law_863 : decode cL_law 863 = .ok (.ireturn, 1) := by decide +kernel
theorem dL_law_864 : decode cL_law 864 = .ok (.aload_n 1, 1) := by decide +kernel
theorem dL_law_865 : decode cL_law 865 = .ok (.aload_n 0, 1) := by decide +kernel
theorem dL_law_866 : decode cL_law 866 = .ok (.iload_n 3, 1) := by decide +kernel
theorem dL_law_867 : decode cL_law 867 = .ok (.iconst 1, 1) := by decide +kernel
theorem dL_law_868 : decode cL_law 868 = .ok (.iadd, 1) := by decide +kernel
theorem dL_law_869 : decode cL_law 869 = .ok (.iaload, 1) := by decide +kernel
theorem dL_law_870 : decode cL_law 870 = .ok (.invokevirtual 113, 3) := by decide +kernel
theorem dL_law_873 : decode cL_law 873 = .ok (.aload_n 2, 1) := by decide +kernel
theorem dL_law_874 : decode cL_law 874 = .ok (.aload_n 0, 1) := by decide +kernel
theorem dL_law_875 : decode cL_law 875 = .ok (.iload_n 3, 1) := by decide +kernel
theorem dL_law_876 : decode cL_law 876 = .ok (.iconst 1, 1) := by decide +kernel
theorem dL_law_877 : decode cL_law 877 = .ok (.iadd, 1) := by decide +kernel
theorem dL_law_878 : decode cL_law 878 = .ok (.iaload, 1) := by decide +kernel
theorem dL_law_879 : decode cL_law 879 = .ok (.invokevirtual 116, 3) := by decide +kernel
theorem dL_law_882 : decode cL_law 882 = .ok (.if_icmp .eq 369, 3) := by decide +kernel
theorem dL_law_885 : decode cL_law 885 = .ok (.iconst 0, 1) := by decide +kernel
theorem dL_law_886 : decode cL_law 886 = .ok (.ireturn, 1) := by decide +kernel
theorem dL_law_887 : decode cL_law 887 = .ok (.aload_n 1, 1) := by decide +kernel
theorem dL_law_888 : decode cL_law 888 = .ok (.aload_n 0, 1) := by decide +kernel
theorem dL_law_889 : decode cL_law 889 = .ok (.iload_n 3, 1) := by decide +kernel
theorem dL_law_890 : decode cL_law 890 = .ok (.iconst 1, 1) := by decide +kernel
theorem dL_law_891 : decode cL_law 891 = .ok (.iadd, 1) := by decide +kernel
theorem dL_law_892 : decode cL_law 892 = .ok (.iaload, 1) := by decide +kernel
theorem dL_law_893 : decode cL_law 893 = .ok (.aload_n 0, 1) := by decide +kernel
theorem dL_law_894 : decode cL_law 894 = .ok (.iload_n 3, 1) := by decide +kernel
theorem dL_law_895 : decode cL_law 895 = .ok (.iconst 2, 1) := by decide +kernel
theorem dL_law_896 : decode cL_law 896 = .ok (.iadd, 1) := by decide +kernel
theorem dL_law_897 : decode cL_law 897 = .ok (.iaload, 1) := by decide +kernel
theorem dL_law_898 : decode cL_law 898 = .ok (.aload_n 0, 1) := by decide +kernel
theorem dL_law_899 : decode cL_law 899 = .ok (.iload_n 3, 1) := by decide +kernel
theorem dL_law_900 : decode cL_law 900 = .ok (.iconst 3, 1) := by decide +kernel
theorem dL_law_901 : decode cL_law 901 = .ok (.iadd, 1) := by decide +kernel
theorem dL_law_902 : decode cL_law 902 = .ok (.iaload, 1) := by decide +kernel
theorem dL_law_903 : decode cL_law 903 = .ok (.invokevirtual 117, 3) := by decide +kernel
theorem dL_law_906 : decode cL_law 906 = .ok (.aload_n 2, 1) := by decide +kernel
theorem dL_law_907 : decode cL_law 907 = .ok (.aload_n 0, 1) := by decide +kernel
theorem dL_law_908 : decode cL_law 908 = .ok (.iload_n 3, 1) := by decide +kernel
theorem dL_law_909 : decode cL_law 909 = .ok (.iconst 1, 1) := by decide +kernel
theorem dL_law_910 : decode cL_law 910 = .ok (.iadd, 1) := by decide +kernel
theorem dL_law_911 : decode cL_law 911 = .ok (.iaload, 1) := by decide +kernel
theorem dL_law_912 : decode cL_law 912 = .ok (.aload_n 0, 1) := by decide +kernel
theorem dL_law_913 : decode cL_law 913 = .ok (.iload_n 3, 1) := by decide +kernel
theorem dL_law_914 : decode cL_law 914 = .ok (.iconst 2, 1) := by decide +kernel
theorem dL_law_915 : decode cL_law 915 = .ok (.iadd, 1) := by decide +kernel
theorem dL_law_916 : decode cL_law 916 = .ok (.iaload, 1) := by decide +kernel
theorem dL_law_917 : decode cL_law 917 = .ok (.aload_n 0, 1) := by decide +kernel
theorem dL_law_918 : decode cL_law 918 = .ok (.iload_n 3, 1) := by decide +kernel
theorem dL_law_919 : decode cL_law 919 = .ok (.iconst 3, 1) := by decide +kernel
theorem dL_law_920 : decode cL_law 920 = .ok (.iadd, 1) := by decide +kernel
theorem dL_law_921 : decode cL_law 921 = .ok (.iaload, 1) := by decide +kernel
theorem dL_law_922 : decode cL_law 922 = .ok (.invokevirtual 120, 3) := by decide +kernel
theorem dL_law_925 : decode cL_law 925 = .ok (.if_icmp .eq 326, 3) := by decide +kernel
theorem dL_law_928 : decode cL_law 928 = .ok (.iconst 0, 1) := by decide +kernel
theorem dL_law_929 : decode cL_law 929 = .ok (.ireturn, 1) := by decide +kernel
theorem dL_law_930 : decode cL_law 930 = .ok (.aload_n 1, 1) := by decide +kernel
theorem dL_law_931 : decode cL_law 931 = .ok (.aload_n 0, 1) := by decide +kernel
theorem dL_law_932 : decode cL_law 932 = .ok (.iload_n 3, 1) := by decide +kernel
theorem dL_law_933 : decode cL_law 933 = .ok (.iconst 1, 1) := by decide +kernel
theorem dL_law_934 : decode cL_law 934 = .ok (.iadd, 1) := by decide +kernel
theorem dL_law_935 : decode cL_law 935 = .ok (.iaload, 1) := by decide +kernel
theorem dL_law_936 : decode cL_law 936 = .ok (.invokevirtual 121, 3) := by decide +kernel
theorem dL_law_939 : decode cL_law 939 = .ok (.aload_n 2, 1) := by decide +kernel
theorem dL_law_940 : decode cL_law 940 = .ok (.aload_n 0, 1) := by decide +kernel
theorem dL_law_941 : decode cL_law 941 = .ok (.iload_n 3, 1) := by decide +kernel
theorem dL_law_942 : decode cL_law 942 = .ok (.iconst 1, 1) := by decide +kernel
theorem dL_law_943 : decode cL_law 943 = .ok (.iadd, 1) := by decide +kernel
theorem dL_law_944 : decode cL_law 944 = .ok (.iaload, 1) := by decide +kernel
theorem dL_law_945 : decode cL_law 945 = .ok (.invokevirtual 124, 3) := by decide +kernel
theorem dL_law_948 : decode cL_law 948 = .ok (.if_icmp .eq 303, 3) := by decide +kernel
theorem dL_law_951 : decode cL_law 951 = .ok (.iconst 0, 1) := by decide +kernel
theorem dL_law_952 : decode cL_law 952 = .ok (.ireturn, 1) := by decide +kernel
theorem dL_law_953 : decode cL_law 953 = .ok (.aload_n 1, 1) := by decide +kernel
theorem dL_law_954 : decode cL_law 954 = .ok (.aload_n 0, 1) := by decide +kernel
theorem dL_law_955 : decode cL_law 955 = .ok (.iload_n 3, 1) := by decide +kernel
theorem dL_law_956 : decode cL_law 956 = .ok (.iconst 1, 1) := by decide +kernel
theorem dL_law_957 : decode cL_law 957 = .ok (.iadd, 1) := by decide +kernel
theorem dL_law_958 : decode cL_law 958 = .ok (.iaload, 1) := by decide +kernel
theorem dL_law_959 : decode cL_law 959 = .ok (.aload_n 0, 1) := by decide +kernel
theorem dL_law_960 : decode cL_law 960 = .ok (.iload_n 3, 1) := by decide +kernel
theorem dL_law_961 : decode cL_law 961 = .ok (.iconst 2, 1) := by decide +kernel
theorem dL_law_962 : decode cL_law 962 = .ok (.iadd, 1) := by decide +kernel
theorem dL_law_963 : decode cL_law 963 = .ok (.iaload, 1) := by decide +kernel
theorem dL_law_964 : decode cL_law 964 = .ok (.invokevirtual 125, 3) := by decide +kernel
theorem dL_law_967 : decode cL_law 967 = .ok (.aload_n 2, 1) := by decide +kernel
theorem dL_law_968 : decode cL_law 968 = .ok (.aload_n 0, 1) := by decide +kernel
theorem dL_law_969 : decode cL_law 969 = .ok (.iload_n 3, 1) := by decide +kernel
theorem dL_law_970 : decode cL_law 970 = .ok (.iconst 1, 1) := by decide +kernel
theorem dL_law_971 : decode cL_law 971 = .ok (.iadd, 1) := by decide +kernel
theorem dL_law_972 : decode cL_law 972 = .ok (.iaload, 1) := by decide +kernel
theorem dL_law_973 : decode cL_law 973 = .ok (.aload_n 0, 1) := by decide +kernel
theorem dL_law_974 : decode cL_law 974 = .ok (.iload_n 3, 1) := by decide +kernel
theorem dL_law_975 : decode cL_law 975 = .ok (.iconst 2, 1) := by decide +kernel
theorem dL_law_976 : decode cL_law 976 = .ok (.iadd, 1) := by decide +kernel
theorem dL_law_977 : decode cL_law 977 = .ok (.iaload, 1) := by decide +kernel
theorem dL_law_978 : decode cL_law 978 = .ok (.invokevirtual 128, 3) := by decide +kernel
theorem dL_law_981 : decode cL_law 981 = .ok (.if_icmp .eq 270, 3) := by decide +kernel
theorem dL_law_984 : decode cL_law 984 = .ok (.iconst 0, 1) := by decide +kernel
theorem dL_law_985 : decode cL_law 985 = .ok (.ireturn, 1) := by decide +kernel
theorem dL_law_986 : decode cL_law 986 = .ok (.aload_n 1, 1) := by decide +kernel
theorem dL_law_987 : decode cL_law 987 = .ok (.aload_n 0, 1) := by decide +kernel
theorem dL_law_988 : decode cL_law 988 = .ok (.iload_n 3, 1) := by decide +kernel
theorem dL_law_989 : decode cL_law 989 = .ok (.iconst 1, 1) := by decide +kernel
theorem dL_law_990 : decode cL_law 990 = .ok (.iadd, 1) := by decide +kernel
theorem dL_law_991 : decode cL_law 991 = .ok (.iaload, 1) := by decide +kernel
theorem dL_law_992 : decode cL_law 992 = .ok (.aload_n 0, 1) := by decide +kernel
theorem dL_law_993 : decode cL_law 993 = .ok (.iload_n 3, 1) := by decide +kernel
theorem dL_law_994 : decode cL_law 994 = .ok (.iconst 2, 1) := by decide +kernel
theorem dL_law_995 : decode cL_law 995 = .ok (.iadd, 1) := by decide +kernel
theorem dL_law_996 : decode cL_law 996 = .ok (.iaload, 1) := by decide +kernel
theorem dL_law_997 : decode cL_law 997 = .ok (.aload_n 0, 1) := by decide +kernel
theorem dL_law_998 : decode cL_law 998 = .ok (.iload_n 3, 1) := by decide +kernel
theorem dL_law_999 : decode cL_law 999 = .ok (.iconst 3, 1) := by decide +kernel
theorem dL_law_1000 : decode cL_law 1000 = .ok (.iadd, 1) := by decide +kernel
theorem dL_law_1001 : decode cL_law 1001 = .ok (.iaload, 1) := by decide +kernel
theorem dL_law_1002 : decode cL_law 1002 = .ok (.invokevirtual 129, 3) := by decide +kernel
theorem dL_law_1005 : decode cL_law 1005 = .ok (.aload_n 2, 1) := by decide +kernel
theorem dL_law_1006 : decode cL_law 1006 = .ok (.aload_n 0, 1) := by decide +kernel
theorem dL_law_1007 : decode cL_law 1007 = .ok (.iload_n 3, 1) := by decide +kernel
theorem dL_law_1008 : decode cL_law 1008 = .ok (.iconst 1, 1) := by decide +kernel
theorem dL_law_1009 : decode cL_law 1009 = .ok (.iadd, 1) := by decide +kernel
theorem dL_law_1010 : decode cL_law 1010 = .ok (.iaload, 1) := by decide +kernel
theorem dL_law_1011 : decode cL_law 1011 = .ok (.aload_n 0, 1) := by decide +kernel
theorem dL_law_1012 : decode cL_law 1012 = .ok (.iload_n 3, 1) := by decide +kernel
theorem dL_law_1013 : decode cL_law 1013 = .ok (.iconst 2, 1) := by decide +kernel
theorem dL_law_1014 : decode cL_law 1014 = .ok (.iadd, 1) := by decide +kernel
theorem dL_law_1015 : decode cL_law 1015 = .ok (.iaload, 1) := by decide +kernel
theorem dL_law_1016 : decode cL_law 1016 = .ok (.aload_n 0, 1) := by decide +kernel
theorem dL_law_1017 : decode cL_law 1017 = .ok (.iload_n 3, 1) := by decide +kernel
theorem dL_law_1018 : decode cL_law 1018 = .ok (.iconst 3, 1) := by decide +kernel
theorem dL_law_1019 : decode cL_law 1019 = .ok (.iadd, 1) := by decide +kernel
theorem dL_law_1020 : decode cL_law 1020 = .ok (.iaload, 1) := by decide +kernel
theorem dL_law_1021 : decode cL_law 1021 = .ok (.invokevirtual 132, 3) := by decide +kernel
theorem dL_law_1024 : decode cL_law 1024 = .ok (.if_icmp .eq 227, 3) := by decide +kernel
theorem dL_law_1027 : decode cL_law 1027 = .ok (.iconst 0, 1) := by decide +kernel
theorem dL_law_1028 : decode cL_law 1028 = .ok (.ireturn, 1) := by decide +kernel
theorem dL_law_1029 : decode cL_law 1029 = .ok (.aload_n 1, 1) := by decide +kernel
theorem dL_law_1030 : decode cL_law 1030 = .ok (.aload_n 0, 1) := by decide +kernel
theorem dL_law_1031 : decode cL_law 1031 = .ok (.iload_n 3, 1) := by decide +kernel
theorem dL_law_1032 : decode cL_law 1032 = .ok (.iconst 1, 1) := by decide +kernel
theorem dL_law_1033 : decode cL_law 1033 = .ok (.iadd, 1) := by decide +kernel
theorem dL_law_1034 : decode cL_law 1034 = .ok (.iaload, 1) := by decide +kernel
theorem dL_law_1035 : decode cL_law 1035 = .ok (.aload_n 0, 1) := by decide +kernel
theorem dL_law_1036 : decode cL_law 1036 = .ok (.iload_n 3, 1) := by decide +kernel
theorem dL_law_1037 : decode cL_law 1037 = .ok (.iconst 2, 1) := by decide +kernel
theorem dL_law_1038 : decode cL_law 1038 = .ok (.iadd, 1) := by decide +kernel
theorem dL_law_1039 : decode cL_law 1039 = .ok (.iaload, 1) := by decide +kernel
theorem dL_law_1040 : decode cL_law 1040 = .ok (.aload_n 0, 1) := by decide +kernel
theorem dL_law_1041 : decode cL_law 1041 = .ok (.iload_n 3, 1) := by decide +kernel
theorem dL_law_1042 : decode cL_law 1042 = .ok (.iconst 3, 1) := by decide +kernel
theorem dL_law_1043 : decode cL_law 1043 = .ok (.iadd, 1) := by decide +kernel
theorem dL_law_1044 : decode cL_law 1044 = .ok (.iaload, 1) := by decide +kernel
theorem dL_law_1045 : decode cL_law 1045 = .ok (.aload_n 0, 1) := by decide +kernel
theorem dL_law_1046 : decode cL_law 1046 = .ok (.iload_n 3, 1) := by decide +kernel
theorem dL_law_1047 : decode cL_law 1047 = .ok (.iconst 4, 1) := by decide +kernel
theorem dL_law_1048 : decode cL_law 1048 = .ok (.iadd, 1) := by decide +kernel
theorem dL_law_1049 : decode cL_law 1049 = .ok (.iaload, 1) := by decide +kernel
theorem dL_law_1050 : decode cL_law 1050 = .ok (.invokevirtual 133, 3) := by decide +kernel
theorem dL_law_1053 : decode cL_law 1053 = .ok (.aload_n 2, 1) := by decide +kernel
theorem dL_law_1054 : decode cL_law 1054 = .ok (.aload_n 0, 1) := by decide +kernel
theorem dL_law_1055 : decode cL_law 1055 = .ok (.iload_n 3, 1) := by decide +kernel
theorem dL_law_1056 : decode cL_law 1056 = .ok (.iconst 1, 1) := by decide +kernel
theorem dL_law_1057 : decode cL_law 1057 = .ok (.iadd, 1) := by decide +kernel
theorem dL_law_1058 : decode cL_law 1058 = .ok (.iaload, 1) := by decide +kernel
theorem dL_law_1059 : decode cL_law 1059 = .ok (.aload_n 0, 1) := by decide +kernel
theorem dL_law_1060 : decode cL_law 1060 = .ok (.iload_n 3, 1) := by decide +kernel
theorem dL_law_1061 : decode cL_law 1061 = .ok (.iconst 2, 1) := by decide +kernel
theorem dL_law_1062 : decode cL_law 1062 = .ok (.iadd, 1) := by decide +kernel
theorem dL_law_1063 : decode cL_law 1063 = .ok (.iaload, 1) := by decide +kernel
theorem dL_law_1064 : decode cL_law 1064 = .ok (.aload_n 0, 1) := by decide +kernel
theorem dL_law_1065 : decode cL_law 1065 = .ok (.iload_n 3, 1) := by decide +kernel
theorem dL_law_1066 : decode cL_law 1066 = .ok (.iconst 3, 1) := by decide +kernel
theorem dL_law_1067 : decode cL_law 1067 = .ok (.iadd, 1) := by decide +kernel
theorem dL_law_1068 : decode cL_law 1068 = .ok (.iaload, 1) := by decide +kernel
theorem dL_law_1069 : decode cL_law 1069 = .ok (.aload_n 0, 1) := by decide +kernel
theorem dL_law_1070 : decode cL_law 1070 = .ok (.iload_n 3, 1) := by decide +kernel
theorem dL_law_1071 : decode cL_law 1071 = .ok (.iconst 4, 1) := by decide +kernel
theorem dL_law_1072 : decode cL_law 1072 = .ok (.iadd, 1) := by decide +kernel
theorem dL_law_1073 : decode cL_law 1073 = .ok (.iaload, 1) := by decide +kernel
theorem dL_law_1074 : decode cL_law 1074 = .ok (.invokevirtual 137, 3) := by decide +kernel
theorem dL_law_1077 : decode cL_law 1077 = .ok (.if_icmp .eq 174, 3) := by decide +kernel
theorem dL_law_1080 : decode cL_law 1080 = .ok (.iconst 0, 1) := by decide +kernel
theorem dL_law_1081 : decode cL_law 1081 = .ok (.ireturn, 1) := by decide +kernel
theorem dL_law_1082 : decode cL_law 1082 = .ok (.aload_n 1, 1) := by decide +kernel
theorem dL_law_1083 : decode cL_law 1083 = .ok (.aload_n 0, 1) := by decide +kernel
theorem dL_law_1084 : decode cL_law 1084 = .ok (.iload_n 3, 1) := by decide +kernel
theorem dL_law_1085 : decode cL_law 1085 = .ok (.iconst 1, 1) := by decide +kernel
theorem dL_law_1086 : decode cL_law 1086 = .ok (.iadd, 1) := by decide +kernel
theorem dL_law_1087 : decode cL_law 1087 = .ok (.iaload, 1) := by decide +kernel
theorem dL_law_1088 : decode cL_law 1088 = .ok (.aload_n 0, 1) := by decide +kernel
theorem dL_law_1089 : decode cL_law 1089 = .ok (.iload_n 3, 1) := by decide +kernel
theorem dL_law_1090 : decode cL_law 1090 = .ok (.iconst 2, 1) := by decide +kernel
theorem dL_law_1091 : decode cL_law 1091 = .ok (.iadd, 1) := by decide +kernel
theorem dL_law_1092 : decode cL_law 1092 = .ok (.iaload, 1) := by decide +kernel
theorem dL_law_1093 : decode cL_law 1093 = .ok (.aload_n 0, 1) := by decide +kernel
theorem dL_law_1094 : decode cL_law 1094 = .ok (.iload_n 3, 1) := by decide +kernel
theorem dL_law_1095 : decode cL_law 1095 = .ok (.iconst 3, 1) := by decide +kernel
theorem dL_law_1096 : decode cL_law 1096 = .ok (.iadd, 1) := by decide +kernel
theorem dL_law_1097 : decode cL_law 1097 = .ok (.iaload, 1) := by decide +kernel
theorem dL_law_1098 : decode cL_law 1098 = .ok (.aload_n 0, 1) := by decide +kernel
theorem dL_law_1099 : decode cL_law 1099 = .ok (.iload_n 3, 1) := by decide +kernel
theorem dL_law_1100 : decode cL_law 1100 = .ok (.iconst 4, 1) := by decide +kernel
theorem dL_law_1101 : decode cL_law 1101 = .ok (.iadd, 1) := by decide +kernel
theorem dL_law_1102 : decode cL_law 1102 = .ok (.iaload, 1) := by decide +kernel
theorem dL_law_1103 : decode cL_law 1103 = .ok (.invokevirtual 138, 3) := by decide +kernel
theorem dL_law_1106 : decode cL_law 1106 = .ok (.aload_n 2, 1) := by decide +kernel
theorem dL_law_1107 : decode cL_law 1107 = .ok (.aload_n 0, 1) := by decide +kernel
theorem dL_law_1108 : decode cL_law 1108 = .ok (.iload_n 3, 1) := by decide +kernel
theorem dL_law_1109 : decode cL_law 1109 = .ok (.iconst 1, 1) := by decide +kernel
theorem dL_law_1110 : decode cL_law 1110 = .ok (.iadd, 1) := by decide +kernel
theorem dL_law_1111 : decode cL_law 1111 = .ok (.iaload, 1) := by decide +kernel
theorem dL_law_1112 : decode cL_law 1112 = .ok (.aload_n 0, 1) := by decide +kernel
theorem dL_law_1113 : decode cL_law 1113 = .ok (.iload_n 3, 1) := by decide +kernel
theorem dL_law_1114 : decode cL_law 1114 = .ok (.iconst 2, 1) := by decide +kernel
theorem dL_law_1115 : decode cL_law 1115 = .ok (.iadd, 1) := by decide +kernel
theorem dL_law_1116 : decode cL_law 1116 = .ok (.iaload, 1) := by decide +kernel
theorem dL_law_1117 : decode cL_law 1117 = .ok (.aload_n 0, 1) := by decide +kernel
theorem dL_law_1118 : decode cL_law 1118 = .ok (.iload_n 3, 1) := by decide +kernel
theorem dL_law_1119 : decode cL_law 1119 = .ok (.iconst 3, 1) := by decide +kernel
theorem dL_law_1120 : decode cL_law 1120 = .ok (.iadd, 1) := by decide +kernel
theorem dL_law_1121 : decode cL_law 1121 = .ok (.iaload, 1) := by decide +kernel
theorem dL_law_1122 : decode cL_law 1122 = .ok (.aload_n 0, 1) := by decide +kernel
theorem dL_law_1123 : decode cL_law 1123 = .ok (.iload_n 3, 1) := by decide +kernel
theorem dL_law_1124 : decode cL_law 1124 = .ok (.iconst 4, 1) := by decide +kernel
theorem dL_law_1125 : decode cL_law 1125 = .ok (.iadd, 1) := by decide +kernel
theorem dL_law_1126 : decode cL_law 1126 = .ok (.iaload, 1) := by decide +kernel
theorem dL_law_1127 : decode cL_law 1127 = .ok (.invokevirtual 141, 3) := by decide +kernel
theorem dL_law_1130 : decode cL_law 1130 = .ok (.if_icmp .eq 121, 3) := by decide +kernel
theorem dL_law_1133 : decode cL_law 1133 = .ok (.iconst 0, 1) := by decide +kernel
theorem dL_law_1134 : decode cL_law 1134 = .ok (.ireturn, 1) := by decide +kernel
theorem dL_law_1135 : decode cL_law 1135 = .ok (.aload_n 1, 1) := by decide +kernel
theorem dL_law_1136 : decode cL_law 1136 = .ok (.aload_n 0, 1) := by decide +kernel
theorem dL_law_1137 : decode cL_law 1137 = .ok (.iload_n 3, 1) := by decide +kernel
theorem dL_law_1138 : decode cL_law 1138 = .ok (.iconst 1, 1) := by decide +kernel
theorem dL_law_1139 : decode cL_law 1139 = .ok (.iadd, 1) := by decide +kernel
theorem dL_law_1140 : decode cL_law 1140 = .ok (.iaload, 1) := by decide +kernel
theorem dL_law_1141 : decode cL_law 1141 = .ok (.aload_n 0, 1) := by decide +kernel
theorem dL_law_1142 : decode cL_law 1142 = .ok (.iload_n 3, 1) := by decide +kernel
theorem dL_law_1143 : decode cL_law 1143 = .ok (.iconst 2, 1) := by decide +kernel
theorem dL_law_1144 : decode cL_law 1144 = .ok (.iadd, 1) := by decide +kernel
theorem dL_law_1145 : decode cL_law 1145 = .ok (.iaload, 1) := by decide +kernel
theorem dL_law_1146 : decode cL_law 1146 = .ok (.invokevirtual 142, 3) := by decide +kernel
theorem dL_law_1149 : decode cL_law 1149 = .ok (.aload_n 2, 1) := by decide +kernel
theorem dL_law_1150 : decode cL_law 1150 = .ok (.aload_n 0, 1) := by decide +kernel
theorem dL_law_1151 : decode cL_law 1151 = .ok (.iload_n 3, 1) := by decide +kernel
theorem dL_law_1152 : decode cL_law 1152 = .ok (.iconst 1, 1) := by decide +kernel
theorem dL_law_1153 : decode cL_law 1153 = .ok (.iadd, 1) := by decide +kernel
theorem dL_law_1154 : decode cL_law 1154 = .ok (.iaload, 1) := by decide +kernel
theorem dL_law_1155 : decode cL_law 1155 = .ok (.aload_n 0, 1) := by decide +kernel
theorem dL_law_1156 : decode cL_law 1156 = .ok (.iload_n 3, 1) := by decide +kernel
theorem dL_law_1157 : decode cL_law 1157 = .ok (.iconst 2, 1) := by decide +kernel
theorem dL_law_1158 : decode cL_law 1158 = .ok (.iadd, 1) := by decide +kernel
theorem dL_law_1159 : decode cL_law 1159 = .ok (.iaload, 1) := by decide +kernel
theorem dL_law_1160 : decode cL_law 1160 = .ok (.invokevirtual 145, 3) := by decide +kernel
theorem dL_law_1163 : decode cL_law 1163 = .ok (.if_icmp .eq 88, 3) := by decide +kernel
theorem dL_law_1166 : decode cL_law 1166 = .ok (.iconst 0, 1) := by decide +kernel
theorem dL_law_1167 : decode cL_law 1167 = .ok (.ireturn, 1) := by decide +kernel
theorem dL_law_1168 : decode cL_law 1168 = .ok (.aload_n 1, 1) := by decide +kernel
theorem dL_law_1169 : decode cL_law 1169 = .ok (.aload_n 0, 1) := by decide +kernel
theorem dL_law_1170 : decode cL_law 1170 = .ok (.iload_n 3, 1) := by decide +kernel
theorem dL_law_1171 : decode cL_law 1171 = .ok (.iconst 1, 1) := by decide +kernel
theorem dL_law_1172 : decode cL_law 1172 = .ok (.iadd, 1) := by decide +kernel
theorem dL_law_1173 : decode cL_law 1173 = .ok (.iaload, 1) := by decide +kernel
theorem dL_law_1174 : decode cL_law 1174 = .ok (.invokevirtual 146, 3) := by decide +kernel
theorem dL_law_1177 : decode cL_law 1177 = .ok (.aload_n 2, 1) := by decide +kernel
theorem dL_law_1178 : decode cL_law 1178 = .ok (.aload_n 0, 1) := by decide +kernel
theorem dL_law_1179 : decode cL_law 1179 = .ok (.iload_n 3, 1) := by decide +kernel
theorem dL_law_1180 : decode cL_law 1180 = .ok (.iconst 1, 1) := by decide +kernel
theorem dL_law_1181 : decode cL_law 1181 = .ok (.iadd, 1) := by decide +kernel
theorem dL_law_1182 : decode cL_law 1182 = .ok (.iaload, 1) := by decide +kernel
theorem dL_law_1183 : decode cL_law 1183 = .ok (.invokevirtual 149, 3) := by decide +kernel
theorem dL_law_1186 : decode cL_law 1186 = .ok (.if_icmp .eq 65, 3) := by decide +kernel
theorem dL_law_1189 : decode cL_law 1189 = .ok (.iconst 0, 1) := by decide +kernel
theorem dL_law_1190 : decode cL_law 1190 = .ok (.ireturn, 1) := by decide +kernel
theorem dL_law_1191 : decode cL_law 1191 = .ok (.aload_n 1, 1) := by decide +kernel
theorem dL_law_1192 : decode cL_law 1192 = .ok (.aload_n 0, 1) := by decide +kernel
theorem dL_law_1193 : decode cL_law 1193 = .ok (.iload_n 3, 1) := by decide +kernel
theorem dL_law_1194 : decode cL_law 1194 = .ok (.iconst 1, 1) := by decide +kernel
theorem dL_law_1195 : decode cL_law 1195 = .ok (.iadd, 1) := by decide +kernel
theorem dL_law_1196 : decode cL_law 1196 = .ok (.iaload, 1) := by decide +kernel
theorem dL_law_1197 : decode cL_law 1197 = .ok (.invokevirtual 150, 3) := by decide +kernel
theorem dL_law_1200 : decode cL_law 1200 = .ok (.aload_n 2, 1) := by decide +kernel
theorem dL_law_1201 : decode cL_law 1201 = .ok (.aload_n 0, 1) := by decide +kernel
theorem dL_law_1202 : decode cL_law 1202 = .ok (.iload_n 3, 1) := by decide +kernel
theorem dL_law_1203 : decode cL_law 1203 = .ok (.iconst 1, 1) := by decide +kernel
theorem dL_law_1204 : decode cL_law 1204 = .ok (.iadd, 1) := by decide +kernel
theorem dL_law_1205 : decode cL_law 1205 = .ok (.iaload, 1) := by decide +kernel
theorem dL_law_1206 : decode cL_law 1206 = .ok (.invokevirtual 153, 3) := by decide +kernel
theorem dL_law_1209 : decode cL_law 1209 = .ok (.if_icmp .eq 42, 3) := by decide +kernel
theorem dL_law_1212 : decode cL_law 1212 = .ok (.iconst 0, 1) := by decide +kernel
theorem dL_law_1213 : decode cL_law 1213 = .ok (.ireturn, 1) := by decide +kernel
theorem dL_law_1214 : decode cL_law 1214 = .ok (.aload_n 1, 1) := by decide +kernel
theorem dL_law_1215 : decode cL_law 1215 = .ok (.invokevirtual 154, 3) := by decide +kernel
theorem dL_law_1218 : decode cL_law 1218 = .ok (.aload_n 2, 1) := by decide +kernel
theorem dL_law_1219 : decode cL_law 1219 = .ok (.invokevirtual 158, 3) := by decide +kernel
theorem dL_law_1222 : decode cL_law 1222 = .ok (.lcmp, 1) := by decide +kernel
theorem dL_law_1223 : decode cL_law 1223 = .ok (.ifCond .eq 28, 3) := by decide +kernel
theorem dL_law_1226 : decode cL_law 1226 = .ok (.iconst 0, 1) := by decide +kernel
theorem dL_law_1227 : decode cL_law 1227 = .ok (.ireturn, 1) := by decide +kernel
theorem dL_law_1228 : decode cL_law 1228 = .ok (.aload_n 1, 1) := by decide +kernel
theorem dL_law_1229 : decode cL_law 1229 = .ok (.aload_n 0, 1) := by decide +kernel
theorem dL_law_1230 : decode cL_law 1230 = .ok (.iload_n 3, 1) := by decide +kernel
theorem dL_law_1231 : decode cL_law 1231 = .ok (.iconst 1, 1) := by decide +kernel
theorem dL_law_1232 : decode cL_law 1232 = .ok (.iadd, 1) := by decide +kernel
theorem dL_law_1233 : decode cL_law 1233 = .ok (.iaload, 1) := by decide +kernel
theorem dL_law_1234 : decode cL_law 1234 = .ok (.invokevirtual 159, 3) := by decide +kernel
theorem dL_law_1237 : decode cL_law 1237 = .ok (.aload_n 2, 1) := by decide +kernel
theorem dL_law_1238 : decode cL_law 1238 = .ok (.aload_n 0, 1) := by decide +kernel
theorem dL_law_1239 : decode cL_law 1239 = .ok (.iload_n 3, 1) := by decide +kernel
theorem dL_law_1240 : decode cL_law 1240 = .ok (.iconst 1, 1) := by decide +kernel
theorem dL_law_1241 : decode cL_law 1241 = .ok (.iadd, 1) := by decide +kernel
theorem dL_law_1242 : decode cL_law 1242 = .ok (.iaload, 1) := by decide +kernel
theorem dL_law_1243 : decode cL_law 1243 = .ok (.invokevirtual 162, 3) := by decide +kernel
theorem dL_law_1246 : decode cL_law 1246 = .ok (.if_icmp .eq 5, 3) := by decide +kernel
theorem dL_law_1249 : decode cL_law 1249 = .ok (.iconst 0, 1) := by decide +kernel
theorem dL_law_1250 : decode cL_law 1250 = .ok (.ireturn, 1) := by decide +kernel
theorem dL_law_1251 : decode cL_law 1251 = .ok (.iinc 3 5, 3) := by decide +kernel
theorem dL_law_1254 : decode cL_law 1254 = .ok (.goto (-1236), 3) := by decide +kernel
theorem dL_law_1257 : decode cL_law 1257 = .ok (.iconst 1, 1) := by decide +kernel
theorem dL_law_1258 : decode cL_law 1258 = .ok (.ireturn, 1) := by decide +kernel
abbrev vwCl : List vw_C := [(RX0, TX0, 6), (RX1, TX1, 12), (RX2, TX2, 5), (RX3, TX3, 5), (RX4, TX4, 6), (RX5, TX5, 5), (RX6, TX6, 7), (RX7, TX7, 8), (RX8, TX8, 3), (RX9, TX9, 3), (RX10, TX10, 2), (RX11, TX11, 9), (RX12, TX12, 40)]
